def fs_f0 : Nat → Int32 := upd (upd (upd (upd (fun _ => 0) 0 16384) 5 16384) 10 16384) 15 16384
theorem fs_bi_nar (P : Prop) [Decidable P] : narrow .boolean (.int (fs_bi P)) = .int (fs_bi P) := by unfold fs_bi; by_cases h : P <;> simp [h] <;> rfl
set_option maxHeartbeats 4000000 in
set_option maxRecDepth 100000 in
theorem c_X5_init (l : Launch) (X : fs_X) (sz : Nat) (h0 : Nat)  : fs_M l X yX5_init cX5_init 2 none ({ frames := 1, cells := 6, slots := 196, locals := 12 }) [.ref h0] [(h0, .inr (5, [.int 0, .null, .null, .null, .null, .null, .null, .int 0, .long 0, .long 0]))] sz (fs_Qv X (fun (_ : Nat × Nat × Nat × Nat × Nat × Nat) => True) (fun u => [(h0, .inr (5, [.int 0, .ref u.1, .ref u.2.1, .ref u.2.2.1, .ref u.2.2.2.1, .ref u.2.2.2.2.1, .ref u.2.2.2.2.2, .int 0, .long 0, .long 0])), (u.1, fs_ai X 16 (fun _ => 0)), (u.2.1, fs_ai X 16 (fun _ => 0)), (u.2.2.1, fs_ai X 20 fs_f0), (u.2.2.2.1, fs_ai X 16 (fun _ => 0)), (u.2.2.2.2.1, fs_al X 64 (fun _ => 0)), (u.2.2.2.2.2, fs_al X 64 (fun _ => 0))])) 6 196 := by
  refine fs_ofW (by decide) (Nat.le_of_ble_eq_true rfl) ?_
  intro p e s m args below meth c A ls C hH hl
  have C : fs_At X A p s m args meth c cX5_init 2 none RX5 "<init>" := C
  have hx := C.1
  have hb := C.2.1
  have hown := C.2.2.2.2.1
  have hts := C.2.2.2.2.2.1
  have hl : lv_has ls 2 [(0, .ref h0)] := hl
  have hH : fs_H X A s [(h0, .inr (5, [.int 0, .null, .null, .null, .null, .null, .null, .int 0, .long 0, .long 0]))] s.heap [] := hH
  refine lv_aload_n hx hb dX5_init_0 rfl (lv_at hl 0 rfl) ?_
  refine W.objInit hx hb hown (hts _ mw_306) (hts _ mw_18) (hts _ mw_19) rfl (by rw [C.2.2.2.1]; exact hl.1) rfl dX5_init_1 (Nat.le_of_ble_eq_true rfl) (Nat.le_of_ble_eq_true rfl) ?_
  refine W.eq (g2 := F0 m 4 ls []) rfl ?_
  refine lv_aload_n hx hb dX5_init_4 rfl (lv_at hl 0 rfl) ?_
  refine lv_bipush (v := 16) hx hb dX5_init_5 (by decide) ?_
  refine fs_newI C hH (N := 16) rfl (by decide) (Nat.le_of_ble_eq_true rfl) (Nat.le_of_ble_eq_true rfl) mw_29 dX5_init_7 (fun q_1 H hH => ?_)
  have hH : fs_H X A s [(h0, .inr (5, [.int 0, .null, .null, .null, .null, .null, .null, .int 0, .long 0, .long 0])), (q_1, fs_ai X 16 (fun _ => 0))] _ _ := hH
  refine fs_putF C in_5 tyX5 tyX5_ok nmX5 hH 0 rfl rfl 1 (by decide) mw_308 rfl rfl rfl rfl (Nat.le_of_ble_eq_true rfl) (ws' := [(h0, .inr (5, [.int 0, .ref q_1, .null, .null, .null, .null, .null, .int 0, .long 0, .long 0])), (q_1, fs_ai X 16 (fun _ => 0))]) rfl dX5_init_9 (fun H locs hH => ?_)
  refine lv_aload_n hx hb dX5_init_12 rfl (lv_at hl 0 rfl) ?_
  refine lv_bipush (v := 16) hx hb dX5_init_13 (by decide) ?_
  refine fs_newI C hH (N := 16) rfl (by decide) (Nat.le_of_ble_eq_true rfl) (Nat.le_of_ble_eq_true rfl) mw_29 dX5_init_15 (fun q_2 H hH => ?_)
  have hH : fs_H X A s [(h0, .inr (5, [.int 0, .ref q_1, .null, .null, .null, .null, .null, .int 0, .long 0, .long 0])), (q_1, fs_ai X 16 (fun _ => 0)), (q_2, fs_ai X 16 (fun _ => 0))] _ _ := hH
  refine fs_putF C in_5 tyX5 tyX5_ok nmX5 hH 0 rfl rfl 2 (by decide) mw_309 rfl rfl rfl rfl (Nat.le_of_ble_eq_true rfl) (ws' := [(h0, .inr (5, [.int 0, .ref q_1, .ref q_2, .null, .null, .null, .null, .int 0, .long 0, .long 0])), (q_1, fs_ai X 16 (fun _ => 0)), (q_2, fs_ai X 16 (fun _ => 0))]) rfl dX5_init_17 (fun H locs hH => ?_)
  refine lv_aload_n hx hb dX5_init_20 rfl (lv_at hl 0 rfl) ?_
  refine lv_bipush (v := 20) hx hb dX5_init_21 (by decide) ?_
  refine fs_newI C hH (N := 20) rfl (by decide) (Nat.le_of_ble_eq_true rfl) (Nat.le_of_ble_eq_true rfl) mw_29 dX5_init_23 (fun q_3 H hH => ?_)
  have hH : fs_H X A s [(h0, .inr (5, [.int 0, .ref q_1, .ref q_2, .null, .null, .null, .null, .int 0, .long 0, .long 0])), (q_1, fs_ai X 16 (fun _ => 0)), (q_2, fs_ai X 16 (fun _ => 0)), (q_3, fs_ai X 20 (fun _ => 0))] _ _ := hH
  refine fs_putF C in_5 tyX5 tyX5_ok nmX5 hH 0 rfl rfl 3 (by decide) mw_310 rfl rfl rfl rfl (Nat.le_of_ble_eq_true rfl) (ws' := [(h0, .inr (5, [.int 0, .ref q_1, .ref q_2, .ref q_3, .null, .null, .null, .int 0, .long 0, .long 0])), (q_1, fs_ai X 16 (fun _ => 0)), (q_2, fs_ai X 16 (fun _ => 0)), (q_3, fs_ai X 20 (fun _ => 0))]) rfl dX5_init_25 (fun H locs hH => ?_)
  refine lv_aload_n hx hb dX5_init_28 rfl (lv_at hl 0 rfl) ?_
  refine lv_bipush (v := 16) hx hb dX5_init_29 (by decide) ?_
  refine fs_newI C hH (N := 16) rfl (by decide) (Nat.le_of_ble_eq_true rfl) (Nat.le_of_ble_eq_true rfl) mw_29 dX5_init_31 (fun q_4 H hH => ?_)
  have hH : fs_H X A s [(h0, .inr (5, [.int 0, .ref q_1, .ref q_2, .ref q_3, .null, .null, .null, .int 0, .long 0, .long 0])), (q_1, fs_ai X 16 (fun _ => 0)), (q_2, fs_ai X 16 (fun _ => 0)), (q_3, fs_ai X 20 (fun _ => 0)), (q_4, fs_ai X 16 (fun _ => 0))] _ _ := hH
  refine fs_putF C in_5 tyX5 tyX5_ok nmX5 hH 0 rfl rfl 4 (by decide) mw_311 rfl rfl rfl rfl (Nat.le_of_ble_eq_true rfl) (ws' := [(h0, .inr (5, [.int 0, .ref q_1, .ref q_2, .ref q_3, .ref q_4, .null, .null, .int 0, .long 0, .long 0])), (q_1, fs_ai X 16 (fun _ => 0)), (q_2, fs_ai X 16 (fun _ => 0)), (q_3, fs_ai X 20 (fun _ => 0)), (q_4, fs_ai X 16 (fun _ => 0))]) rfl dX5_init_33 (fun H locs hH => ?_)
  refine lv_aload_n hx hb dX5_init_36 rfl (lv_at hl 0 rfl) ?_
  refine lv_bipush (v := 64) hx hb dX5_init_37 (by decide) ?_
  refine fs_newL C hH (N := 64) rfl (by decide) (Nat.le_of_ble_eq_true rfl) (Nat.le_of_ble_eq_true rfl) mw_327 dX5_init_39 (fun q_5 H hH => ?_)
  have hH : fs_H X A s [(h0, .inr (5, [.int 0, .ref q_1, .ref q_2, .ref q_3, .ref q_4, .null, .null, .int 0, .long 0, .long 0])), (q_1, fs_ai X 16 (fun _ => 0)), (q_2, fs_ai X 16 (fun _ => 0)), (q_3, fs_ai X 20 (fun _ => 0)), (q_4, fs_ai X 16 (fun _ => 0)), (q_5, fs_al X 64 (fun _ => 0))] _ _ := hH
  refine fs_putF C in_5 tyX5 tyX5_ok nmX5 hH 0 rfl rfl 5 (by decide) mw_312 rfl rfl rfl rfl (Nat.le_of_ble_eq_true rfl) (ws' := [(h0, .inr (5, [.int 0, .ref q_1, .ref q_2, .ref q_3, .ref q_4, .ref q_5, .null, .int 0, .long 0, .long 0])), (q_1, fs_ai X 16 (fun _ => 0)), (q_2, fs_ai X 16 (fun _ => 0)), (q_3, fs_ai X 20 (fun _ => 0)), (q_4, fs_ai X 16 (fun _ => 0)), (q_5, fs_al X 64 (fun _ => 0))]) rfl dX5_init_41 (fun H locs hH => ?_)
  refine lv_aload_n hx hb dX5_init_44 rfl (lv_at hl 0 rfl) ?_
  refine lv_bipush (v := 64) hx hb dX5_init_45 (by decide) ?_
  refine fs_newL C hH (N := 64) rfl (by decide) (Nat.le_of_ble_eq_true rfl) (Nat.le_of_ble_eq_true rfl) mw_327 dX5_init_47 (fun q_6 H hH => ?_)
  have hH : fs_H X A s [(h0, .inr (5, [.int 0, .ref q_1, .ref q_2, .ref q_3, .ref q_4, .ref q_5, .null, .int 0, .long 0, .long 0])), (q_1, fs_ai X 16 (fun _ => 0)), (q_2, fs_ai X 16 (fun _ => 0)), (q_3, fs_ai X 20 (fun _ => 0)), (q_4, fs_ai X 16 (fun _ => 0)), (q_5, fs_al X 64 (fun _ => 0)), (q_6, fs_al X 64 (fun _ => 0))] _ _ := hH
  refine fs_putF C in_5 tyX5 tyX5_ok nmX5 hH 0 rfl rfl 6 (by decide) mw_313 rfl rfl rfl rfl (Nat.le_of_ble_eq_true rfl) (ws' := [(h0, .inr (5, [.int 0, .ref q_1, .ref q_2, .ref q_3, .ref q_4, .ref q_5, .ref q_6, .int 0, .long 0, .long 0])), (q_1, fs_ai X 16 (fun _ => 0)), (q_2, fs_ai X 16 (fun _ => 0)), (q_3, fs_ai X 20 (fun _ => 0)), (q_4, fs_ai X 16 (fun _ => 0)), (q_5, fs_al X 64 (fun _ => 0)), (q_6, fs_al X 64 (fun _ => 0))]) rfl dX5_init_49 (fun H locs hH => ?_)
  refine lv_iconst (v := 0) hx hb dX5_init_52 (by decide) ?_
  refine lv_istore_n (lv' := [(1, .int 0), (0, .ref h0)]) hx hb dX5_init_53 rfl hl (by decide) rfl (fun ls hl => ?_)
  refine lv_iload_n hx hb dX5_init_54 rfl (lv_at hl 0 rfl) ?_
  refine lv_iconst (v := 4) hx hb dX5_init_55 (by decide) ?_
  refine lv_icmp_ge (tgt := 76) hx hb dX5_init_56 (by decide) (fun c_7 => ?_) (fun c_7 => ?_)
  · exact absurd c_7 (by decide)
  · refine lv_aload_n hx hb dX5_init_59 rfl (lv_at hl 1 rfl) ?_
    refine fs_get C in_5 hH 0 rfl rfl 3 (by decide) mw_310 (v := .ref q_3) rfl dX5_init_60 ?_
    refine lv_iconst (v := 5) hx hb dX5_init_63 (by decide) ?_
    refine lv_iload_n hx hb dX5_init_64 rfl (lv_at hl 0 rfl) ?_
    refine lv_imul hx hb dX5_init_65 ?_
    refine lv_sipush (v := 16384) hx hb dX5_init_66 (by decide) ?_
    refine fs_iast C hH 3 rfl (k := (5 * 0)) (fs_im (a := 5) (b := 0) rfl rfl) (by decide) (by decide) (ws' := [(h0, .inr (5, [.int 0, .ref q_1, .ref q_2, .ref q_3, .ref q_4, .ref q_5, .ref q_6, .int 0, .long 0, .long 0])), (q_1, fs_ai X 16 (fun _ => 0)), (q_2, fs_ai X 16 (fun _ => 0)), (q_3, fs_ai X 20 (upd (fun _ => 0) (5 * 0) 16384)), (q_4, fs_ai X 16 (fun _ => 0)), (q_5, fs_al X 64 (fun _ => 0)), (q_6, fs_al X 64 (fun _ => 0))]) rfl dX5_init_69 (fun H locs hH => ?_)
    refine lv_iinc (v := 1) (lv' := [(1, .int 1), (0, .ref h0)]) hx hb dX5_init_70 hl (k := 0) rfl (by decide) (by decide) rfl (fun ls hl => ?_)
    refine lv_goto (tgt := 54) hx hb dX5_init_73 (by decide) ?_
    refine lv_iload_n hx hb dX5_init_54 rfl (lv_at hl 0 rfl) ?_
    refine lv_iconst (v := 4) hx hb dX5_init_55 (by decide) ?_
    refine lv_icmp_ge (tgt := 76) hx hb dX5_init_56 (by decide) (fun c_8 => ?_) (fun c_8 => ?_)
    · exact absurd c_8 (by decide)
    · refine lv_aload_n hx hb dX5_init_59 rfl (lv_at hl 1 rfl) ?_
      refine fs_get C in_5 hH 0 rfl rfl 3 (by decide) mw_310 (v := .ref q_3) rfl dX5_init_60 ?_
      refine lv_iconst (v := 5) hx hb dX5_init_63 (by decide) ?_
      refine lv_iload_n hx hb dX5_init_64 rfl (lv_at hl 0 rfl) ?_
      refine lv_imul hx hb dX5_init_65 ?_
      refine lv_sipush (v := 16384) hx hb dX5_init_66 (by decide) ?_
      refine fs_iast C hH 3 rfl (k := (5 * 1)) (fs_im (a := 5) (b := 1) rfl rfl) (by decide) (by decide) (ws' := [(h0, .inr (5, [.int 0, .ref q_1, .ref q_2, .ref q_3, .ref q_4, .ref q_5, .ref q_6, .int 0, .long 0, .long 0])), (q_1, fs_ai X 16 (fun _ => 0)), (q_2, fs_ai X 16 (fun _ => 0)), (q_3, fs_ai X 20 (upd (upd (fun _ => 0) (5 * 0) 16384) (5 * 1) 16384)), (q_4, fs_ai X 16 (fun _ => 0)), (q_5, fs_al X 64 (fun _ => 0)), (q_6, fs_al X 64 (fun _ => 0))]) rfl dX5_init_69 (fun H locs hH => ?_)
      refine lv_iinc (v := 2) (lv' := [(1, .int 2), (0, .ref h0)]) hx hb dX5_init_70 hl (k := 0) rfl (by decide) (by decide) rfl (fun ls hl => ?_)
      refine lv_goto (tgt := 54) hx hb dX5_init_73 (by decide) ?_
      refine lv_iload_n hx hb dX5_init_54 rfl (lv_at hl 0 rfl) ?_
      refine lv_iconst (v := 4) hx hb dX5_init_55 (by decide) ?_
      refine lv_icmp_ge (tgt := 76) hx hb dX5_init_56 (by decide) (fun c_9 => ?_) (fun c_9 => ?_)
      · exact absurd c_9 (by decide)
      · refine lv_aload_n hx hb dX5_init_59 rfl (lv_at hl 1 rfl) ?_
        refine fs_get C in_5 hH 0 rfl rfl 3 (by decide) mw_310 (v := .ref q_3) rfl dX5_init_60 ?_
        refine lv_iconst (v := 5) hx hb dX5_init_63 (by decide) ?_
        refine lv_iload_n hx hb dX5_init_64 rfl (lv_at hl 0 rfl) ?_
        refine lv_imul hx hb dX5_init_65 ?_
        refine lv_sipush (v := 16384) hx hb dX5_init_66 (by decide) ?_
        refine fs_iast C hH 3 rfl (k := (5 * 2)) (fs_im (a := 5) (b := 2) rfl rfl) (by decide) (by decide) (ws' := [(h0, .inr (5, [.int 0, .ref q_1, .ref q_2, .ref q_3, .ref q_4, .ref q_5, .ref q_6, .int 0, .long 0, .long 0])), (q_1, fs_ai X 16 (fun _ => 0)), (q_2, fs_ai X 16 (fun _ => 0)), (q_3, fs_ai X 20 (upd (upd (upd (fun _ => 0) (5 * 0) 16384) (5 * 1) 16384) (5 * 2) 16384)), (q_4, fs_ai X 16 (fun _ => 0)), (q_5, fs_al X 64 (fun _ => 0)), (q_6, fs_al X 64 (fun _ => 0))]) rfl dX5_init_69 (fun H locs hH => ?_)
        refine lv_iinc (v := 3) (lv' := [(1, .int 3), (0, .ref h0)]) hx hb dX5_init_70 hl (k := 0) rfl (by decide) (by decide) rfl (fun ls hl => ?_)
        refine lv_goto (tgt := 54) hx hb dX5_init_73 (by decide) ?_
        refine lv_iload_n hx hb dX5_init_54 rfl (lv_at hl 0 rfl) ?_
        refine lv_iconst (v := 4) hx hb dX5_init_55 (by decide) ?_
        refine lv_icmp_ge (tgt := 76) hx hb dX5_init_56 (by decide) (fun c_10 => ?_) (fun c_10 => ?_)
        · exact absurd c_10 (by decide)
        · refine lv_aload_n hx hb dX5_init_59 rfl (lv_at hl 1 rfl) ?_
          refine fs_get C in_5 hH 0 rfl rfl 3 (by decide) mw_310 (v := .ref q_3) rfl dX5_init_60 ?_
          refine lv_iconst (v := 5) hx hb dX5_init_63 (by decide) ?_
          refine lv_iload_n hx hb dX5_init_64 rfl (lv_at hl 0 rfl) ?_
          refine lv_imul hx hb dX5_init_65 ?_
          refine lv_sipush (v := 16384) hx hb dX5_init_66 (by decide) ?_
          refine fs_iast C hH 3 rfl (k := (5 * 3)) (fs_im (a := 5) (b := 3) rfl rfl) (by decide) (by decide) (ws' := [(h0, .inr (5, [.int 0, .ref q_1, .ref q_2, .ref q_3, .ref q_4, .ref q_5, .ref q_6, .int 0, .long 0, .long 0])), (q_1, fs_ai X 16 (fun _ => 0)), (q_2, fs_ai X 16 (fun _ => 0)), (q_3, fs_ai X 20 (upd (upd (upd (upd (fun _ => 0) (5 * 0) 16384) (5 * 1) 16384) (5 * 2) 16384) (5 * 3) 16384)), (q_4, fs_ai X 16 (fun _ => 0)), (q_5, fs_al X 64 (fun _ => 0)), (q_6, fs_al X 64 (fun _ => 0))]) rfl dX5_init_69 (fun H locs hH => ?_)
          refine lv_iinc (v := 4) (lv' := [(1, .int 4), (0, .ref h0)]) hx hb dX5_init_70 hl (k := 0) rfl (by decide) (by decide) rfl (fun ls hl => ?_)
          refine lv_goto (tgt := 54) hx hb dX5_init_73 (by decide) ?_
          refine lv_iload_n hx hb dX5_init_54 rfl (lv_at hl 0 rfl) ?_
          refine lv_iconst (v := 4) hx hb dX5_init_55 (by decide) ?_
          refine lv_icmp_ge (tgt := 76) hx hb dX5_init_56 (by decide) (fun c_11 => ?_) (fun c_11 => ?_)
          · have hH : fs_H X A s [(h0, .inr (5, [.int 0, .ref q_1, .ref q_2, .ref q_3, .ref q_4, .ref q_5, .ref q_6, .int 0, .long 0, .long 0])), (q_1, fs_ai X 16 (fun _ => 0)), (q_2, fs_ai X 16 (fun _ => 0)), (q_3, fs_ai X 20 fs_f0), (q_4, fs_ai X 16 (fun _ => 0)), (q_5, fs_al X 64 (fun _ => 0)), (q_6, fs_al X 64 (fun _ => 0))] _ _ := hH.to (by rfl)
            exact fs_vret C hH (q_1, q_2, q_3, q_4, q_5, q_6) rfl trivial dX5_init_76
          · exact absurd c_11 (by decide)
set_option maxHeartbeats 4000000 in
set_option maxRecDepth 100000 in
theorem c_X5_wave (l : Launch) (X : fs_X) (sz : Nat) (h0 : Nat) (qa : Nat) (qp : Nat) (qf : Nat) (qb : Nat) (qk : Nat) (qt : Nat) (rf : Int32) (ex : Int32) (eX : Int64) (eZ : Int64) (a : Int32) (cs : Int32)  : fs_M l X yX5_wave cX5_wave 15 (some .int) ({ frames := 2, cells := 0, slots := 0, locals := 40 }) [.ref h0, .int a, .int cs] [(h0, .inr (5, [.int rf, .ref qa, .ref qp, .ref qf, .ref qb, .ref qk, .ref qt, .int ex, .long eX, .long eZ]))] sz (fs_Qi X (fun r (_ : Unit) => r = fs_wvi a cs) (fun _ => [(h0, .inr (5, [.int 0, .ref qa, .ref qp, .ref qf, .ref qb, .ref qk, .ref qt, .int ex, .long eX, .long eZ]))])) 0 0 := by
  refine fs_ofW (by decide) (Nat.le_of_ble_eq_true rfl) ?_
  intro p e s m args below meth c A ls C hH hl
  have C : fs_At X A p s m args meth c cX5_wave 15 (some .int) RX5 "wave" := C
  have hx := C.1
  have hb := C.2.1
  have hown := C.2.2.2.2.1
  have hts := C.2.2.2.2.2.1
  have hl : lv_has ls 15 [(0, .ref h0), (1, .int a), (2, .int cs)] := hl
  have K_71 : ∀ (n : Nat) (fr : Int32) (z0 : Int64) (k : Nat), (k ≤ 30) → (fs_wave (Int32.toInt64 a) = if fr = 0 then fs_w z0 30 else fs_neg (fs_w z0 30)) → (30 < k + n) → ∀ (H : Heap) (locs : List Loc), fs_H X A s [(h0, .inr (5, [.int 0, .ref qa, .ref qp, .ref qf, .ref qb, .ref qk, .ref qt, .int ex, .long eX, .long eZ]))] H locs → ∀ (ls : Array Slot), lv_has ls 15 [(2, .int cs), (3, .long ((fs_w z0 k).2.2)), (5, .int fr), (6, .long ((fs_w z0 k).1)), (8, .long ((fs_w z0 k).2.1)), (10, .int (nI k))] → W p l e ({ frames := 2, cells := 0, slots := 0, locals := 40 }) s m args below meth c H locs 0 0 (MQ below (fs_Qi X (fun r (_ : Unit) => r = fs_wvi a cs) (fun _ => [(h0, .inr (5, [.int 0, .ref qa, .ref qp, .ref qf, .ref qb, .ref qk, .ref qt, .int ex, .long eX, .long eZ]))]) A) args s 0 0 A) (F0 m 71 ls []) := by
    intro n
    induction n with
    | zero => intro fr z0 k hk hq hfu; exact absurd hfu (by omega)
    | succ n ih_71 =>
      intro fr z0 k hk hq hfu H locs hH ls hl
      refine lv_iload hx hb dX5_wave_71 (lv_at hl 5 rfl) ?_
      refine lv_bipush (v := 30) hx hb dX5_wave_73 (by decide) ?_
      refine lv_icmp_ge (tgt := 140) hx hb dX5_wave_75 (by decide) (fun c_1 => ?_) (fun c_1 => ?_)
      · obtain rfl : k = 30 := by have := fs_geT (a := k) (b := 30) (by omega) (by omega) c_1; omega
        refine lv_iload_n hx hb dX5_wave_140 rfl (lv_at hl 0 rfl) ?_
        refine lv_if_eq (tgt := 149) hx hb dX5_wave_141 (by decide) (fun c_2 => ?_) (fun c_2 => ?_)
        · refine lv_lload hx hb dX5_wave_149 (lv_at hl 4 rfl) ?_
          refine lv_lstore (lv' := [(10, .long ((fs_w z0 30).2.1)), (2, .int cs), (3, .long ((fs_w z0 30).2.2)), (5, .int fr), (6, .long ((fs_w z0 30).1)), (8, .long ((fs_w z0 30).2.1))]) hx hb dX5_wave_151 hl (by decide) rfl (fun ls hl => ?_)
          refine lv_iload hx hb dX5_wave_153 (lv_at hl 3 rfl) ?_
          refine lv_if_eq (tgt := 164) hx hb dX5_wave_155 (by decide) (fun c_3 => ?_) (fun c_3 => ?_)
          · refine lv_lload hx hb dX5_wave_164 (lv_at hl 0 rfl) ?_
            refine lv_l2i hx hb dX5_wave_166 rfl ?_
            exact fs_iret C hH () rfl (by rw [fs_wvi, if_pos c_2, hq, if_pos c_3]) dX5_wave_167
          · refine lv_lload hx hb dX5_wave_158 (lv_at hl 0 rfl) ?_
            refine lv_lneg hx hb dX5_wave_160 ?_
            refine lv_goto (tgt := 166) hx hb dX5_wave_161 (by decide) ?_
            refine lv_l2i hx hb dX5_wave_166 rfl ?_
            exact fs_iret C hH () rfl (by rw [fs_wvi, if_pos c_2, hq, if_neg c_3, fs_neg]) dX5_wave_167
        · refine lv_lload hx hb dX5_wave_144 (lv_at hl 3 rfl) ?_
          refine lv_goto (tgt := 151) hx hb dX5_wave_146 (by decide) ?_
          refine lv_lstore (lv' := [(10, .long ((fs_w z0 30).1)), (2, .int cs), (3, .long ((fs_w z0 30).2.2)), (5, .int fr), (6, .long ((fs_w z0 30).1)), (8, .long ((fs_w z0 30).2.1))]) hx hb dX5_wave_151 hl (by decide) rfl (fun ls hl => ?_)
          refine lv_iload hx hb dX5_wave_153 (lv_at hl 3 rfl) ?_
          refine lv_if_eq (tgt := 164) hx hb dX5_wave_155 (by decide) (fun c_4 => ?_) (fun c_4 => ?_)
          · refine lv_lload hx hb dX5_wave_164 (lv_at hl 0 rfl) ?_
            refine lv_l2i hx hb dX5_wave_166 rfl ?_
            exact fs_iret C hH () rfl (by rw [fs_wvi, if_neg c_2, hq, if_pos c_4]) dX5_wave_167
          · refine lv_lload hx hb dX5_wave_158 (lv_at hl 0 rfl) ?_
            refine lv_lneg hx hb dX5_wave_160 ?_
            refine lv_goto (tgt := 166) hx hb dX5_wave_161 (by decide) ?_
            refine lv_l2i hx hb dX5_wave_166 rfl ?_
            exact fs_iret C hH () rfl (by rw [fs_wvi, if_neg c_2, hq, if_neg c_4, fs_neg]) dX5_wave_167
      · have hlt := fs_geF (a := k) (b := 30) (by omega) (by omega) c_1
        refine lv_lload_n hx hb dX5_wave_78 rfl (lv_at hl 1 rfl) ?_
        refine lv_lconst (v := 0) hx hb dX5_wave_79 (by decide) ?_
        refine fs_lge (tgt := 90) hx hb dX5_wave_80 dX5_wave_81 (by decide) (fun c_5 => ?_) (fun c_5 => ?_)
        · refine lv_lconst (v := 1) hx hb dX5_wave_90 (by decide) ?_
          refine lv_lstore (lv' := [(11, .long 1), (2, .int cs), (3, .long ((fs_w z0 k).2.2)), (5, .int fr), (6, .long ((fs_w z0 k).1)), (8, .long ((fs_w z0 k).2.1)), (10, .int (nI k))]) hx hb dX5_wave_91 hl (by decide) rfl (fun ls hl => ?_)
          refine lv_lload hx hb dX5_wave_93 (lv_at hl 4 rfl) ?_
          refine lv_lstore (lv' := [(13, .long ((fs_w z0 k).1)), (11, .long 1), (2, .int cs), (3, .long ((fs_w z0 k).2.2)), (5, .int fr), (6, .long ((fs_w z0 k).1)), (8, .long ((fs_w z0 k).2.1)), (10, .int (nI k))]) hx hb dX5_wave_95 hl (by decide) rfl (fun ls hl => ?_)
          refine lv_lload hx hb dX5_wave_97 (lv_at hl 5 rfl) ?_
          refine lv_lload hx hb dX5_wave_99 (lv_at hl 1 rfl) ?_
          refine lv_lload hx hb dX5_wave_101 (lv_at hl 6 rfl) ?_
          refine lv_iload hx hb dX5_wave_103 (lv_at hl 7 rfl) ?_
          refine lv_lshr hx hb dX5_wave_105 rfl ?_
          refine lv_lmul hx hb dX5_wave_106 ?_
          refine lv_lsub hx hb dX5_wave_107 ?_
          refine fs_topl (y := (fs_w z0 (k + 1)).1) (by rw [fs_wS1 (Int64.not_lt.mpr c_5), fs_tn1]; exact fs_s1 _ _) ?_
          refine lv_lstore (lv' := [(6, .long ((fs_w z0 (k + 1)).1)), (13, .long ((fs_w z0 k).1)), (11, .long 1), (2, .int cs), (3, .long ((fs_w z0 k).2.2)), (5, .int fr), (8, .long ((fs_w z0 k).2.1)), (10, .int (nI k))]) hx hb dX5_wave_108 hl (by decide) rfl (fun ls hl => ?_)
          refine lv_lload hx hb dX5_wave_110 (lv_at hl 6 rfl) ?_
          refine lv_lload hx hb dX5_wave_112 (lv_at hl 2 rfl) ?_
          refine lv_lload hx hb dX5_wave_114 (lv_at hl 1 rfl) ?_
          refine lv_iload hx hb dX5_wave_116 (lv_at hl 7 rfl) ?_
          refine lv_lshr hx hb dX5_wave_118 rfl ?_
          refine lv_lmul hx hb dX5_wave_119 ?_
          refine lv_ladd hx hb dX5_wave_120 ?_
          refine fs_topl (y := (fs_w z0 (k + 1)).2.1) (by rw [fs_wS1 (Int64.not_lt.mpr c_5), fs_tn1]; exact fs_a1 _ _) ?_
          refine lv_lstore (lv' := [(8, .long ((fs_w z0 (k + 1)).2.1)), (6, .long ((fs_w z0 (k + 1)).1)), (13, .long ((fs_w z0 k).1)), (11, .long 1), (2, .int cs), (3, .long ((fs_w z0 k).2.2)), (5, .int fr), (10, .int (nI k))]) hx hb dX5_wave_121 hl (by decide) rfl (fun ls hl => ?_)
          refine lv_lload_n hx hb dX5_wave_123 rfl (lv_at hl 5 rfl) ?_
          refine lv_lload hx hb dX5_wave_124 (lv_at hl 3 rfl) ?_
          refine lv_iload hx hb dX5_wave_126 (lv_at hl 7 rfl) ?_
          refine fs_cl C hH (wr := [(h0, .inr (5, [.int 0, .ref qa, .ref qp, .ref qf, .ref qb, .ref qk, .ref qt, .int ex, .long eX, .long eZ]))]) [] [0] rfl rfl (by decide) (by decide) (fs_rS (rest := [.long 1, .long ((fs_w z0 k).2.2)]) (As := [.int (nI k)]) (n := 1) C hH (wc := []) [] (by decide) rfl (c_X5_arc l X _ k (by omega)) rfl rfl mw_431 mw_429 mw_430 mw_6 (by decide +kernel) ⟨Nat.le_of_ble_eq_true rfl, Nat.le_of_ble_eq_true rfl⟩ rfl hl.1 rfl (Nat.le_of_ble_eq_true rfl) dX5_wave_128 ⟨Nat.le_of_ble_eq_true rfl, Nat.le_of_ble_eq_true rfl⟩) (fun r_6 u_7 H locs hr_8 hH => ?_)
          subst hr_8
          have hH : fs_H X A s [(h0, .inr (5, [.int 0, .ref qa, .ref qp, .ref qf, .ref qb, .ref qk, .ref qt, .int ex, .long eX, .long eZ]))] _ _ := hH
          refine lv_lmul hx hb dX5_wave_131 ?_
          refine lv_lsub hx hb dX5_wave_132 ?_
          refine fs_topl (y := (fs_w z0 (k + 1)).2.2) (by rw [fs_wS1 (Int64.not_lt.mpr c_5), fs_tn1]; exact fs_s1 _ _) ?_
          refine lv_lstore_n (lv' := [(3, .long ((fs_w z0 (k + 1)).2.2)), (8, .long ((fs_w z0 (k + 1)).2.1)), (6, .long ((fs_w z0 (k + 1)).1)), (13, .long ((fs_w z0 k).1)), (11, .long 1), (2, .int cs), (5, .int fr), (10, .int (nI k))]) hx hb dX5_wave_133 rfl hl (by decide) rfl (fun ls hl => ?_)
          refine lv_iinc (v := (nI (k + 1))) (lv' := [(10, .int (nI (k + 1))), (3, .long ((fs_w z0 (k + 1)).2.2)), (8, .long ((fs_w z0 (k + 1)).2.1)), (6, .long ((fs_w z0 (k + 1)).1)), (13, .long ((fs_w z0 k).1)), (11, .long 1), (2, .int cs), (5, .int fr)]) hx hb dX5_wave_134 hl (k := 7) rfl (nI_1 k) (by decide) rfl (fun ls hl => ?_)
          refine lv_goto (tgt := 71) hx hb dX5_wave_137 (by decide) ?_
          exact ih_71 fr z0 (k + 1) (by omega) hq (by omega) _ _ hH ls (lv_sub hl [6, 1, 7, 3, 2, 0] rfl)
        · refine lv_ldc2 (v := (-1)) hx hb hown (hts _ mw_428) dX5_wave_84 ?_
          refine lv_goto (tgt := 91) hx hb dX5_wave_87 (by decide) ?_
          refine lv_lstore (lv' := [(11, .long (-1)), (2, .int cs), (3, .long ((fs_w z0 k).2.2)), (5, .int fr), (6, .long ((fs_w z0 k).1)), (8, .long ((fs_w z0 k).2.1)), (10, .int (nI k))]) hx hb dX5_wave_91 hl (by decide) rfl (fun ls hl => ?_)
          refine lv_lload hx hb dX5_wave_93 (lv_at hl 4 rfl) ?_
          refine lv_lstore (lv' := [(13, .long ((fs_w z0 k).1)), (11, .long (-1)), (2, .int cs), (3, .long ((fs_w z0 k).2.2)), (5, .int fr), (6, .long ((fs_w z0 k).1)), (8, .long ((fs_w z0 k).2.1)), (10, .int (nI k))]) hx hb dX5_wave_95 hl (by decide) rfl (fun ls hl => ?_)
          refine lv_lload hx hb dX5_wave_97 (lv_at hl 5 rfl) ?_
          refine lv_lload hx hb dX5_wave_99 (lv_at hl 1 rfl) ?_
          refine lv_lload hx hb dX5_wave_101 (lv_at hl 6 rfl) ?_
          refine lv_iload hx hb dX5_wave_103 (lv_at hl 7 rfl) ?_
          refine lv_lshr hx hb dX5_wave_105 rfl ?_
          refine lv_lmul hx hb dX5_wave_106 ?_
          refine lv_lsub hx hb dX5_wave_107 ?_
          refine fs_topl (y := (fs_w z0 (k + 1)).1) (by rw [fs_wS0 (Int64.not_le.mp c_5), fs_tn0]; exact fs_sm1 _ _) ?_
          refine lv_lstore (lv' := [(6, .long ((fs_w z0 (k + 1)).1)), (13, .long ((fs_w z0 k).1)), (11, .long (-1)), (2, .int cs), (3, .long ((fs_w z0 k).2.2)), (5, .int fr), (8, .long ((fs_w z0 k).2.1)), (10, .int (nI k))]) hx hb dX5_wave_108 hl (by decide) rfl (fun ls hl => ?_)
          refine lv_lload hx hb dX5_wave_110 (lv_at hl 6 rfl) ?_
          refine lv_lload hx hb dX5_wave_112 (lv_at hl 2 rfl) ?_
          refine lv_lload hx hb dX5_wave_114 (lv_at hl 1 rfl) ?_
          refine lv_iload hx hb dX5_wave_116 (lv_at hl 7 rfl) ?_
          refine lv_lshr hx hb dX5_wave_118 rfl ?_
          refine lv_lmul hx hb dX5_wave_119 ?_
          refine lv_ladd hx hb dX5_wave_120 ?_
          refine fs_topl (y := (fs_w z0 (k + 1)).2.1) (by rw [fs_wS0 (Int64.not_le.mp c_5), fs_tn0]; exact fs_am1 _ _) ?_
          refine lv_lstore (lv' := [(8, .long ((fs_w z0 (k + 1)).2.1)), (6, .long ((fs_w z0 (k + 1)).1)), (13, .long ((fs_w z0 k).1)), (11, .long (-1)), (2, .int cs), (3, .long ((fs_w z0 k).2.2)), (5, .int fr), (10, .int (nI k))]) hx hb dX5_wave_121 hl (by decide) rfl (fun ls hl => ?_)
          refine lv_lload_n hx hb dX5_wave_123 rfl (lv_at hl 5 rfl) ?_
          refine lv_lload hx hb dX5_wave_124 (lv_at hl 3 rfl) ?_
          refine lv_iload hx hb dX5_wave_126 (lv_at hl 7 rfl) ?_
          refine fs_cl C hH (wr := [(h0, .inr (5, [.int 0, .ref qa, .ref qp, .ref qf, .ref qb, .ref qk, .ref qt, .int ex, .long eX, .long eZ]))]) [] [0] rfl rfl (by decide) (by decide) (fs_rS (rest := [.long (-1), .long ((fs_w z0 k).2.2)]) (As := [.int (nI k)]) (n := 1) C hH (wc := []) [] (by decide) rfl (c_X5_arc l X _ k (by omega)) rfl rfl mw_431 mw_429 mw_430 mw_6 (by decide +kernel) ⟨Nat.le_of_ble_eq_true rfl, Nat.le_of_ble_eq_true rfl⟩ rfl hl.1 rfl (Nat.le_of_ble_eq_true rfl) dX5_wave_128 ⟨Nat.le_of_ble_eq_true rfl, Nat.le_of_ble_eq_true rfl⟩) (fun r_9 u_10 H locs hr_11 hH => ?_)
          subst hr_11
          have hH : fs_H X A s [(h0, .inr (5, [.int 0, .ref qa, .ref qp, .ref qf, .ref qb, .ref qk, .ref qt, .int ex, .long eX, .long eZ]))] _ _ := hH
          refine lv_lmul hx hb dX5_wave_131 ?_
          refine lv_lsub hx hb dX5_wave_132 ?_
          refine fs_topl (y := (fs_w z0 (k + 1)).2.2) (by rw [fs_wS0 (Int64.not_le.mp c_5), fs_tn0]; exact fs_sm1 _ _) ?_
          refine lv_lstore_n (lv' := [(3, .long ((fs_w z0 (k + 1)).2.2)), (8, .long ((fs_w z0 (k + 1)).2.1)), (6, .long ((fs_w z0 (k + 1)).1)), (13, .long ((fs_w z0 k).1)), (11, .long (-1)), (2, .int cs), (5, .int fr), (10, .int (nI k))]) hx hb dX5_wave_133 rfl hl (by decide) rfl (fun ls hl => ?_)
          refine lv_iinc (v := (nI (k + 1))) (lv' := [(10, .int (nI (k + 1))), (3, .long ((fs_w z0 (k + 1)).2.2)), (8, .long ((fs_w z0 (k + 1)).2.1)), (6, .long ((fs_w z0 (k + 1)).1)), (13, .long ((fs_w z0 k).1)), (11, .long (-1)), (2, .int cs), (5, .int fr)]) hx hb dX5_wave_134 hl (k := 7) rfl (nI_1 k) (by decide) rfl (fun ls hl => ?_)
          refine lv_goto (tgt := 71) hx hb dX5_wave_137 (by decide) ?_
          exact ih_71 fr z0 (k + 1) (by omega) hq (by omega) _ _ hH ls (lv_sub hl [6, 1, 7, 3, 2, 0] rfl)
  have hH : fs_H X A s [(h0, .inr (5, [.int rf, .ref qa, .ref qp, .ref qf, .ref qb, .ref qk, .ref qt, .int ex, .long eX, .long eZ]))] s.heap [] := hH
  refine lv_aload_n hx hb dX5_wave_0 rfl (lv_at hl 0 rfl) ?_
  refine lv_iconst (v := 0) hx hb dX5_wave_1 (by decide) ?_
  refine fs_put C in_5 tyX5 tyX5_ok nmX5 hH 0 rfl rfl 0 (by decide) mw_307 rfl rfl rfl (Nat.le_of_ble_eq_true rfl) (ws' := [(h0, .inr (5, [.int 0, .ref qa, .ref qp, .ref qf, .ref qb, .ref qk, .ref qt, .int ex, .long eX, .long eZ]))]) rfl dX5_wave_2 (fun H locs hH => ?_)
  refine lv_iload_n hx hb dX5_wave_5 rfl (lv_at hl 1 rfl) ?_
  refine lv_i2l hx hb dX5_wave_6 rfl ?_
  refine lv_lstore_n (lv' := [(3, .long (Int32.toInt64 a)), (0, .ref h0), (1, .int a), (2, .int cs)]) hx hb dX5_wave_7 rfl hl (by decide) rfl (fun ls hl => ?_)
  refine lv_lload_n hx hb dX5_wave_8 rfl (lv_at hl 0 rfl) ?_
  refine lv_ldc2 (v := 1073741824) hx hb hown (hts _ mw_424) dX5_wave_9 ?_
  refine fs_lgt (tgt := 24) hx hb dX5_wave_12 dX5_wave_13 (by decide) (fun c_12 => ?_) (fun c_12 => ?_)
  · refine lv_iconst (v := 1) hx hb dX5_wave_24 (by decide) ?_
    refine lv_goto (tgt := 29) hx hb dX5_wave_25 (by decide) ?_
    refine lv_istore (lv' := [(5, .int 1), (3, .long (Int32.toInt64 a)), (0, .ref h0), (1, .int a), (2, .int cs)]) hx hb dX5_wave_29 hl (by decide) rfl (fun ls hl => ?_)
    refine lv_iload hx hb dX5_wave_31 (lv_at hl 0 rfl) ?_
    refine lv_if_ne (tgt := 40) hx hb dX5_wave_33 (by decide) (fun c_13 => ?_) (fun c_13 => ?_)
    · refine lv_lload_n hx hb dX5_wave_40 rfl (lv_at hl 1 rfl) ?_
      refine lv_lconst (v := 0) hx hb dX5_wave_41 (by decide) ?_
      refine fs_lle (tgt := 54) hx hb dX5_wave_42 dX5_wave_43 (by decide) (fun c_14 => ?_) (fun c_14 => ?_)
      · exact absurd c_14 (fs_gt0 c_12)
      · refine lv_lload_n hx hb dX5_wave_46 rfl (lv_at hl 1 rfl) ?_
        refine lv_ldc2 (v := 2147483648) hx hb hown (hts _ mw_426) dX5_wave_47 ?_
        refine lv_lsub hx hb dX5_wave_50 ?_
        refine lv_goto (tgt := 59) hx hb dX5_wave_51 (by decide) ?_
        refine lv_lstore_n (lv' := [(3, .long ((Int32.toInt64 a) - 2147483648)), (5, .int 1), (0, .ref h0), (1, .int a), (2, .int cs)]) hx hb dX5_wave_59 rfl hl (by decide) rfl (fun ls hl => ?_)
        refine lv_ldc2 (v := 652032874) hx hb hown (hts _ mw_427) dX5_wave_60 ?_
        refine lv_lstore (lv' := [(6, .long 652032874), (3, .long ((Int32.toInt64 a) - 2147483648)), (5, .int 1), (0, .ref h0), (1, .int a), (2, .int cs)]) hx hb dX5_wave_63 hl (by decide) rfl (fun ls hl => ?_)
        refine lv_lconst (v := 0) hx hb dX5_wave_65 (by decide) ?_
        refine lv_lstore (lv' := [(8, .long 0), (6, .long 652032874), (3, .long ((Int32.toInt64 a) - 2147483648)), (5, .int 1), (0, .ref h0), (1, .int a), (2, .int cs)]) hx hb dX5_wave_66 hl (by decide) rfl (fun ls hl => ?_)
        refine lv_iconst (v := 0) hx hb dX5_wave_68 (by decide) ?_
        refine lv_istore (lv' := [(10, .int 0), (8, .long 0), (6, .long 652032874), (3, .long ((Int32.toInt64 a) - 2147483648)), (5, .int 1), (0, .ref h0), (1, .int a), (2, .int cs)]) hx hb dX5_wave_69 hl (by decide) rfl (fun ls hl => ?_)
        exact K_71 31 1 ((Int32.toInt64 a) - 2147483648) 0 (by omega) (by rw [if_neg (by decide)]; exact fs_wvp c_12) (by omega) _ _ hH ls (lv_sub hl [7, 3, 4, 2, 1, 0] rfl)
    · exact absurd c_13 (by decide)
  · refine lv_lload_n hx hb dX5_wave_16 rfl (lv_at hl 0 rfl) ?_
    refine lv_ldc2 (v := (-1073741824)) hx hb hown (hts _ mw_425) dX5_wave_17 ?_
    refine fs_lge (tgt := 28) hx hb dX5_wave_20 dX5_wave_21 (by decide) (fun c_15 => ?_) (fun c_15 => ?_)
    · refine lv_iconst (v := 0) hx hb dX5_wave_28 (by decide) ?_
      refine lv_istore (lv' := [(5, .int 0), (3, .long (Int32.toInt64 a)), (0, .ref h0), (1, .int a), (2, .int cs)]) hx hb dX5_wave_29 hl (by decide) rfl (fun ls hl => ?_)
      refine lv_iload hx hb dX5_wave_31 (lv_at hl 0 rfl) ?_
      refine lv_if_ne (tgt := 40) hx hb dX5_wave_33 (by decide) (fun c_16 => ?_) (fun c_16 => ?_)
      · exact absurd c_16 (by decide)
      · refine lv_lload_n hx hb dX5_wave_36 rfl (lv_at hl 1 rfl) ?_
        refine lv_goto (tgt := 59) hx hb dX5_wave_37 (by decide) ?_
        refine lv_lstore_n (lv' := [(3, .long (Int32.toInt64 a)), (5, .int 0), (0, .ref h0), (1, .int a), (2, .int cs)]) hx hb dX5_wave_59 rfl hl (by decide) rfl (fun ls hl => ?_)
        refine lv_ldc2 (v := 652032874) hx hb hown (hts _ mw_427) dX5_wave_60 ?_
        refine lv_lstore (lv' := [(6, .long 652032874), (3, .long (Int32.toInt64 a)), (5, .int 0), (0, .ref h0), (1, .int a), (2, .int cs)]) hx hb dX5_wave_63 hl (by decide) rfl (fun ls hl => ?_)
        refine lv_lconst (v := 0) hx hb dX5_wave_65 (by decide) ?_
        refine lv_lstore (lv' := [(8, .long 0), (6, .long 652032874), (3, .long (Int32.toInt64 a)), (5, .int 0), (0, .ref h0), (1, .int a), (2, .int cs)]) hx hb dX5_wave_66 hl (by decide) rfl (fun ls hl => ?_)
        refine lv_iconst (v := 0) hx hb dX5_wave_68 (by decide) ?_
        refine lv_istore (lv' := [(10, .int 0), (8, .long 0), (6, .long 652032874), (3, .long (Int32.toInt64 a)), (5, .int 0), (0, .ref h0), (1, .int a), (2, .int cs)]) hx hb dX5_wave_69 hl (by decide) rfl (fun ls hl => ?_)
        exact K_71 31 0 (Int32.toInt64 a) 0 (by omega) (by rw [if_pos rfl]; exact fs_wv0 c_12 c_15) (by omega) _ _ hH ls (lv_sub hl [7, 3, 4, 2, 1, 0] rfl)
    · refine lv_iconst (v := 1) hx hb dX5_wave_24 (by decide) ?_
      refine lv_goto (tgt := 29) hx hb dX5_wave_25 (by decide) ?_
      refine lv_istore (lv' := [(5, .int 1), (3, .long (Int32.toInt64 a)), (0, .ref h0), (1, .int a), (2, .int cs)]) hx hb dX5_wave_29 hl (by decide) rfl (fun ls hl => ?_)
      refine lv_iload hx hb dX5_wave_31 (lv_at hl 0 rfl) ?_
      refine lv_if_ne (tgt := 40) hx hb dX5_wave_33 (by decide) (fun c_17 => ?_) (fun c_17 => ?_)
      · refine lv_lload_n hx hb dX5_wave_40 rfl (lv_at hl 1 rfl) ?_
        refine lv_lconst (v := 0) hx hb dX5_wave_41 (by decide) ?_
        refine fs_lle (tgt := 54) hx hb dX5_wave_42 dX5_wave_43 (by decide) (fun c_18 => ?_) (fun c_18 => ?_)
        · refine lv_lload_n hx hb dX5_wave_54 rfl (lv_at hl 1 rfl) ?_
          refine lv_ldc2 (v := 2147483648) hx hb hown (hts _ mw_426) dX5_wave_55 ?_
          refine lv_ladd hx hb dX5_wave_58 ?_
          refine lv_lstore_n (lv' := [(3, .long ((Int32.toInt64 a) + 2147483648)), (5, .int 1), (0, .ref h0), (1, .int a), (2, .int cs)]) hx hb dX5_wave_59 rfl hl (by decide) rfl (fun ls hl => ?_)
          refine lv_ldc2 (v := 652032874) hx hb hown (hts _ mw_427) dX5_wave_60 ?_
          refine lv_lstore (lv' := [(6, .long 652032874), (3, .long ((Int32.toInt64 a) + 2147483648)), (5, .int 1), (0, .ref h0), (1, .int a), (2, .int cs)]) hx hb dX5_wave_63 hl (by decide) rfl (fun ls hl => ?_)
          refine lv_lconst (v := 0) hx hb dX5_wave_65 (by decide) ?_
          refine lv_lstore (lv' := [(8, .long 0), (6, .long 652032874), (3, .long ((Int32.toInt64 a) + 2147483648)), (5, .int 1), (0, .ref h0), (1, .int a), (2, .int cs)]) hx hb dX5_wave_66 hl (by decide) rfl (fun ls hl => ?_)
          refine lv_iconst (v := 0) hx hb dX5_wave_68 (by decide) ?_
          refine lv_istore (lv' := [(10, .int 0), (8, .long 0), (6, .long 652032874), (3, .long ((Int32.toInt64 a) + 2147483648)), (5, .int 1), (0, .ref h0), (1, .int a), (2, .int cs)]) hx hb dX5_wave_69 hl (by decide) rfl (fun ls hl => ?_)
          exact K_71 31 1 ((Int32.toInt64 a) + 2147483648) 0 (by omega) (by rw [if_neg (by decide)]; exact fs_wvn c_15) (by omega) _ _ hH ls (lv_sub hl [7, 3, 4, 2, 1, 0] rfl)
        · exact absurd (fs_lt0 c_15) c_18
      · exact absurd c_17 (by decide)
set_option maxHeartbeats 4000000 in
set_option maxRecDepth 100000 in
theorem c_X5_turn (l : Launch) (X : fs_X) (sz : Nat) (h0 : Nat) (qa : Nat) (qp : Nat) (qf : Nat) (qb : Nat) (qk : Nat) (qt : Nat) (rf : Int32) (ex : Int32) (eX : Int64) (eZ : Int64) (x : Int32) (y : Int32)  : fs_M l X yX5_turn cX5_turn 15 none ({ frames := 2, cells := 0, slots := 0, locals := 40 }) [.ref h0, .int x, .int y] [(h0, .inr (5, [.int rf, .ref qa, .ref qp, .ref qf, .ref qb, .ref qk, .ref qt, .int ex, .long eX, .long eZ]))] sz (fs_Qv X (fun (_ : Unit) => True) (fun _ => [(h0, .inr (5, [.int rf, .ref qa, .ref qp, .ref qf, .ref qb, .ref qk, .ref qt, .int ex, .long ((fs_axis (Int32.toInt64 x) (Int32.toInt64 y)).1), .long ((fs_axis (Int32.toInt64 x) (Int32.toInt64 y)).2.2)]))])) 0 0 := by
  refine fs_ofW (by decide) (Nat.le_of_ble_eq_true rfl) ?_
  intro p e s m args below meth c A ls C hH hl
  have C : fs_At X A p s m args meth c cX5_turn 15 none RX5 "turn" := C
  have hx := C.1
  have hb := C.2.1
  have hown := C.2.2.2.2.1
  have hts := C.2.2.2.2.2.1
  have hl : lv_has ls 15 [(0, .ref h0), (1, .int x), (2, .int y)] := hl
  have K_54 : ∀ (n : Nat) (t0 : fs_T) (k : Nat), (k ≤ 30) → ((fs_axis (Int32.toInt64 x) (Int32.toInt64 y)) = fs_a t0 30) → (30 < k + n) → ∀ (H : Heap) (locs : List Loc), fs_H X A s [(h0, .inr (5, [.int rf, .ref qa, .ref qp, .ref qf, .ref qb, .ref qk, .ref qt, .int ex, .long eX, .long eZ]))] H locs → ∀ (ls : Array Slot), lv_has ls 15 [(0, .ref h0), (4, .long ((fs_a t0 k).1)), (6, .long ((fs_a t0 k).2.1)), (8, .long ((fs_a t0 k).2.2)), (10, .int (nI k))] → W p l e ({ frames := 2, cells := 0, slots := 0, locals := 40 }) s m args below meth c H locs 0 0 (MQ below (fs_Qv X (fun (_ : Unit) => True) (fun _ => [(h0, .inr (5, [.int rf, .ref qa, .ref qp, .ref qf, .ref qb, .ref qk, .ref qt, .int ex, .long ((fs_axis (Int32.toInt64 x) (Int32.toInt64 y)).1), .long ((fs_axis (Int32.toInt64 x) (Int32.toInt64 y)).2.2)]))]) A) args s 0 0 A) (F0 m 54 ls []) := by
    intro n
    induction n with
    | zero => intro t0 k hk hq hfu; exact absurd hfu (by omega)
    | succ n ih_54 =>
      intro t0 k hk hq hfu H locs hH ls hl
      refine lv_iload hx hb dX5_turn_54 (lv_at hl 4 rfl) ?_
      refine lv_bipush (v := 30) hx hb dX5_turn_56 (by decide) ?_
      refine lv_icmp_ge (tgt := 126) hx hb dX5_turn_58 (by decide) (fun c_1 => ?_) (fun c_1 => ?_)
      · obtain rfl : k = 30 := by have := fs_geT (a := k) (b := 30) (by omega) (by omega) c_1; omega
        refine lv_aload_n hx hb dX5_turn_126 rfl (lv_at hl 0 rfl) ?_
        refine lv_lload hx hb dX5_turn_127 (lv_at hl 1 rfl) ?_
        refine fs_put C in_5 tyX5 tyX5_ok nmX5 hH 0 rfl rfl 8 (by decide) mw_315 rfl rfl rfl (Nat.le_of_ble_eq_true rfl) (ws' := [(h0, .inr (5, [.int rf, .ref qa, .ref qp, .ref qf, .ref qb, .ref qk, .ref qt, .int ex, .long ((fs_a t0 30).1), .long eZ]))]) rfl dX5_turn_129 (fun H locs hH => ?_)
        refine lv_aload_n hx hb dX5_turn_132 rfl (lv_at hl 0 rfl) ?_
        refine lv_lload hx hb dX5_turn_133 (lv_at hl 3 rfl) ?_
        refine fs_put C in_5 tyX5 tyX5_ok nmX5 hH 0 rfl rfl 9 (by decide) mw_316 rfl rfl rfl (Nat.le_of_ble_eq_true rfl) (ws' := [(h0, .inr (5, [.int rf, .ref qa, .ref qp, .ref qf, .ref qb, .ref qk, .ref qt, .int ex, .long ((fs_a t0 30).1), .long ((fs_a t0 30).2.2)]))]) rfl dX5_turn_135 (fun H locs hH => ?_)
        have hH : fs_H X A s [(h0, .inr (5, [.int rf, .ref qa, .ref qp, .ref qf, .ref qb, .ref qk, .ref qt, .int ex, .long ((fs_axis (Int32.toInt64 x) (Int32.toInt64 y)).1), .long ((fs_axis (Int32.toInt64 x) (Int32.toInt64 y)).2.2)]))] _ _ := hH.to (by rw [hq])
        exact fs_vret C hH () rfl trivial dX5_turn_138
      · have hlt := fs_geF (a := k) (b := 30) (by omega) (by omega) c_1
        refine lv_lload hx hb dX5_turn_61 (lv_at hl 2 rfl) ?_
        refine lv_lconst (v := 0) hx hb dX5_turn_63 (by decide) ?_
        refine fs_lge (tgt := 74) hx hb dX5_turn_64 dX5_turn_65 (by decide) (fun c_2 => ?_) (fun c_2 => ?_)
        · refine lv_lconst (v := 1) hx hb dX5_turn_74 (by decide) ?_
          refine lv_lstore (lv' := [(11, .long 1), (0, .ref h0), (4, .long ((fs_a t0 k).1)), (6, .long ((fs_a t0 k).2.1)), (8, .long ((fs_a t0 k).2.2)), (10, .int (nI k))]) hx hb dX5_turn_75 hl (by decide) rfl (fun ls hl => ?_)
          refine lv_lload hx hb dX5_turn_77 (lv_at hl 2 rfl) ?_
          refine lv_lstore (lv' := [(13, .long ((fs_a t0 k).1)), (11, .long 1), (0, .ref h0), (4, .long ((fs_a t0 k).1)), (6, .long ((fs_a t0 k).2.1)), (8, .long ((fs_a t0 k).2.2)), (10, .int (nI k))]) hx hb dX5_turn_79 hl (by decide) rfl (fun ls hl => ?_)
          refine lv_lload hx hb dX5_turn_81 (lv_at hl 3 rfl) ?_
          refine lv_lload hx hb dX5_turn_83 (lv_at hl 1 rfl) ?_
          refine lv_lload hx hb dX5_turn_85 (lv_at hl 4 rfl) ?_
          refine lv_iload hx hb dX5_turn_87 (lv_at hl 6 rfl) ?_
          refine lv_lshr hx hb dX5_turn_89 rfl ?_
          refine lv_lmul hx hb dX5_turn_90 ?_
          refine lv_ladd hx hb dX5_turn_91 ?_
          refine fs_topl (y := (fs_a t0 (k + 1)).1) (by rw [fs_aS0 c_2, fs_tn0]; exact fs_a1 _ _) ?_
          refine lv_lstore (lv' := [(4, .long ((fs_a t0 (k + 1)).1)), (13, .long ((fs_a t0 k).1)), (11, .long 1), (0, .ref h0), (6, .long ((fs_a t0 k).2.1)), (8, .long ((fs_a t0 k).2.2)), (10, .int (nI k))]) hx hb dX5_turn_92 hl (by decide) rfl (fun ls hl => ?_)
          refine lv_lload hx hb dX5_turn_94 (lv_at hl 4 rfl) ?_
          refine lv_lload hx hb dX5_turn_96 (lv_at hl 2 rfl) ?_
          refine lv_lload hx hb dX5_turn_98 (lv_at hl 1 rfl) ?_
          refine lv_iload hx hb dX5_turn_100 (lv_at hl 6 rfl) ?_
          refine lv_lshr hx hb dX5_turn_102 rfl ?_
          refine lv_lmul hx hb dX5_turn_103 ?_
          refine lv_lsub hx hb dX5_turn_104 ?_
          refine fs_topl (y := (fs_a t0 (k + 1)).2.1) (by rw [fs_aS0 c_2, fs_tn0]; exact fs_s1 _ _) ?_
          refine lv_lstore (lv' := [(6, .long ((fs_a t0 (k + 1)).2.1)), (4, .long ((fs_a t0 (k + 1)).1)), (13, .long ((fs_a t0 k).1)), (11, .long 1), (0, .ref h0), (8, .long ((fs_a t0 k).2.2)), (10, .int (nI k))]) hx hb dX5_turn_105 hl (by decide) rfl (fun ls hl => ?_)
          refine lv_lload hx hb dX5_turn_107 (lv_at hl 5 rfl) ?_
          refine lv_lload hx hb dX5_turn_109 (lv_at hl 3 rfl) ?_
          refine lv_iload hx hb dX5_turn_111 (lv_at hl 6 rfl) ?_
          refine fs_cl C hH (wr := [(h0, .inr (5, [.int rf, .ref qa, .ref qp, .ref qf, .ref qb, .ref qk, .ref qt, .int ex, .long eX, .long eZ]))]) [] [0] rfl rfl (by decide) (by decide) (fs_rS (rest := [.long 1, .long ((fs_a t0 k).2.2)]) (As := [.int (nI k)]) (n := 1) C hH (wc := []) [] (by decide) rfl (c_X5_arc l X _ k (by omega)) rfl rfl mw_431 mw_429 mw_430 mw_6 (by decide +kernel) ⟨Nat.le_of_ble_eq_true rfl, Nat.le_of_ble_eq_true rfl⟩ rfl hl.1 rfl (Nat.le_of_ble_eq_true rfl) dX5_turn_113 ⟨Nat.le_of_ble_eq_true rfl, Nat.le_of_ble_eq_true rfl⟩) (fun r_3 u_4 H locs hr_5 hH => ?_)
          subst hr_5
          have hH : fs_H X A s [(h0, .inr (5, [.int rf, .ref qa, .ref qp, .ref qf, .ref qb, .ref qk, .ref qt, .int ex, .long eX, .long eZ]))] _ _ := hH
          refine lv_lmul hx hb dX5_turn_116 ?_
          refine lv_ladd hx hb dX5_turn_117 ?_
          refine fs_topl (y := (fs_a t0 (k + 1)).2.2) (by rw [fs_aS0 c_2, fs_tn0]; exact fs_a1 _ _) ?_
          refine lv_lstore (lv' := [(8, .long ((fs_a t0 (k + 1)).2.2)), (6, .long ((fs_a t0 (k + 1)).2.1)), (4, .long ((fs_a t0 (k + 1)).1)), (13, .long ((fs_a t0 k).1)), (11, .long 1), (0, .ref h0), (10, .int (nI k))]) hx hb dX5_turn_118 hl (by decide) rfl (fun ls hl => ?_)
          refine lv_iinc (v := (nI (k + 1))) (lv' := [(10, .int (nI (k + 1))), (8, .long ((fs_a t0 (k + 1)).2.2)), (6, .long ((fs_a t0 (k + 1)).2.1)), (4, .long ((fs_a t0 (k + 1)).1)), (13, .long ((fs_a t0 k).1)), (11, .long 1), (0, .ref h0)]) hx hb dX5_turn_120 hl (k := 6) rfl (nI_1 k) (by decide) rfl (fun ls hl => ?_)
          refine lv_goto (tgt := 54) hx hb dX5_turn_123 (by decide) ?_
          exact ih_54 t0 (k + 1) (by omega) hq (by omega) _ _ hH ls (lv_sub hl [6, 3, 2, 1, 0] rfl)
        · refine lv_ldc2 (v := (-1)) hx hb hown (hts _ mw_428) dX5_turn_68 ?_
          refine lv_goto (tgt := 75) hx hb dX5_turn_71 (by decide) ?_
          refine lv_lstore (lv' := [(11, .long (-1)), (0, .ref h0), (4, .long ((fs_a t0 k).1)), (6, .long ((fs_a t0 k).2.1)), (8, .long ((fs_a t0 k).2.2)), (10, .int (nI k))]) hx hb dX5_turn_75 hl (by decide) rfl (fun ls hl => ?_)
          refine lv_lload hx hb dX5_turn_77 (lv_at hl 2 rfl) ?_
          refine lv_lstore (lv' := [(13, .long ((fs_a t0 k).1)), (11, .long (-1)), (0, .ref h0), (4, .long ((fs_a t0 k).1)), (6, .long ((fs_a t0 k).2.1)), (8, .long ((fs_a t0 k).2.2)), (10, .int (nI k))]) hx hb dX5_turn_79 hl (by decide) rfl (fun ls hl => ?_)
          refine lv_lload hx hb dX5_turn_81 (lv_at hl 3 rfl) ?_
          refine lv_lload hx hb dX5_turn_83 (lv_at hl 1 rfl) ?_
          refine lv_lload hx hb dX5_turn_85 (lv_at hl 4 rfl) ?_
          refine lv_iload hx hb dX5_turn_87 (lv_at hl 6 rfl) ?_
          refine lv_lshr hx hb dX5_turn_89 rfl ?_
          refine lv_lmul hx hb dX5_turn_90 ?_
          refine lv_ladd hx hb dX5_turn_91 ?_
          refine fs_topl (y := (fs_a t0 (k + 1)).1) (by rw [fs_aS1 c_2, fs_tn1]; exact fs_am1 _ _) ?_
          refine lv_lstore (lv' := [(4, .long ((fs_a t0 (k + 1)).1)), (13, .long ((fs_a t0 k).1)), (11, .long (-1)), (0, .ref h0), (6, .long ((fs_a t0 k).2.1)), (8, .long ((fs_a t0 k).2.2)), (10, .int (nI k))]) hx hb dX5_turn_92 hl (by decide) rfl (fun ls hl => ?_)
          refine lv_lload hx hb dX5_turn_94 (lv_at hl 4 rfl) ?_
          refine lv_lload hx hb dX5_turn_96 (lv_at hl 2 rfl) ?_
          refine lv_lload hx hb dX5_turn_98 (lv_at hl 1 rfl) ?_
          refine lv_iload hx hb dX5_turn_100 (lv_at hl 6 rfl) ?_
          refine lv_lshr hx hb dX5_turn_102 rfl ?_
          refine lv_lmul hx hb dX5_turn_103 ?_
          refine lv_lsub hx hb dX5_turn_104 ?_
          refine fs_topl (y := (fs_a t0 (k + 1)).2.1) (by rw [fs_aS1 c_2, fs_tn1]; exact fs_sm1 _ _) ?_
          refine lv_lstore (lv' := [(6, .long ((fs_a t0 (k + 1)).2.1)), (4, .long ((fs_a t0 (k + 1)).1)), (13, .long ((fs_a t0 k).1)), (11, .long (-1)), (0, .ref h0), (8, .long ((fs_a t0 k).2.2)), (10, .int (nI k))]) hx hb dX5_turn_105 hl (by decide) rfl (fun ls hl => ?_)
          refine lv_lload hx hb dX5_turn_107 (lv_at hl 5 rfl) ?_
          refine lv_lload hx hb dX5_turn_109 (lv_at hl 3 rfl) ?_
          refine lv_iload hx hb dX5_turn_111 (lv_at hl 6 rfl) ?_
          refine fs_cl C hH (wr := [(h0, .inr (5, [.int rf, .ref qa, .ref qp, .ref qf, .ref qb, .ref qk, .ref qt, .int ex, .long eX, .long eZ]))]) [] [0] rfl rfl (by decide) (by decide) (fs_rS (rest := [.long (-1), .long ((fs_a t0 k).2.2)]) (As := [.int (nI k)]) (n := 1) C hH (wc := []) [] (by decide) rfl (c_X5_arc l X _ k (by omega)) rfl rfl mw_431 mw_429 mw_430 mw_6 (by decide +kernel) ⟨Nat.le_of_ble_eq_true rfl, Nat.le_of_ble_eq_true rfl⟩ rfl hl.1 rfl (Nat.le_of_ble_eq_true rfl) dX5_turn_113 ⟨Nat.le_of_ble_eq_true rfl, Nat.le_of_ble_eq_true rfl⟩) (fun r_6 u_7 H locs hr_8 hH => ?_)
          subst hr_8
          have hH : fs_H X A s [(h0, .inr (5, [.int rf, .ref qa, .ref qp, .ref qf, .ref qb, .ref qk, .ref qt, .int ex, .long eX, .long eZ]))] _ _ := hH
          refine lv_lmul hx hb dX5_turn_116 ?_
          refine lv_ladd hx hb dX5_turn_117 ?_
          refine fs_topl (y := (fs_a t0 (k + 1)).2.2) (by rw [fs_aS1 c_2, fs_tn1]; exact fs_am1 _ _) ?_
          refine lv_lstore (lv' := [(8, .long ((fs_a t0 (k + 1)).2.2)), (6, .long ((fs_a t0 (k + 1)).2.1)), (4, .long ((fs_a t0 (k + 1)).1)), (13, .long ((fs_a t0 k).1)), (11, .long (-1)), (0, .ref h0), (10, .int (nI k))]) hx hb dX5_turn_118 hl (by decide) rfl (fun ls hl => ?_)
          refine lv_iinc (v := (nI (k + 1))) (lv' := [(10, .int (nI (k + 1))), (8, .long ((fs_a t0 (k + 1)).2.2)), (6, .long ((fs_a t0 (k + 1)).2.1)), (4, .long ((fs_a t0 (k + 1)).1)), (13, .long ((fs_a t0 k).1)), (11, .long (-1)), (0, .ref h0)]) hx hb dX5_turn_120 hl (k := 6) rfl (nI_1 k) (by decide) rfl (fun ls hl => ?_)
          refine lv_goto (tgt := 54) hx hb dX5_turn_123 (by decide) ?_
          exact ih_54 t0 (k + 1) (by omega) hq (by omega) _ _ hH ls (lv_sub hl [6, 3, 2, 1, 0] rfl)
  have hH : fs_H X A s [(h0, .inr (5, [.int rf, .ref qa, .ref qp, .ref qf, .ref qb, .ref qk, .ref qt, .int ex, .long eX, .long eZ]))] s.heap [] := hH
  refine lv_iload_n hx hb dX5_turn_0 rfl (lv_at hl 1 rfl) ?_
  refine lv_if_ge (tgt := 8) hx hb dX5_turn_1 (by decide) (fun c_9 => ?_) (fun c_9 => ?_)
  · refine lv_iconst (v := 0) hx hb dX5_turn_8 (by decide) ?_
    refine lv_istore_n (lv' := [(3, .int 0), (0, .ref h0), (1, .int x), (2, .int y)]) hx hb dX5_turn_9 rfl hl (by decide) rfl (fun ls hl => ?_)
    refine lv_iload_n hx hb dX5_turn_10 rfl (lv_at hl 0 rfl) ?_
    refine lv_if_eq (tgt := 20) hx hb dX5_turn_11 (by decide) (fun c_10 => ?_) (fun c_10 => ?_)
    · refine lv_iload_n hx hb dX5_turn_20 rfl (lv_at hl 2 rfl) ?_
      refine lv_i2l hx hb dX5_turn_21 rfl ?_
      refine lv_lstore (lv' := [(4, .long (Int32.toInt64 x)), (3, .int 0), (0, .ref h0), (1, .int x), (2, .int y)]) hx hb dX5_turn_22 hl (by decide) rfl (fun ls hl => ?_)
      refine lv_iload_n hx hb dX5_turn_24 rfl (lv_at hl 1 rfl) ?_
      refine lv_if_eq (tgt := 34) hx hb dX5_turn_25 (by decide) (fun c_11 => ?_) (fun c_11 => ?_)
      · refine lv_iload_n hx hb dX5_turn_34 rfl (lv_at hl 4 rfl) ?_
        refine lv_i2l hx hb dX5_turn_35 rfl ?_
        refine lv_lstore (lv' := [(6, .long (Int32.toInt64 y)), (4, .long (Int32.toInt64 x)), (3, .int 0), (0, .ref h0), (1, .int x), (2, .int y)]) hx hb dX5_turn_36 hl (by decide) rfl (fun ls hl => ?_)
        refine lv_iload_n hx hb dX5_turn_38 rfl (lv_at hl 2 rfl) ?_
        refine lv_if_eq (tgt := 48) hx hb dX5_turn_39 (by decide) (fun c_12 => ?_) (fun c_12 => ?_)
        · refine lv_lconst (v := 0) hx hb dX5_turn_48 (by decide) ?_
          refine lv_lstore (lv' := [(8, .long 0), (6, .long (Int32.toInt64 y)), (4, .long (Int32.toInt64 x)), (3, .int 0), (0, .ref h0), (1, .int x), (2, .int y)]) hx hb dX5_turn_49 hl (by decide) rfl (fun ls hl => ?_)
          refine lv_iconst (v := 0) hx hb dX5_turn_51 (by decide) ?_
          refine lv_istore (lv' := [(10, .int 0), (8, .long 0), (6, .long (Int32.toInt64 y)), (4, .long (Int32.toInt64 x)), (3, .int 0), (0, .ref h0), (1, .int x), (2, .int y)]) hx hb dX5_turn_52 hl (by decide) rfl (fun ls hl => ?_)
          exact K_54 31 ((Int32.toInt64 x), (Int32.toInt64 y), 0) 0 (by omega) (fs_axP c_9) (by omega) _ _ hH ls (lv_sub hl [5, 3, 2, 1, 0] rfl)
        · exact absurd c_12 (by decide)
      · exact absurd c_11 (by decide)
    · exact absurd c_10 (by decide)
  · refine lv_iconst (v := 1) hx hb dX5_turn_4 (by decide) ?_
    refine lv_goto (tgt := 9) hx hb dX5_turn_5 (by decide) ?_
    refine lv_istore_n (lv' := [(3, .int 1), (0, .ref h0), (1, .int x), (2, .int y)]) hx hb dX5_turn_9 rfl hl (by decide) rfl (fun ls hl => ?_)
    refine lv_iload_n hx hb dX5_turn_10 rfl (lv_at hl 0 rfl) ?_
    refine lv_if_eq (tgt := 20) hx hb dX5_turn_11 (by decide) (fun c_13 => ?_) (fun c_13 => ?_)
    · exact absurd c_13 (by decide)
    · refine lv_iload_n hx hb dX5_turn_14 rfl (lv_at hl 2 rfl) ?_
      refine lv_i2l hx hb dX5_turn_15 rfl ?_
      refine lv_lneg hx hb dX5_turn_16 ?_
      refine lv_goto (tgt := 22) hx hb dX5_turn_17 (by decide) ?_
      refine lv_lstore (lv' := [(4, .long (-(Int32.toInt64 x))), (3, .int 1), (0, .ref h0), (1, .int x), (2, .int y)]) hx hb dX5_turn_22 hl (by decide) rfl (fun ls hl => ?_)
      refine lv_iload_n hx hb dX5_turn_24 rfl (lv_at hl 1 rfl) ?_
      refine lv_if_eq (tgt := 34) hx hb dX5_turn_25 (by decide) (fun c_14 => ?_) (fun c_14 => ?_)
      · exact absurd c_14 (by decide)
      · refine lv_iload_n hx hb dX5_turn_28 rfl (lv_at hl 4 rfl) ?_
        refine lv_i2l hx hb dX5_turn_29 rfl ?_
        refine lv_lneg hx hb dX5_turn_30 ?_
        refine lv_goto (tgt := 36) hx hb dX5_turn_31 (by decide) ?_
        refine lv_lstore (lv' := [(6, .long (-(Int32.toInt64 y))), (4, .long (-(Int32.toInt64 x))), (3, .int 1), (0, .ref h0), (1, .int x), (2, .int y)]) hx hb dX5_turn_36 hl (by decide) rfl (fun ls hl => ?_)
        refine lv_iload_n hx hb dX5_turn_38 rfl (lv_at hl 2 rfl) ?_
        refine lv_if_eq (tgt := 48) hx hb dX5_turn_39 (by decide) (fun c_15 => ?_) (fun c_15 => ?_)
        · exact absurd c_15 (by decide)
        · refine lv_ldc2 (v := (-2147483648)) hx hb hown (hts _ mw_475) dX5_turn_42 ?_
          refine lv_goto (tgt := 49) hx hb dX5_turn_45 (by decide) ?_
          refine lv_lstore (lv' := [(8, .long (-2147483648)), (6, .long (-(Int32.toInt64 y))), (4, .long (-(Int32.toInt64 x))), (3, .int 1), (0, .ref h0), (1, .int x), (2, .int y)]) hx hb dX5_turn_49 hl (by decide) rfl (fun ls hl => ?_)
          refine lv_iconst (v := 0) hx hb dX5_turn_51 (by decide) ?_
          refine lv_istore (lv' := [(10, .int 0), (8, .long (-2147483648)), (6, .long (-(Int32.toInt64 y))), (4, .long (-(Int32.toInt64 x))), (3, .int 1), (0, .ref h0), (1, .int x), (2, .int y)]) hx hb dX5_turn_52 hl (by decide) rfl (fun ls hl => ?_)
          exact K_54 31 ((-(Int32.toInt64 x)), (-(Int32.toInt64 y)), (-2147483648)) 0 (by omega) (fs_axN c_9) (by omega) _ _ hH ls (lv_sub hl [5, 3, 2, 1, 0] rfl)
set_option maxHeartbeats 4000000 in
set_option maxRecDepth 100000 in
theorem c_X5_angle (l : Launch) (X : fs_X) (sz : Nat) (h0 : Nat) (qa : Nat) (qp : Nat) (qf : Nat) (qb : Nat) (qk : Nat) (qt : Nat) (rf : Int32) (ex : Int32) (eX : Int64) (eZ : Int64) (x : Int32) (y : Int32)  : fs_M l X yX5_angle cX5_angle 3 (some .int) ({ frames := 3, cells := 0, slots := 0, locals := 74 }) [.ref h0, .int x, .int y] [(h0, .inr (5, [.int rf, .ref qa, .ref qp, .ref qf, .ref qb, .ref qk, .ref qt, .int ex, .long eX, .long eZ]))] sz (fs_Qi X (fun r (u : Option (Int64 × Int64)) => (∀ w9, u = some w9 → r = (fs_ang x y) ∧ (fs_near x ∧ fs_near y)) ∧ (u = none → ¬ (fs_near x ∧ fs_near y))) (fun u => match u with | some w9 => [(h0, .inr (5, [.int 0, .ref qa, .ref qp, .ref qf, .ref qb, .ref qk, .ref qt, .int ex, .long w9.1, .long w9.2]))] | none => [(h0, .inr (5, [.int 1, .ref qa, .ref qp, .ref qf, .ref qb, .ref qk, .ref qt, .int ex, .long eX, .long eZ]))])) 0 0 := by
  refine fs_ofW (by decide) (Nat.le_of_ble_eq_true rfl) ?_
  intro p e s m args below meth c A ls C hH hl
  have C : fs_At X A p s m args meth c cX5_angle 3 (some .int) RX5 "angle" := C
  have hx := C.1
  have hb := C.2.1
  have hown := C.2.2.2.2.1
  have hts := C.2.2.2.2.2.1
  have hl : lv_has ls 3 [(0, .ref h0), (1, .int x), (2, .int y)] := hl
  have hH : fs_H X A s [(h0, .inr (5, [.int rf, .ref qa, .ref qp, .ref qf, .ref qb, .ref qk, .ref qt, .int ex, .long eX, .long eZ]))] s.heap [] := hH
  refine lv_aload_n hx hb dX5_angle_0 rfl (lv_at hl 0 rfl) ?_
  refine lv_iload_n hx hb dX5_angle_1 rfl (lv_at hl 1 rfl) ?_
  refine fs_ci C hH (wr := [(h0, .inr (5, [.int rf, .ref qa, .ref qp, .ref qf, .ref qb, .ref qk, .ref qt, .int ex, .long eX, .long eZ]))]) [] [0] rfl rfl (by decide) (by decide) (fs_rS (rest := [.ref h0]) (As := [.int x]) (n := 1) C hH (wc := []) [] (by decide) rfl (c_X5_isNear l X _ x ) rfl rfl mw_469 mw_467 mw_468 mw_6 (by decide +kernel) ⟨Nat.le_of_ble_eq_true rfl, Nat.le_of_ble_eq_true rfl⟩ rfl hl.1 rfl (Nat.le_of_ble_eq_true rfl) dX5_angle_2 ⟨Nat.le_of_ble_eq_true rfl, Nat.le_of_ble_eq_true rfl⟩) (fun r_1 u_2 H locs hr_3 hH => ?_)
  subst hr_3
  have hH : fs_H X A s [(h0, .inr (5, [.int rf, .ref qa, .ref qp, .ref qf, .ref qb, .ref qk, .ref qt, .int ex, .long eX, .long eZ]))] _ _ := hH
  refine lv_if_eq (tgt := 19) hx hb dX5_angle_5 (by decide) (fun c_4 => ?_) (fun c_4 => ?_)
  · refine lv_iconst (v := 1) hx hb dX5_angle_19 (by decide) ?_
    refine fs_ci C hH (wr := []) [0] [] rfl rfl (by decide) (by decide) (fs_rV (rest := []) (As := [.int 1]) (n := 1) (q0 := 0) (ci := 5) C hH (wc := [(h0, .inr (5, [.int rf, .ref qa, .ref qp, .ref qf, .ref qb, .ref qk, .ref qt, .int ex, .long eX, .long eZ]))]) [0] (by decide) rfl (c_X5_refused l X _ h0 qa qp qf qb qk qt rf ex eX eZ 1 ) rfl rfl rfl rfl mw_341 mw_339 mw_340 mw_493 mw_6 (by decide +kernel) ⟨Nat.le_of_ble_eq_true rfl, Nat.le_of_ble_eq_true rfl⟩ rfl hl.1 rfl (Nat.le_of_ble_eq_true rfl) dX5_angle_20 ⟨Nat.le_of_ble_eq_true rfl, Nat.le_of_ble_eq_true rfl⟩) (fun r_5 u_6 H locs hr_7 hH => ?_)
    subst hr_7
    have hH : fs_H X A s [(h0, .inr (5, [.int 1, .ref qa, .ref qp, .ref qf, .ref qb, .ref qk, .ref qt, .int ex, .long eX, .long eZ]))] _ _ := hH
    refine lv_if_eq (tgt := 28) hx hb dX5_angle_23 (by decide) (fun c_8 => ?_) (fun c_8 => ?_)
    · exact absurd c_8 (by decide)
    · refine lv_iconst (v := 0) hx hb dX5_angle_26 (by decide) ?_
      exact fs_iret C hH none (by dsimp only) (⟨fun _ h => (by cases h), fun _ => fun h => (fs_bi_0.mp c_4) h.1⟩) dX5_angle_27
  · refine lv_iload_n hx hb dX5_angle_8 rfl (lv_at hl 2 rfl) ?_
    refine fs_ci C hH (wr := [(h0, .inr (5, [.int rf, .ref qa, .ref qp, .ref qf, .ref qb, .ref qk, .ref qt, .int ex, .long eX, .long eZ]))]) [] [0] rfl rfl (by decide) (by decide) (fs_rS (rest := [.ref h0]) (As := [.int y]) (n := 1) C hH (wc := []) [] (by decide) rfl (c_X5_isNear l X _ y ) rfl rfl mw_469 mw_467 mw_468 mw_6 (by decide +kernel) ⟨Nat.le_of_ble_eq_true rfl, Nat.le_of_ble_eq_true rfl⟩ rfl hl.1 rfl (Nat.le_of_ble_eq_true rfl) dX5_angle_9 ⟨Nat.le_of_ble_eq_true rfl, Nat.le_of_ble_eq_true rfl⟩) (fun r_9 u_10 H locs hr_11 hH => ?_)
    subst hr_11
    have hH : fs_H X A s [(h0, .inr (5, [.int rf, .ref qa, .ref qp, .ref qf, .ref qb, .ref qk, .ref qt, .int ex, .long eX, .long eZ]))] _ _ := hH
    refine lv_if_eq (tgt := 19) hx hb dX5_angle_12 (by decide) (fun c_12 => ?_) (fun c_12 => ?_)
    · refine lv_iconst (v := 1) hx hb dX5_angle_19 (by decide) ?_
      refine fs_ci C hH (wr := []) [0] [] rfl rfl (by decide) (by decide) (fs_rV (rest := []) (As := [.int 1]) (n := 1) (q0 := 0) (ci := 5) C hH (wc := [(h0, .inr (5, [.int rf, .ref qa, .ref qp, .ref qf, .ref qb, .ref qk, .ref qt, .int ex, .long eX, .long eZ]))]) [0] (by decide) rfl (c_X5_refused l X _ h0 qa qp qf qb qk qt rf ex eX eZ 1 ) rfl rfl rfl rfl mw_341 mw_339 mw_340 mw_493 mw_6 (by decide +kernel) ⟨Nat.le_of_ble_eq_true rfl, Nat.le_of_ble_eq_true rfl⟩ rfl hl.1 rfl (Nat.le_of_ble_eq_true rfl) dX5_angle_20 ⟨Nat.le_of_ble_eq_true rfl, Nat.le_of_ble_eq_true rfl⟩) (fun r_13 u_14 H locs hr_15 hH => ?_)
      subst hr_15
      have hH : fs_H X A s [(h0, .inr (5, [.int 1, .ref qa, .ref qp, .ref qf, .ref qb, .ref qk, .ref qt, .int ex, .long eX, .long eZ]))] _ _ := hH
      refine lv_if_eq (tgt := 28) hx hb dX5_angle_23 (by decide) (fun c_16 => ?_) (fun c_16 => ?_)
      · exact absurd c_16 (by decide)
      · refine lv_iconst (v := 0) hx hb dX5_angle_26 (by decide) ?_
        exact fs_iret C hH none (by dsimp only) (⟨fun _ h => (by cases h), fun _ => fun h => (fs_bi_0.mp c_12) h.2⟩) dX5_angle_27
    · refine lv_iconst (v := 0) hx hb dX5_angle_15 (by decide) ?_
      refine lv_goto (tgt := 20) hx hb dX5_angle_16 (by decide) ?_
      refine fs_ci C hH (wr := []) [0] [] rfl rfl (by decide) (by decide) (fs_rV (rest := []) (As := [.int 0]) (n := 1) (q0 := 0) (ci := 5) C hH (wc := [(h0, .inr (5, [.int rf, .ref qa, .ref qp, .ref qf, .ref qb, .ref qk, .ref qt, .int ex, .long eX, .long eZ]))]) [0] (by decide) rfl (c_X5_refused l X _ h0 qa qp qf qb qk qt rf ex eX eZ 0 ) rfl rfl rfl rfl mw_341 mw_339 mw_340 mw_493 mw_6 (by decide +kernel) ⟨Nat.le_of_ble_eq_true rfl, Nat.le_of_ble_eq_true rfl⟩ rfl hl.1 rfl (Nat.le_of_ble_eq_true rfl) dX5_angle_20 ⟨Nat.le_of_ble_eq_true rfl, Nat.le_of_ble_eq_true rfl⟩) (fun r_17 u_18 H locs hr_19 hH => ?_)
      subst hr_19
      have hH : fs_H X A s [(h0, .inr (5, [.int 0, .ref qa, .ref qp, .ref qf, .ref qb, .ref qk, .ref qt, .int ex, .long eX, .long eZ]))] _ _ := hH
      refine lv_if_eq (tgt := 28) hx hb dX5_angle_23 (by decide) (fun c_20 => ?_) (fun c_20 => ?_)
      · refine lv_aload_n hx hb dX5_angle_28 rfl (lv_at hl 0 rfl) ?_
        refine lv_iload_n hx hb dX5_angle_29 rfl (lv_at hl 1 rfl) ?_
        refine lv_iload_n hx hb dX5_angle_30 rfl (lv_at hl 2 rfl) ?_
        refine fs_cv C hH (wr := []) [0] [] rfl rfl (by decide) (by decide) (fs_rV (rest := []) (As := [.int x, .int y]) (n := 2) (q0 := 0) (ci := 5) C hH (wc := [(h0, .inr (5, [.int 0, .ref qa, .ref qp, .ref qf, .ref qb, .ref qk, .ref qt, .int ex, .long eX, .long eZ]))]) [0] (by decide) rfl (c_X5_turn l X _ h0 qa qp qf qb qk qt 0 ex eX eZ x y ) rfl rfl rfl rfl mw_474 mw_472 mw_473 mw_497 mw_6 (by decide +kernel) ⟨Nat.le_of_ble_eq_true rfl, Nat.le_of_ble_eq_true rfl⟩ rfl hl.1 rfl (Nat.le_of_ble_eq_true rfl) dX5_angle_31 ⟨Nat.le_of_ble_eq_true rfl, Nat.le_of_ble_eq_true rfl⟩) (fun u_22 H locs hr_23 hH => ?_)
        have hH : fs_H X A s [(h0, .inr (5, [.int 0, .ref qa, .ref qp, .ref qf, .ref qb, .ref qk, .ref qt, .int ex, .long ((fs_axis (Int32.toInt64 x) (Int32.toInt64 y)).1), .long ((fs_axis (Int32.toInt64 x) (Int32.toInt64 y)).2.2)]))] _ _ := hH
        refine lv_iload_n hx hb dX5_angle_34 rfl (lv_at hl 1 rfl) ?_
        refine lv_if_ne (tgt := 46) hx hb dX5_angle_35 (by decide) (fun c_24 => ?_) (fun c_24 => ?_)
        · refine lv_aload_n hx hb dX5_angle_46 rfl (lv_at hl 0 rfl) ?_
          refine fs_get C in_5 hH 0 rfl rfl 9 (by decide) mw_316 (v := .long ((fs_axis (Int32.toInt64 x) (Int32.toInt64 y)).2.2)) rfl dX5_angle_47 ?_
          refine lv_l2i hx hb dX5_angle_50 rfl ?_
          exact fs_iret C hH (some ((fs_axis (Int32.toInt64 x) (Int32.toInt64 y)).1, (fs_axis (Int32.toInt64 x) (Int32.toInt64 y)).2.2)) (by dsimp only) (⟨fun _ _ => ⟨by rw [fs_ang, if_neg (fun h => c_24 h.1)], ⟨(fs_bi_nz.mp c_4), (fs_bi_nz.mp c_12)⟩⟩, fun h => (by cases h)⟩) dX5_angle_51
        · refine lv_iload_n hx hb dX5_angle_38 rfl (lv_at hl 2 rfl) ?_
          refine lv_if_ne (tgt := 46) hx hb dX5_angle_39 (by decide) (fun c_25 => ?_) (fun c_25 => ?_)
          · refine lv_aload_n hx hb dX5_angle_46 rfl (lv_at hl 0 rfl) ?_
            refine fs_get C in_5 hH 0 rfl rfl 9 (by decide) mw_316 (v := .long ((fs_axis (Int32.toInt64 x) (Int32.toInt64 y)).2.2)) rfl dX5_angle_47 ?_
            refine lv_l2i hx hb dX5_angle_50 rfl ?_
            exact fs_iret C hH (some ((fs_axis (Int32.toInt64 x) (Int32.toInt64 y)).1, (fs_axis (Int32.toInt64 x) (Int32.toInt64 y)).2.2)) (by dsimp only) (⟨fun _ _ => ⟨by rw [fs_ang, if_neg (fun h => c_25 h.2)], ⟨(fs_bi_nz.mp c_4), (fs_bi_nz.mp c_12)⟩⟩, fun h => (by cases h)⟩) dX5_angle_51
          · refine lv_iconst (v := 0) hx hb dX5_angle_42 (by decide) ?_
            refine lv_goto (tgt := 51) hx hb dX5_angle_43 (by decide) ?_
            exact fs_iret C hH (some ((fs_axis (Int32.toInt64 x) (Int32.toInt64 y)).1, (fs_axis (Int32.toInt64 x) (Int32.toInt64 y)).2.2)) (by dsimp only) (⟨fun _ _ => ⟨by rw [fs_ang, if_pos ⟨c_24, c_25⟩], ⟨(fs_bi_nz.mp c_4), (fs_bi_nz.mp c_12)⟩⟩, fun h => (by cases h)⟩) dX5_angle_51
      · exact absurd c_20 (by decide)
set_option maxHeartbeats 4000000 in
set_option maxRecDepth 100000 in
theorem c_X5_length (l : Launch) (X : fs_X) (sz : Nat) (h0 : Nat) (qa : Nat) (qp : Nat) (qf : Nat) (qb : Nat) (qk : Nat) (qt : Nat) (rf : Int32) (ex : Int32) (eX : Int64) (eZ : Int64) (x : Int32) (y : Int32)  : fs_M l X yX5_length cX5_length 3 (some .int) ({ frames := 3, cells := 0, slots := 0, locals := 74 }) [.ref h0, .int x, .int y] [(h0, .inr (5, [.int rf, .ref qa, .ref qp, .ref qf, .ref qb, .ref qk, .ref qt, .int ex, .long eX, .long eZ]))] sz (fs_Qi X (fun r (u : Option (Int64 × Int64)) => (∀ w9, u = some w9 → r = (fs_len x y) ∧ (fs_near x ∧ fs_near y)) ∧ (u = none → ¬ (fs_near x ∧ fs_near y))) (fun u => match u with | some w9 => [(h0, .inr (5, [.int 0, .ref qa, .ref qp, .ref qf, .ref qb, .ref qk, .ref qt, .int ex, .long w9.1, .long w9.2]))] | none => [(h0, .inr (5, [.int 1, .ref qa, .ref qp, .ref qf, .ref qb, .ref qk, .ref qt, .int ex, .long eX, .long eZ]))])) 0 0 := by
  refine fs_ofW (by decide) (Nat.le_of_ble_eq_true rfl) ?_
  intro p e s m args below meth c A ls C hH hl
  have C : fs_At X A p s m args meth c cX5_length 3 (some .int) RX5 "length" := C
  have hx := C.1
  have hb := C.2.1
  have hown := C.2.2.2.2.1
  have hts := C.2.2.2.2.2.1
  have hl : lv_has ls 3 [(0, .ref h0), (1, .int x), (2, .int y)] := hl
  have hH : fs_H X A s [(h0, .inr (5, [.int rf, .ref qa, .ref qp, .ref qf, .ref qb, .ref qk, .ref qt, .int ex, .long eX, .long eZ]))] s.heap [] := hH
  refine lv_aload_n hx hb dX5_length_0 rfl (lv_at hl 0 rfl) ?_
  refine lv_iload_n hx hb dX5_length_1 rfl (lv_at hl 1 rfl) ?_
  refine fs_ci C hH (wr := [(h0, .inr (5, [.int rf, .ref qa, .ref qp, .ref qf, .ref qb, .ref qk, .ref qt, .int ex, .long eX, .long eZ]))]) [] [0] rfl rfl (by decide) (by decide) (fs_rS (rest := [.ref h0]) (As := [.int x]) (n := 1) C hH (wc := []) [] (by decide) rfl (c_X5_isNear l X _ x ) rfl rfl mw_469 mw_467 mw_468 mw_6 (by decide +kernel) ⟨Nat.le_of_ble_eq_true rfl, Nat.le_of_ble_eq_true rfl⟩ rfl hl.1 rfl (Nat.le_of_ble_eq_true rfl) dX5_length_2 ⟨Nat.le_of_ble_eq_true rfl, Nat.le_of_ble_eq_true rfl⟩) (fun r_1 u_2 H locs hr_3 hH => ?_)
  subst hr_3
  have hH : fs_H X A s [(h0, .inr (5, [.int rf, .ref qa, .ref qp, .ref qf, .ref qb, .ref qk, .ref qt, .int ex, .long eX, .long eZ]))] _ _ := hH
  refine lv_if_eq (tgt := 19) hx hb dX5_length_5 (by decide) (fun c_4 => ?_) (fun c_4 => ?_)
  · refine lv_iconst (v := 1) hx hb dX5_length_19 (by decide) ?_
    refine fs_ci C hH (wr := []) [0] [] rfl rfl (by decide) (by decide) (fs_rV (rest := []) (As := [.int 1]) (n := 1) (q0 := 0) (ci := 5) C hH (wc := [(h0, .inr (5, [.int rf, .ref qa, .ref qp, .ref qf, .ref qb, .ref qk, .ref qt, .int ex, .long eX, .long eZ]))]) [0] (by decide) rfl (c_X5_refused l X _ h0 qa qp qf qb qk qt rf ex eX eZ 1 ) rfl rfl rfl rfl mw_341 mw_339 mw_340 mw_493 mw_6 (by decide +kernel) ⟨Nat.le_of_ble_eq_true rfl, Nat.le_of_ble_eq_true rfl⟩ rfl hl.1 rfl (Nat.le_of_ble_eq_true rfl) dX5_length_20 ⟨Nat.le_of_ble_eq_true rfl, Nat.le_of_ble_eq_true rfl⟩) (fun r_5 u_6 H locs hr_7 hH => ?_)
    subst hr_7
    have hH : fs_H X A s [(h0, .inr (5, [.int 1, .ref qa, .ref qp, .ref qf, .ref qb, .ref qk, .ref qt, .int ex, .long eX, .long eZ]))] _ _ := hH
    refine lv_if_eq (tgt := 28) hx hb dX5_length_23 (by decide) (fun c_8 => ?_) (fun c_8 => ?_)
    · exact absurd c_8 (by decide)
    · refine lv_iconst (v := 0) hx hb dX5_length_26 (by decide) ?_
      exact fs_iret C hH none (by dsimp only) (⟨fun _ h => (by cases h), fun _ => fun h => (fs_bi_0.mp c_4) h.1⟩) dX5_length_27
  · refine lv_iload_n hx hb dX5_length_8 rfl (lv_at hl 2 rfl) ?_
    refine fs_ci C hH (wr := [(h0, .inr (5, [.int rf, .ref qa, .ref qp, .ref qf, .ref qb, .ref qk, .ref qt, .int ex, .long eX, .long eZ]))]) [] [0] rfl rfl (by decide) (by decide) (fs_rS (rest := [.ref h0]) (As := [.int y]) (n := 1) C hH (wc := []) [] (by decide) rfl (c_X5_isNear l X _ y ) rfl rfl mw_469 mw_467 mw_468 mw_6 (by decide +kernel) ⟨Nat.le_of_ble_eq_true rfl, Nat.le_of_ble_eq_true rfl⟩ rfl hl.1 rfl (Nat.le_of_ble_eq_true rfl) dX5_length_9 ⟨Nat.le_of_ble_eq_true rfl, Nat.le_of_ble_eq_true rfl⟩) (fun r_9 u_10 H locs hr_11 hH => ?_)
    subst hr_11
    have hH : fs_H X A s [(h0, .inr (5, [.int rf, .ref qa, .ref qp, .ref qf, .ref qb, .ref qk, .ref qt, .int ex, .long eX, .long eZ]))] _ _ := hH
    refine lv_if_eq (tgt := 19) hx hb dX5_length_12 (by decide) (fun c_12 => ?_) (fun c_12 => ?_)
    · refine lv_iconst (v := 1) hx hb dX5_length_19 (by decide) ?_
      refine fs_ci C hH (wr := []) [0] [] rfl rfl (by decide) (by decide) (fs_rV (rest := []) (As := [.int 1]) (n := 1) (q0 := 0) (ci := 5) C hH (wc := [(h0, .inr (5, [.int rf, .ref qa, .ref qp, .ref qf, .ref qb, .ref qk, .ref qt, .int ex, .long eX, .long eZ]))]) [0] (by decide) rfl (c_X5_refused l X _ h0 qa qp qf qb qk qt rf ex eX eZ 1 ) rfl rfl rfl rfl mw_341 mw_339 mw_340 mw_493 mw_6 (by decide +kernel) ⟨Nat.le_of_ble_eq_true rfl, Nat.le_of_ble_eq_true rfl⟩ rfl hl.1 rfl (Nat.le_of_ble_eq_true rfl) dX5_length_20 ⟨Nat.le_of_ble_eq_true rfl, Nat.le_of_ble_eq_true rfl⟩) (fun r_13 u_14 H locs hr_15 hH => ?_)
      subst hr_15
      have hH : fs_H X A s [(h0, .inr (5, [.int 1, .ref qa, .ref qp, .ref qf, .ref qb, .ref qk, .ref qt, .int ex, .long eX, .long eZ]))] _ _ := hH
      refine lv_if_eq (tgt := 28) hx hb dX5_length_23 (by decide) (fun c_16 => ?_) (fun c_16 => ?_)
      · exact absurd c_16 (by decide)
      · refine lv_iconst (v := 0) hx hb dX5_length_26 (by decide) ?_
        exact fs_iret C hH none (by dsimp only) (⟨fun _ h => (by cases h), fun _ => fun h => (fs_bi_0.mp c_12) h.2⟩) dX5_length_27
    · refine lv_iconst (v := 0) hx hb dX5_length_15 (by decide) ?_
      refine lv_goto (tgt := 20) hx hb dX5_length_16 (by decide) ?_
      refine fs_ci C hH (wr := []) [0] [] rfl rfl (by decide) (by decide) (fs_rV (rest := []) (As := [.int 0]) (n := 1) (q0 := 0) (ci := 5) C hH (wc := [(h0, .inr (5, [.int rf, .ref qa, .ref qp, .ref qf, .ref qb, .ref qk, .ref qt, .int ex, .long eX, .long eZ]))]) [0] (by decide) rfl (c_X5_refused l X _ h0 qa qp qf qb qk qt rf ex eX eZ 0 ) rfl rfl rfl rfl mw_341 mw_339 mw_340 mw_493 mw_6 (by decide +kernel) ⟨Nat.le_of_ble_eq_true rfl, Nat.le_of_ble_eq_true rfl⟩ rfl hl.1 rfl (Nat.le_of_ble_eq_true rfl) dX5_length_20 ⟨Nat.le_of_ble_eq_true rfl, Nat.le_of_ble_eq_true rfl⟩) (fun r_17 u_18 H locs hr_19 hH => ?_)
      subst hr_19
      have hH : fs_H X A s [(h0, .inr (5, [.int 0, .ref qa, .ref qp, .ref qf, .ref qb, .ref qk, .ref qt, .int ex, .long eX, .long eZ]))] _ _ := hH
      refine lv_if_eq (tgt := 28) hx hb dX5_length_23 (by decide) (fun c_20 => ?_) (fun c_20 => ?_)
      · refine lv_aload_n hx hb dX5_length_28 rfl (lv_at hl 0 rfl) ?_
        refine lv_iload_n hx hb dX5_length_29 rfl (lv_at hl 1 rfl) ?_
        refine lv_iload_n hx hb dX5_length_30 rfl (lv_at hl 2 rfl) ?_
        refine fs_cv C hH (wr := []) [0] [] rfl rfl (by decide) (by decide) (fs_rV (rest := []) (As := [.int x, .int y]) (n := 2) (q0 := 0) (ci := 5) C hH (wc := [(h0, .inr (5, [.int 0, .ref qa, .ref qp, .ref qf, .ref qb, .ref qk, .ref qt, .int ex, .long eX, .long eZ]))]) [0] (by decide) rfl (c_X5_turn l X _ h0 qa qp qf qb qk qt 0 ex eX eZ x y ) rfl rfl rfl rfl mw_474 mw_472 mw_473 mw_497 mw_6 (by decide +kernel) ⟨Nat.le_of_ble_eq_true rfl, Nat.le_of_ble_eq_true rfl⟩ rfl hl.1 rfl (Nat.le_of_ble_eq_true rfl) dX5_length_31 ⟨Nat.le_of_ble_eq_true rfl, Nat.le_of_ble_eq_true rfl⟩) (fun u_22 H locs hr_23 hH => ?_)
        have hH : fs_H X A s [(h0, .inr (5, [.int 0, .ref qa, .ref qp, .ref qf, .ref qb, .ref qk, .ref qt, .int ex, .long ((fs_axis (Int32.toInt64 x) (Int32.toInt64 y)).1), .long ((fs_axis (Int32.toInt64 x) (Int32.toInt64 y)).2.2)]))] _ _ := hH
        refine lv_aload_n hx hb dX5_length_34 rfl (lv_at hl 0 rfl) ?_
        refine fs_get C in_5 hH 0 rfl rfl 8 (by decide) mw_315 (v := .long ((fs_axis (Int32.toInt64 x) (Int32.toInt64 y)).1)) rfl dX5_length_35 ?_
        refine lv_ldc2 (v := 652032874) hx hb hown (hts _ mw_427) dX5_length_38 ?_
        refine lv_lmul hx hb dX5_length_41 ?_
        refine lv_bipush (v := 30) hx hb dX5_length_42 (by decide) ?_
        refine fs_cl C hH (wr := [(h0, .inr (5, [.int 0, .ref qa, .ref qp, .ref qf, .ref qb, .ref qk, .ref qt, .int ex, .long ((fs_axis (Int32.toInt64 x) (Int32.toInt64 y)).1), .long ((fs_axis (Int32.toInt64 x) (Int32.toInt64 y)).2.2)]))]) [] [0] rfl rfl (by decide) (by decide) (fs_rS (rest := []) (As := [.long (((fs_axis (Int32.toInt64 x) (Int32.toInt64 y)).1) * 652032874), .int 30]) (n := 2) C hH (wc := []) [] (by decide) rfl (c_X5_rounded l X _ (((fs_axis (Int32.toInt64 x) (Int32.toInt64 y)).1) * 652032874) 30 ) rfl rfl mw_351 mw_349 mw_350 mw_6 (by decide +kernel) ⟨Nat.le_of_ble_eq_true rfl, Nat.le_of_ble_eq_true rfl⟩ rfl hl.1 rfl (Nat.le_of_ble_eq_true rfl) dX5_length_44 ⟨Nat.le_of_ble_eq_true rfl, Nat.le_of_ble_eq_true rfl⟩) (fun r_24 u_25 H locs hr_26 hH => ?_)
        subst hr_26
        have hH : fs_H X A s [(h0, .inr (5, [.int 0, .ref qa, .ref qp, .ref qf, .ref qb, .ref qk, .ref qt, .int ex, .long ((fs_axis (Int32.toInt64 x) (Int32.toInt64 y)).1), .long ((fs_axis (Int32.toInt64 x) (Int32.toInt64 y)).2.2)]))] _ _ := hH
        refine fs_topl (y := (fs_rd ((fs_axis (Int32.toInt64 x) (Int32.toInt64 y)).1 * 652032874) 30)) (if_neg (by decide)) ?_
        refine lv_l2i hx hb dX5_length_47 rfl ?_
        exact fs_iret C hH (some ((fs_axis (Int32.toInt64 x) (Int32.toInt64 y)).1, (fs_axis (Int32.toInt64 x) (Int32.toInt64 y)).2.2)) (by dsimp only) (⟨fun _ _ => ⟨by rw [fs_len], ⟨(fs_bi_nz.mp c_4), (fs_bi_nz.mp c_12)⟩⟩, fun h => (by cases h)⟩) dX5_length_48
      · exact absurd c_20 (by decide)
set_option maxHeartbeats 4000000 in
set_option maxRecDepth 100000 in
theorem c_X5_isHigh (l : Launch) (X : fs_X) (sz : Nat) (h0 : Nat) (qa : Nat) (qp : Nat) (qf : Nat) (qb : Nat) (qk : Nat) (qt : Nat) (rf : Int32) (ex : Int32) (eX : Int64) (eZ : Int64) (ff : Nat → Int64) (nn : Nat) (hnn : nn ≤ 32) : fs_M l X yX5_isHigh cX5_isHigh 6 (some .boolean) ({ frames := 0, cells := 0, slots := 0, locals := 0 }) [.ref h0, .int (nI nn)] [(h0, .inr (5, [.int rf, .ref qa, .ref qp, .ref qf, .ref qb, .ref qk, .ref qt, .int ex, .long eX, .long eZ])), (qk, fs_al X 64 ff)] sz (fs_Qi X (fun r (_ : Unit) => r = fs_bi (fs_hb ff (2 * nn) = true)) (fun _ => [(h0, .inr (5, [.int rf, .ref qa, .ref qp, .ref qf, .ref qb, .ref qk, .ref qt, .int ex, .long eX, .long eZ])), (qk, fs_al X 64 ff)])) 0 0 := by
  refine fs_ofW (by decide) (Nat.le_of_ble_eq_true rfl) ?_
  intro p e s m args below meth c A ls C hH hl
  have C : fs_At X A p s m args meth c cX5_isHigh 6 (some .boolean) RX5 "isHigh" := C
  have hx := C.1
  have hb := C.2.1
  have hown := C.2.2.2.2.1
  have hts := C.2.2.2.2.2.1
  have hl : lv_has ls 6 [(0, .ref h0), (1, .int (nI nn))] := hl
  have K_4 : ∀ (n : Nat) (k : Nat), (k ≤ 2 * nn) → (2 * nn < k + n) → ∀ (H : Heap) (locs : List Loc), fs_H X A s [(h0, .inr (5, [.int rf, .ref qa, .ref qp, .ref qf, .ref qb, .ref qk, .ref qt, .int ex, .long eX, .long eZ])), (qk, fs_al X 64 ff)] H locs → ∀ (ls : Array Slot), lv_has ls 6 [(0, .ref h0), (1, .int (nI nn)), (2, .int (fs_bi (fs_hb ff k = true))), (3, .int (nI k))] → W p l e ({ frames := 0, cells := 0, slots := 0, locals := 0 }) s m args below meth c H locs 0 0 (MQ below (fs_Qi X (fun r (_ : Unit) => r = fs_bi (fs_hb ff (2 * nn) = true)) (fun _ => [(h0, .inr (5, [.int rf, .ref qa, .ref qp, .ref qf, .ref qb, .ref qk, .ref qt, .int ex, .long eX, .long eZ])), (qk, fs_al X 64 ff)]) A) args s 0 0 A) (F0 m 4 ls []) := by
    intro n
    induction n with
    | zero => intro k hk hfu; exact absurd hfu (by omega)
    | succ n ih_4 =>
      intro k hk hfu H locs hH ls hl
      refine lv_iload_n hx hb dX5_isHigh_4 rfl (lv_at hl 3 rfl) ?_
      refine lv_iconst (v := 2) hx hb dX5_isHigh_5 (by decide) ?_
      refine lv_iload_n hx hb dX5_isHigh_6 rfl (lv_at hl 1 rfl) ?_
      refine lv_imul hx hb dX5_isHigh_7 ?_
      refine fs_topi (y := (nI (2 * nn))) (pk_mul 2 nn) ?_
      refine lv_icmp_ge (tgt := 53) hx hb dX5_isHigh_8 (by decide) (fun c_1 => ?_) (fun c_1 => ?_)
      · have hge := fs_geT (a := k) (b := 2 * nn) (by omega) (by omega) c_1
        have hkn : k = 2 * nn := by omega
        refine lv_iload_n hx hb dX5_isHigh_53 rfl (lv_at hl 2 rfl) ?_
        exact fs_zret C hH (fs_bi_nar _) () rfl (by rw [hkn]) dX5_isHigh_54
      · have hlt := fs_geF (a := k) (b := 2 * nn) (by omega) (by omega) c_1
        refine lv_aload_n hx hb dX5_isHigh_11 rfl (lv_at hl 0 rfl) ?_
        refine fs_get C in_5 hH 0 rfl rfl 5 (by decide) mw_312 (v := .ref qk) rfl dX5_isHigh_12 ?_
        refine lv_iload_n hx hb dX5_isHigh_15 rfl (lv_at hl 3 rfl) ?_
        refine fs_lald C hH 1 rfl (k := k) rfl (by omega) (by decide) dX5_isHigh_16 ?_
        refine lv_lstore (lv' := [(4, .long (ff k)), (0, .ref h0), (1, .int (nI nn)), (2, .int (fs_bi (fs_hb ff k = true))), (3, .int (nI k))]) hx hb dX5_isHigh_17 hl (by decide) rfl (fun ls hl => ?_)
        refine lv_iload_n hx hb dX5_isHigh_19 rfl (lv_at hl 3 rfl) ?_
        refine lv_if_ne (tgt := 41) hx hb dX5_isHigh_20 (by decide) (fun c_2 => ?_) (fun c_2 => ?_)
        · refine lv_iconst (v := 1) hx hb dX5_isHigh_41 (by decide) ?_
          refine lv_goto (tgt := 46) hx hb dX5_isHigh_42 (by decide) ?_
          refine fs_topi (y := (fs_bi (fs_hb ff (k + 1) = true))) ((fs_bi_t (by simp [fs_hb, (fs_bi_nz.mp c_2)])).symm) ?_
          refine lv_istore_n (lv' := [(2, .int (fs_bi (fs_hb ff (k + 1) = true))), (4, .long (ff k)), (0, .ref h0), (1, .int (nI nn)), (3, .int (nI k))]) hx hb dX5_isHigh_46 rfl hl (by decide) rfl (fun ls hl => ?_)
          refine lv_iinc (v := (nI (k + 1))) (lv' := [(3, .int (nI (k + 1))), (2, .int (fs_bi (fs_hb ff (k + 1) = true))), (4, .long (ff k)), (0, .ref h0), (1, .int (nI nn))]) hx hb dX5_isHigh_47 hl (k := 4) rfl (nI_1 k) (by decide) rfl (fun ls hl => ?_)
          refine lv_goto (tgt := 4) hx hb dX5_isHigh_50 (by decide) ?_
          exact ih_4 (k + 1) (by omega) (by omega) _ _ hH ls (lv_sub hl [3, 4, 1, 0] rfl)
        · refine lv_lload hx hb dX5_isHigh_23 (lv_at hl 0 rfl) ?_
          refine lv_ldc2 (v := 536870912) hx hb hown (hts _ mw_401) dX5_isHigh_25 ?_
          refine fs_lge (tgt := 41) hx hb dX5_isHigh_28 dX5_isHigh_29 (by decide) (fun c_3 => ?_) (fun c_3 => ?_)
          · refine lv_iconst (v := 1) hx hb dX5_isHigh_41 (by decide) ?_
            refine lv_goto (tgt := 46) hx hb dX5_isHigh_42 (by decide) ?_
            refine fs_topi (y := (fs_bi (fs_hb ff (k + 1) = true))) ((fs_bi_t (by simp [fs_hb, c_3])).symm) ?_
            refine lv_istore_n (lv' := [(2, .int (fs_bi (fs_hb ff (k + 1) = true))), (4, .long (ff k)), (0, .ref h0), (1, .int (nI nn)), (3, .int (nI k))]) hx hb dX5_isHigh_46 rfl hl (by decide) rfl (fun ls hl => ?_)
            refine lv_iinc (v := (nI (k + 1))) (lv' := [(3, .int (nI (k + 1))), (2, .int (fs_bi (fs_hb ff (k + 1) = true))), (4, .long (ff k)), (0, .ref h0), (1, .int (nI nn))]) hx hb dX5_isHigh_47 hl (k := 4) rfl (nI_1 k) (by decide) rfl (fun ls hl => ?_)
            refine lv_goto (tgt := 4) hx hb dX5_isHigh_50 (by decide) ?_
            exact ih_4 (k + 1) (by omega) (by omega) _ _ hH ls (lv_sub hl [3, 4, 1, 0] rfl)
          · refine lv_lload hx hb dX5_isHigh_32 (lv_at hl 0 rfl) ?_
            refine lv_ldc2 (v := (-536870912)) hx hb hown (hts _ mw_402) dX5_isHigh_34 ?_
            refine fs_lgt (tgt := 45) hx hb dX5_isHigh_37 dX5_isHigh_38 (by decide) (fun c_4 => ?_) (fun c_4 => ?_)
            · refine lv_iconst (v := 0) hx hb dX5_isHigh_45 (by decide) ?_
              refine fs_topi (y := (fs_bi (fs_hb ff (k + 1) = true))) ((fs_bi_f (by simp [fs_hb, fs_bi_0.mp c_2, c_3, Int64.not_le.mpr c_4])).symm) ?_
              refine lv_istore_n (lv' := [(2, .int (fs_bi (fs_hb ff (k + 1) = true))), (4, .long (ff k)), (0, .ref h0), (1, .int (nI nn)), (3, .int (nI k))]) hx hb dX5_isHigh_46 rfl hl (by decide) rfl (fun ls hl => ?_)
              refine lv_iinc (v := (nI (k + 1))) (lv' := [(3, .int (nI (k + 1))), (2, .int (fs_bi (fs_hb ff (k + 1) = true))), (4, .long (ff k)), (0, .ref h0), (1, .int (nI nn))]) hx hb dX5_isHigh_47 hl (k := 4) rfl (nI_1 k) (by decide) rfl (fun ls hl => ?_)
              refine lv_goto (tgt := 4) hx hb dX5_isHigh_50 (by decide) ?_
              exact ih_4 (k + 1) (by omega) (by omega) _ _ hH ls (lv_sub hl [3, 4, 1, 0] rfl)
            · refine lv_iconst (v := 1) hx hb dX5_isHigh_41 (by decide) ?_
              refine lv_goto (tgt := 46) hx hb dX5_isHigh_42 (by decide) ?_
              refine fs_topi (y := (fs_bi (fs_hb ff (k + 1) = true))) ((fs_bi_t (by simp [fs_hb, (Int64.not_lt.mp c_4)])).symm) ?_
              refine lv_istore_n (lv' := [(2, .int (fs_bi (fs_hb ff (k + 1) = true))), (4, .long (ff k)), (0, .ref h0), (1, .int (nI nn)), (3, .int (nI k))]) hx hb dX5_isHigh_46 rfl hl (by decide) rfl (fun ls hl => ?_)
              refine lv_iinc (v := (nI (k + 1))) (lv' := [(3, .int (nI (k + 1))), (2, .int (fs_bi (fs_hb ff (k + 1) = true))), (4, .long (ff k)), (0, .ref h0), (1, .int (nI nn))]) hx hb dX5_isHigh_47 hl (k := 4) rfl (nI_1 k) (by decide) rfl (fun ls hl => ?_)
              refine lv_goto (tgt := 4) hx hb dX5_isHigh_50 (by decide) ?_
              exact ih_4 (k + 1) (by omega) (by omega) _ _ hH ls (lv_sub hl [3, 4, 1, 0] rfl)
  have hH : fs_H X A s [(h0, .inr (5, [.int rf, .ref qa, .ref qp, .ref qf, .ref qb, .ref qk, .ref qt, .int ex, .long eX, .long eZ])), (qk, fs_al X 64 ff)] s.heap [] := hH
  refine lv_iconst (v := 0) hx hb dX5_isHigh_0 (by decide) ?_
  refine lv_istore_n (lv' := [(2, .int 0), (0, .ref h0), (1, .int (nI nn))]) hx hb dX5_isHigh_1 rfl hl (by decide) rfl (fun ls hl => ?_)
  refine lv_iconst (v := 0) hx hb dX5_isHigh_2 (by decide) ?_
  refine lv_istore_n (lv' := [(3, .int 0), (2, .int 0), (0, .ref h0), (1, .int (nI nn))]) hx hb dX5_isHigh_3 rfl hl (by decide) rfl (fun ls hl => ?_)
  exact K_4 (2 * nn + 1) 0 (by omega) (by omega) _ _ hH ls (lv_sub hl [2, 3, 1, 0] rfl)
set_option maxHeartbeats 4000000 in
set_option maxRecDepth 100000 in
theorem c_X5_lower (l : Launch) (X : fs_X) (sz : Nat) (h0 : Nat) (qa : Nat) (qp : Nat) (qf : Nat) (qb : Nat) (qk : Nat) (qt : Nat) (rf : Int32) (eX : Int64) (eZ : Int64) (S : fs_K) (nn : Nat) (hnn : nn ≤ 32) : fs_M l X yX5_lower cX5_lower 4 none ({ frames := 1, cells := 0, slots := 0, locals := 25 }) [.ref h0, .int (nI nn)] [(h0, .inr (5, [.int rf, .ref qa, .ref qp, .ref qf, .ref qb, .ref qk, .ref qt, .int S.2.2, .long eX, .long eZ])), (qk, fs_al X 64 (fs_il S.1 S.2.1))] sz (fs_Qv X (fun (_ : Unit) => True) (fun _ => [(h0, .inr (5, [.int rf, .ref qa, .ref qp, .ref qf, .ref qb, .ref qk, .ref qt, .int ((fs_low nn (fs_low nn S)).2.2), .long eX, .long eZ])), (qk, fs_al X 64 (fs_il (fs_low nn (fs_low nn S)).1 (fs_low nn (fs_low nn S)).2.1))])) 0 0 := by
  refine fs_ofW (by decide) (Nat.le_of_ble_eq_true rfl) ?_
  intro p e s m args below meth c A ls C hH hl
  have C : fs_At X A p s m args meth c cX5_lower 4 none RX5 "lower" := C
  have hx := C.1
  have hb := C.2.1
  have hown := C.2.2.2.2.1
  have hts := C.2.2.2.2.2.1
  have hl : lv_has ls 4 [(0, .ref h0), (1, .int (nI nn))] := hl
  have K_17 : ∀ (n : Nat) (S1 : fs_K) (ii : Nat) (k : Nat), (k ≤ 2 * nn) → (ii < 2) → (fs_mr nn (1 - ii) (fs_lo S1.1 nn, fs_lo S1.2.1 nn, S1.2.2 + 1) = fs_low nn (fs_low nn S)) → ((2 - ii) * 80 + (2 * nn - k) < n) → ∀ (H : Heap) (locs : List Loc), fs_H X A s [(h0, .inr (5, [.int rf, .ref qa, .ref qp, .ref qf, .ref qb, .ref qk, .ref qt, .int S1.2.2, .long eX, .long eZ])), (qk, fs_al X 64 (fs_lk (fs_il S1.1 S1.2.1) k))] H locs → ∀ (ls : Array Slot), lv_has ls 4 [(0, .ref h0), (1, .int (nI nn)), (2, .int (nI ii)), (3, .int (nI k))] → W p l e ({ frames := 1, cells := 0, slots := 0, locals := 25 }) s m args below meth c H locs 0 0 (MQ below (fs_Qv X (fun (_ : Unit) => True) (fun _ => [(h0, .inr (5, [.int rf, .ref qa, .ref qp, .ref qf, .ref qb, .ref qk, .ref qt, .int ((fs_low nn (fs_low nn S)).2.2), .long eX, .long eZ])), (qk, fs_al X 64 (fs_il (fs_low nn (fs_low nn S)).1 (fs_low nn (fs_low nn S)).2.1))]) A) args s 0 0 A) (F0 m 17 ls []) := by
    intro n
    induction n with
    | zero => intro S1 ii k hk hii hq hfu; exact absurd hfu (by omega)
    | succ n ih_17 =>
      intro S1 ii k hk hii hq hfu H locs hH ls hl
      refine lv_iload_n hx hb dX5_lower_17 rfl (lv_at hl 3 rfl) ?_
      refine lv_iconst (v := 2) hx hb dX5_lower_18 (by decide) ?_
      refine lv_iload_n hx hb dX5_lower_19 rfl (lv_at hl 1 rfl) ?_
      refine lv_imul hx hb dX5_lower_20 ?_
      refine fs_topi (y := (nI (2 * nn))) (pk_mul 2 nn) ?_
      refine lv_icmp_ge (tgt := 46) hx hb dX5_lower_21 (by decide) (fun c_1 => ?_) (fun c_1 => ?_)
      · have hge := fs_geT (a := k) (b := 2 * nn) (by omega) (by omega) c_1
        have hkn : k = 2 * nn := by omega
        have hH : fs_H X A s [(h0, .inr (5, [.int rf, .ref qa, .ref qp, .ref qf, .ref qb, .ref qk, .ref qt, .int S1.2.2, .long eX, .long eZ])), (qk, fs_al X 64 (fs_il (fs_lo S1.1 nn) (fs_lo S1.2.1 nn)))] _ _ := hH.to (by rw [hkn, fs_lk_il])
        refine lv_aload_n hx hb dX5_lower_46 rfl (lv_at hl 0 rfl) ?_
        refine lv_dup hx hb dX5_lower_47 rfl ?_
        refine fs_get C in_5 hH 0 rfl rfl 7 (by decide) mw_314 (v := .int S1.2.2) rfl dX5_lower_48 ?_
        refine lv_iconst (v := 1) hx hb dX5_lower_51 (by decide) ?_
        refine lv_iadd hx hb dX5_lower_52 ?_
        refine fs_put C in_5 tyX5 tyX5_ok nmX5 hH 0 rfl rfl 7 (by decide) mw_314 rfl rfl rfl (Nat.le_of_ble_eq_true rfl) (ws' := [(h0, .inr (5, [.int rf, .ref qa, .ref qp, .ref qf, .ref qb, .ref qk, .ref qt, .int (S1.2.2 + 1), .long eX, .long eZ])), (qk, fs_al X 64 (fs_il (fs_lo S1.1 nn) (fs_lo S1.2.1 nn)))]) rfl dX5_lower_53 (fun H locs hH => ?_)
        refine lv_iinc (v := (nI (ii + 1))) (lv' := [(2, .int (nI (ii + 1))), (0, .ref h0), (1, .int (nI nn)), (3, .int (nI k))]) hx hb dX5_lower_56 hl (k := 2) rfl (nI_1 ii) (by decide) rfl (fun ls hl => ?_)
        refine lv_goto (tgt := 2) hx hb dX5_lower_59 (by decide) ?_
        refine lv_iload_n hx hb dX5_lower_2 rfl (lv_at hl 0 rfl) ?_
        refine lv_iconst (v := 2) hx hb dX5_lower_3 (by decide) ?_
        refine lv_icmp_ge (tgt := 62) hx hb dX5_lower_4 (by decide) (fun c_2 => ?_) (fun c_2 => ?_)
        · have h2 := fs_geT (a := ii + 1) (b := 2) (by omega) (by omega) c_2
          obtain rfl : ii = 1 := by omega
          have hH : fs_H X A s [(h0, .inr (5, [.int rf, .ref qa, .ref qp, .ref qf, .ref qb, .ref qk, .ref qt, .int ((fs_low nn (fs_low nn S)).2.2), .long eX, .long eZ])), (qk, fs_al X 64 (fs_il (fs_low nn (fs_low nn S)).1 (fs_low nn (fs_low nn S)).2.1))] _ _ := hH.to (by rw [← hq, fs_mr])
          exact fs_vret C hH () rfl trivial dX5_lower_62
        · have h2 := fs_geF (a := ii + 1) (b := 2) (by omega) (by omega) c_2
          obtain rfl : ii = 0 := by omega
          refine lv_aload_n hx hb dX5_lower_7 rfl (lv_at hl 1 rfl) ?_
          refine lv_iload_n hx hb dX5_lower_8 rfl (lv_at hl 2 rfl) ?_
          refine fs_ci C hH (wr := []) [0, 1] [] rfl rfl (by decide) (by decide) (fs_rV (rest := []) (As := [.int (nI nn)]) (n := 1) (q0 := 0) (ci := 5) C hH (wc := [(h0, .inr (5, [.int rf, .ref qa, .ref qp, .ref qf, .ref qb, .ref qk, .ref qt, .int (S1.2.2 + 1), .long eX, .long eZ])), (qk, fs_al X 64 (fs_il (fs_lo S1.1 nn) (fs_lo S1.2.1 nn)))]) [0, 1] (by decide) rfl (c_X5_isHigh l X _ h0 qa qp qf qb qk qt rf (S1.2.2 + 1) eX eZ (fs_il (fs_lo S1.1 nn) (fs_lo S1.2.1 nn)) nn (by omega)) rfl rfl rfl rfl mw_400 mw_398 mw_399 mw_495 mw_6 (by decide +kernel) ⟨Nat.le_of_ble_eq_true rfl, Nat.le_of_ble_eq_true rfl⟩ rfl hl.1 rfl (Nat.le_of_ble_eq_true rfl) dX5_lower_9 ⟨Nat.le_of_ble_eq_true rfl, Nat.le_of_ble_eq_true rfl⟩) (fun r_3 u_4 H locs hr_5 hH => ?_)
          subst hr_5
          have hH : fs_H X A s [(h0, .inr (5, [.int rf, .ref qa, .ref qp, .ref qf, .ref qb, .ref qk, .ref qt, .int (S1.2.2 + 1), .long eX, .long eZ])), (qk, fs_al X 64 (fs_il (fs_lo S1.1 nn) (fs_lo S1.2.1 nn)))] _ _ := hH
          refine fs_topi (y := (fs_bi (fs_tb (fs_lo S1.1 nn) (fs_lo S1.2.1 nn) nn = true))) (by rw [fs_hb_tb]) ?_
          refine lv_if_eq (tgt := 62) hx hb dX5_lower_12 (by decide) (fun c_6 => ?_) (fun c_6 => ?_)
          · have hbg := fs_bi_0.mp c_6
            have hH : fs_H X A s [(h0, .inr (5, [.int rf, .ref qa, .ref qp, .ref qf, .ref qb, .ref qk, .ref qt, .int ((fs_low nn (fs_low nn S)).2.2), .long eX, .long eZ])), (qk, fs_al X 64 (fs_il (fs_low nn (fs_low nn S)).1 (fs_low nn (fs_low nn S)).2.1))] _ _ := hH.to (by rw [← hq, fs_mr, fs_mr, fs_low_f hbg])
            exact fs_vret C hH () rfl trivial dX5_lower_62
          · have hbg := fs_bi_nz.mp c_6
            refine lv_iconst (v := 0) hx hb dX5_lower_15 (by decide) ?_
            have hH : fs_H X A s [(h0, .inr (5, [.int rf, .ref qa, .ref qp, .ref qf, .ref qb, .ref qk, .ref qt, .int (S1.2.2 + 1), .long eX, .long eZ])), (qk, fs_al X 64 (fs_lk (fs_il (fs_lo S1.1 nn) (fs_lo S1.2.1 nn)) 0))] _ _ := hH.to (by rw [fs_lk_0])
            refine lv_istore_n (lv' := [(3, .int 0), (2, .int (nI (0 + 1))), (0, .ref h0), (1, .int (nI nn))]) hx hb dX5_lower_16 rfl hl (by decide) rfl (fun ls hl => ?_)
            exact ih_17 (fs_lo S1.1 nn, fs_lo S1.2.1 nn, S1.2.2 + 1) 1 0 (by omega) (by omega) (by rw [← hq, fs_mr, fs_mr, fs_mr, fs_low_t hbg]) (by omega) _ _ hH ls (lv_sub hl [2, 3, 1, 0] rfl)
      · have hlt := fs_geF (a := k) (b := 2 * nn) (by omega) (by omega) c_1
        refine lv_aload_n hx hb dX5_lower_24 rfl (lv_at hl 0 rfl) ?_
        refine fs_get C in_5 hH 0 rfl rfl 5 (by decide) mw_312 (v := .ref qk) rfl dX5_lower_25 ?_
        refine lv_iload_n hx hb dX5_lower_28 rfl (lv_at hl 3 rfl) ?_
        refine lv_aload_n hx hb dX5_lower_29 rfl (lv_at hl 0 rfl) ?_
        refine fs_get C in_5 hH 0 rfl rfl 5 (by decide) mw_312 (v := .ref qk) rfl dX5_lower_30 ?_
        refine lv_iload_n hx hb dX5_lower_33 rfl (lv_at hl 3 rfl) ?_
        refine fs_lald C hH 1 rfl (k := k) rfl (by omega) (by decide) dX5_lower_34 ?_
        refine fs_topl (y := (fs_il S1.1 S1.2.1 k)) (fs_lk_k _ _) ?_
        refine lv_iconst (v := 1) hx hb dX5_lower_35 (by decide) ?_
        refine fs_cl C hH (wr := [(h0, .inr (5, [.int rf, .ref qa, .ref qp, .ref qf, .ref qb, .ref qk, .ref qt, .int S1.2.2, .long eX, .long eZ])), (qk, fs_al X 64 (fs_lk (fs_il S1.1 S1.2.1) k))]) [] [0, 1] rfl rfl (by decide) (by decide) (fs_rS (rest := [.int (nI k), .ref qk]) (As := [.long (fs_il S1.1 S1.2.1 k), .int 1]) (n := 2) C hH (wc := []) [] (by decide) rfl (c_X5_rounded l X _ (fs_il S1.1 S1.2.1 k) 1 ) rfl rfl mw_351 mw_349 mw_350 mw_6 (by decide +kernel) ⟨Nat.le_of_ble_eq_true rfl, Nat.le_of_ble_eq_true rfl⟩ rfl hl.1 rfl (Nat.le_of_ble_eq_true rfl) dX5_lower_36 ⟨Nat.le_of_ble_eq_true rfl, Nat.le_of_ble_eq_true rfl⟩) (fun r_7 u_8 H locs hr_9 hH => ?_)
        subst hr_9
        have hH : fs_H X A s [(h0, .inr (5, [.int rf, .ref qa, .ref qp, .ref qf, .ref qb, .ref qk, .ref qt, .int S1.2.2, .long eX, .long eZ])), (qk, fs_al X 64 (fs_lk (fs_il S1.1 S1.2.1) k))] _ _ := hH
        refine fs_topl (y := (fs_rd (fs_il S1.1 S1.2.1 k) 1)) (if_neg (by decide)) ?_
        refine fs_last C hH 1 rfl (k := k) rfl (by omega) (by decide) (ws' := [(h0, .inr (5, [.int rf, .ref qa, .ref qp, .ref qf, .ref qb, .ref qk, .ref qt, .int S1.2.2, .long eX, .long eZ])), (qk, fs_al X 64 (vp_updL (fs_lk (fs_il S1.1 S1.2.1) k) k (fs_rd (fs_il S1.1 S1.2.1 k) 1)))]) rfl dX5_lower_39 (fun H locs hH => ?_)
        have hH : fs_H X A s [(h0, .inr (5, [.int rf, .ref qa, .ref qp, .ref qf, .ref qb, .ref qk, .ref qt, .int S1.2.2, .long eX, .long eZ])), (qk, fs_al X 64 (fs_lk (fs_il S1.1 S1.2.1) (k + 1)))] _ _ := hH.to (by rw [fs_lk_s])
        refine lv_iinc (v := (nI (k + 1))) (lv' := [(3, .int (nI (k + 1))), (0, .ref h0), (1, .int (nI nn)), (2, .int (nI ii))]) hx hb dX5_lower_40 hl (k := 3) rfl (nI_1 k) (by decide) rfl (fun ls hl => ?_)
        refine lv_goto (tgt := 17) hx hb dX5_lower_43 (by decide) ?_
        exact ih_17 S1 ii (k + 1) (by omega) (by omega) hq (by omega) _ _ hH ls (lv_sub hl [1, 2, 3, 0] rfl)
  have hH : fs_H X A s [(h0, .inr (5, [.int rf, .ref qa, .ref qp, .ref qf, .ref qb, .ref qk, .ref qt, .int S.2.2, .long eX, .long eZ])), (qk, fs_al X 64 (fs_il S.1 S.2.1))] s.heap [] := hH
  refine lv_iconst (v := 0) hx hb dX5_lower_0 (by decide) ?_
  refine lv_istore_n (lv' := [(2, .int 0), (0, .ref h0), (1, .int (nI nn))]) hx hb dX5_lower_1 rfl hl (by decide) rfl (fun ls hl => ?_)
  refine lv_iload_n hx hb dX5_lower_2 rfl (lv_at hl 0 rfl) ?_
  refine lv_iconst (v := 2) hx hb dX5_lower_3 (by decide) ?_
  refine lv_icmp_ge (tgt := 62) hx hb dX5_lower_4 (by decide) (fun c_10 => ?_) (fun c_10 => ?_)
  · exact absurd c_10 (by decide)
  · refine lv_aload_n hx hb dX5_lower_7 rfl (lv_at hl 1 rfl) ?_
    refine lv_iload_n hx hb dX5_lower_8 rfl (lv_at hl 2 rfl) ?_
    refine fs_ci C hH (wr := []) [0, 1] [] rfl rfl (by decide) (by decide) (fs_rV (rest := []) (As := [.int (nI nn)]) (n := 1) (q0 := 0) (ci := 5) C hH (wc := [(h0, .inr (5, [.int rf, .ref qa, .ref qp, .ref qf, .ref qb, .ref qk, .ref qt, .int S.2.2, .long eX, .long eZ])), (qk, fs_al X 64 (fs_il S.1 S.2.1))]) [0, 1] (by decide) rfl (c_X5_isHigh l X _ h0 qa qp qf qb qk qt rf S.2.2 eX eZ (fs_il S.1 S.2.1) nn (by omega)) rfl rfl rfl rfl mw_400 mw_398 mw_399 mw_495 mw_6 (by decide +kernel) ⟨Nat.le_of_ble_eq_true rfl, Nat.le_of_ble_eq_true rfl⟩ rfl hl.1 rfl (Nat.le_of_ble_eq_true rfl) dX5_lower_9 ⟨Nat.le_of_ble_eq_true rfl, Nat.le_of_ble_eq_true rfl⟩) (fun r_11 u_12 H locs hr_13 hH => ?_)
    subst hr_13
    have hH : fs_H X A s [(h0, .inr (5, [.int rf, .ref qa, .ref qp, .ref qf, .ref qb, .ref qk, .ref qt, .int S.2.2, .long eX, .long eZ])), (qk, fs_al X 64 (fs_il S.1 S.2.1))] _ _ := hH
    refine fs_topi (y := (fs_bi (fs_tb S.1 S.2.1 nn = true))) (by rw [fs_hb_tb]) ?_
    refine lv_if_eq (tgt := 62) hx hb dX5_lower_12 (by decide) (fun c_14 => ?_) (fun c_14 => ?_)
    · have hbg := fs_bi_0.mp c_14
      have hH : fs_H X A s [(h0, .inr (5, [.int rf, .ref qa, .ref qp, .ref qf, .ref qb, .ref qk, .ref qt, .int ((fs_low nn (fs_low nn S)).2.2), .long eX, .long eZ])), (qk, fs_al X 64 (fs_il (fs_low nn (fs_low nn S)).1 (fs_low nn (fs_low nn S)).2.1))] _ _ := hH.to (by rw [fs_low_f hbg, fs_low_f hbg])
      exact fs_vret C hH () rfl trivial dX5_lower_62
    · have hbg := fs_bi_nz.mp c_14
      refine lv_iconst (v := 0) hx hb dX5_lower_15 (by decide) ?_
      have hH : fs_H X A s [(h0, .inr (5, [.int rf, .ref qa, .ref qp, .ref qf, .ref qb, .ref qk, .ref qt, .int S.2.2, .long eX, .long eZ])), (qk, fs_al X 64 (fs_lk (fs_il S.1 S.2.1) 0))] _ _ := hH.to (by rw [fs_lk_0])
      refine lv_istore_n (lv' := [(3, .int 0), (2, .int 0), (0, .ref h0), (1, .int (nI nn))]) hx hb dX5_lower_16 rfl hl (by decide) rfl (fun ls hl => ?_)
      exact K_17 400 S 0 0 (by omega) (by omega) (by rw [fs_mr, fs_mr, ← fs_low_t hbg]) (by omega) _ _ hH ls (lv_sub hl [2, 3, 1, 0] rfl)
set_option maxHeartbeats 4000000 in
set_option maxRecDepth 100000 in
theorem c_X5_pair (l : Launch) (X : fs_X) (sz : Nat) (h0 : Nat) (qa : Nat) (qp : Nat) (qf : Nat) (qb : Nat) (qk : Nat) (qt : Nat) (rf : Int32) (ex : Int32) (eX : Int64) (eZ : Int64) (re : Nat → Int32) (im : Nat → Int32) (i : Nat) (q : Nat) (w : Nat) (back : Int32) (hi : i < 32) (hq : q < 32) (hne : i ≠ q) (hw : w < 16) : fs_M l X yX5_pair cX5_pair 17 none ({ frames := 1, cells := 0, slots := 0, locals := 23 }) [.ref h0, .int (nI i), .int (nI q), .int (nI w), .int back] [(h0, .inr (5, [.int rf, .ref qa, .ref qp, .ref qf, .ref qb, .ref qk, .ref qt, .int ex, .long eX, .long eZ])), (qk, fs_al X 64 (fs_il re im))] sz (fs_Qv X (fun (_ : Unit) => True) (fun _ => [(h0, .inr (5, [.int rf, .ref qa, .ref qp, .ref qf, .ref qb, .ref qk, .ref qt, .int ex, .long eX, .long eZ])), (qk, fs_al X 64 (fs_il (fs_xr re im i q w back) (fs_xi re im i q w back)))])) 0 0 := by
  refine fs_ofW (by decide) (Nat.le_of_ble_eq_true rfl) ?_
  intro p e s m args below meth c A ls C hH hl
  have C : fs_At X A p s m args meth c cX5_pair 17 none RX5 "pair" := C
  have hx := C.1
  have hb := C.2.1
  have hown := C.2.2.2.2.1
  have hts := C.2.2.2.2.2.1
  have hl : lv_has ls 17 [(0, .ref h0), (1, .int (nI i)), (2, .int (nI q)), (3, .int (nI w)), (4, .int back)] := hl
  have K_63 : ∀ (H : Heap) (locs : List Loc), fs_H X A s [(h0, .inr (5, [.int rf, .ref qa, .ref qp, .ref qf, .ref qb, .ref qk, .ref qt, .int ex, .long eX, .long eZ])), (qk, fs_al X 64 (fs_il re im))] H locs → ∀ (ls : Array Slot), lv_has ls 17 [(0, .ref h0), (1, .int (nI i)), (2, .int (nI q)), (5, .long (fs_cos w)), (7, .long (fs_ss w back))] → W p l e ({ frames := 1, cells := 0, slots := 0, locals := 23 }) s m args below meth c H locs 0 0 (MQ below (fs_Qv X (fun (_ : Unit) => True) (fun _ => [(h0, .inr (5, [.int rf, .ref qa, .ref qp, .ref qf, .ref qb, .ref qk, .ref qt, .int ex, .long eX, .long eZ])), (qk, fs_al X 64 (fs_il (fs_xr re im i q w back) (fs_xi re im i q w back)))]) A) args s 0 0 A) (F0 m 63 ls []) := by
    intro   H locs hH ls hl
    refine lv_aload_n hx hb dX5_pair_63 rfl (lv_at hl 0 rfl) ?_
    refine fs_get C in_5 hH 0 rfl rfl 5 (by decide) mw_312 (v := .ref qk) rfl dX5_pair_64 ?_
    refine lv_iconst (v := 2) hx hb dX5_pair_67 (by decide) ?_
    refine lv_iload_n hx hb dX5_pair_68 rfl (lv_at hl 2 rfl) ?_
    refine lv_imul hx hb dX5_pair_69 ?_
    refine fs_lald C hH 1 rfl (k := (2 * q)) (fs_im (a := 2) (b := q) rfl rfl) (by omega) (by decide) dX5_pair_70 ?_
    refine fs_topl (y := (Int32.toInt64 (re q))) (fs_il_e _ _ _) ?_
    refine lv_lstore (lv' := [(9, .long (Int32.toInt64 (re q))), (0, .ref h0), (1, .int (nI i)), (2, .int (nI q)), (5, .long (fs_cos w)), (7, .long (fs_ss w back))]) hx hb dX5_pair_71 hl (by decide) rfl (fun ls hl => ?_)
    refine lv_aload_n hx hb dX5_pair_73 rfl (lv_at hl 1 rfl) ?_
    refine fs_get C in_5 hH 0 rfl rfl 5 (by decide) mw_312 (v := .ref qk) rfl dX5_pair_74 ?_
    refine lv_iconst (v := 2) hx hb dX5_pair_77 (by decide) ?_
    refine lv_iload_n hx hb dX5_pair_78 rfl (lv_at hl 3 rfl) ?_
    refine lv_imul hx hb dX5_pair_79 ?_
    refine lv_iconst (v := 1) hx hb dX5_pair_80 (by decide) ?_
    refine lv_iadd hx hb dX5_pair_81 ?_
    refine fs_lald C hH 1 rfl (k := ((2 * q) + 1)) (fs_ia (a := (2 * q)) (b := 1) (fs_im (a := 2) (b := q) rfl rfl) rfl) (by omega) (by decide) dX5_pair_82 ?_
    refine fs_topl (y := (Int32.toInt64 (im q))) (fs_il_o _ _ _) ?_
    refine lv_lstore (lv' := [(11, .long (Int32.toInt64 (im q))), (9, .long (Int32.toInt64 (re q))), (0, .ref h0), (1, .int (nI i)), (2, .int (nI q)), (5, .long (fs_cos w)), (7, .long (fs_ss w back))]) hx hb dX5_pair_83 hl (by decide) rfl (fun ls hl => ?_)
    refine lv_lload hx hb dX5_pair_85 (lv_at hl 1 rfl) ?_
    refine lv_lload hx hb dX5_pair_87 (lv_at hl 5 rfl) ?_
    refine lv_lmul hx hb dX5_pair_89 ?_
    refine lv_lload hx hb dX5_pair_90 (lv_at hl 0 rfl) ?_
    refine lv_lload hx hb dX5_pair_92 (lv_at hl 6 rfl) ?_
    refine lv_lmul hx hb dX5_pair_94 ?_
    refine lv_ladd hx hb dX5_pair_95 ?_
    refine lv_bipush (v := 31) hx hb dX5_pair_96 (by decide) ?_
    refine fs_cl C hH (wr := [(h0, .inr (5, [.int rf, .ref qa, .ref qp, .ref qf, .ref qb, .ref qk, .ref qt, .int ex, .long eX, .long eZ])), (qk, fs_al X 64 (fs_il re im))]) [] [0, 1] rfl rfl (by decide) (by decide) (fs_rS (rest := []) (As := [.long (((Int32.toInt64 (re q)) * (fs_cos w)) + ((Int32.toInt64 (im q)) * (fs_ss w back))), .int 31]) (n := 2) C hH (wc := []) [] (by decide) rfl (c_X5_rounded l X _ (((Int32.toInt64 (re q)) * (fs_cos w)) + ((Int32.toInt64 (im q)) * (fs_ss w back))) 31 ) rfl rfl mw_351 mw_349 mw_350 mw_6 (by decide +kernel) ⟨Nat.le_of_ble_eq_true rfl, Nat.le_of_ble_eq_true rfl⟩ rfl hl.1 rfl (Nat.le_of_ble_eq_true rfl) dX5_pair_98 ⟨Nat.le_of_ble_eq_true rfl, Nat.le_of_ble_eq_true rfl⟩) (fun r_1 u_2 H locs hr_3 hH => ?_)
    subst hr_3
    have hH : fs_H X A s [(h0, .inr (5, [.int rf, .ref qa, .ref qp, .ref qf, .ref qb, .ref qk, .ref qt, .int ex, .long eX, .long eZ])), (qk, fs_al X 64 (fs_il re im))] _ _ := hH
    refine fs_topl (y := (fs_u re im q w back)) ((if_neg (by decide)).trans rfl) ?_
    refine lv_lstore (lv' := [(13, .long (fs_u re im q w back)), (11, .long (Int32.toInt64 (im q))), (9, .long (Int32.toInt64 (re q))), (0, .ref h0), (1, .int (nI i)), (2, .int (nI q)), (5, .long (fs_cos w)), (7, .long (fs_ss w back))]) hx hb dX5_pair_101 hl (by decide) rfl (fun ls hl => ?_)
    refine lv_lload hx hb dX5_pair_103 (lv_at hl 1 rfl) ?_
    refine lv_lload hx hb dX5_pair_105 (lv_at hl 6 rfl) ?_
    refine lv_lmul hx hb dX5_pair_107 ?_
    refine lv_lload hx hb dX5_pair_108 (lv_at hl 2 rfl) ?_
    refine lv_lload hx hb dX5_pair_110 (lv_at hl 7 rfl) ?_
    refine lv_lmul hx hb dX5_pair_112 ?_
    refine lv_lsub hx hb dX5_pair_113 ?_
    refine lv_bipush (v := 31) hx hb dX5_pair_114 (by decide) ?_
    refine fs_cl C hH (wr := [(h0, .inr (5, [.int rf, .ref qa, .ref qp, .ref qf, .ref qb, .ref qk, .ref qt, .int ex, .long eX, .long eZ])), (qk, fs_al X 64 (fs_il re im))]) [] [0, 1] rfl rfl (by decide) (by decide) (fs_rS (rest := []) (As := [.long (((Int32.toInt64 (im q)) * (fs_cos w)) - ((Int32.toInt64 (re q)) * (fs_ss w back))), .int 31]) (n := 2) C hH (wc := []) [] (by decide) rfl (c_X5_rounded l X _ (((Int32.toInt64 (im q)) * (fs_cos w)) - ((Int32.toInt64 (re q)) * (fs_ss w back))) 31 ) rfl rfl mw_351 mw_349 mw_350 mw_6 (by decide +kernel) ⟨Nat.le_of_ble_eq_true rfl, Nat.le_of_ble_eq_true rfl⟩ rfl hl.1 rfl (Nat.le_of_ble_eq_true rfl) dX5_pair_116 ⟨Nat.le_of_ble_eq_true rfl, Nat.le_of_ble_eq_true rfl⟩) (fun r_4 u_5 H locs hr_6 hH => ?_)
    subst hr_6
    have hH : fs_H X A s [(h0, .inr (5, [.int rf, .ref qa, .ref qp, .ref qf, .ref qb, .ref qk, .ref qt, .int ex, .long eX, .long eZ])), (qk, fs_al X 64 (fs_il re im))] _ _ := hH
    refine fs_topl (y := (fs_v re im q w back)) ((if_neg (by decide)).trans rfl) ?_
    refine lv_lstore (lv' := [(15, .long (fs_v re im q w back)), (13, .long (fs_u re im q w back)), (11, .long (Int32.toInt64 (im q))), (9, .long (Int32.toInt64 (re q))), (0, .ref h0), (1, .int (nI i)), (2, .int (nI q)), (5, .long (fs_cos w)), (7, .long (fs_ss w back))]) hx hb dX5_pair_119 hl (by decide) rfl (fun ls hl => ?_)
    refine lv_aload_n hx hb dX5_pair_121 rfl (lv_at hl 4 rfl) ?_
    refine fs_get C in_5 hH 0 rfl rfl 5 (by decide) mw_312 (v := .ref qk) rfl dX5_pair_122 ?_
    refine lv_iconst (v := 2) hx hb dX5_pair_125 (by decide) ?_
    refine lv_iload_n hx hb dX5_pair_126 rfl (lv_at hl 6 rfl) ?_
    refine lv_imul hx hb dX5_pair_127 ?_
    refine lv_aload_n hx hb dX5_pair_128 rfl (lv_at hl 4 rfl) ?_
    refine fs_get C in_5 hH 0 rfl rfl 5 (by decide) mw_312 (v := .ref qk) rfl dX5_pair_129 ?_
    refine lv_iconst (v := 2) hx hb dX5_pair_132 (by decide) ?_
    refine lv_iload_n hx hb dX5_pair_133 rfl (lv_at hl 5 rfl) ?_
    refine lv_imul hx hb dX5_pair_134 ?_
    refine fs_lald C hH 1 rfl (k := (2 * i)) (fs_im (a := 2) (b := i) rfl rfl) (by omega) (by decide) dX5_pair_135 ?_
    refine fs_topl (y := (Int32.toInt64 (re i))) (fs_il_e _ _ _) ?_
    refine lv_lload hx hb dX5_pair_136 (lv_at hl 1 rfl) ?_
    refine lv_lsub hx hb dX5_pair_138 ?_
    refine lv_ldc2 (v := 2147483647) hx hb hown (hts _ mw_342) dX5_pair_139 ?_
    refine fs_ci C hH (wr := [(h0, .inr (5, [.int rf, .ref qa, .ref qp, .ref qf, .ref qb, .ref qk, .ref qt, .int ex, .long eX, .long eZ])), (qk, fs_al X 64 (fs_il re im))]) [] [0, 1] rfl rfl (by decide) (by decide) (fs_rS (rest := [.int (2 * (nI q)), .ref qk]) (As := [.long ((Int32.toInt64 (re i)) - (fs_u re im q w back)), .long 2147483647]) (n := 2) C hH (wc := []) [] (by decide) rfl (c_X5_within l X _ ((Int32.toInt64 (re i)) - (fs_u re im q w back)) 2147483647 ) rfl rfl mw_348 mw_346 mw_347 mw_6 (by decide +kernel) ⟨Nat.le_of_ble_eq_true rfl, Nat.le_of_ble_eq_true rfl⟩ rfl hl.1 rfl (Nat.le_of_ble_eq_true rfl) dX5_pair_142 ⟨Nat.le_of_ble_eq_true rfl, Nat.le_of_ble_eq_true rfl⟩) (fun r_7 u_8 H locs hr_9 hH => ?_)
    subst hr_9
    have hH : fs_H X A s [(h0, .inr (5, [.int rf, .ref qa, .ref qp, .ref qf, .ref qb, .ref qk, .ref qt, .int ex, .long eX, .long eZ])), (qk, fs_al X 64 (fs_il re im))] _ _ := hH
    refine lv_i2l hx hb dX5_pair_145 rfl ?_
    refine fs_last C hH 1 rfl (k := (2 * q)) (fs_im (a := 2) (b := q) rfl rfl) (by omega) (by decide) (ws' := [(h0, .inr (5, [.int rf, .ref qa, .ref qp, .ref qf, .ref qb, .ref qk, .ref qt, .int ex, .long eX, .long eZ])), (qk, fs_al X 64 (vp_updL (fs_il re im) (2 * q) (Int32.toInt64 (fs_sat ((Int32.toInt64 (re i)) - (fs_u re im q w back)) 2147483647))))]) rfl dX5_pair_146 (fun H locs hH => ?_)
    have hH : fs_H X A s [(h0, .inr (5, [.int rf, .ref qa, .ref qp, .ref qf, .ref qb, .ref qk, .ref qt, .int ex, .long eX, .long eZ])), (qk, fs_al X 64 (fs_il (upd re q (fs_sat (Int32.toInt64 (re i) - (fs_u re im q w back)) 2147483647)) im))] _ _ := hH.to (by rw [fs_il_ue])
    refine lv_aload_n hx hb dX5_pair_147 rfl (lv_at hl 4 rfl) ?_
    refine fs_get C in_5 hH 0 rfl rfl 5 (by decide) mw_312 (v := .ref qk) rfl dX5_pair_148 ?_
    refine lv_iconst (v := 2) hx hb dX5_pair_151 (by decide) ?_
    refine lv_iload_n hx hb dX5_pair_152 rfl (lv_at hl 6 rfl) ?_
    refine lv_imul hx hb dX5_pair_153 ?_
    refine lv_iconst (v := 1) hx hb dX5_pair_154 (by decide) ?_
    refine lv_iadd hx hb dX5_pair_155 ?_
    refine lv_aload_n hx hb dX5_pair_156 rfl (lv_at hl 4 rfl) ?_
    refine fs_get C in_5 hH 0 rfl rfl 5 (by decide) mw_312 (v := .ref qk) rfl dX5_pair_157 ?_
    refine lv_iconst (v := 2) hx hb dX5_pair_160 (by decide) ?_
    refine lv_iload_n hx hb dX5_pair_161 rfl (lv_at hl 5 rfl) ?_
    refine lv_imul hx hb dX5_pair_162 ?_
    refine lv_iconst (v := 1) hx hb dX5_pair_163 (by decide) ?_
    refine lv_iadd hx hb dX5_pair_164 ?_
    refine fs_lald C hH 1 rfl (k := ((2 * i) + 1)) (fs_ia (a := (2 * i)) (b := 1) (fs_im (a := 2) (b := i) rfl rfl) rfl) (by omega) (by decide) dX5_pair_165 ?_
    refine fs_topl (y := (Int32.toInt64 (im i))) (fs_il_o _ _ _) ?_
    refine lv_lload hx hb dX5_pair_166 (lv_at hl 0 rfl) ?_
    refine lv_lsub hx hb dX5_pair_168 ?_
    refine lv_ldc2 (v := 2147483647) hx hb hown (hts _ mw_342) dX5_pair_169 ?_
    refine fs_ci C hH (wr := [(h0, .inr (5, [.int rf, .ref qa, .ref qp, .ref qf, .ref qb, .ref qk, .ref qt, .int ex, .long eX, .long eZ])), (qk, fs_al X 64 (fs_il (upd re q (fs_sat (Int32.toInt64 (re i) - (fs_u re im q w back)) 2147483647)) im))]) [] [0, 1] rfl rfl (by decide) (by decide) (fs_rS (rest := [.int ((2 * (nI q)) + 1), .ref qk]) (As := [.long ((Int32.toInt64 (im i)) - (fs_v re im q w back)), .long 2147483647]) (n := 2) C hH (wc := []) [] (by decide) rfl (c_X5_within l X _ ((Int32.toInt64 (im i)) - (fs_v re im q w back)) 2147483647 ) rfl rfl mw_348 mw_346 mw_347 mw_6 (by decide +kernel) ⟨Nat.le_of_ble_eq_true rfl, Nat.le_of_ble_eq_true rfl⟩ rfl hl.1 rfl (Nat.le_of_ble_eq_true rfl) dX5_pair_172 ⟨Nat.le_of_ble_eq_true rfl, Nat.le_of_ble_eq_true rfl⟩) (fun r_10 u_11 H locs hr_12 hH => ?_)
    subst hr_12
    have hH : fs_H X A s [(h0, .inr (5, [.int rf, .ref qa, .ref qp, .ref qf, .ref qb, .ref qk, .ref qt, .int ex, .long eX, .long eZ])), (qk, fs_al X 64 (fs_il (upd re q (fs_sat (Int32.toInt64 (re i) - (fs_u re im q w back)) 2147483647)) im))] _ _ := hH
    refine lv_i2l hx hb dX5_pair_175 rfl ?_
    refine fs_last C hH 1 rfl (k := ((2 * q) + 1)) (fs_ia (a := (2 * q)) (b := 1) (fs_im (a := 2) (b := q) rfl rfl) rfl) (by omega) (by decide) (ws' := [(h0, .inr (5, [.int rf, .ref qa, .ref qp, .ref qf, .ref qb, .ref qk, .ref qt, .int ex, .long eX, .long eZ])), (qk, fs_al X 64 (vp_updL (fs_il (upd re q (fs_sat (Int32.toInt64 (re i) - (fs_u re im q w back)) 2147483647)) im) ((2 * q) + 1) (Int32.toInt64 (fs_sat ((Int32.toInt64 (im i)) - (fs_v re im q w back)) 2147483647))))]) rfl dX5_pair_176 (fun H locs hH => ?_)
    have hH : fs_H X A s [(h0, .inr (5, [.int rf, .ref qa, .ref qp, .ref qf, .ref qb, .ref qk, .ref qt, .int ex, .long eX, .long eZ])), (qk, fs_al X 64 (fs_il (upd re q (fs_sat (Int32.toInt64 (re i) - (fs_u re im q w back)) 2147483647)) (upd im q (fs_sat (Int32.toInt64 (im i) - (fs_v re im q w back)) 2147483647))))] _ _ := hH.to (by rw [fs_il_uo])
    refine lv_aload_n hx hb dX5_pair_177 rfl (lv_at hl 4 rfl) ?_
    refine fs_get C in_5 hH 0 rfl rfl 5 (by decide) mw_312 (v := .ref qk) rfl dX5_pair_178 ?_
    refine lv_iconst (v := 2) hx hb dX5_pair_181 (by decide) ?_
    refine lv_iload_n hx hb dX5_pair_182 rfl (lv_at hl 5 rfl) ?_
    refine lv_imul hx hb dX5_pair_183 ?_
    refine lv_aload_n hx hb dX5_pair_184 rfl (lv_at hl 4 rfl) ?_
    refine fs_get C in_5 hH 0 rfl rfl 5 (by decide) mw_312 (v := .ref qk) rfl dX5_pair_185 ?_
    refine lv_iconst (v := 2) hx hb dX5_pair_188 (by decide) ?_
    refine lv_iload_n hx hb dX5_pair_189 rfl (lv_at hl 5 rfl) ?_
    refine lv_imul hx hb dX5_pair_190 ?_
    refine fs_lald C hH 1 rfl (k := (2 * i)) (fs_im (a := 2) (b := i) rfl rfl) (by omega) (by decide) dX5_pair_191 ?_
    refine fs_topl (y := (Int32.toInt64 (re i))) (by rw [fs_il_e, fs_updn _ hne]) ?_
    refine lv_lload hx hb dX5_pair_192 (lv_at hl 1 rfl) ?_
    refine lv_ladd hx hb dX5_pair_194 ?_
    refine lv_ldc2 (v := 2147483647) hx hb hown (hts _ mw_342) dX5_pair_195 ?_
    refine fs_ci C hH (wr := [(h0, .inr (5, [.int rf, .ref qa, .ref qp, .ref qf, .ref qb, .ref qk, .ref qt, .int ex, .long eX, .long eZ])), (qk, fs_al X 64 (fs_il (upd re q (fs_sat (Int32.toInt64 (re i) - (fs_u re im q w back)) 2147483647)) (upd im q (fs_sat (Int32.toInt64 (im i) - (fs_v re im q w back)) 2147483647))))]) [] [0, 1] rfl rfl (by decide) (by decide) (fs_rS (rest := [.int (2 * (nI i)), .ref qk]) (As := [.long ((Int32.toInt64 (re i)) + (fs_u re im q w back)), .long 2147483647]) (n := 2) C hH (wc := []) [] (by decide) rfl (c_X5_within l X _ ((Int32.toInt64 (re i)) + (fs_u re im q w back)) 2147483647 ) rfl rfl mw_348 mw_346 mw_347 mw_6 (by decide +kernel) ⟨Nat.le_of_ble_eq_true rfl, Nat.le_of_ble_eq_true rfl⟩ rfl hl.1 rfl (Nat.le_of_ble_eq_true rfl) dX5_pair_198 ⟨Nat.le_of_ble_eq_true rfl, Nat.le_of_ble_eq_true rfl⟩) (fun r_13 u_14 H locs hr_15 hH => ?_)
    subst hr_15
    have hH : fs_H X A s [(h0, .inr (5, [.int rf, .ref qa, .ref qp, .ref qf, .ref qb, .ref qk, .ref qt, .int ex, .long eX, .long eZ])), (qk, fs_al X 64 (fs_il (upd re q (fs_sat (Int32.toInt64 (re i) - (fs_u re im q w back)) 2147483647)) (upd im q (fs_sat (Int32.toInt64 (im i) - (fs_v re im q w back)) 2147483647))))] _ _ := hH
    refine lv_i2l hx hb dX5_pair_201 rfl ?_
    refine fs_last C hH 1 rfl (k := (2 * i)) (fs_im (a := 2) (b := i) rfl rfl) (by omega) (by decide) (ws' := [(h0, .inr (5, [.int rf, .ref qa, .ref qp, .ref qf, .ref qb, .ref qk, .ref qt, .int ex, .long eX, .long eZ])), (qk, fs_al X 64 (vp_updL (fs_il (upd re q (fs_sat (Int32.toInt64 (re i) - (fs_u re im q w back)) 2147483647)) (upd im q (fs_sat (Int32.toInt64 (im i) - (fs_v re im q w back)) 2147483647))) (2 * i) (Int32.toInt64 (fs_sat ((Int32.toInt64 (re i)) + (fs_u re im q w back)) 2147483647))))]) rfl dX5_pair_202 (fun H locs hH => ?_)
    have hH : fs_H X A s [(h0, .inr (5, [.int rf, .ref qa, .ref qp, .ref qf, .ref qb, .ref qk, .ref qt, .int ex, .long eX, .long eZ])), (qk, fs_al X 64 (fs_il (upd (upd re q (fs_sat (Int32.toInt64 (re i) - (fs_u re im q w back)) 2147483647)) i (fs_sat (Int32.toInt64 (re i) + (fs_u re im q w back)) 2147483647)) (upd im q (fs_sat (Int32.toInt64 (im i) - (fs_v re im q w back)) 2147483647))))] _ _ := hH.to (by rw [fs_il_ue])
    refine lv_aload_n hx hb dX5_pair_203 rfl (lv_at hl 4 rfl) ?_
    refine fs_get C in_5 hH 0 rfl rfl 5 (by decide) mw_312 (v := .ref qk) rfl dX5_pair_204 ?_
    refine lv_iconst (v := 2) hx hb dX5_pair_207 (by decide) ?_
    refine lv_iload_n hx hb dX5_pair_208 rfl (lv_at hl 5 rfl) ?_
    refine lv_imul hx hb dX5_pair_209 ?_
    refine lv_iconst (v := 1) hx hb dX5_pair_210 (by decide) ?_
    refine lv_iadd hx hb dX5_pair_211 ?_
    refine lv_aload_n hx hb dX5_pair_212 rfl (lv_at hl 4 rfl) ?_
    refine fs_get C in_5 hH 0 rfl rfl 5 (by decide) mw_312 (v := .ref qk) rfl dX5_pair_213 ?_
    refine lv_iconst (v := 2) hx hb dX5_pair_216 (by decide) ?_
    refine lv_iload_n hx hb dX5_pair_217 rfl (lv_at hl 5 rfl) ?_
    refine lv_imul hx hb dX5_pair_218 ?_
    refine lv_iconst (v := 1) hx hb dX5_pair_219 (by decide) ?_
    refine lv_iadd hx hb dX5_pair_220 ?_
    refine fs_lald C hH 1 rfl (k := ((2 * i) + 1)) (fs_ia (a := (2 * i)) (b := 1) (fs_im (a := 2) (b := i) rfl rfl) rfl) (by omega) (by decide) dX5_pair_221 ?_
    refine fs_topl (y := (Int32.toInt64 (im i))) (by rw [fs_il_o, fs_updn _ hne]) ?_
    refine lv_lload hx hb dX5_pair_222 (lv_at hl 0 rfl) ?_
    refine lv_ladd hx hb dX5_pair_224 ?_
    refine lv_ldc2 (v := 2147483647) hx hb hown (hts _ mw_342) dX5_pair_225 ?_
    refine fs_ci C hH (wr := [(h0, .inr (5, [.int rf, .ref qa, .ref qp, .ref qf, .ref qb, .ref qk, .ref qt, .int ex, .long eX, .long eZ])), (qk, fs_al X 64 (fs_il (upd (upd re q (fs_sat (Int32.toInt64 (re i) - (fs_u re im q w back)) 2147483647)) i (fs_sat (Int32.toInt64 (re i) + (fs_u re im q w back)) 2147483647)) (upd im q (fs_sat (Int32.toInt64 (im i) - (fs_v re im q w back)) 2147483647))))]) [] [0, 1] rfl rfl (by decide) (by decide) (fs_rS (rest := [.int ((2 * (nI i)) + 1), .ref qk]) (As := [.long ((Int32.toInt64 (im i)) + (fs_v re im q w back)), .long 2147483647]) (n := 2) C hH (wc := []) [] (by decide) rfl (c_X5_within l X _ ((Int32.toInt64 (im i)) + (fs_v re im q w back)) 2147483647 ) rfl rfl mw_348 mw_346 mw_347 mw_6 (by decide +kernel) ⟨Nat.le_of_ble_eq_true rfl, Nat.le_of_ble_eq_true rfl⟩ rfl hl.1 rfl (Nat.le_of_ble_eq_true rfl) dX5_pair_228 ⟨Nat.le_of_ble_eq_true rfl, Nat.le_of_ble_eq_true rfl⟩) (fun r_16 u_17 H locs hr_18 hH => ?_)
    subst hr_18
    have hH : fs_H X A s [(h0, .inr (5, [.int rf, .ref qa, .ref qp, .ref qf, .ref qb, .ref qk, .ref qt, .int ex, .long eX, .long eZ])), (qk, fs_al X 64 (fs_il (upd (upd re q (fs_sat (Int32.toInt64 (re i) - (fs_u re im q w back)) 2147483647)) i (fs_sat (Int32.toInt64 (re i) + (fs_u re im q w back)) 2147483647)) (upd im q (fs_sat (Int32.toInt64 (im i) - (fs_v re im q w back)) 2147483647))))] _ _ := hH
    refine lv_i2l hx hb dX5_pair_231 rfl ?_
    refine fs_last C hH 1 rfl (k := ((2 * i) + 1)) (fs_ia (a := (2 * i)) (b := 1) (fs_im (a := 2) (b := i) rfl rfl) rfl) (by omega) (by decide) (ws' := [(h0, .inr (5, [.int rf, .ref qa, .ref qp, .ref qf, .ref qb, .ref qk, .ref qt, .int ex, .long eX, .long eZ])), (qk, fs_al X 64 (vp_updL (fs_il (upd (upd re q (fs_sat (Int32.toInt64 (re i) - (fs_u re im q w back)) 2147483647)) i (fs_sat (Int32.toInt64 (re i) + (fs_u re im q w back)) 2147483647)) (upd im q (fs_sat (Int32.toInt64 (im i) - (fs_v re im q w back)) 2147483647))) ((2 * i) + 1) (Int32.toInt64 (fs_sat ((Int32.toInt64 (im i)) + (fs_v re im q w back)) 2147483647))))]) rfl dX5_pair_232 (fun H locs hH => ?_)
    have hH : fs_H X A s [(h0, .inr (5, [.int rf, .ref qa, .ref qp, .ref qf, .ref qb, .ref qk, .ref qt, .int ex, .long eX, .long eZ])), (qk, fs_al X 64 (fs_il (upd (upd re q (fs_sat (Int32.toInt64 (re i) - (fs_u re im q w back)) 2147483647)) i (fs_sat (Int32.toInt64 (re i) + (fs_u re im q w back)) 2147483647)) (upd (upd im q (fs_sat (Int32.toInt64 (im i) - (fs_v re im q w back)) 2147483647)) i (fs_sat (Int32.toInt64 (im i) + (fs_v re im q w back)) 2147483647))))] _ _ := hH.to (by rw [fs_il_uo])
    have hH : fs_H X A s [(h0, .inr (5, [.int rf, .ref qa, .ref qp, .ref qf, .ref qb, .ref qk, .ref qt, .int ex, .long eX, .long eZ])), (qk, fs_al X 64 (fs_il (fs_xr re im i q w back) (fs_xi re im i q w back)))] _ _ := hH.to (by rw [fs_updC re (Ne.symm hne), fs_updC im (Ne.symm hne), fs_xr, fs_xi])
    exact fs_vret C hH () rfl trivial dX5_pair_233
  have hH : fs_H X A s [(h0, .inr (5, [.int rf, .ref qa, .ref qp, .ref qf, .ref qb, .ref qk, .ref qt, .int ex, .long eX, .long eZ])), (qk, fs_al X 64 (fs_il re im))] s.heap [] := hH
  refine lv_iload_n hx hb dX5_pair_0 rfl (lv_at hl 3 rfl) ?_
  refine lv_bipush (v := 8) hx hb dX5_pair_1 (by decide) ?_
  refine lv_icmp_gt (tgt := 16) hx hb dX5_pair_3 (by decide) (fun c_19 => ?_) (fun c_19 => ?_)
  · have hw8 : 8 < w := (nI_ltI (by omega) (by omega)).mp c_19
    refine lv_iload_n hx hb dX5_pair_16 rfl (lv_at hl 3 rfl) ?_
    refine lv_bipush (v := 8) hx hb dX5_pair_17 (by decide) ?_
    refine lv_isub hx hb dX5_pair_19 ?_
    refine fs_topi (y := (nI (w - 8))) (pk_sub (b := 8) (by omega)) ?_
    refine fs_cl C hH (wr := [(h0, .inr (5, [.int rf, .ref qa, .ref qp, .ref qf, .ref qb, .ref qk, .ref qt, .int ex, .long eX, .long eZ])), (qk, fs_al X 64 (fs_il re im))]) [] [0, 1] rfl rfl (by decide) (by decide) (fs_rS (rest := []) (As := [.int (nI (w - 8))]) (n := 1) C hH (wc := []) [] (by decide) rfl (c_X5_eighth l X _ (w - 8) (by omega)) rfl rfl mw_408 mw_406 mw_407 mw_6 (by decide +kernel) ⟨Nat.le_of_ble_eq_true rfl, Nat.le_of_ble_eq_true rfl⟩ rfl hl.1 rfl (Nat.le_of_ble_eq_true rfl) dX5_pair_20 ⟨Nat.le_of_ble_eq_true rfl, Nat.le_of_ble_eq_true rfl⟩) (fun r_20 u_21 H locs hr_22 hH => ?_)
    subst hr_22
    have hH : fs_H X A s [(h0, .inr (5, [.int rf, .ref qa, .ref qp, .ref qf, .ref qb, .ref qk, .ref qt, .int ex, .long eX, .long eZ])), (qk, fs_al X 64 (fs_il re im))] _ _ := hH
    refine lv_lneg hx hb dX5_pair_23 ?_
    refine fs_topl (y := (fs_cos w)) (by rw [fs_cos, if_neg (by omega)]) ?_
    refine lv_lstore (lv' := [(5, .long (fs_cos w)), (0, .ref h0), (1, .int (nI i)), (2, .int (nI q)), (3, .int (nI w)), (4, .int back)]) hx hb dX5_pair_24 hl (by decide) rfl (fun ls hl => ?_)
    refine lv_iload_n hx hb dX5_pair_26 rfl (lv_at hl 4 rfl) ?_
    refine lv_bipush (v := 8) hx hb dX5_pair_27 (by decide) ?_
    refine lv_icmp_gt (tgt := 39) hx hb dX5_pair_29 (by decide) (fun c_23 => ?_) (fun c_23 => ?_)
    · have hw8 : 8 < w := (nI_ltI (by omega) (by omega)).mp c_23
      refine lv_bipush (v := 16) hx hb dX5_pair_39 (by decide) ?_
      refine lv_iload_n hx hb dX5_pair_41 rfl (lv_at hl 4 rfl) ?_
      refine lv_isub hx hb dX5_pair_42 ?_
      refine fs_topi (y := (nI (16 - w))) (pk_sub (a := 16) (by omega)) ?_
      refine fs_cl C hH (wr := [(h0, .inr (5, [.int rf, .ref qa, .ref qp, .ref qf, .ref qb, .ref qk, .ref qt, .int ex, .long eX, .long eZ])), (qk, fs_al X 64 (fs_il re im))]) [] [0, 1] rfl rfl (by decide) (by decide) (fs_rS (rest := []) (As := [.int (nI (16 - w))]) (n := 1) C hH (wc := []) [] (by decide) rfl (c_X5_eighth l X _ (16 - w) (by omega)) rfl rfl mw_408 mw_406 mw_407 mw_6 (by decide +kernel) ⟨Nat.le_of_ble_eq_true rfl, Nat.le_of_ble_eq_true rfl⟩ rfl hl.1 rfl (Nat.le_of_ble_eq_true rfl) dX5_pair_43 ⟨Nat.le_of_ble_eq_true rfl, Nat.le_of_ble_eq_true rfl⟩) (fun r_24 u_25 H locs hr_26 hH => ?_)
      subst hr_26
      have hH : fs_H X A s [(h0, .inr (5, [.int rf, .ref qa, .ref qp, .ref qf, .ref qb, .ref qk, .ref qt, .int ex, .long eX, .long eZ])), (qk, fs_al X 64 (fs_il re im))] _ _ := hH
      refine fs_topl (y := (fs_sin w)) (by rw [fs_sin, if_neg (by omega)]) ?_
      refine lv_lstore (lv' := [(7, .long (fs_sin w)), (5, .long (fs_cos w)), (0, .ref h0), (1, .int (nI i)), (2, .int (nI q)), (3, .int (nI w)), (4, .int back)]) hx hb dX5_pair_46 hl (by decide) rfl (fun ls hl => ?_)
      refine lv_iload hx hb dX5_pair_48 (lv_at hl 6 rfl) ?_
      refine lv_if_eq (tgt := 59) hx hb dX5_pair_50 (by decide) (fun c_27 => ?_) (fun c_27 => ?_)
      · refine lv_lload hx hb dX5_pair_59 (lv_at hl 0 rfl) ?_
        refine fs_topl (y := (fs_ss w back)) (by rw [fs_ss, if_pos c_27]) ?_
        refine lv_lstore (lv' := [(7, .long (fs_ss w back)), (5, .long (fs_cos w)), (0, .ref h0), (1, .int (nI i)), (2, .int (nI q)), (3, .int (nI w)), (4, .int back)]) hx hb dX5_pair_61 hl (by decide) rfl (fun ls hl => ?_)
        exact K_63    _ _ hH ls (lv_sub hl [2, 3, 4, 1, 0] rfl)
      · refine lv_lload hx hb dX5_pair_53 (lv_at hl 0 rfl) ?_
        refine lv_lneg hx hb dX5_pair_55 ?_
        refine lv_goto (tgt := 61) hx hb dX5_pair_56 (by decide) ?_
        refine fs_topl (y := (fs_ss w back)) (by rw [fs_ss, if_neg c_27]) ?_
        refine lv_lstore (lv' := [(7, .long (fs_ss w back)), (5, .long (fs_cos w)), (0, .ref h0), (1, .int (nI i)), (2, .int (nI q)), (3, .int (nI w)), (4, .int back)]) hx hb dX5_pair_61 hl (by decide) rfl (fun ls hl => ?_)
        exact K_63    _ _ hH ls (lv_sub hl [2, 3, 4, 1, 0] rfl)
    · have hw8 : w ≤ 8 := Nat.le_of_not_lt fun z => c_23 ((nI_ltI (a := 8) (b := w) (by omega) (by omega)).mpr z)
      refine lv_iload_n hx hb dX5_pair_32 rfl (lv_at hl 4 rfl) ?_
      refine fs_cl C hH (wr := [(h0, .inr (5, [.int rf, .ref qa, .ref qp, .ref qf, .ref qb, .ref qk, .ref qt, .int ex, .long eX, .long eZ])), (qk, fs_al X 64 (fs_il re im))]) [] [0, 1] rfl rfl (by decide) (by decide) (fs_rS (rest := []) (As := [.int (nI w)]) (n := 1) C hH (wc := []) [] (by decide) rfl (c_X5_eighth l X _ w (by omega)) rfl rfl mw_408 mw_406 mw_407 mw_6 (by decide +kernel) ⟨Nat.le_of_ble_eq_true rfl, Nat.le_of_ble_eq_true rfl⟩ rfl hl.1 rfl (Nat.le_of_ble_eq_true rfl) dX5_pair_33 ⟨Nat.le_of_ble_eq_true rfl, Nat.le_of_ble_eq_true rfl⟩) (fun r_28 u_29 H locs hr_30 hH => ?_)
      subst hr_30
      have hH : fs_H X A s [(h0, .inr (5, [.int rf, .ref qa, .ref qp, .ref qf, .ref qb, .ref qk, .ref qt, .int ex, .long eX, .long eZ])), (qk, fs_al X 64 (fs_il re im))] _ _ := hH
      refine lv_goto (tgt := 46) hx hb dX5_pair_36 (by decide) ?_
      refine fs_topl (y := (fs_sin w)) (by rw [fs_sin, if_pos hw8]) ?_
      refine lv_lstore (lv' := [(7, .long (fs_sin w)), (5, .long (fs_cos w)), (0, .ref h0), (1, .int (nI i)), (2, .int (nI q)), (3, .int (nI w)), (4, .int back)]) hx hb dX5_pair_46 hl (by decide) rfl (fun ls hl => ?_)
      refine lv_iload hx hb dX5_pair_48 (lv_at hl 6 rfl) ?_
      refine lv_if_eq (tgt := 59) hx hb dX5_pair_50 (by decide) (fun c_31 => ?_) (fun c_31 => ?_)
      · refine lv_lload hx hb dX5_pair_59 (lv_at hl 0 rfl) ?_
        refine fs_topl (y := (fs_ss w back)) (by rw [fs_ss, if_pos c_31]) ?_
        refine lv_lstore (lv' := [(7, .long (fs_ss w back)), (5, .long (fs_cos w)), (0, .ref h0), (1, .int (nI i)), (2, .int (nI q)), (3, .int (nI w)), (4, .int back)]) hx hb dX5_pair_61 hl (by decide) rfl (fun ls hl => ?_)
        exact K_63    _ _ hH ls (lv_sub hl [2, 3, 4, 1, 0] rfl)
      · refine lv_lload hx hb dX5_pair_53 (lv_at hl 0 rfl) ?_
        refine lv_lneg hx hb dX5_pair_55 ?_
        refine lv_goto (tgt := 61) hx hb dX5_pair_56 (by decide) ?_
        refine fs_topl (y := (fs_ss w back)) (by rw [fs_ss, if_neg c_31]) ?_
        refine lv_lstore (lv' := [(7, .long (fs_ss w back)), (5, .long (fs_cos w)), (0, .ref h0), (1, .int (nI i)), (2, .int (nI q)), (3, .int (nI w)), (4, .int back)]) hx hb dX5_pair_61 hl (by decide) rfl (fun ls hl => ?_)
        exact K_63    _ _ hH ls (lv_sub hl [2, 3, 4, 1, 0] rfl)
  · have hw8 : w ≤ 8 := Nat.le_of_not_lt fun z => c_19 ((nI_ltI (a := 8) (b := w) (by omega) (by omega)).mpr z)
    refine lv_bipush (v := 8) hx hb dX5_pair_6 (by decide) ?_
    refine lv_iload_n hx hb dX5_pair_8 rfl (lv_at hl 3 rfl) ?_
    refine lv_isub hx hb dX5_pair_9 ?_
    refine fs_topi (y := (nI (8 - w))) (pk_sub (a := 8) hw8) ?_
    refine fs_cl C hH (wr := [(h0, .inr (5, [.int rf, .ref qa, .ref qp, .ref qf, .ref qb, .ref qk, .ref qt, .int ex, .long eX, .long eZ])), (qk, fs_al X 64 (fs_il re im))]) [] [0, 1] rfl rfl (by decide) (by decide) (fs_rS (rest := []) (As := [.int (nI (8 - w))]) (n := 1) C hH (wc := []) [] (by decide) rfl (c_X5_eighth l X _ (8 - w) (by omega)) rfl rfl mw_408 mw_406 mw_407 mw_6 (by decide +kernel) ⟨Nat.le_of_ble_eq_true rfl, Nat.le_of_ble_eq_true rfl⟩ rfl hl.1 rfl (Nat.le_of_ble_eq_true rfl) dX5_pair_10 ⟨Nat.le_of_ble_eq_true rfl, Nat.le_of_ble_eq_true rfl⟩) (fun r_32 u_33 H locs hr_34 hH => ?_)
    subst hr_34
    have hH : fs_H X A s [(h0, .inr (5, [.int rf, .ref qa, .ref qp, .ref qf, .ref qb, .ref qk, .ref qt, .int ex, .long eX, .long eZ])), (qk, fs_al X 64 (fs_il re im))] _ _ := hH
    refine lv_goto (tgt := 24) hx hb dX5_pair_13 (by decide) ?_
    refine fs_topl (y := (fs_cos w)) (by rw [fs_cos, if_pos hw8]) ?_
    refine lv_lstore (lv' := [(5, .long (fs_cos w)), (0, .ref h0), (1, .int (nI i)), (2, .int (nI q)), (3, .int (nI w)), (4, .int back)]) hx hb dX5_pair_24 hl (by decide) rfl (fun ls hl => ?_)
    refine lv_iload_n hx hb dX5_pair_26 rfl (lv_at hl 4 rfl) ?_
    refine lv_bipush (v := 8) hx hb dX5_pair_27 (by decide) ?_
    refine lv_icmp_gt (tgt := 39) hx hb dX5_pair_29 (by decide) (fun c_35 => ?_) (fun c_35 => ?_)
    · have hw8 : 8 < w := (nI_ltI (by omega) (by omega)).mp c_35
      refine lv_bipush (v := 16) hx hb dX5_pair_39 (by decide) ?_
      refine lv_iload_n hx hb dX5_pair_41 rfl (lv_at hl 4 rfl) ?_
      refine lv_isub hx hb dX5_pair_42 ?_
      refine fs_topi (y := (nI (16 - w))) (pk_sub (a := 16) (by omega)) ?_
      refine fs_cl C hH (wr := [(h0, .inr (5, [.int rf, .ref qa, .ref qp, .ref qf, .ref qb, .ref qk, .ref qt, .int ex, .long eX, .long eZ])), (qk, fs_al X 64 (fs_il re im))]) [] [0, 1] rfl rfl (by decide) (by decide) (fs_rS (rest := []) (As := [.int (nI (16 - w))]) (n := 1) C hH (wc := []) [] (by decide) rfl (c_X5_eighth l X _ (16 - w) (by omega)) rfl rfl mw_408 mw_406 mw_407 mw_6 (by decide +kernel) ⟨Nat.le_of_ble_eq_true rfl, Nat.le_of_ble_eq_true rfl⟩ rfl hl.1 rfl (Nat.le_of_ble_eq_true rfl) dX5_pair_43 ⟨Nat.le_of_ble_eq_true rfl, Nat.le_of_ble_eq_true rfl⟩) (fun r_36 u_37 H locs hr_38 hH => ?_)
      subst hr_38
      have hH : fs_H X A s [(h0, .inr (5, [.int rf, .ref qa, .ref qp, .ref qf, .ref qb, .ref qk, .ref qt, .int ex, .long eX, .long eZ])), (qk, fs_al X 64 (fs_il re im))] _ _ := hH
      refine fs_topl (y := (fs_sin w)) (by rw [fs_sin, if_neg (by omega)]) ?_
      refine lv_lstore (lv' := [(7, .long (fs_sin w)), (5, .long (fs_cos w)), (0, .ref h0), (1, .int (nI i)), (2, .int (nI q)), (3, .int (nI w)), (4, .int back)]) hx hb dX5_pair_46 hl (by decide) rfl (fun ls hl => ?_)
      refine lv_iload hx hb dX5_pair_48 (lv_at hl 6 rfl) ?_
      refine lv_if_eq (tgt := 59) hx hb dX5_pair_50 (by decide) (fun c_39 => ?_) (fun c_39 => ?_)
      · refine lv_lload hx hb dX5_pair_59 (lv_at hl 0 rfl) ?_
        refine fs_topl (y := (fs_ss w back)) (by rw [fs_ss, if_pos c_39]) ?_
        refine lv_lstore (lv' := [(7, .long (fs_ss w back)), (5, .long (fs_cos w)), (0, .ref h0), (1, .int (nI i)), (2, .int (nI q)), (3, .int (nI w)), (4, .int back)]) hx hb dX5_pair_61 hl (by decide) rfl (fun ls hl => ?_)
        exact K_63    _ _ hH ls (lv_sub hl [2, 3, 4, 1, 0] rfl)
      · refine lv_lload hx hb dX5_pair_53 (lv_at hl 0 rfl) ?_
        refine lv_lneg hx hb dX5_pair_55 ?_
        refine lv_goto (tgt := 61) hx hb dX5_pair_56 (by decide) ?_
        refine fs_topl (y := (fs_ss w back)) (by rw [fs_ss, if_neg c_39]) ?_
        refine lv_lstore (lv' := [(7, .long (fs_ss w back)), (5, .long (fs_cos w)), (0, .ref h0), (1, .int (nI i)), (2, .int (nI q)), (3, .int (nI w)), (4, .int back)]) hx hb dX5_pair_61 hl (by decide) rfl (fun ls hl => ?_)
        exact K_63    _ _ hH ls (lv_sub hl [2, 3, 4, 1, 0] rfl)
    · have hw8 : w ≤ 8 := Nat.le_of_not_lt fun z => c_35 ((nI_ltI (a := 8) (b := w) (by omega) (by omega)).mpr z)
      refine lv_iload_n hx hb dX5_pair_32 rfl (lv_at hl 4 rfl) ?_
      refine fs_cl C hH (wr := [(h0, .inr (5, [.int rf, .ref qa, .ref qp, .ref qf, .ref qb, .ref qk, .ref qt, .int ex, .long eX, .long eZ])), (qk, fs_al X 64 (fs_il re im))]) [] [0, 1] rfl rfl (by decide) (by decide) (fs_rS (rest := []) (As := [.int (nI w)]) (n := 1) C hH (wc := []) [] (by decide) rfl (c_X5_eighth l X _ w (by omega)) rfl rfl mw_408 mw_406 mw_407 mw_6 (by decide +kernel) ⟨Nat.le_of_ble_eq_true rfl, Nat.le_of_ble_eq_true rfl⟩ rfl hl.1 rfl (Nat.le_of_ble_eq_true rfl) dX5_pair_33 ⟨Nat.le_of_ble_eq_true rfl, Nat.le_of_ble_eq_true rfl⟩) (fun r_40 u_41 H locs hr_42 hH => ?_)
      subst hr_42
      have hH : fs_H X A s [(h0, .inr (5, [.int rf, .ref qa, .ref qp, .ref qf, .ref qb, .ref qk, .ref qt, .int ex, .long eX, .long eZ])), (qk, fs_al X 64 (fs_il re im))] _ _ := hH
      refine lv_goto (tgt := 46) hx hb dX5_pair_36 (by decide) ?_
      refine fs_topl (y := (fs_sin w)) (by rw [fs_sin, if_pos hw8]) ?_
      refine lv_lstore (lv' := [(7, .long (fs_sin w)), (5, .long (fs_cos w)), (0, .ref h0), (1, .int (nI i)), (2, .int (nI q)), (3, .int (nI w)), (4, .int back)]) hx hb dX5_pair_46 hl (by decide) rfl (fun ls hl => ?_)
      refine lv_iload hx hb dX5_pair_48 (lv_at hl 6 rfl) ?_
      refine lv_if_eq (tgt := 59) hx hb dX5_pair_50 (by decide) (fun c_43 => ?_) (fun c_43 => ?_)
      · refine lv_lload hx hb dX5_pair_59 (lv_at hl 0 rfl) ?_
        refine fs_topl (y := (fs_ss w back)) (by rw [fs_ss, if_pos c_43]) ?_
        refine lv_lstore (lv' := [(7, .long (fs_ss w back)), (5, .long (fs_cos w)), (0, .ref h0), (1, .int (nI i)), (2, .int (nI q)), (3, .int (nI w)), (4, .int back)]) hx hb dX5_pair_61 hl (by decide) rfl (fun ls hl => ?_)
        exact K_63    _ _ hH ls (lv_sub hl [2, 3, 4, 1, 0] rfl)
      · refine lv_lload hx hb dX5_pair_53 (lv_at hl 0 rfl) ?_
        refine lv_lneg hx hb dX5_pair_55 ?_
        refine lv_goto (tgt := 61) hx hb dX5_pair_56 (by decide) ?_
        refine fs_topl (y := (fs_ss w back)) (by rw [fs_ss, if_neg c_43]) ?_
        refine lv_lstore (lv' := [(7, .long (fs_ss w back)), (5, .long (fs_cos w)), (0, .ref h0), (1, .int (nI i)), (2, .int (nI q)), (3, .int (nI w)), (4, .int back)]) hx hb dX5_pair_61 hl (by decide) rfl (fun ls hl => ?_)
        exact K_63    _ _ hH ls (lv_sub hl [2, 3, 4, 1, 0] rfl)
set_option maxHeartbeats 4000000 in
set_option maxRecDepth 100000 in
theorem c_X5_transform (l : Launch) (X : fs_X) (sz : Nat) (h0 : Nat) (qa : Nat) (qp : Nat) (qf : Nat) (qb : Nat) (qk : Nat) (qt : Nat) (rf : Int32) (eX : Int64) (eZ : Int64) (S : fs_K) (t9 : Nat → Int64) (m0 : Int32) (back : Int32)  : fs_M l X yX5_transform cX5_transform 6 (some .int) ({ frames := 2, cells := 0, slots := 0, locals := 59 }) [.ref h0, .int m0, .int back] [(h0, .inr (5, [.int rf, .ref qa, .ref qp, .ref qf, .ref qb, .ref qk, .ref qt, .int S.2.2, .long eX, .long eZ])), (qk, fs_al X 64 (fs_il S.1 S.2.1)), (qt, fs_al X 64 t9)] sz (fs_Qi X (fun r (u : Option (Nat → Int64)) => (∀ w9, u = some w9 → r = ((fs_tr (Int32.toNatClampNeg m0) back S (Int32.toNatClampNeg m0)).2.2) ∧ (¬ m0 < 0 ∧ m0 ≤ 5)) ∧ (u = none → ¬ (¬ m0 < 0 ∧ m0 ≤ 5))) (fun u => match u with | some w9 => [(h0, .inr (5, [.int 0, .ref qa, .ref qp, .ref qf, .ref qb, .ref qk, .ref qt, .int ((fs_tr (Int32.toNatClampNeg m0) back S (Int32.toNatClampNeg m0)).2.2), .long eX, .long eZ])), (qk, fs_al X 64 (fs_il (fs_tr (Int32.toNatClampNeg m0) back S (Int32.toNatClampNeg m0)).1 (fs_tr (Int32.toNatClampNeg m0) back S (Int32.toNatClampNeg m0)).2.1)), (qt, fs_al X 64 w9)] | none => [(h0, .inr (5, [.int 1, .ref qa, .ref qp, .ref qf, .ref qb, .ref qk, .ref qt, .int S.2.2, .long eX, .long eZ])), (qk, fs_al X 64 (fs_il S.1 S.2.1)), (qt, fs_al X 64 t9)])) 0 0 := by
  refine fs_ofW (by decide) (Nat.le_of_ble_eq_true rfl) ?_
  intro p e s m args below meth c A ls C hH hl
  have C : fs_At X A p s m args meth c cX5_transform 6 (some .int) RX5 "transform" := C
  have hx := C.1
  have hb := C.2.1
  have hown := C.2.2.2.2.1
  have hts := C.2.2.2.2.2.1
  have hl : lv_has ls 6 [(0, .ref h0), (1, .int m0), (2, .int back)] := hl
  have K_124 : ∀ (n : Nat) (mm : Nat) (i : Nat) (tt : Nat → Int64), (mm < 6) → (m0 = nI mm) → (¬ m0 < 0 ∧ m0 ≤ 5) → (i ≤ mm) → (mm < i + n) → ∀ (H : Heap) (locs : List Loc), fs_H X A s [(h0, .inr (5, [.int 0, .ref qa, .ref qp, .ref qf, .ref qb, .ref qk, .ref qt, .int ((fs_tr mm back S i).2.2), .long eX, .long eZ])), (qk, fs_al X 64 (fs_il (fs_tr mm back S i).1 (fs_tr mm back S i).2.1)), (qt, fs_al X 64 tt)] H locs → ∀ (ls : Array Slot), lv_has ls 6 [(0, .ref h0), (2, .int back), (3, .int (nI (2 ^ mm))), (4, .int (nI (2 ^ i)))] → W p l e ({ frames := 2, cells := 0, slots := 0, locals := 59 }) s m args below meth c H locs 0 0 (MQ below (fs_Qi X (fun r (u : Option (Nat → Int64)) => (∀ w9, u = some w9 → r = ((fs_tr (Int32.toNatClampNeg m0) back S (Int32.toNatClampNeg m0)).2.2) ∧ (¬ m0 < 0 ∧ m0 ≤ 5)) ∧ (u = none → ¬ (¬ m0 < 0 ∧ m0 ≤ 5))) (fun u => match u with | some w9 => [(h0, .inr (5, [.int 0, .ref qa, .ref qp, .ref qf, .ref qb, .ref qk, .ref qt, .int ((fs_tr (Int32.toNatClampNeg m0) back S (Int32.toNatClampNeg m0)).2.2), .long eX, .long eZ])), (qk, fs_al X 64 (fs_il (fs_tr (Int32.toNatClampNeg m0) back S (Int32.toNatClampNeg m0)).1 (fs_tr (Int32.toNatClampNeg m0) back S (Int32.toNatClampNeg m0)).2.1)), (qt, fs_al X 64 w9)] | none => [(h0, .inr (5, [.int 1, .ref qa, .ref qp, .ref qf, .ref qb, .ref qk, .ref qt, .int S.2.2, .long eX, .long eZ])), (qk, fs_al X 64 (fs_il S.1 S.2.1)), (qt, fs_al X 64 t9)]) A) args s 0 0 A) (F0 m 124 ls []) := by
    intro n
    induction n with
    | zero => intro mm i tt hmm hm0 hok hi hfu; exact absurd hfu (by omega)
    | succ n ih_124 =>
      intro mm i tt hmm hm0 hok hi hfu H locs hH ls hl
      have hp := fs_pw4 mm hmm
      have K_138 : ∀ (n : Nat) (k : Nat), (i < mm) → (k ≤ 2 ^ mm) → (2 ^ mm < k + n) → ∀ (H : Heap) (locs : List Loc), fs_H X A s [(h0, .inr (5, [.int 0, .ref qa, .ref qp, .ref qf, .ref qb, .ref qk, .ref qt, .int ((fs_low (2 ^ mm) (fs_low (2 ^ mm) (fs_tr mm back S i))).2.2), .long eX, .long eZ])), (qk, fs_al X 64 (fs_il (fs_cr i back (fs_low (2 ^ mm) (fs_low (2 ^ mm) (fs_tr mm back S i))).1 (fs_low (2 ^ mm) (fs_low (2 ^ mm) (fs_tr mm back S i))).2.1 k).1 (fs_cr i back (fs_low (2 ^ mm) (fs_low (2 ^ mm) (fs_tr mm back S i))).1 (fs_low (2 ^ mm) (fs_low (2 ^ mm) (fs_tr mm back S i))).2.1 k).2)), (qt, fs_al X 64 tt)] H locs → ∀ (ls : Array Slot), lv_has ls 6 [(0, .ref h0), (2, .int back), (3, .int (nI (2 ^ mm))), (4, .int (nI (2 ^ i))), (5, .int (nI k))] → W p l e ({ frames := 2, cells := 0, slots := 0, locals := 59 }) s m args below meth c H locs 0 0 (MQ below (fs_Qi X (fun r (u : Option (Nat → Int64)) => (∀ w9, u = some w9 → r = ((fs_tr (Int32.toNatClampNeg m0) back S (Int32.toNatClampNeg m0)).2.2) ∧ (¬ m0 < 0 ∧ m0 ≤ 5)) ∧ (u = none → ¬ (¬ m0 < 0 ∧ m0 ≤ 5))) (fun u => match u with | some w9 => [(h0, .inr (5, [.int 0, .ref qa, .ref qp, .ref qf, .ref qb, .ref qk, .ref qt, .int ((fs_tr (Int32.toNatClampNeg m0) back S (Int32.toNatClampNeg m0)).2.2), .long eX, .long eZ])), (qk, fs_al X 64 (fs_il (fs_tr (Int32.toNatClampNeg m0) back S (Int32.toNatClampNeg m0)).1 (fs_tr (Int32.toNatClampNeg m0) back S (Int32.toNatClampNeg m0)).2.1)), (qt, fs_al X 64 w9)] | none => [(h0, .inr (5, [.int 1, .ref qa, .ref qp, .ref qf, .ref qb, .ref qk, .ref qt, .int S.2.2, .long eX, .long eZ])), (qk, fs_al X 64 (fs_il S.1 S.2.1)), (qt, fs_al X 64 t9)]) A) args s 0 0 A) (F0 m 138 ls []) := by
        intro n
        induction n with
        | zero => intro k him hk hfu; exact absurd hfu (by omega)
        | succ n ih_138 =>
          intro k him hk hfu H locs hH ls hl
          refine lv_iload hx hb dX5_transform_138 (lv_at hl 4 rfl) ?_
          refine lv_iload_n hx hb dX5_transform_140 rfl (lv_at hl 2 rfl) ?_
          refine lv_icmp_ge (tgt := 183) hx hb dX5_transform_141 (by decide) (fun c_1 => ?_) (fun c_1 => ?_)
          · have hge := fs_geT (a := k) (b := 2 ^ mm) (by omega) (by omega) c_1
            have hkn : k = 2 ^ mm := by omega
            have hH : fs_H X A s [(h0, .inr (5, [.int 0, .ref qa, .ref qp, .ref qf, .ref qb, .ref qk, .ref qt, .int ((fs_tr mm back S (i + 1)).2.2), .long eX, .long eZ])), (qk, fs_al X 64 (fs_il (fs_tr mm back S (i + 1)).1 (fs_tr mm back S (i + 1)).2.1)), (qt, fs_al X 64 tt)] _ _ := hH.to (by rw [hkn, fs_tr, fs_pass])
            refine lv_iconst (v := 2) hx hb dX5_transform_183 (by decide) ?_
            refine lv_iload hx hb dX5_transform_184 (lv_at hl 3 rfl) ?_
            refine lv_imul hx hb dX5_transform_186 ?_
            refine fs_topi (y := (nI (2 ^ (i + 1)))) ((fs_pw2 i (by omega)).2) ?_
            refine lv_istore (lv' := [(4, .int (nI (2 ^ (i + 1)))), (0, .ref h0), (2, .int back), (3, .int (nI (2 ^ mm))), (5, .int (nI k))]) hx hb dX5_transform_187 hl (by decide) rfl (fun ls hl => ?_)
            refine lv_goto (tgt := 124) hx hb dX5_transform_189 (by decide) ?_
            exact ih_124 mm (i + 1) tt hmm hm0 hok (by omega) (by omega) _ _ hH ls (lv_sub hl [1, 2, 3, 0] rfl)
          · have hlt := fs_geF (a := k) (b := 2 ^ mm) (by omega) (by omega) c_1
            refine lv_iload hx hb dX5_transform_144 (lv_at hl 4 rfl) ?_
            refine lv_iload hx hb dX5_transform_146 (lv_at hl 3 rfl) ?_
            refine lv_idiv hx hb dX5_transform_148 (fs_pwn i (by omega)) ?_
            refine lv_iconst (v := 2) hx hb dX5_transform_149 (by decide) ?_
            refine lv_irem hx hb dX5_transform_150 (by decide) ?_
            refine lv_if_ne (tgt := 177) hx hb dX5_transform_151 (by decide) (fun c_2 => ?_) (fun c_2 => ?_)
            · have hc : ¬ k / 2 ^ i % 2 = 0 := fun z => c_2 ((fs_div1 i (by omega) k (by omega)).mpr z)
              have hH : fs_H X A s [(h0, .inr (5, [.int 0, .ref qa, .ref qp, .ref qf, .ref qb, .ref qk, .ref qt, .int ((fs_low (2 ^ mm) (fs_low (2 ^ mm) (fs_tr mm back S i))).2.2), .long eX, .long eZ])), (qk, fs_al X 64 (fs_il (fs_cr i back (fs_low (2 ^ mm) (fs_low (2 ^ mm) (fs_tr mm back S i))).1 (fs_low (2 ^ mm) (fs_low (2 ^ mm) (fs_tr mm back S i))).2.1 (k + 1)).1 (fs_cr i back (fs_low (2 ^ mm) (fs_low (2 ^ mm) (fs_tr mm back S i))).1 (fs_low (2 ^ mm) (fs_low (2 ^ mm) (fs_tr mm back S i))).2.1 (k + 1)).2)), (qt, fs_al X 64 tt)] _ _ := hH.to (by rw [fs_crF hc])
              refine lv_iinc (v := (nI (k + 1))) (lv' := [(5, .int (nI (k + 1))), (0, .ref h0), (2, .int back), (3, .int (nI (2 ^ mm))), (4, .int (nI (2 ^ i)))]) hx hb dX5_transform_177 hl (k := 4) rfl (nI_1 k) (by decide) rfl (fun ls hl => ?_)
              refine lv_goto (tgt := 138) hx hb dX5_transform_180 (by decide) ?_
              exact ih_138 (k + 1) him (by omega) (by omega) _ _ hH ls (lv_sub hl [1, 2, 3, 4, 0] rfl)
            · have hc := (fs_div1 i (by omega) k (by omega)).mp c_2
              have htop := fs_top mm hmm i him k hlt hc
              have hpi := fs_pw4 i (by omega)
              refine lv_aload_n hx hb dX5_transform_154 rfl (lv_at hl 0 rfl) ?_
              refine lv_iload hx hb dX5_transform_155 (lv_at hl 4 rfl) ?_
              refine lv_iload hx hb dX5_transform_157 (lv_at hl 4 rfl) ?_
              refine lv_iload hx hb dX5_transform_159 (lv_at hl 3 rfl) ?_
              refine lv_iadd hx hb dX5_transform_161 ?_
              refine fs_topi (y := (nI (k + 2 ^ i))) (nI_add k (2 ^ i)) ?_
              refine lv_iload hx hb dX5_transform_162 (lv_at hl 4 rfl) ?_
              refine lv_iload hx hb dX5_transform_164 (lv_at hl 3 rfl) ?_
              refine lv_irem hx hb dX5_transform_166 (fs_pwn i (by omega)) ?_
              refine lv_bipush (v := 16) hx hb dX5_transform_167 (by decide) ?_
              refine lv_imul hx hb dX5_transform_169 ?_
              refine lv_iload hx hb dX5_transform_170 (lv_at hl 3 rfl) ?_
              refine lv_idiv hx hb dX5_transform_172 (fs_pwn i (by omega)) ?_
              refine fs_topi (y := (nI (k % 2 ^ i * 16 / 2 ^ i))) (fs_div2 i (by omega) k (by omega)) ?_
              refine lv_iload_n hx hb dX5_transform_173 rfl (lv_at hl 1 rfl) ?_
              refine fs_cv C hH (wr := [(qt, fs_al X 64 tt)]) [0, 1] [2] rfl rfl (by decide) (by decide) (fs_rV (rest := []) (As := [.int (nI k), .int (nI (k + 2 ^ i)), .int (nI (k % 2 ^ i * 16 / 2 ^ i)), .int back]) (n := 4) (q0 := 0) (ci := 5) C hH (wc := [(h0, .inr (5, [.int 0, .ref qa, .ref qp, .ref qf, .ref qb, .ref qk, .ref qt, .int ((fs_low (2 ^ mm) (fs_low (2 ^ mm) (fs_tr mm back S i))).2.2), .long eX, .long eZ])), (qk, fs_al X 64 (fs_il (fs_cr i back (fs_low (2 ^ mm) (fs_low (2 ^ mm) (fs_tr mm back S i))).1 (fs_low (2 ^ mm) (fs_low (2 ^ mm) (fs_tr mm back S i))).2.1 k).1 (fs_cr i back (fs_low (2 ^ mm) (fs_low (2 ^ mm) (fs_tr mm back S i))).1 (fs_low (2 ^ mm) (fs_low (2 ^ mm) (fs_tr mm back S i))).2.1 k).2))]) [0, 1] (by decide) rfl (c_X5_pair l X _ h0 qa qp qf qb qk qt 0 ((fs_low (2 ^ mm) (fs_low (2 ^ mm) (fs_tr mm back S i))).2.2) eX eZ ((fs_cr i back (fs_low (2 ^ mm) (fs_low (2 ^ mm) (fs_tr mm back S i))).1 (fs_low (2 ^ mm) (fs_low (2 ^ mm) (fs_tr mm back S i))).2.1 k).1) ((fs_cr i back (fs_low (2 ^ mm) (fs_low (2 ^ mm) (fs_tr mm back S i))).1 (fs_low (2 ^ mm) (fs_low (2 ^ mm) (fs_tr mm back S i))).2.1 k).2) k (k + 2 ^ i) (k % 2 ^ i * 16 / 2 ^ i) back (by omega) (by omega) (by omega) (fs_wv _ (by omega) _ (by omega))) rfl rfl rfl rfl mw_405 mw_403 mw_404 mw_496 mw_6 (by decide +kernel) ⟨Nat.le_of_ble_eq_true rfl, Nat.le_of_ble_eq_true rfl⟩ rfl hl.1 rfl (Nat.le_of_ble_eq_true rfl) dX5_transform_174 ⟨Nat.le_of_ble_eq_true rfl, Nat.le_of_ble_eq_true rfl⟩) (fun u_4 H locs hr_5 hH => ?_)
              have hH : fs_H X A s [(h0, .inr (5, [.int 0, .ref qa, .ref qp, .ref qf, .ref qb, .ref qk, .ref qt, .int ((fs_low (2 ^ mm) (fs_low (2 ^ mm) (fs_tr mm back S i))).2.2), .long eX, .long eZ])), (qk, fs_al X 64 (fs_il (fs_xr ((fs_cr i back (fs_low (2 ^ mm) (fs_low (2 ^ mm) (fs_tr mm back S i))).1 (fs_low (2 ^ mm) (fs_low (2 ^ mm) (fs_tr mm back S i))).2.1 k).1) ((fs_cr i back (fs_low (2 ^ mm) (fs_low (2 ^ mm) (fs_tr mm back S i))).1 (fs_low (2 ^ mm) (fs_low (2 ^ mm) (fs_tr mm back S i))).2.1 k).2) k (k + 2 ^ i) (k % 2 ^ i * 16 / 2 ^ i) back) (fs_xi ((fs_cr i back (fs_low (2 ^ mm) (fs_low (2 ^ mm) (fs_tr mm back S i))).1 (fs_low (2 ^ mm) (fs_low (2 ^ mm) (fs_tr mm back S i))).2.1 k).1) ((fs_cr i back (fs_low (2 ^ mm) (fs_low (2 ^ mm) (fs_tr mm back S i))).1 (fs_low (2 ^ mm) (fs_low (2 ^ mm) (fs_tr mm back S i))).2.1 k).2) k (k + 2 ^ i) (k % 2 ^ i * 16 / 2 ^ i) back))), (qt, fs_al X 64 tt)] _ _ := hH.sub [1, 2, 0] (by decide) rfl
              have hH : fs_H X A s [(h0, .inr (5, [.int 0, .ref qa, .ref qp, .ref qf, .ref qb, .ref qk, .ref qt, .int ((fs_low (2 ^ mm) (fs_low (2 ^ mm) (fs_tr mm back S i))).2.2), .long eX, .long eZ])), (qk, fs_al X 64 (fs_il (fs_cr i back (fs_low (2 ^ mm) (fs_low (2 ^ mm) (fs_tr mm back S i))).1 (fs_low (2 ^ mm) (fs_low (2 ^ mm) (fs_tr mm back S i))).2.1 (k + 1)).1 (fs_cr i back (fs_low (2 ^ mm) (fs_low (2 ^ mm) (fs_tr mm back S i))).1 (fs_low (2 ^ mm) (fs_low (2 ^ mm) (fs_tr mm back S i))).2.1 (k + 1)).2)), (qt, fs_al X 64 tt)] _ _ := hH.to (by rw [fs_crT hc])
              refine lv_iinc (v := (nI (k + 1))) (lv' := [(5, .int (nI (k + 1))), (0, .ref h0), (2, .int back), (3, .int (nI (2 ^ mm))), (4, .int (nI (2 ^ i)))]) hx hb dX5_transform_177 hl (k := 4) rfl (nI_1 k) (by decide) rfl (fun ls hl => ?_)
              refine lv_goto (tgt := 138) hx hb dX5_transform_180 (by decide) ?_
              exact ih_138 (k + 1) him (by omega) (by omega) _ _ hH ls (lv_sub hl [1, 2, 3, 4, 0] rfl)
      refine lv_iload hx hb dX5_transform_124 (lv_at hl 3 rfl) ?_
      refine lv_iload_n hx hb dX5_transform_126 rfl (lv_at hl 2 rfl) ?_
      refine lv_icmp_ge (tgt := 192) hx hb dX5_transform_127 (by decide) (fun c_6 => ?_) (fun c_6 => ?_)
      · have hge := (fs_pw3 mm hmm i (by omega)).mp c_6
        have hie : i = mm := by omega
        have hH : fs_H X A s [(h0, .inr (5, [.int 0, .ref qa, .ref qp, .ref qf, .ref qb, .ref qk, .ref qt, .int ((fs_tr (Int32.toNatClampNeg m0) back S (Int32.toNatClampNeg m0)).2.2), .long eX, .long eZ])), (qk, fs_al X 64 (fs_il (fs_tr (Int32.toNatClampNeg m0) back S (Int32.toNatClampNeg m0)).1 (fs_tr (Int32.toNatClampNeg m0) back S (Int32.toNatClampNeg m0)).2.1)), (qt, fs_al X 64 tt)] _ _ := hH.to (by rw [hie, show (Int32.toNatClampNeg m0) = mm from by rw [hm0]; exact nI_clamp (by omega)])
        refine lv_aload_n hx hb dX5_transform_192 rfl (lv_at hl 0 rfl) ?_
        refine fs_get C in_5 hH 0 rfl rfl 7 (by decide) mw_314 (v := .int ((fs_tr (Int32.toNatClampNeg m0) back S (Int32.toNatClampNeg m0)).2.2)) rfl dX5_transform_193 ?_
        exact fs_iret C hH (some tt) rfl (⟨fun _ _ => ⟨rfl, hok⟩, fun h => (by cases h)⟩) dX5_transform_196
      · have him : i < mm := Nat.lt_of_not_le fun z => c_6 ((fs_pw3 mm hmm i (by omega)).mpr z)
        refine lv_aload_n hx hb dX5_transform_130 rfl (lv_at hl 0 rfl) ?_
        refine lv_iload_n hx hb dX5_transform_131 rfl (lv_at hl 2 rfl) ?_
        refine fs_cv C hH (wr := [(qt, fs_al X 64 tt)]) [0, 1] [2] rfl rfl (by decide) (by decide) (fs_rV (rest := []) (As := [.int (nI (2 ^ mm))]) (n := 1) (q0 := 0) (ci := 5) C hH (wc := [(h0, .inr (5, [.int 0, .ref qa, .ref qp, .ref qf, .ref qb, .ref qk, .ref qt, .int ((fs_tr mm back S i).2.2), .long eX, .long eZ])), (qk, fs_al X 64 (fs_il (fs_tr mm back S i).1 (fs_tr mm back S i).2.1))]) [0, 1] (by decide) rfl (c_X5_lower l X _ h0 qa qp qf qb qk qt 0 eX eZ (fs_tr mm back S i) (2 ^ mm) (by omega)) rfl rfl rfl rfl mw_397 mw_395 mw_396 mw_494 mw_6 (by decide +kernel) ⟨Nat.le_of_ble_eq_true rfl, Nat.le_of_ble_eq_true rfl⟩ rfl hl.1 rfl (Nat.le_of_ble_eq_true rfl) dX5_transform_132 ⟨Nat.le_of_ble_eq_true rfl, Nat.le_of_ble_eq_true rfl⟩) (fun u_8 H locs hr_9 hH => ?_)
        have hH : fs_H X A s [(h0, .inr (5, [.int 0, .ref qa, .ref qp, .ref qf, .ref qb, .ref qk, .ref qt, .int ((fs_low (2 ^ mm) (fs_low (2 ^ mm) (fs_tr mm back S i))).2.2), .long eX, .long eZ])), (qk, fs_al X 64 (fs_il (fs_low (2 ^ mm) (fs_low (2 ^ mm) (fs_tr mm back S i))).1 (fs_low (2 ^ mm) (fs_low (2 ^ mm) (fs_tr mm back S i))).2.1)), (qt, fs_al X 64 tt)] _ _ := hH.sub [1, 2, 0] (by decide) rfl
        refine lv_iconst (v := 0) hx hb dX5_transform_135 (by decide) ?_
        have hH : fs_H X A s [(h0, .inr (5, [.int 0, .ref qa, .ref qp, .ref qf, .ref qb, .ref qk, .ref qt, .int ((fs_low (2 ^ mm) (fs_low (2 ^ mm) (fs_tr mm back S i))).2.2), .long eX, .long eZ])), (qk, fs_al X 64 (fs_il (fs_cr i back (fs_low (2 ^ mm) (fs_low (2 ^ mm) (fs_tr mm back S i))).1 (fs_low (2 ^ mm) (fs_low (2 ^ mm) (fs_tr mm back S i))).2.1 0).1 (fs_cr i back (fs_low (2 ^ mm) (fs_low (2 ^ mm) (fs_tr mm back S i))).1 (fs_low (2 ^ mm) (fs_low (2 ^ mm) (fs_tr mm back S i))).2.1 0).2)), (qt, fs_al X 64 tt)] _ _ := hH.to (by rw [fs_cr])
        refine lv_istore (lv' := [(5, .int 0), (0, .ref h0), (2, .int back), (3, .int (nI (2 ^ mm))), (4, .int (nI (2 ^ i)))]) hx hb dX5_transform_136 hl (by decide) rfl (fun ls hl => ?_)
        exact K_138 (2 ^ mm + 1) 0 him (by omega) (by omega) _ _ hH ls (lv_sub hl [1, 2, 3, 4, 0] rfl)
  have K_93 : ∀ (n : Nat) (mm : Nat) (k : Nat) (tt : Nat → Int64), (mm < 6) → (m0 = nI mm) → (¬ m0 < 0 ∧ m0 ≤ 5) → (k ≤ 2 * 2 ^ mm) → (∀ j, j < 2 * 2 ^ mm → tt j = (fs_il (fs_pm mm S.1) (fs_pm mm S.2.1)) j) → (2 * 2 ^ mm < k + n) → ∀ (H : Heap) (locs : List Loc), fs_H X A s [(h0, .inr (5, [.int 0, .ref qa, .ref qp, .ref qf, .ref qb, .ref qk, .ref qt, .int S.2.2, .long eX, .long eZ])), (qk, fs_al X 64 (fs_cp (fs_il S.1 S.2.1) (fs_il (fs_pm mm S.1) (fs_pm mm S.2.1)) k)), (qt, fs_al X 64 tt)] H locs → ∀ (ls : Array Slot), lv_has ls 6 [(0, .ref h0), (1, .int (nI mm)), (2, .int back), (3, .int (nI (2 ^ mm))), (4, .int (nI k))] → W p l e ({ frames := 2, cells := 0, slots := 0, locals := 59 }) s m args below meth c H locs 0 0 (MQ below (fs_Qi X (fun r (u : Option (Nat → Int64)) => (∀ w9, u = some w9 → r = ((fs_tr (Int32.toNatClampNeg m0) back S (Int32.toNatClampNeg m0)).2.2) ∧ (¬ m0 < 0 ∧ m0 ≤ 5)) ∧ (u = none → ¬ (¬ m0 < 0 ∧ m0 ≤ 5))) (fun u => match u with | some w9 => [(h0, .inr (5, [.int 0, .ref qa, .ref qp, .ref qf, .ref qb, .ref qk, .ref qt, .int ((fs_tr (Int32.toNatClampNeg m0) back S (Int32.toNatClampNeg m0)).2.2), .long eX, .long eZ])), (qk, fs_al X 64 (fs_il (fs_tr (Int32.toNatClampNeg m0) back S (Int32.toNatClampNeg m0)).1 (fs_tr (Int32.toNatClampNeg m0) back S (Int32.toNatClampNeg m0)).2.1)), (qt, fs_al X 64 w9)] | none => [(h0, .inr (5, [.int 1, .ref qa, .ref qp, .ref qf, .ref qb, .ref qk, .ref qt, .int S.2.2, .long eX, .long eZ])), (qk, fs_al X 64 (fs_il S.1 S.2.1)), (qt, fs_al X 64 t9)]) A) args s 0 0 A) (F0 m 93 ls []) := by
    intro n
    induction n with
    | zero => intro mm k tt hmm hm0 hok hk htt hfu; exact absurd hfu (by omega)
    | succ n ih_93 =>
      intro mm k tt hmm hm0 hok hk htt hfu H locs hH ls hl
      have hp := fs_pw4 mm hmm
      refine lv_iload hx hb dX5_transform_93 (lv_at hl 4 rfl) ?_
      refine lv_iconst (v := 2) hx hb dX5_transform_95 (by decide) ?_
      refine lv_iload_n hx hb dX5_transform_96 rfl (lv_at hl 3 rfl) ?_
      refine lv_imul hx hb dX5_transform_97 ?_
      refine fs_topi (y := (nI (2 * 2 ^ mm))) (pk_mul 2 (2 ^ mm)) ?_
      refine lv_icmp_ge (tgt := 121) hx hb dX5_transform_98 (by decide) (fun c_10 => ?_) (fun c_10 => ?_)
      · have hge := fs_geT (a := k) (b := 2 * 2 ^ mm) (by omega) (by omega) c_10
        have hkn : k = 2 * 2 ^ mm := by omega
        refine lv_iconst (v := 1) hx hb dX5_transform_121 (by decide) ?_
        have hH : fs_H X A s [(h0, .inr (5, [.int 0, .ref qa, .ref qp, .ref qf, .ref qb, .ref qk, .ref qt, .int ((fs_tr mm back S 0).2.2), .long eX, .long eZ])), (qk, fs_al X 64 (fs_il (fs_tr mm back S 0).1 (fs_tr mm back S 0).2.1)), (qt, fs_al X 64 tt)] _ _ := hH.to (by rw [hkn, fs_cp_n, fs_tr])
        refine lv_istore (lv' := [(4, .int 1), (0, .ref h0), (1, .int (nI mm)), (2, .int back), (3, .int (nI (2 ^ mm)))]) hx hb dX5_transform_122 hl (by decide) rfl (fun ls hl => ?_)
        exact K_124 (mm + 1) mm 0 tt hmm hm0 hok (by omega) (by omega) _ _ hH ls (lv_sub hl [1, 3, 4, 0] rfl)
      · have hlt := fs_geF (a := k) (b := 2 * 2 ^ mm) (by omega) (by omega) c_10
        refine lv_aload_n hx hb dX5_transform_101 rfl (lv_at hl 0 rfl) ?_
        refine fs_get C in_5 hH 0 rfl rfl 5 (by decide) mw_312 (v := .ref qk) rfl dX5_transform_102 ?_
        refine lv_iload hx hb dX5_transform_105 (lv_at hl 4 rfl) ?_
        refine lv_aload_n hx hb dX5_transform_107 rfl (lv_at hl 0 rfl) ?_
        refine fs_get C in_5 hH 0 rfl rfl 6 (by decide) mw_313 (v := .ref qt) rfl dX5_transform_108 ?_
        refine lv_iload hx hb dX5_transform_111 (lv_at hl 4 rfl) ?_
        refine fs_lald C hH 2 rfl (k := k) rfl (by omega) (by decide) dX5_transform_113 ?_
        refine fs_topl (y := ((fs_il (fs_pm mm S.1) (fs_pm mm S.2.1)) k)) (htt k (by omega)) ?_
        refine fs_last C hH 1 rfl (k := k) rfl (by omega) (by decide) (ws' := [(h0, .inr (5, [.int 0, .ref qa, .ref qp, .ref qf, .ref qb, .ref qk, .ref qt, .int S.2.2, .long eX, .long eZ])), (qk, fs_al X 64 (vp_updL (fs_cp (fs_il S.1 S.2.1) (fs_il (fs_pm mm S.1) (fs_pm mm S.2.1)) k) k ((fs_il (fs_pm mm S.1) (fs_pm mm S.2.1)) k))), (qt, fs_al X 64 tt)]) rfl dX5_transform_114 (fun H locs hH => ?_)
        have hH : fs_H X A s [(h0, .inr (5, [.int 0, .ref qa, .ref qp, .ref qf, .ref qb, .ref qk, .ref qt, .int S.2.2, .long eX, .long eZ])), (qk, fs_al X 64 (fs_cp (fs_il S.1 S.2.1) (fs_il (fs_pm mm S.1) (fs_pm mm S.2.1)) (k + 1))), (qt, fs_al X 64 tt)] _ _ := hH.to (by rw [fs_cp_s])
        refine lv_iinc (v := (nI (k + 1))) (lv' := [(4, .int (nI (k + 1))), (0, .ref h0), (1, .int (nI mm)), (2, .int back), (3, .int (nI (2 ^ mm)))]) hx hb dX5_transform_115 hl (k := 4) rfl (nI_1 k) (by decide) rfl (fun ls hl => ?_)
        refine lv_goto (tgt := 93) hx hb dX5_transform_118 (by decide) ?_
        exact ih_93 mm (k + 1) tt hmm hm0 hok (by omega) htt (by omega) _ _ hH ls (lv_sub hl [1, 2, 3, 4, 0] rfl)
  have K_30 : ∀ (n : Nat) (mm : Nat) (k : Nat) (tt : Nat → Int64), (mm < 6) → (m0 = nI mm) → (¬ m0 < 0 ∧ m0 ≤ 5) → (k ≤ 2 ^ mm) → (∀ j, j < 2 * k → tt j = (fs_il (fs_pm mm S.1) (fs_pm mm S.2.1)) j) → (2 ^ mm < k + n) → ∀ (H : Heap) (locs : List Loc), fs_H X A s [(h0, .inr (5, [.int 0, .ref qa, .ref qp, .ref qf, .ref qb, .ref qk, .ref qt, .int S.2.2, .long eX, .long eZ])), (qk, fs_al X 64 (fs_il S.1 S.2.1)), (qt, fs_al X 64 tt)] H locs → ∀ (ls : Array Slot), lv_has ls 6 [(0, .ref h0), (1, .int (nI mm)), (2, .int back), (3, .int (nI (2 ^ mm))), (4, .int (nI k))] → W p l e ({ frames := 2, cells := 0, slots := 0, locals := 59 }) s m args below meth c H locs 0 0 (MQ below (fs_Qi X (fun r (u : Option (Nat → Int64)) => (∀ w9, u = some w9 → r = ((fs_tr (Int32.toNatClampNeg m0) back S (Int32.toNatClampNeg m0)).2.2) ∧ (¬ m0 < 0 ∧ m0 ≤ 5)) ∧ (u = none → ¬ (¬ m0 < 0 ∧ m0 ≤ 5))) (fun u => match u with | some w9 => [(h0, .inr (5, [.int 0, .ref qa, .ref qp, .ref qf, .ref qb, .ref qk, .ref qt, .int ((fs_tr (Int32.toNatClampNeg m0) back S (Int32.toNatClampNeg m0)).2.2), .long eX, .long eZ])), (qk, fs_al X 64 (fs_il (fs_tr (Int32.toNatClampNeg m0) back S (Int32.toNatClampNeg m0)).1 (fs_tr (Int32.toNatClampNeg m0) back S (Int32.toNatClampNeg m0)).2.1)), (qt, fs_al X 64 w9)] | none => [(h0, .inr (5, [.int 1, .ref qa, .ref qp, .ref qf, .ref qb, .ref qk, .ref qt, .int S.2.2, .long eX, .long eZ])), (qk, fs_al X 64 (fs_il S.1 S.2.1)), (qt, fs_al X 64 t9)]) A) args s 0 0 A) (F0 m 30 ls []) := by
    intro n
    induction n with
    | zero => intro mm k tt hmm hm0 hok hk htt hfu; exact absurd hfu (by omega)
    | succ n ih_30 =>
      intro mm k tt hmm hm0 hok hk htt hfu H locs hH ls hl
      have hp := fs_pw4 mm hmm
      refine lv_iload hx hb dX5_transform_30 (lv_at hl 4 rfl) ?_
      refine lv_iload_n hx hb dX5_transform_32 rfl (lv_at hl 3 rfl) ?_
      refine lv_icmp_ge (tgt := 90) hx hb dX5_transform_33 (by decide) (fun c_11 => ?_) (fun c_11 => ?_)
      · have hge := fs_geT (a := k) (b := 2 ^ mm) (by omega) (by omega) c_11
        have hkn : k = 2 ^ mm := by omega
        refine lv_iconst (v := 0) hx hb dX5_transform_90 (by decide) ?_
        have hH : fs_H X A s [(h0, .inr (5, [.int 0, .ref qa, .ref qp, .ref qf, .ref qb, .ref qk, .ref qt, .int S.2.2, .long eX, .long eZ])), (qk, fs_al X 64 (fs_cp (fs_il S.1 S.2.1) (fs_il (fs_pm mm S.1) (fs_pm mm S.2.1)) 0)), (qt, fs_al X 64 tt)] _ _ := hH.to (by rw [fs_cp_0])
        refine lv_istore (lv' := [(4, .int 0), (0, .ref h0), (1, .int (nI mm)), (2, .int back), (3, .int (nI (2 ^ mm)))]) hx hb dX5_transform_91 hl (by decide) rfl (fun ls hl => ?_)
        exact K_93 (2 * 2 ^ mm + 1) mm 0 tt hmm hm0 hok (by omega) (by rw [← hkn]; exact htt) (by omega) _ _ hH ls (lv_sub hl [1, 2, 3, 4, 0] rfl)
      · have hlt := fs_geF (a := k) (b := 2 ^ mm) (by omega) (by omega) c_11
        refine lv_iload hx hb dX5_transform_36 (lv_at hl 4 rfl) ?_
        refine lv_iload_n hx hb dX5_transform_38 rfl (lv_at hl 1 rfl) ?_
        refine fs_ci C hH (wr := [(h0, .inr (5, [.int 0, .ref qa, .ref qp, .ref qf, .ref qb, .ref qk, .ref qt, .int S.2.2, .long eX, .long eZ])), (qk, fs_al X 64 (fs_il S.1 S.2.1)), (qt, fs_al X 64 tt)]) [] [0, 1, 2] rfl rfl (by decide) (by decide) (fs_rS (rest := []) (As := [.int (nI k), .int (nI mm)]) (n := 2) C hH (wc := []) [] (by decide) rfl (c_X5_mirrored l X _ (nI k) mm (by omega)) rfl rfl mw_394 mw_392 mw_393 mw_6 (by decide +kernel) ⟨Nat.le_of_ble_eq_true rfl, Nat.le_of_ble_eq_true rfl⟩ rfl hl.1 rfl (Nat.le_of_ble_eq_true rfl) dX5_transform_39 ⟨Nat.le_of_ble_eq_true rfl, Nat.le_of_ble_eq_true rfl⟩) (fun r_12 u_13 H locs hr_14 hH => ?_)
        subst hr_14
        have hH : fs_H X A s [(h0, .inr (5, [.int 0, .ref qa, .ref qp, .ref qf, .ref qb, .ref qk, .ref qt, .int S.2.2, .long eX, .long eZ])), (qk, fs_al X 64 (fs_il S.1 S.2.1)), (qt, fs_al X 64 tt)] _ _ := hH
        refine fs_topi (y := (nI (fs_rn mm k))) ((fs_rn_all mm hmm k hlt).1) ?_
        have hr := (fs_rn_all mm hmm k hlt).2.1
        refine lv_istore (lv' := [(5, .int (nI (fs_rn mm k))), (0, .ref h0), (1, .int (nI mm)), (2, .int back), (3, .int (nI (2 ^ mm))), (4, .int (nI k))]) hx hb dX5_transform_42 hl (by decide) rfl (fun ls hl => ?_)
        refine lv_aload_n hx hb dX5_transform_44 rfl (lv_at hl 1 rfl) ?_
        refine fs_get C in_5 hH 0 rfl rfl 6 (by decide) mw_313 (v := .ref qt) rfl dX5_transform_45 ?_
        refine lv_iconst (v := 2) hx hb dX5_transform_48 (by decide) ?_
        refine lv_iload hx hb dX5_transform_49 (lv_at hl 5 rfl) ?_
        refine lv_imul hx hb dX5_transform_51 ?_
        refine lv_aload_n hx hb dX5_transform_52 rfl (lv_at hl 1 rfl) ?_
        refine fs_get C in_5 hH 0 rfl rfl 5 (by decide) mw_312 (v := .ref qk) rfl dX5_transform_53 ?_
        refine lv_iconst (v := 2) hx hb dX5_transform_56 (by decide) ?_
        refine lv_iload hx hb dX5_transform_57 (lv_at hl 0 rfl) ?_
        refine lv_imul hx hb dX5_transform_59 ?_
        refine fs_lald C hH 1 rfl (k := (2 * (fs_rn mm k))) (fs_im (a := 2) (b := (fs_rn mm k)) rfl rfl) (by omega) (by decide) dX5_transform_60 ?_
        refine fs_topl (y := (Int32.toInt64 (S.1 (fs_rn mm k)))) (fs_il_e _ _ _) ?_
        refine fs_last C hH 2 rfl (k := (2 * k)) (fs_im (a := 2) (b := k) rfl rfl) (by omega) (by decide) (ws' := [(h0, .inr (5, [.int 0, .ref qa, .ref qp, .ref qf, .ref qb, .ref qk, .ref qt, .int S.2.2, .long eX, .long eZ])), (qk, fs_al X 64 (fs_il S.1 S.2.1)), (qt, fs_al X 64 (vp_updL tt (2 * k) (Int32.toInt64 (S.1 (fs_rn mm k)))))]) rfl dX5_transform_61 (fun H locs hH => ?_)
        refine lv_aload_n hx hb dX5_transform_62 rfl (lv_at hl 1 rfl) ?_
        refine fs_get C in_5 hH 0 rfl rfl 6 (by decide) mw_313 (v := .ref qt) rfl dX5_transform_63 ?_
        refine lv_iconst (v := 2) hx hb dX5_transform_66 (by decide) ?_
        refine lv_iload hx hb dX5_transform_67 (lv_at hl 5 rfl) ?_
        refine lv_imul hx hb dX5_transform_69 ?_
        refine lv_iconst (v := 1) hx hb dX5_transform_70 (by decide) ?_
        refine lv_iadd hx hb dX5_transform_71 ?_
        refine lv_aload_n hx hb dX5_transform_72 rfl (lv_at hl 1 rfl) ?_
        refine fs_get C in_5 hH 0 rfl rfl 5 (by decide) mw_312 (v := .ref qk) rfl dX5_transform_73 ?_
        refine lv_iconst (v := 2) hx hb dX5_transform_76 (by decide) ?_
        refine lv_iload hx hb dX5_transform_77 (lv_at hl 0 rfl) ?_
        refine lv_imul hx hb dX5_transform_79 ?_
        refine lv_iconst (v := 1) hx hb dX5_transform_80 (by decide) ?_
        refine lv_iadd hx hb dX5_transform_81 ?_
        refine fs_lald C hH 1 rfl (k := ((2 * (fs_rn mm k)) + 1)) (fs_ia (a := (2 * (fs_rn mm k))) (b := 1) (fs_im (a := 2) (b := (fs_rn mm k)) rfl rfl) rfl) (by omega) (by decide) dX5_transform_82 ?_
        refine fs_topl (y := (Int32.toInt64 (S.2.1 (fs_rn mm k)))) (fs_il_o _ _ _) ?_
        refine fs_last C hH 2 rfl (k := ((2 * k) + 1)) (fs_ia (a := (2 * k)) (b := 1) (fs_im (a := 2) (b := k) rfl rfl) rfl) (by omega) (by decide) (ws' := [(h0, .inr (5, [.int 0, .ref qa, .ref qp, .ref qf, .ref qb, .ref qk, .ref qt, .int S.2.2, .long eX, .long eZ])), (qk, fs_al X 64 (fs_il S.1 S.2.1)), (qt, fs_al X 64 (vp_updL (vp_updL tt (2 * k) (Int32.toInt64 (S.1 (fs_rn mm k)))) ((2 * k) + 1) (Int32.toInt64 (S.2.1 (fs_rn mm k)))))]) rfl dX5_transform_83 (fun H locs hH => ?_)
        refine lv_iinc (v := (nI (k + 1))) (lv' := [(4, .int (nI (k + 1))), (5, .int (nI (fs_rn mm k))), (0, .ref h0), (1, .int (nI mm)), (2, .int back), (3, .int (nI (2 ^ mm)))]) hx hb dX5_transform_84 hl (k := 5) rfl (nI_1 k) (by decide) rfl (fun ls hl => ?_)
        refine lv_goto (tgt := 30) hx hb dX5_transform_87 (by decide) ?_
        exact ih_30 mm (k + 1) (vp_updL (vp_updL tt (2 * k) (Int32.toInt64 (S.1 (fs_rn mm k)))) ((2 * k) + 1) (Int32.toInt64 (S.2.1 (fs_rn mm k)))) hmm hm0 hok (by omega) (fs_tt0 hlt htt) (by omega) _ _ hH ls (lv_sub hl [2, 3, 4, 5, 0] rfl)
  have hH : fs_H X A s [(h0, .inr (5, [.int rf, .ref qa, .ref qp, .ref qf, .ref qb, .ref qk, .ref qt, .int S.2.2, .long eX, .long eZ])), (qk, fs_al X 64 (fs_il S.1 S.2.1)), (qt, fs_al X 64 t9)] s.heap [] := hH
  refine lv_aload_n hx hb dX5_transform_0 rfl (lv_at hl 0 rfl) ?_
  refine lv_iload_n hx hb dX5_transform_1 rfl (lv_at hl 1 rfl) ?_
  refine lv_iconst (v := 0) hx hb dX5_transform_2 (by decide) ?_
  refine lv_iconst (v := 5) hx hb dX5_transform_3 (by decide) ?_
  refine fs_ci C hH (wr := [(h0, .inr (5, [.int rf, .ref qa, .ref qp, .ref qf, .ref qb, .ref qk, .ref qt, .int S.2.2, .long eX, .long eZ])), (qk, fs_al X 64 (fs_il S.1 S.2.1)), (qt, fs_al X 64 t9)]) [] [0, 1, 2] rfl rfl (by decide) (by decide) (fs_rS (rest := [.ref h0]) (As := [.int m0, .int 0, .int 5]) (n := 3) C hH (wc := []) [] (by decide) rfl (c_X5_isIn l X _ m0 0 5 ) rfl rfl mw_338 mw_336 mw_337 mw_6 (by decide +kernel) ⟨Nat.le_of_ble_eq_true rfl, Nat.le_of_ble_eq_true rfl⟩ rfl hl.1 rfl (Nat.le_of_ble_eq_true rfl) dX5_transform_4 ⟨Nat.le_of_ble_eq_true rfl, Nat.le_of_ble_eq_true rfl⟩) (fun r_15 u_16 H locs hr_17 hH => ?_)
  subst hr_17
  have hH : fs_H X A s [(h0, .inr (5, [.int rf, .ref qa, .ref qp, .ref qf, .ref qb, .ref qk, .ref qt, .int S.2.2, .long eX, .long eZ])), (qk, fs_al X 64 (fs_il S.1 S.2.1)), (qt, fs_al X 64 t9)] _ _ := hH
  refine lv_if_eq (tgt := 14) hx hb dX5_transform_7 (by decide) (fun c_18 => ?_) (fun c_18 => ?_)
  · refine lv_iconst (v := 1) hx hb dX5_transform_14 (by decide) ?_
    refine fs_ci C hH (wr := [(qk, fs_al X 64 (fs_il S.1 S.2.1)), (qt, fs_al X 64 t9)]) [0] [1, 2] rfl rfl (by decide) (by decide) (fs_rV (rest := []) (As := [.int 1]) (n := 1) (q0 := 0) (ci := 5) C hH (wc := [(h0, .inr (5, [.int rf, .ref qa, .ref qp, .ref qf, .ref qb, .ref qk, .ref qt, .int S.2.2, .long eX, .long eZ]))]) [0] (by decide) rfl (c_X5_refused l X _ h0 qa qp qf qb qk qt rf S.2.2 eX eZ 1 ) rfl rfl rfl rfl mw_341 mw_339 mw_340 mw_493 mw_6 (by decide +kernel) ⟨Nat.le_of_ble_eq_true rfl, Nat.le_of_ble_eq_true rfl⟩ rfl hl.1 rfl (Nat.le_of_ble_eq_true rfl) dX5_transform_15 ⟨Nat.le_of_ble_eq_true rfl, Nat.le_of_ble_eq_true rfl⟩) (fun r_19 u_20 H locs hr_21 hH => ?_)
    subst hr_21
    have hH : fs_H X A s [(h0, .inr (5, [.int 1, .ref qa, .ref qp, .ref qf, .ref qb, .ref qk, .ref qt, .int S.2.2, .long eX, .long eZ])), (qk, fs_al X 64 (fs_il S.1 S.2.1)), (qt, fs_al X 64 t9)] _ _ := hH.sub [2, 0, 1] (by decide) rfl
    refine lv_if_eq (tgt := 23) hx hb dX5_transform_18 (by decide) (fun c_22 => ?_) (fun c_22 => ?_)
    · exact absurd c_22 (by decide)
    · refine lv_iconst (v := 0) hx hb dX5_transform_21 (by decide) ?_
      exact fs_iret C hH none rfl (⟨fun _ h => (by cases h), fun _ => fun h => (fs_bi_0.mp c_18) ⟨h.1, fs_c5.mpr h.2⟩⟩) dX5_transform_22
  · refine lv_iconst (v := 0) hx hb dX5_transform_10 (by decide) ?_
    refine lv_goto (tgt := 15) hx hb dX5_transform_11 (by decide) ?_
    refine fs_ci C hH (wr := [(qk, fs_al X 64 (fs_il S.1 S.2.1)), (qt, fs_al X 64 t9)]) [0] [1, 2] rfl rfl (by decide) (by decide) (fs_rV (rest := []) (As := [.int 0]) (n := 1) (q0 := 0) (ci := 5) C hH (wc := [(h0, .inr (5, [.int rf, .ref qa, .ref qp, .ref qf, .ref qb, .ref qk, .ref qt, .int S.2.2, .long eX, .long eZ]))]) [0] (by decide) rfl (c_X5_refused l X _ h0 qa qp qf qb qk qt rf S.2.2 eX eZ 0 ) rfl rfl rfl rfl mw_341 mw_339 mw_340 mw_493 mw_6 (by decide +kernel) ⟨Nat.le_of_ble_eq_true rfl, Nat.le_of_ble_eq_true rfl⟩ rfl hl.1 rfl (Nat.le_of_ble_eq_true rfl) dX5_transform_15 ⟨Nat.le_of_ble_eq_true rfl, Nat.le_of_ble_eq_true rfl⟩) (fun r_23 u_24 H locs hr_25 hH => ?_)
    subst hr_25
    have hH : fs_H X A s [(h0, .inr (5, [.int 0, .ref qa, .ref qp, .ref qf, .ref qb, .ref qk, .ref qt, .int S.2.2, .long eX, .long eZ])), (qk, fs_al X 64 (fs_il S.1 S.2.1)), (qt, fs_al X 64 t9)] _ _ := hH.sub [2, 0, 1] (by decide) rfl
    refine lv_if_eq (tgt := 23) hx hb dX5_transform_18 (by decide) (fun c_26 => ?_) (fun c_26 => ?_)
    · have hok : ¬ m0 < 0 ∧ m0 ≤ 5 := ⟨(fs_bi_nz.mp c_18).1, fs_c5.mp (fs_bi_nz.mp c_18).2⟩
      obtain ⟨mm, hmm, hm0⟩ := fs_ix6 hok.1 hok.2
      have hp := fs_pw4 mm hmm
      have hl : lv_has ls 6 [(0, .ref h0), (1, .int (nI mm)), (2, .int back)] := by rw [← hm0]; exact hl
      refine lv_iconst (v := 1) hx hb dX5_transform_23 (by decide) ?_
      refine lv_iload_n hx hb dX5_transform_24 rfl (lv_at hl 1 rfl) ?_
      refine lv_ishl hx hb dX5_transform_25 ?_
      refine fs_topi (y := (nI (2 ^ mm))) (fs_pw1 mm hmm) ?_
      refine lv_istore_n (lv' := [(3, .int (nI (2 ^ mm))), (0, .ref h0), (1, .int (nI mm)), (2, .int back)]) hx hb dX5_transform_26 rfl hl (by decide) rfl (fun ls hl => ?_)
      refine lv_iconst (v := 0) hx hb dX5_transform_27 (by decide) ?_
      refine lv_istore (lv' := [(4, .int 0), (3, .int (nI (2 ^ mm))), (0, .ref h0), (1, .int (nI mm)), (2, .int back)]) hx hb dX5_transform_28 hl (by decide) rfl (fun ls hl => ?_)
      exact K_30 (2 ^ mm + 1) mm 0 t9 hmm hm0 hok (by omega) (fun j h => absurd h (by omega)) (by omega) _ _ hH ls (lv_sub hl [2, 3, 4, 1, 0] rfl)
    · exact absurd c_26 (by decide)
