set_option maxHeartbeats 4000000 in
set_option maxRecDepth 100000 in
theorem c_X5_thrown (l : Launch) (X : fs_X) (sz : Nat) (h0 : Nat) (qa : Nat) (qp : Nat) (qf : Nat) (qb : Nat) (qk : Nat) (qt : Nat) (rf : Int32) (ex : Int32) (eX : Int64) (eZ : Int64)  : fs_M l X yX5_thrown cX5_thrown 1 (some .int) ({ frames := 0, cells := 0, slots := 0, locals := 0 }) [.ref h0] [(h0, .inr (5, [.int rf, .ref qa, .ref qp, .ref qf, .ref qb, .ref qk, .ref qt, .int ex, .long eX, .long eZ]))] sz (fs_Qi X (fun r (_ : Unit) => r = rf) (fun _ => [(h0, .inr (5, [.int rf, .ref qa, .ref qp, .ref qf, .ref qb, .ref qk, .ref qt, .int ex, .long eX, .long eZ]))])) 0 0 := by
  refine fs_ofW (by decide) (Nat.le_of_ble_eq_true rfl) ?_
  intro p e s m args below meth c A ls C hH hl
  have C : fs_At X A p s m args meth c cX5_thrown 1 (some .int) RX5 "thrown" := C
  have hx := C.1
  have hb := C.2.1
  have hown := C.2.2.2.2.1
  have hts := C.2.2.2.2.2.1
  have hl : lv_has ls 1 [(0, .ref h0)] := hl
  have hH : fs_H X A s [(h0, .inr (5, [.int rf, .ref qa, .ref qp, .ref qf, .ref qb, .ref qk, .ref qt, .int ex, .long eX, .long eZ]))] s.heap [] := hH
  refine lv_aload_n hx hb dX5_thrown_0 rfl (lv_at hl 0 rfl) ?_
  refine fs_get C in_5 hH 0 rfl rfl 0 (by decide) mw_307 (v := .int rf) rfl dX5_thrown_1 ?_
  exact fs_iret C hH () rfl rfl dX5_thrown_4
set_option maxHeartbeats 4000000 in
set_option maxRecDepth 100000 in
theorem c_X5_refused (l : Launch) (X : fs_X) (sz : Nat) (h0 : Nat) (qa : Nat) (qp : Nat) (qf : Nat) (qb : Nat) (qk : Nat) (qt : Nat) (rf : Int32) (ex : Int32) (eX : Int64) (eZ : Int64) (wh : Int32)  : fs_M l X yX5_refused cX5_refused 2 (some .boolean) ({ frames := 0, cells := 0, slots := 0, locals := 0 }) [.ref h0, .int wh] [(h0, .inr (5, [.int rf, .ref qa, .ref qp, .ref qf, .ref qb, .ref qk, .ref qt, .int ex, .long eX, .long eZ]))] sz (fs_Qi X (fun r (_ : Unit) => r = fs_bi (0 < wh)) (fun _ => [(h0, .inr (5, [.int wh, .ref qa, .ref qp, .ref qf, .ref qb, .ref qk, .ref qt, .int ex, .long eX, .long eZ]))])) 0 0 := by
  refine fs_ofW (by decide) (Nat.le_of_ble_eq_true rfl) ?_
  intro p e s m args below meth c A ls C hH hl
  have C : fs_At X A p s m args meth c cX5_refused 2 (some .boolean) RX5 "refused" := C
  have hx := C.1
  have hb := C.2.1
  have hown := C.2.2.2.2.1
  have hts := C.2.2.2.2.2.1
  have hl : lv_has ls 2 [(0, .ref h0), (1, .int wh)] := hl
  have hH : fs_H X A s [(h0, .inr (5, [.int rf, .ref qa, .ref qp, .ref qf, .ref qb, .ref qk, .ref qt, .int ex, .long eX, .long eZ]))] s.heap [] := hH
  refine lv_aload_n hx hb dX5_refused_0 rfl (lv_at hl 0 rfl) ?_
  refine lv_iload_n hx hb dX5_refused_1 rfl (lv_at hl 1 rfl) ?_
  refine fs_put C in_5 tyX5 tyX5_ok nmX5 hH 0 rfl rfl 0 (by decide) mw_307 rfl rfl rfl (Nat.le_of_ble_eq_true rfl) (ws' := [(h0, .inr (5, [.int wh, .ref qa, .ref qp, .ref qf, .ref qb, .ref qk, .ref qt, .int ex, .long eX, .long eZ]))]) rfl dX5_refused_2 (fun H locs hH => ?_)
  refine lv_iload_n hx hb dX5_refused_5 rfl (lv_at hl 1 rfl) ?_
  refine lv_if_le (tgt := 13) hx hb dX5_refused_6 (by decide) (fun c_1 => ?_) (fun c_1 => ?_)
  · refine lv_iconst (v := 0) hx hb dX5_refused_13 (by decide) ?_
    exact fs_zret C hH rfl () rfl (by simp [fs_bi, Int32.not_lt.mpr c_1]) dX5_refused_14
  · refine lv_iconst (v := 1) hx hb dX5_refused_9 (by decide) ?_
    refine lv_goto (tgt := 14) hx hb dX5_refused_10 (by decide) ?_
    exact fs_zret C hH rfl () rfl (by simp [fs_bi, Int32.not_le.mp c_1]) dX5_refused_14
set_option maxHeartbeats 4000000 in
set_option maxRecDepth 100000 in
theorem c_X5_work (l : Launch) (X : fs_X) (sz : Nat) (h0 : Nat) (qa : Nat) (qp : Nat) (qf : Nat) (qb : Nat) (qk : Nat) (qt : Nat) (rf : Int32) (ex : Int32) (eX : Int64) (eZ : Int64) (way : Int32) (a : Int32) (b : Int32)  : fs_M l X yX5_work cX5_work 4 (some .int) ({ frames := 2, cells := 0, slots := 0, locals := 49 }) [.ref h0, .int way, .int a, .int b] [(h0, .inr (5, [.int rf, .ref qa, .ref qp, .ref qf, .ref qb, .ref qk, .ref qt, .int ex, .long eX, .long eZ]))] sz (fs_Qi X (fun r (u : Bool) => (u = true → r = (fs_sat (fs_reck way (Int32.toInt64 a) (Int32.toInt64 b) 31) 2147483647) ∧ (fs_way way b 31)) ∧ (u = false → ¬ (fs_way way b 31))) (fun u => match u with | true => [(h0, .inr (5, [.int 0, .ref qa, .ref qp, .ref qf, .ref qb, .ref qk, .ref qt, .int ex, .long eX, .long eZ]))] | false => [(h0, .inr (5, [.int 1, .ref qa, .ref qp, .ref qf, .ref qb, .ref qk, .ref qt, .int ex, .long eX, .long eZ]))])) 0 0 := by
  refine fs_ofW (by decide) (Nat.le_of_ble_eq_true rfl) ?_
  intro p e s m args below meth c A ls C hH hl
  have C : fs_At X A p s m args meth c cX5_work 4 (some .int) RX5 "work" := C
  have hx := C.1
  have hb := C.2.1
  have hown := C.2.2.2.2.1
  have hts := C.2.2.2.2.2.1
  have hl : lv_has ls 4 [(0, .ref h0), (1, .int way), (2, .int a), (3, .int b)] := hl
  have hH : fs_H X A s [(h0, .inr (5, [.int rf, .ref qa, .ref qp, .ref qf, .ref qb, .ref qk, .ref qt, .int ex, .long eX, .long eZ]))] s.heap [] := hH
  refine lv_aload_n hx hb dX5_work_0 rfl (lv_at hl 0 rfl) ?_
  refine lv_iload_n hx hb dX5_work_1 rfl (lv_at hl 1 rfl) ?_
  refine lv_iconst (v := 0) hx hb dX5_work_2 (by decide) ?_
  refine lv_iconst (v := 5) hx hb dX5_work_3 (by decide) ?_
  refine fs_ci C hH (wr := [(h0, .inr (5, [.int rf, .ref qa, .ref qp, .ref qf, .ref qb, .ref qk, .ref qt, .int ex, .long eX, .long eZ]))]) [] [0] rfl rfl (by decide) (by decide) (fs_rS (rest := [.ref h0]) (As := [.int way, .int 0, .int 5]) (n := 3) C hH (wc := []) [] (by decide) rfl (c_X5_isIn l X _ way 0 5 ) rfl rfl mw_338 mw_336 mw_337 mw_6 (by decide +kernel) ⟨Nat.le_of_ble_eq_true rfl, Nat.le_of_ble_eq_true rfl⟩ rfl hl.1 rfl (Nat.le_of_ble_eq_true rfl) dX5_work_4 ⟨Nat.le_of_ble_eq_true rfl, Nat.le_of_ble_eq_true rfl⟩) (fun r_1 u_2 H locs hr_3 hH => ?_)
  subst hr_3
  have hH : fs_H X A s [(h0, .inr (5, [.int rf, .ref qa, .ref qp, .ref qf, .ref qb, .ref qk, .ref qt, .int ex, .long eX, .long eZ]))] _ _ := hH
  refine lv_if_eq (tgt := 30) hx hb dX5_work_7 (by decide) (fun c_4 => ?_) (fun c_4 => ?_)
  · refine lv_iconst (v := 1) hx hb dX5_work_30 (by decide) ?_
    refine fs_ci C hH (wr := []) [0] [] rfl rfl (by decide) (by decide) (fs_rV (rest := []) (As := [.int 1]) (n := 1) (q0 := 0) (ci := 5) C hH (wc := [(h0, .inr (5, [.int rf, .ref qa, .ref qp, .ref qf, .ref qb, .ref qk, .ref qt, .int ex, .long eX, .long eZ]))]) [0] (by decide) rfl (c_X5_refused l X _ h0 qa qp qf qb qk qt rf ex eX eZ 1 ) rfl rfl rfl rfl mw_341 mw_339 mw_340 mw_493 mw_6 (by decide +kernel) ⟨Nat.le_of_ble_eq_true rfl, Nat.le_of_ble_eq_true rfl⟩ rfl hl.1 rfl (Nat.le_of_ble_eq_true rfl) dX5_work_31 ⟨Nat.le_of_ble_eq_true rfl, Nat.le_of_ble_eq_true rfl⟩) (fun r_5 u_6 H locs hr_7 hH => ?_)
    subst hr_7
    have hH : fs_H X A s [(h0, .inr (5, [.int 1, .ref qa, .ref qp, .ref qf, .ref qb, .ref qk, .ref qt, .int ex, .long eX, .long eZ]))] _ _ := hH
    refine lv_if_eq (tgt := 39) hx hb dX5_work_34 (by decide) (fun c_8 => ?_) (fun c_8 => ?_)
    · exact absurd c_8 (by decide)
    · refine lv_iconst (v := 0) hx hb dX5_work_37 (by decide) ?_
      exact fs_iret C hH false rfl (⟨fun h => (by cases h), fun _ => fun h => (fs_bi_0.mp c_4) (fs_way5.mp h).1⟩) dX5_work_38
  · refine lv_iload_n hx hb dX5_work_10 rfl (lv_at hl 1 rfl) ?_
    refine lv_iconst (v := 3) hx hb dX5_work_11 (by decide) ?_
    refine lv_icmp_ne (tgt := 26) hx hb dX5_work_12 (by decide) (fun c_9 => ?_) (fun c_9 => ?_)
    · refine lv_iconst (v := 0) hx hb dX5_work_26 (by decide) ?_
      refine lv_goto (tgt := 31) hx hb dX5_work_27 (by decide) ?_
      refine fs_ci C hH (wr := []) [0] [] rfl rfl (by decide) (by decide) (fs_rV (rest := []) (As := [.int 0]) (n := 1) (q0 := 0) (ci := 5) C hH (wc := [(h0, .inr (5, [.int rf, .ref qa, .ref qp, .ref qf, .ref qb, .ref qk, .ref qt, .int ex, .long eX, .long eZ]))]) [0] (by decide) rfl (c_X5_refused l X _ h0 qa qp qf qb qk qt rf ex eX eZ 0 ) rfl rfl rfl rfl mw_341 mw_339 mw_340 mw_493 mw_6 (by decide +kernel) ⟨Nat.le_of_ble_eq_true rfl, Nat.le_of_ble_eq_true rfl⟩ rfl hl.1 rfl (Nat.le_of_ble_eq_true rfl) dX5_work_31 ⟨Nat.le_of_ble_eq_true rfl, Nat.le_of_ble_eq_true rfl⟩) (fun r_10 u_11 H locs hr_12 hH => ?_)
      subst hr_12
      have hH : fs_H X A s [(h0, .inr (5, [.int 0, .ref qa, .ref qp, .ref qf, .ref qb, .ref qk, .ref qt, .int ex, .long eX, .long eZ]))] _ _ := hH
      refine lv_if_eq (tgt := 39) hx hb dX5_work_34 (by decide) (fun c_13 => ?_) (fun c_13 => ?_)
      · refine lv_iload_n hx hb dX5_work_39 rfl (lv_at hl 1 rfl) ?_
        refine lv_iload_n hx hb dX5_work_40 rfl (lv_at hl 2 rfl) ?_
        refine lv_i2l hx hb dX5_work_41 rfl ?_
        refine lv_iload_n hx hb dX5_work_42 rfl (lv_at hl 3 rfl) ?_
        refine lv_bipush (v := 31) hx hb dX5_work_43 (by decide) ?_
        refine lv_ldc2 (v := 2147483647) hx hb hown (hts _ mw_342) dX5_work_45 ?_
        refine fs_ci C hH (wr := [(h0, .inr (5, [.int 0, .ref qa, .ref qp, .ref qf, .ref qb, .ref qk, .ref qt, .int ex, .long eX, .long eZ]))]) [] [0] rfl rfl (by decide) (by decide) (fs_rS (rest := []) (As := [.int way, .long (Int32.toInt64 a), .int b, .int 31, .long 2147483647]) (n := 5) C hH (wc := []) [] (by decide) rfl (c_X5_reckoned l X _ way (Int32.toInt64 a) b 31 2147483647 (by decide)) rfl rfl mw_345 mw_343 mw_344 mw_6 (by decide +kernel) ⟨Nat.le_of_ble_eq_true rfl, Nat.le_of_ble_eq_true rfl⟩ rfl hl.1 rfl (Nat.le_of_ble_eq_true rfl) dX5_work_48 ⟨Nat.le_of_ble_eq_true rfl, Nat.le_of_ble_eq_true rfl⟩) (fun r_14 u_15 H locs hr_16 hH => ?_)
        subst hr_16
        have hH : fs_H X A s [(h0, .inr (5, [.int 0, .ref qa, .ref qp, .ref qf, .ref qb, .ref qk, .ref qt, .int ex, .long eX, .long eZ]))] _ _ := hH
        exact fs_iret C hH true rfl (⟨fun _ => ⟨rfl, fs_way5.mpr ⟨(fs_bi_nz.mp c_4), fun h => absurd h c_9⟩⟩, fun h => (by cases h)⟩) dX5_work_51
      · exact absurd c_13 (by decide)
    · refine lv_iload_n hx hb dX5_work_15 rfl (lv_at hl 3 rfl) ?_
      refine lv_bipush (v := (-31)) hx hb dX5_work_16 (by decide) ?_
      refine lv_bipush (v := 31) hx hb dX5_work_18 (by decide) ?_
      refine fs_ci C hH (wr := [(h0, .inr (5, [.int rf, .ref qa, .ref qp, .ref qf, .ref qb, .ref qk, .ref qt, .int ex, .long eX, .long eZ]))]) [] [0] rfl rfl (by decide) (by decide) (fs_rS (rest := [.ref h0]) (As := [.int b, .int (-31), .int 31]) (n := 3) C hH (wc := []) [] (by decide) rfl (c_X5_isIn l X _ b (-31) 31 ) rfl rfl mw_338 mw_336 mw_337 mw_6 (by decide +kernel) ⟨Nat.le_of_ble_eq_true rfl, Nat.le_of_ble_eq_true rfl⟩ rfl hl.1 rfl (Nat.le_of_ble_eq_true rfl) dX5_work_20 ⟨Nat.le_of_ble_eq_true rfl, Nat.le_of_ble_eq_true rfl⟩) (fun r_17 u_18 H locs hr_19 hH => ?_)
      subst hr_19
      have hH : fs_H X A s [(h0, .inr (5, [.int rf, .ref qa, .ref qp, .ref qf, .ref qb, .ref qk, .ref qt, .int ex, .long eX, .long eZ]))] _ _ := hH
      refine lv_if_eq (tgt := 30) hx hb dX5_work_23 (by decide) (fun c_20 => ?_) (fun c_20 => ?_)
      · refine lv_iconst (v := 1) hx hb dX5_work_30 (by decide) ?_
        refine fs_ci C hH (wr := []) [0] [] rfl rfl (by decide) (by decide) (fs_rV (rest := []) (As := [.int 1]) (n := 1) (q0 := 0) (ci := 5) C hH (wc := [(h0, .inr (5, [.int rf, .ref qa, .ref qp, .ref qf, .ref qb, .ref qk, .ref qt, .int ex, .long eX, .long eZ]))]) [0] (by decide) rfl (c_X5_refused l X _ h0 qa qp qf qb qk qt rf ex eX eZ 1 ) rfl rfl rfl rfl mw_341 mw_339 mw_340 mw_493 mw_6 (by decide +kernel) ⟨Nat.le_of_ble_eq_true rfl, Nat.le_of_ble_eq_true rfl⟩ rfl hl.1 rfl (Nat.le_of_ble_eq_true rfl) dX5_work_31 ⟨Nat.le_of_ble_eq_true rfl, Nat.le_of_ble_eq_true rfl⟩) (fun r_21 u_22 H locs hr_23 hH => ?_)
        subst hr_23
        have hH : fs_H X A s [(h0, .inr (5, [.int 1, .ref qa, .ref qp, .ref qf, .ref qb, .ref qk, .ref qt, .int ex, .long eX, .long eZ]))] _ _ := hH
        refine lv_if_eq (tgt := 39) hx hb dX5_work_34 (by decide) (fun c_24 => ?_) (fun c_24 => ?_)
        · exact absurd c_24 (by decide)
        · refine lv_iconst (v := 0) hx hb dX5_work_37 (by decide) ?_
          exact fs_iret C hH false rfl (⟨fun h => (by cases h), fun _ => fun h => (fs_bi_0.mp c_20) ((fs_way5.mp h).2 c_9)⟩) dX5_work_38
      · refine lv_iconst (v := 0) hx hb dX5_work_26 (by decide) ?_
        refine lv_goto (tgt := 31) hx hb dX5_work_27 (by decide) ?_
        refine fs_ci C hH (wr := []) [0] [] rfl rfl (by decide) (by decide) (fs_rV (rest := []) (As := [.int 0]) (n := 1) (q0 := 0) (ci := 5) C hH (wc := [(h0, .inr (5, [.int rf, .ref qa, .ref qp, .ref qf, .ref qb, .ref qk, .ref qt, .int ex, .long eX, .long eZ]))]) [0] (by decide) rfl (c_X5_refused l X _ h0 qa qp qf qb qk qt rf ex eX eZ 0 ) rfl rfl rfl rfl mw_341 mw_339 mw_340 mw_493 mw_6 (by decide +kernel) ⟨Nat.le_of_ble_eq_true rfl, Nat.le_of_ble_eq_true rfl⟩ rfl hl.1 rfl (Nat.le_of_ble_eq_true rfl) dX5_work_31 ⟨Nat.le_of_ble_eq_true rfl, Nat.le_of_ble_eq_true rfl⟩) (fun r_25 u_26 H locs hr_27 hH => ?_)
        subst hr_27
        have hH : fs_H X A s [(h0, .inr (5, [.int 0, .ref qa, .ref qp, .ref qf, .ref qb, .ref qk, .ref qt, .int ex, .long eX, .long eZ]))] _ _ := hH
        refine lv_if_eq (tgt := 39) hx hb dX5_work_34 (by decide) (fun c_28 => ?_) (fun c_28 => ?_)
        · refine lv_iload_n hx hb dX5_work_39 rfl (lv_at hl 1 rfl) ?_
          refine lv_iload_n hx hb dX5_work_40 rfl (lv_at hl 2 rfl) ?_
          refine lv_i2l hx hb dX5_work_41 rfl ?_
          refine lv_iload_n hx hb dX5_work_42 rfl (lv_at hl 3 rfl) ?_
          refine lv_bipush (v := 31) hx hb dX5_work_43 (by decide) ?_
          refine lv_ldc2 (v := 2147483647) hx hb hown (hts _ mw_342) dX5_work_45 ?_
          refine fs_ci C hH (wr := [(h0, .inr (5, [.int 0, .ref qa, .ref qp, .ref qf, .ref qb, .ref qk, .ref qt, .int ex, .long eX, .long eZ]))]) [] [0] rfl rfl (by decide) (by decide) (fs_rS (rest := []) (As := [.int way, .long (Int32.toInt64 a), .int b, .int 31, .long 2147483647]) (n := 5) C hH (wc := []) [] (by decide) rfl (c_X5_reckoned l X _ way (Int32.toInt64 a) b 31 2147483647 (by decide)) rfl rfl mw_345 mw_343 mw_344 mw_6 (by decide +kernel) ⟨Nat.le_of_ble_eq_true rfl, Nat.le_of_ble_eq_true rfl⟩ rfl hl.1 rfl (Nat.le_of_ble_eq_true rfl) dX5_work_48 ⟨Nat.le_of_ble_eq_true rfl, Nat.le_of_ble_eq_true rfl⟩) (fun r_29 u_30 H locs hr_31 hH => ?_)
          subst hr_31
          have hH : fs_H X A s [(h0, .inr (5, [.int 0, .ref qa, .ref qp, .ref qf, .ref qb, .ref qk, .ref qt, .int ex, .long eX, .long eZ]))] _ _ := hH
          exact fs_iret C hH true rfl (⟨fun _ => ⟨rfl, fs_way5.mpr ⟨(fs_bi_nz.mp c_4), fun _ => (fs_bi_nz.mp c_20)⟩⟩, fun h => (by cases h)⟩) dX5_work_51
        · exact absurd c_28 (by decide)
set_option maxHeartbeats 4000000 in
set_option maxRecDepth 100000 in
theorem c_X5_small (l : Launch) (X : fs_X) (sz : Nat) (h0 : Nat) (qa : Nat) (qp : Nat) (qf : Nat) (qb : Nat) (qk : Nat) (qt : Nat) (rf : Int32) (ex : Int32) (eX : Int64) (eZ : Int64) (way : Int32) (a : Int32) (b : Int32)  : fs_M l X yX5_small cX5_small 5 (some .int) ({ frames := 2, cells := 0, slots := 0, locals := 49 }) [.ref h0, .int way, .int a, .int b] [(h0, .inr (5, [.int rf, .ref qa, .ref qp, .ref qf, .ref qb, .ref qk, .ref qt, .int ex, .long eX, .long eZ]))] sz (fs_Qi X (fun r (u : Bool) => (u = true → r = (fs_sat (fs_reck way (Int32.toInt64 a) (Int32.toInt64 b) 15) 32767) ∧ (fs_way way b 15 ∧ fs_short a ∧ (¬ 2 < way → fs_short b))) ∧ (u = false → ¬ (fs_way way b 15 ∧ fs_short a ∧ (¬ 2 < way → fs_short b)))) (fun u => match u with | true => [(h0, .inr (5, [.int 0, .ref qa, .ref qp, .ref qf, .ref qb, .ref qk, .ref qt, .int ex, .long eX, .long eZ]))] | false => [(h0, .inr (5, [.int 1, .ref qa, .ref qp, .ref qf, .ref qb, .ref qk, .ref qt, .int ex, .long eX, .long eZ]))])) 0 0 := by
  refine fs_ofW (by decide) (Nat.le_of_ble_eq_true rfl) ?_
  intro p e s m args below meth c A ls C hH hl
  have C : fs_At X A p s m args meth c cX5_small 5 (some .int) RX5 "small" := C
  have hx := C.1
  have hb := C.2.1
  have hown := C.2.2.2.2.1
  have hts := C.2.2.2.2.2.1
  have hl : lv_has ls 5 [(0, .ref h0), (1, .int way), (2, .int a), (3, .int b)] := hl
  have K_38 : ∀ (sec : Int32), (sec = fs_bi (fs_sec way b)) → ∀ (H : Heap) (locs : List Loc), fs_H X A s [(h0, .inr (5, [.int rf, .ref qa, .ref qp, .ref qf, .ref qb, .ref qk, .ref qt, .int ex, .long eX, .long eZ]))] H locs → ∀ (ls : Array Slot), lv_has ls 5 [(0, .ref h0), (1, .int way), (2, .int a), (3, .int b), (4, .int sec)] → W p l e ({ frames := 2, cells := 0, slots := 0, locals := 49 }) s m args below meth c H locs 0 0 (MQ below (fs_Qi X (fun r (u : Bool) => (u = true → r = (fs_sat (fs_reck way (Int32.toInt64 a) (Int32.toInt64 b) 15) 32767) ∧ (fs_way way b 15 ∧ fs_short a ∧ (¬ 2 < way → fs_short b))) ∧ (u = false → ¬ (fs_way way b 15 ∧ fs_short a ∧ (¬ 2 < way → fs_short b)))) (fun u => match u with | true => [(h0, .inr (5, [.int 0, .ref qa, .ref qp, .ref qf, .ref qb, .ref qk, .ref qt, .int ex, .long eX, .long eZ]))] | false => [(h0, .inr (5, [.int 1, .ref qa, .ref qp, .ref qf, .ref qb, .ref qk, .ref qt, .int ex, .long eX, .long eZ]))]) A) args s 0 0 A) (F0 m 38 ls []) := by
    intro sec hsec H locs hH ls hl
    refine lv_aload_n hx hb dX5_small_38 rfl (lv_at hl 0 rfl) ?_
    refine lv_iload_n hx hb dX5_small_39 rfl (lv_at hl 1 rfl) ?_
    refine lv_iconst (v := 0) hx hb dX5_small_40 (by decide) ?_
    refine lv_iconst (v := 5) hx hb dX5_small_41 (by decide) ?_
    refine fs_ci C hH (wr := [(h0, .inr (5, [.int rf, .ref qa, .ref qp, .ref qf, .ref qb, .ref qk, .ref qt, .int ex, .long eX, .long eZ]))]) [] [0] rfl rfl (by decide) (by decide) (fs_rS (rest := [.ref h0]) (As := [.int way, .int 0, .int 5]) (n := 3) C hH (wc := []) [] (by decide) rfl (c_X5_isIn l X _ way 0 5 ) rfl rfl mw_338 mw_336 mw_337 mw_6 (by decide +kernel) ⟨Nat.le_of_ble_eq_true rfl, Nat.le_of_ble_eq_true rfl⟩ rfl hl.1 rfl (Nat.le_of_ble_eq_true rfl) dX5_small_42 ⟨Nat.le_of_ble_eq_true rfl, Nat.le_of_ble_eq_true rfl⟩) (fun r_1 u_2 H locs hr_3 hH => ?_)
    subst hr_3
    have hH : fs_H X A s [(h0, .inr (5, [.int rf, .ref qa, .ref qp, .ref qf, .ref qb, .ref qk, .ref qt, .int ex, .long eX, .long eZ]))] _ _ := hH
    refine lv_if_eq (tgt := 64) hx hb dX5_small_45 (by decide) (fun c_4 => ?_) (fun c_4 => ?_)
    · refine lv_iconst (v := 1) hx hb dX5_small_64 (by decide) ?_
      refine fs_ci C hH (wr := []) [0] [] rfl rfl (by decide) (by decide) (fs_rV (rest := []) (As := [.int 1]) (n := 1) (q0 := 0) (ci := 5) C hH (wc := [(h0, .inr (5, [.int rf, .ref qa, .ref qp, .ref qf, .ref qb, .ref qk, .ref qt, .int ex, .long eX, .long eZ]))]) [0] (by decide) rfl (c_X5_refused l X _ h0 qa qp qf qb qk qt rf ex eX eZ 1 ) rfl rfl rfl rfl mw_341 mw_339 mw_340 mw_493 mw_6 (by decide +kernel) ⟨Nat.le_of_ble_eq_true rfl, Nat.le_of_ble_eq_true rfl⟩ rfl hl.1 rfl (Nat.le_of_ble_eq_true rfl) dX5_small_65 ⟨Nat.le_of_ble_eq_true rfl, Nat.le_of_ble_eq_true rfl⟩) (fun r_5 u_6 H locs hr_7 hH => ?_)
      subst hr_7
      have hH : fs_H X A s [(h0, .inr (5, [.int 1, .ref qa, .ref qp, .ref qf, .ref qb, .ref qk, .ref qt, .int ex, .long eX, .long eZ]))] _ _ := hH
      refine lv_if_eq (tgt := 73) hx hb dX5_small_68 (by decide) (fun c_8 => ?_) (fun c_8 => ?_)
      · exact absurd c_8 (by decide)
      · refine lv_iconst (v := 0) hx hb dX5_small_71 (by decide) ?_
        exact fs_iret C hH false rfl (⟨fun h => (by cases h), fun _ => fun h => (fs_bi_0.mp c_4) (fs_small5.mp h).1⟩) dX5_small_72
    · refine lv_iload_n hx hb dX5_small_48 rfl (lv_at hl 2 rfl) ?_
      refine fs_ci C hH (wr := [(h0, .inr (5, [.int rf, .ref qa, .ref qp, .ref qf, .ref qb, .ref qk, .ref qt, .int ex, .long eX, .long eZ]))]) [] [0] rfl rfl (by decide) (by decide) (fs_rS (rest := [.ref h0]) (As := [.int a]) (n := 1) C hH (wc := []) [] (by decide) rfl (c_X5_isShort l X _ a ) rfl rfl mw_358 mw_356 mw_357 mw_6 (by decide +kernel) ⟨Nat.le_of_ble_eq_true rfl, Nat.le_of_ble_eq_true rfl⟩ rfl hl.1 rfl (Nat.le_of_ble_eq_true rfl) dX5_small_49 ⟨Nat.le_of_ble_eq_true rfl, Nat.le_of_ble_eq_true rfl⟩) (fun r_9 u_10 H locs hr_11 hH => ?_)
      subst hr_11
      have hH : fs_H X A s [(h0, .inr (5, [.int rf, .ref qa, .ref qp, .ref qf, .ref qb, .ref qk, .ref qt, .int ex, .long eX, .long eZ]))] _ _ := hH
      refine lv_if_eq (tgt := 64) hx hb dX5_small_52 (by decide) (fun c_12 => ?_) (fun c_12 => ?_)
      · refine lv_iconst (v := 1) hx hb dX5_small_64 (by decide) ?_
        refine fs_ci C hH (wr := []) [0] [] rfl rfl (by decide) (by decide) (fs_rV (rest := []) (As := [.int 1]) (n := 1) (q0 := 0) (ci := 5) C hH (wc := [(h0, .inr (5, [.int rf, .ref qa, .ref qp, .ref qf, .ref qb, .ref qk, .ref qt, .int ex, .long eX, .long eZ]))]) [0] (by decide) rfl (c_X5_refused l X _ h0 qa qp qf qb qk qt rf ex eX eZ 1 ) rfl rfl rfl rfl mw_341 mw_339 mw_340 mw_493 mw_6 (by decide +kernel) ⟨Nat.le_of_ble_eq_true rfl, Nat.le_of_ble_eq_true rfl⟩ rfl hl.1 rfl (Nat.le_of_ble_eq_true rfl) dX5_small_65 ⟨Nat.le_of_ble_eq_true rfl, Nat.le_of_ble_eq_true rfl⟩) (fun r_13 u_14 H locs hr_15 hH => ?_)
        subst hr_15
        have hH : fs_H X A s [(h0, .inr (5, [.int 1, .ref qa, .ref qp, .ref qf, .ref qb, .ref qk, .ref qt, .int ex, .long eX, .long eZ]))] _ _ := hH
        refine lv_if_eq (tgt := 73) hx hb dX5_small_68 (by decide) (fun c_16 => ?_) (fun c_16 => ?_)
        · exact absurd c_16 (by decide)
        · refine lv_iconst (v := 0) hx hb dX5_small_71 (by decide) ?_
          exact fs_iret C hH false rfl (⟨fun h => (by cases h), fun _ => fun h => (fs_bi_0.mp c_12) (fs_small5.mp h).2.1⟩) dX5_small_72
      · refine lv_iload hx hb dX5_small_55 (lv_at hl 4 rfl) ?_
        refine lv_if_eq (tgt := 64) hx hb dX5_small_57 (by decide) (fun c_17 => ?_) (fun c_17 => ?_)
        · refine lv_iconst (v := 1) hx hb dX5_small_64 (by decide) ?_
          refine fs_ci C hH (wr := []) [0] [] rfl rfl (by decide) (by decide) (fs_rV (rest := []) (As := [.int 1]) (n := 1) (q0 := 0) (ci := 5) C hH (wc := [(h0, .inr (5, [.int rf, .ref qa, .ref qp, .ref qf, .ref qb, .ref qk, .ref qt, .int ex, .long eX, .long eZ]))]) [0] (by decide) rfl (c_X5_refused l X _ h0 qa qp qf qb qk qt rf ex eX eZ 1 ) rfl rfl rfl rfl mw_341 mw_339 mw_340 mw_493 mw_6 (by decide +kernel) ⟨Nat.le_of_ble_eq_true rfl, Nat.le_of_ble_eq_true rfl⟩ rfl hl.1 rfl (Nat.le_of_ble_eq_true rfl) dX5_small_65 ⟨Nat.le_of_ble_eq_true rfl, Nat.le_of_ble_eq_true rfl⟩) (fun r_18 u_19 H locs hr_20 hH => ?_)
          subst hr_20
          have hH : fs_H X A s [(h0, .inr (5, [.int 1, .ref qa, .ref qp, .ref qf, .ref qb, .ref qk, .ref qt, .int ex, .long eX, .long eZ]))] _ _ := hH
          refine lv_if_eq (tgt := 73) hx hb dX5_small_68 (by decide) (fun c_21 => ?_) (fun c_21 => ?_)
          · exact absurd c_21 (by decide)
          · refine lv_iconst (v := 0) hx hb dX5_small_71 (by decide) ?_
            exact fs_iret C hH false rfl (⟨fun h => (by cases h), fun _ => fun h => fs_bi_0.mp (hsec.symm.trans c_17) (fs_small5.mp h).2.2⟩) dX5_small_72
        · refine lv_iconst (v := 0) hx hb dX5_small_60 (by decide) ?_
          refine lv_goto (tgt := 65) hx hb dX5_small_61 (by decide) ?_
          refine fs_ci C hH (wr := []) [0] [] rfl rfl (by decide) (by decide) (fs_rV (rest := []) (As := [.int 0]) (n := 1) (q0 := 0) (ci := 5) C hH (wc := [(h0, .inr (5, [.int rf, .ref qa, .ref qp, .ref qf, .ref qb, .ref qk, .ref qt, .int ex, .long eX, .long eZ]))]) [0] (by decide) rfl (c_X5_refused l X _ h0 qa qp qf qb qk qt rf ex eX eZ 0 ) rfl rfl rfl rfl mw_341 mw_339 mw_340 mw_493 mw_6 (by decide +kernel) ⟨Nat.le_of_ble_eq_true rfl, Nat.le_of_ble_eq_true rfl⟩ rfl hl.1 rfl (Nat.le_of_ble_eq_true rfl) dX5_small_65 ⟨Nat.le_of_ble_eq_true rfl, Nat.le_of_ble_eq_true rfl⟩) (fun r_22 u_23 H locs hr_24 hH => ?_)
          subst hr_24
          have hH : fs_H X A s [(h0, .inr (5, [.int 0, .ref qa, .ref qp, .ref qf, .ref qb, .ref qk, .ref qt, .int ex, .long eX, .long eZ]))] _ _ := hH
          refine lv_if_eq (tgt := 73) hx hb dX5_small_68 (by decide) (fun c_25 => ?_) (fun c_25 => ?_)
          · refine lv_iload_n hx hb dX5_small_73 rfl (lv_at hl 1 rfl) ?_
            refine lv_iload_n hx hb dX5_small_74 rfl (lv_at hl 2 rfl) ?_
            refine lv_i2l hx hb dX5_small_75 rfl ?_
            refine lv_iload_n hx hb dX5_small_76 rfl (lv_at hl 3 rfl) ?_
            refine lv_bipush (v := 15) hx hb dX5_small_77 (by decide) ?_
            refine lv_ldc2 (v := 32767) hx hb hown (hts _ mw_359) dX5_small_79 ?_
            refine fs_ci C hH (wr := [(h0, .inr (5, [.int 0, .ref qa, .ref qp, .ref qf, .ref qb, .ref qk, .ref qt, .int ex, .long eX, .long eZ]))]) [] [0] rfl rfl (by decide) (by decide) (fs_rS (rest := []) (As := [.int way, .long (Int32.toInt64 a), .int b, .int 15, .long 32767]) (n := 5) C hH (wc := []) [] (by decide) rfl (c_X5_reckoned l X _ way (Int32.toInt64 a) b 15 32767 (by decide)) rfl rfl mw_345 mw_343 mw_344 mw_6 (by decide +kernel) ⟨Nat.le_of_ble_eq_true rfl, Nat.le_of_ble_eq_true rfl⟩ rfl hl.1 rfl (Nat.le_of_ble_eq_true rfl) dX5_small_82 ⟨Nat.le_of_ble_eq_true rfl, Nat.le_of_ble_eq_true rfl⟩) (fun r_26 u_27 H locs hr_28 hH => ?_)
            subst hr_28
            have hH : fs_H X A s [(h0, .inr (5, [.int 0, .ref qa, .ref qp, .ref qf, .ref qb, .ref qk, .ref qt, .int ex, .long eX, .long eZ]))] _ _ := hH
            exact fs_iret C hH true rfl (⟨fun _ => ⟨rfl, fs_small5.mpr ⟨(fs_bi_nz.mp c_4), (fs_bi_nz.mp c_12), fs_bi_nz.mp (fun z => c_17 (hsec.trans z))⟩⟩, fun h => (by cases h)⟩) dX5_small_85
          · exact absurd c_25 (by decide)
  have hH : fs_H X A s [(h0, .inr (5, [.int rf, .ref qa, .ref qp, .ref qf, .ref qb, .ref qk, .ref qt, .int ex, .long eX, .long eZ]))] s.heap [] := hH
  refine lv_iload_n hx hb dX5_small_0 rfl (lv_at hl 1 rfl) ?_
  refine lv_iconst (v := 3) hx hb dX5_small_1 (by decide) ?_
  refine lv_icmp_gt (tgt := 31) hx hb dX5_small_2 (by decide) (fun c_29 => ?_) (fun c_29 => ?_)
  · refine lv_iconst (v := 1) hx hb dX5_small_31 (by decide) ?_
    refine lv_goto (tgt := 36) hx hb dX5_small_32 (by decide) ?_
    refine lv_istore (lv' := [(4, .int 1), (0, .ref h0), (1, .int way), (2, .int a), (3, .int b)]) hx hb dX5_small_36 hl (by decide) rfl (fun ls hl => ?_)
    exact K_38 1 (fs_bi_t (by unfold fs_sec; rw [if_pos c_29]; trivial)).symm  _ _ hH ls (lv_sub hl [1, 2, 3, 4, 0] rfl)
  · refine lv_iload_n hx hb dX5_small_5 rfl (lv_at hl 1 rfl) ?_
    refine lv_iconst (v := 3) hx hb dX5_small_6 (by decide) ?_
    refine lv_icmp_ne (tgt := 24) hx hb dX5_small_7 (by decide) (fun c_30 => ?_) (fun c_30 => ?_)
    · refine lv_iload_n hx hb dX5_small_24 rfl (lv_at hl 3 rfl) ?_
      refine fs_ci C hH (wr := [(h0, .inr (5, [.int rf, .ref qa, .ref qp, .ref qf, .ref qb, .ref qk, .ref qt, .int ex, .long eX, .long eZ]))]) [] [0] rfl rfl (by decide) (by decide) (fs_rS (rest := []) (As := [.int b]) (n := 1) C hH (wc := []) [] (by decide) rfl (c_X5_isShort l X _ b ) rfl rfl mw_358 mw_356 mw_357 mw_6 (by decide +kernel) ⟨Nat.le_of_ble_eq_true rfl, Nat.le_of_ble_eq_true rfl⟩ rfl hl.1 rfl (Nat.le_of_ble_eq_true rfl) dX5_small_25 ⟨Nat.le_of_ble_eq_true rfl, Nat.le_of_ble_eq_true rfl⟩) (fun r_31 u_32 H locs hr_33 hH => ?_)
      subst hr_33
      have hH : fs_H X A s [(h0, .inr (5, [.int rf, .ref qa, .ref qp, .ref qf, .ref qb, .ref qk, .ref qt, .int ex, .long eX, .long eZ]))] _ _ := hH
      refine lv_if_eq (tgt := 35) hx hb dX5_small_28 (by decide) (fun c_34 => ?_) (fun c_34 => ?_)
      · refine lv_iconst (v := 0) hx hb dX5_small_35 (by decide) ?_
        refine lv_istore (lv' := [(4, .int 0), (0, .ref h0), (1, .int way), (2, .int a), (3, .int b)]) hx hb dX5_small_36 hl (by decide) rfl (fun ls hl => ?_)
        exact K_38 0 (fs_bi_f (by unfold fs_sec; rw [if_neg c_29, if_neg c_30]; exact (fs_bi_0.mp c_34))).symm  _ _ hH ls (lv_sub hl [1, 2, 3, 4, 0] rfl)
      · refine lv_iconst (v := 1) hx hb dX5_small_31 (by decide) ?_
        refine lv_goto (tgt := 36) hx hb dX5_small_32 (by decide) ?_
        refine lv_istore (lv' := [(4, .int 1), (0, .ref h0), (1, .int way), (2, .int a), (3, .int b)]) hx hb dX5_small_36 hl (by decide) rfl (fun ls hl => ?_)
        exact K_38 1 (fs_bi_t (by unfold fs_sec; rw [if_neg c_29, if_neg c_30]; exact (fs_bi_nz.mp c_34))).symm  _ _ hH ls (lv_sub hl [1, 2, 3, 4, 0] rfl)
    · refine lv_iload_n hx hb dX5_small_10 rfl (lv_at hl 3 rfl) ?_
      refine lv_bipush (v := (-15)) hx hb dX5_small_11 (by decide) ?_
      refine lv_bipush (v := 15) hx hb dX5_small_13 (by decide) ?_
      refine fs_ci C hH (wr := [(h0, .inr (5, [.int rf, .ref qa, .ref qp, .ref qf, .ref qb, .ref qk, .ref qt, .int ex, .long eX, .long eZ]))]) [] [0] rfl rfl (by decide) (by decide) (fs_rS (rest := []) (As := [.int b, .int (-15), .int 15]) (n := 3) C hH (wc := []) [] (by decide) rfl (c_X5_isIn l X _ b (-15) 15 ) rfl rfl mw_338 mw_336 mw_337 mw_6 (by decide +kernel) ⟨Nat.le_of_ble_eq_true rfl, Nat.le_of_ble_eq_true rfl⟩ rfl hl.1 rfl (Nat.le_of_ble_eq_true rfl) dX5_small_15 ⟨Nat.le_of_ble_eq_true rfl, Nat.le_of_ble_eq_true rfl⟩) (fun r_35 u_36 H locs hr_37 hH => ?_)
      subst hr_37
      have hH : fs_H X A s [(h0, .inr (5, [.int rf, .ref qa, .ref qp, .ref qf, .ref qb, .ref qk, .ref qt, .int ex, .long eX, .long eZ]))] _ _ := hH
      refine lv_if_eq (tgt := 35) hx hb dX5_small_18 (by decide) (fun c_38 => ?_) (fun c_38 => ?_)
      · refine lv_iconst (v := 0) hx hb dX5_small_35 (by decide) ?_
        refine lv_istore (lv' := [(4, .int 0), (0, .ref h0), (1, .int way), (2, .int a), (3, .int b)]) hx hb dX5_small_36 hl (by decide) rfl (fun ls hl => ?_)
        exact K_38 0 (fs_bi_f (by unfold fs_sec; rw [if_neg c_29, if_pos c_30]; exact (fs_bi_0.mp c_38))).symm  _ _ hH ls (lv_sub hl [1, 2, 3, 4, 0] rfl)
      · refine lv_goto (tgt := 31) hx hb dX5_small_21 (by decide) ?_
        refine lv_iconst (v := 1) hx hb dX5_small_31 (by decide) ?_
        refine lv_goto (tgt := 36) hx hb dX5_small_32 (by decide) ?_
        refine lv_istore (lv' := [(4, .int 1), (0, .ref h0), (1, .int way), (2, .int a), (3, .int b)]) hx hb dX5_small_36 hl (by decide) rfl (fun ls hl => ?_)
        exact K_38 1 (fs_bi_t (by unfold fs_sec; rw [if_neg c_29, if_pos c_30]; exact (fs_bi_nz.mp c_38))).symm  _ _ hH ls (lv_sub hl [1, 2, 3, 4, 0] rfl)
set_option maxHeartbeats 4000000 in
set_option maxRecDepth 100000 in
theorem c_X5_narrow (l : Launch) (X : fs_X) (sz : Nat) (h0 : Nat) (qa : Nat) (qp : Nat) (qf : Nat) (qb : Nat) (qk : Nat) (qt : Nat) (rf : Int32) (ex : Int32) (eX : Int64) (eZ : Int64) (a : Int32)  : fs_M l X yX5_narrow cX5_narrow 2 (some .int) ({ frames := 1, cells := 0, slots := 0, locals := 23 }) [.ref h0, .int a] [(h0, .inr (5, [.int rf, .ref qa, .ref qp, .ref qf, .ref qb, .ref qk, .ref qt, .int ex, .long eX, .long eZ]))] sz (fs_Qi X (fun r (_ : Unit) => r = fs_sat (fs_rd (Int32.toInt64 a) 16) 32767) (fun _ => [(h0, .inr (5, [.int 0, .ref qa, .ref qp, .ref qf, .ref qb, .ref qk, .ref qt, .int ex, .long eX, .long eZ]))])) 0 0 := by
  refine fs_ofW (by decide) (Nat.le_of_ble_eq_true rfl) ?_
  intro p e s m args below meth c A ls C hH hl
  have C : fs_At X A p s m args meth c cX5_narrow 2 (some .int) RX5 "narrow" := C
  have hx := C.1
  have hb := C.2.1
  have hown := C.2.2.2.2.1
  have hts := C.2.2.2.2.2.1
  have hl : lv_has ls 2 [(0, .ref h0), (1, .int a)] := hl
  have hH : fs_H X A s [(h0, .inr (5, [.int rf, .ref qa, .ref qp, .ref qf, .ref qb, .ref qk, .ref qt, .int ex, .long eX, .long eZ]))] s.heap [] := hH
  refine lv_aload_n hx hb dX5_narrow_0 rfl (lv_at hl 0 rfl) ?_
  refine lv_iconst (v := 0) hx hb dX5_narrow_1 (by decide) ?_
  refine fs_put C in_5 tyX5 tyX5_ok nmX5 hH 0 rfl rfl 0 (by decide) mw_307 rfl rfl rfl (Nat.le_of_ble_eq_true rfl) (ws' := [(h0, .inr (5, [.int 0, .ref qa, .ref qp, .ref qf, .ref qb, .ref qk, .ref qt, .int ex, .long eX, .long eZ]))]) rfl dX5_narrow_2 (fun H locs hH => ?_)
  refine lv_iload_n hx hb dX5_narrow_5 rfl (lv_at hl 1 rfl) ?_
  refine lv_i2l hx hb dX5_narrow_6 rfl ?_
  refine lv_bipush (v := 16) hx hb dX5_narrow_7 (by decide) ?_
  refine fs_cl C hH (wr := [(h0, .inr (5, [.int 0, .ref qa, .ref qp, .ref qf, .ref qb, .ref qk, .ref qt, .int ex, .long eX, .long eZ]))]) [] [0] rfl rfl (by decide) (by decide) (fs_rS (rest := []) (As := [.long (Int32.toInt64 a), .int 16]) (n := 2) C hH (wc := []) [] (by decide) rfl (c_X5_rounded l X _ (Int32.toInt64 a) 16 ) rfl rfl mw_351 mw_349 mw_350 mw_6 (by decide +kernel) ⟨Nat.le_of_ble_eq_true rfl, Nat.le_of_ble_eq_true rfl⟩ rfl hl.1 rfl (Nat.le_of_ble_eq_true rfl) dX5_narrow_9 ⟨Nat.le_of_ble_eq_true rfl, Nat.le_of_ble_eq_true rfl⟩) (fun r_1 u_2 H locs hr_3 hH => ?_)
  subst hr_3
  have hH : fs_H X A s [(h0, .inr (5, [.int 0, .ref qa, .ref qp, .ref qf, .ref qb, .ref qk, .ref qt, .int ex, .long eX, .long eZ]))] _ _ := hH
  refine fs_topl (y := (fs_rd (Int32.toInt64 a) 16)) (if_neg (by decide)) ?_
  refine lv_ldc2 (v := 32767) hx hb hown (hts _ mw_359) dX5_narrow_12 ?_
  refine fs_ci C hH (wr := [(h0, .inr (5, [.int 0, .ref qa, .ref qp, .ref qf, .ref qb, .ref qk, .ref qt, .int ex, .long eX, .long eZ]))]) [] [0] rfl rfl (by decide) (by decide) (fs_rS (rest := []) (As := [.long (fs_rd (Int32.toInt64 a) 16), .long 32767]) (n := 2) C hH (wc := []) [] (by decide) rfl (c_X5_within l X _ (fs_rd (Int32.toInt64 a) 16) 32767 ) rfl rfl mw_348 mw_346 mw_347 mw_6 (by decide +kernel) ⟨Nat.le_of_ble_eq_true rfl, Nat.le_of_ble_eq_true rfl⟩ rfl hl.1 rfl (Nat.le_of_ble_eq_true rfl) dX5_narrow_15 ⟨Nat.le_of_ble_eq_true rfl, Nat.le_of_ble_eq_true rfl⟩) (fun r_4 u_5 H locs hr_6 hH => ?_)
  subst hr_6
  have hH : fs_H X A s [(h0, .inr (5, [.int 0, .ref qa, .ref qp, .ref qf, .ref qb, .ref qk, .ref qt, .int ex, .long eX, .long eZ]))] _ _ := hH
  exact fs_iret C hH () rfl rfl dX5_narrow_18
set_option maxHeartbeats 4000000 in
set_option maxRecDepth 100000 in
theorem c_X5_tap (l : Launch) (X : fs_X) (sz : Nat) (h0 : Nat) (qa : Nat) (qp : Nat) (qf : Nat) (qb : Nat) (qk : Nat) (qt : Nat) (rf : Int32) (ex : Int32) (eX : Int64) (eZ : Int64) (ff : Nat → Int32) (k : Int32) (v : Int32)  : fs_M l X yX5_tap cX5_tap 3 none ({ frames := 1, cells := 0, slots := 0, locals := 22 }) [.ref h0, .int k, .int v] [(h0, .inr (5, [.int rf, .ref qa, .ref qp, .ref qf, .ref qb, .ref qk, .ref qt, .int ex, .long eX, .long eZ])), (qa, fs_ai X 16 ff)] sz (fs_Qv X (fun (u : Bool) => (u = true → ((¬ k < 0 ∧ ¬ 16 ≤ k) ∧ fs_short v)) ∧ (u = false → ¬ ((¬ k < 0 ∧ ¬ 16 ≤ k) ∧ fs_short v))) (fun u => match u with | true => [(h0, .inr (5, [.int 0, .ref qa, .ref qp, .ref qf, .ref qb, .ref qk, .ref qt, .int ex, .long eX, .long eZ])), (qa, fs_ai X 16 (upd ff (Int32.toNatClampNeg k) v))] | false => [(h0, .inr (5, [.int 1, .ref qa, .ref qp, .ref qf, .ref qb, .ref qk, .ref qt, .int ex, .long eX, .long eZ])), (qa, fs_ai X 16 ff)])) 0 0 := by
  refine fs_ofW (by decide) (Nat.le_of_ble_eq_true rfl) ?_
  intro p e s m args below meth c A ls C hH hl
  have C : fs_At X A p s m args meth c cX5_tap 3 none RX5 "tap" := C
  have hx := C.1
  have hb := C.2.1
  have hown := C.2.2.2.2.1
  have hts := C.2.2.2.2.2.1
  have hl : lv_has ls 3 [(0, .ref h0), (1, .int k), (2, .int v)] := hl
  have hH : fs_H X A s [(h0, .inr (5, [.int rf, .ref qa, .ref qp, .ref qf, .ref qb, .ref qk, .ref qt, .int ex, .long eX, .long eZ])), (qa, fs_ai X 16 ff)] s.heap [] := hH
  refine lv_aload_n hx hb dX5_tap_0 rfl (lv_at hl 0 rfl) ?_
  refine lv_iload_n hx hb dX5_tap_1 rfl (lv_at hl 1 rfl) ?_
  refine lv_iconst (v := 0) hx hb dX5_tap_2 (by decide) ?_
  refine lv_bipush (v := 15) hx hb dX5_tap_3 (by decide) ?_
  refine fs_ci C hH (wr := [(h0, .inr (5, [.int rf, .ref qa, .ref qp, .ref qf, .ref qb, .ref qk, .ref qt, .int ex, .long eX, .long eZ])), (qa, fs_ai X 16 ff)]) [] [0, 1] rfl rfl (by decide) (by decide) (fs_rS (rest := [.ref h0]) (As := [.int k, .int 0, .int 15]) (n := 3) C hH (wc := []) [] (by decide) rfl (c_X5_isIn l X _ k 0 15 ) rfl rfl mw_338 mw_336 mw_337 mw_6 (by decide +kernel) ⟨Nat.le_of_ble_eq_true rfl, Nat.le_of_ble_eq_true rfl⟩ rfl hl.1 rfl (Nat.le_of_ble_eq_true rfl) dX5_tap_5 ⟨Nat.le_of_ble_eq_true rfl, Nat.le_of_ble_eq_true rfl⟩) (fun r_1 u_2 H locs hr_3 hH => ?_)
  subst hr_3
  have hH : fs_H X A s [(h0, .inr (5, [.int rf, .ref qa, .ref qp, .ref qf, .ref qb, .ref qk, .ref qt, .int ex, .long eX, .long eZ])), (qa, fs_ai X 16 ff)] _ _ := hH
  refine lv_if_eq (tgt := 22) hx hb dX5_tap_8 (by decide) (fun c_4 => ?_) (fun c_4 => ?_)
  · refine lv_iconst (v := 1) hx hb dX5_tap_22 (by decide) ?_
    refine fs_ci C hH (wr := [(qa, fs_ai X 16 ff)]) [0] [1] rfl rfl (by decide) (by decide) (fs_rV (rest := []) (As := [.int 1]) (n := 1) (q0 := 0) (ci := 5) C hH (wc := [(h0, .inr (5, [.int rf, .ref qa, .ref qp, .ref qf, .ref qb, .ref qk, .ref qt, .int ex, .long eX, .long eZ]))]) [0] (by decide) rfl (c_X5_refused l X _ h0 qa qp qf qb qk qt rf ex eX eZ 1 ) rfl rfl rfl rfl mw_341 mw_339 mw_340 mw_493 mw_6 (by decide +kernel) ⟨Nat.le_of_ble_eq_true rfl, Nat.le_of_ble_eq_true rfl⟩ rfl hl.1 rfl (Nat.le_of_ble_eq_true rfl) dX5_tap_23 ⟨Nat.le_of_ble_eq_true rfl, Nat.le_of_ble_eq_true rfl⟩) (fun r_5 u_6 H locs hr_7 hH => ?_)
    subst hr_7
    have hH : fs_H X A s [(h0, .inr (5, [.int 1, .ref qa, .ref qp, .ref qf, .ref qb, .ref qk, .ref qt, .int ex, .long eX, .long eZ])), (qa, fs_ai X 16 ff)] _ _ := hH.sub [1, 0] (by decide) rfl
    refine lv_if_eq (tgt := 30) hx hb dX5_tap_26 (by decide) (fun c_8 => ?_) (fun c_8 => ?_)
    · exact absurd c_8 (by decide)
    · exact fs_vret C hH false rfl (⟨fun h => (by cases h), fun _ => fun h => (fs_bi_0.mp c_4) ⟨h.1.1, fs_c15.mpr h.1.2⟩⟩) dX5_tap_29
  · refine lv_iload_n hx hb dX5_tap_11 rfl (lv_at hl 2 rfl) ?_
    refine fs_ci C hH (wr := [(h0, .inr (5, [.int rf, .ref qa, .ref qp, .ref qf, .ref qb, .ref qk, .ref qt, .int ex, .long eX, .long eZ])), (qa, fs_ai X 16 ff)]) [] [0, 1] rfl rfl (by decide) (by decide) (fs_rS (rest := [.ref h0]) (As := [.int v]) (n := 1) C hH (wc := []) [] (by decide) rfl (c_X5_isShort l X _ v ) rfl rfl mw_358 mw_356 mw_357 mw_6 (by decide +kernel) ⟨Nat.le_of_ble_eq_true rfl, Nat.le_of_ble_eq_true rfl⟩ rfl hl.1 rfl (Nat.le_of_ble_eq_true rfl) dX5_tap_12 ⟨Nat.le_of_ble_eq_true rfl, Nat.le_of_ble_eq_true rfl⟩) (fun r_9 u_10 H locs hr_11 hH => ?_)
    subst hr_11
    have hH : fs_H X A s [(h0, .inr (5, [.int rf, .ref qa, .ref qp, .ref qf, .ref qb, .ref qk, .ref qt, .int ex, .long eX, .long eZ])), (qa, fs_ai X 16 ff)] _ _ := hH
    refine lv_if_eq (tgt := 22) hx hb dX5_tap_15 (by decide) (fun c_12 => ?_) (fun c_12 => ?_)
    · refine lv_iconst (v := 1) hx hb dX5_tap_22 (by decide) ?_
      refine fs_ci C hH (wr := [(qa, fs_ai X 16 ff)]) [0] [1] rfl rfl (by decide) (by decide) (fs_rV (rest := []) (As := [.int 1]) (n := 1) (q0 := 0) (ci := 5) C hH (wc := [(h0, .inr (5, [.int rf, .ref qa, .ref qp, .ref qf, .ref qb, .ref qk, .ref qt, .int ex, .long eX, .long eZ]))]) [0] (by decide) rfl (c_X5_refused l X _ h0 qa qp qf qb qk qt rf ex eX eZ 1 ) rfl rfl rfl rfl mw_341 mw_339 mw_340 mw_493 mw_6 (by decide +kernel) ⟨Nat.le_of_ble_eq_true rfl, Nat.le_of_ble_eq_true rfl⟩ rfl hl.1 rfl (Nat.le_of_ble_eq_true rfl) dX5_tap_23 ⟨Nat.le_of_ble_eq_true rfl, Nat.le_of_ble_eq_true rfl⟩) (fun r_13 u_14 H locs hr_15 hH => ?_)
      subst hr_15
      have hH : fs_H X A s [(h0, .inr (5, [.int 1, .ref qa, .ref qp, .ref qf, .ref qb, .ref qk, .ref qt, .int ex, .long eX, .long eZ])), (qa, fs_ai X 16 ff)] _ _ := hH.sub [1, 0] (by decide) rfl
      refine lv_if_eq (tgt := 30) hx hb dX5_tap_26 (by decide) (fun c_16 => ?_) (fun c_16 => ?_)
      · exact absurd c_16 (by decide)
      · exact fs_vret C hH false rfl (⟨fun h => (by cases h), fun _ => fun h => (fs_bi_0.mp c_12) h.2⟩) dX5_tap_29
    · refine lv_iconst (v := 0) hx hb dX5_tap_18 (by decide) ?_
      refine lv_goto (tgt := 23) hx hb dX5_tap_19 (by decide) ?_
      refine fs_ci C hH (wr := [(qa, fs_ai X 16 ff)]) [0] [1] rfl rfl (by decide) (by decide) (fs_rV (rest := []) (As := [.int 0]) (n := 1) (q0 := 0) (ci := 5) C hH (wc := [(h0, .inr (5, [.int rf, .ref qa, .ref qp, .ref qf, .ref qb, .ref qk, .ref qt, .int ex, .long eX, .long eZ]))]) [0] (by decide) rfl (c_X5_refused l X _ h0 qa qp qf qb qk qt rf ex eX eZ 0 ) rfl rfl rfl rfl mw_341 mw_339 mw_340 mw_493 mw_6 (by decide +kernel) ⟨Nat.le_of_ble_eq_true rfl, Nat.le_of_ble_eq_true rfl⟩ rfl hl.1 rfl (Nat.le_of_ble_eq_true rfl) dX5_tap_23 ⟨Nat.le_of_ble_eq_true rfl, Nat.le_of_ble_eq_true rfl⟩) (fun r_17 u_18 H locs hr_19 hH => ?_)
      subst hr_19
      have hH : fs_H X A s [(h0, .inr (5, [.int 0, .ref qa, .ref qp, .ref qf, .ref qb, .ref qk, .ref qt, .int ex, .long eX, .long eZ])), (qa, fs_ai X 16 ff)] _ _ := hH.sub [1, 0] (by decide) rfl
      refine lv_if_eq (tgt := 30) hx hb dX5_tap_26 (by decide) (fun c_20 => ?_) (fun c_20 => ?_)
      · refine lv_aload_n hx hb dX5_tap_30 rfl (lv_at hl 0 rfl) ?_
        refine fs_get C in_5 hH 0 rfl rfl 1 (by decide) mw_308 (v := .ref qa) rfl dX5_tap_31 ?_
        refine lv_iload_n hx hb dX5_tap_34 rfl (lv_at hl 1 rfl) ?_
        refine lv_iload_n hx hb dX5_tap_35 rfl (lv_at hl 2 rfl) ?_
        refine fs_iast C hH 1 rfl (k := (Int32.toNatClampNeg k)) (fs_ixn (n := 16) (by decide) ⟨(fs_bi_nz.mp c_4).1, fs_c15.mp (fs_bi_nz.mp c_4).2⟩).1 (fs_ixn (n := 16) (by decide) ⟨(fs_bi_nz.mp c_4).1, fs_c15.mp (fs_bi_nz.mp c_4).2⟩).2 (by decide) (ws' := [(h0, .inr (5, [.int 0, .ref qa, .ref qp, .ref qf, .ref qb, .ref qk, .ref qt, .int ex, .long eX, .long eZ])), (qa, fs_ai X 16 (upd ff (Int32.toNatClampNeg k) v))]) rfl dX5_tap_36 (fun H locs hH => ?_)
        exact fs_vret C hH true rfl (⟨fun _ => ⟨⟨(fs_bi_nz.mp c_4).1, fs_c15.mp (fs_bi_nz.mp c_4).2⟩, (fs_bi_nz.mp c_12)⟩, fun h => (by cases h)⟩) dX5_tap_37
      · exact absurd c_20 (by decide)
set_option maxHeartbeats 4000000 in
set_option maxRecDepth 100000 in
theorem c_X5_filter (l : Launch) (X : fs_X) (sz : Nat) (h0 : Nat) (qa : Nat) (qp : Nat) (qf : Nat) (qb : Nat) (qk : Nat) (qt : Nat) (rf : Int32) (ex : Int32) (eX : Int64) (eZ : Int64) (ff : Nat → Int32) (gg : Nat → Int32) (x : Int32) (hF : ∀ j, j < 16 → fs_short (ff j)) (hG : ∀ j, j < 16 → fs_short (gg j)) : fs_M l X yX5_filter cX5_filter 5 (some .int) ({ frames := 1, cells := 0, slots := 0, locals := 23 }) [.ref h0, .int x] [(h0, .inr (5, [.int rf, .ref qa, .ref qp, .ref qf, .ref qb, .ref qk, .ref qt, .int ex, .long eX, .long eZ])), (qa, fs_ai X 16 ff), (qp, fs_ai X 16 gg)] sz (fs_Qi X (fun r (u : Bool) => (u = true → r = (fs_sat (fs_rd (fs_dot ff (fs_shift gg x) 16) 15) 32767) ∧ (fs_short x)) ∧ (u = false → ¬ (fs_short x))) (fun u => match u with | true => [(h0, .inr (5, [.int 0, .ref qa, .ref qp, .ref qf, .ref qb, .ref qk, .ref qt, .int ex, .long eX, .long eZ])), (qa, fs_ai X 16 ff), (qp, fs_ai X 16 (fs_shift gg x))] | false => [(h0, .inr (5, [.int 1, .ref qa, .ref qp, .ref qf, .ref qb, .ref qk, .ref qt, .int ex, .long eX, .long eZ])), (qa, fs_ai X 16 ff), (qp, fs_ai X 16 gg)])) 0 0 := by
  refine fs_ofW (by decide) (Nat.le_of_ble_eq_true rfl) ?_
  intro p e s m args below meth c A ls C hH hl
  have C : fs_At X A p s m args meth c cX5_filter 5 (some .int) RX5 "filter" := C
  have hx := C.1
  have hb := C.2.1
  have hown := C.2.2.2.2.1
  have hts := C.2.2.2.2.2.1
  have hl : lv_has ls 5 [(0, .ref h0), (1, .int x)] := hl
  have K_27 : ∀ (n : Nat) (sm : Int64) (k : Nat), (fs_short x) → (k ≤ 15) → (sm + fs_dot ff (fs_shift gg x) (k + 1) = fs_dot ff (fs_shift gg x) 16) → (k < n) → ∀ (H : Heap) (locs : List Loc), fs_H X A s [(h0, .inr (5, [.int 0, .ref qa, .ref qp, .ref qf, .ref qb, .ref qk, .ref qt, .int ex, .long eX, .long eZ])), (qa, fs_ai X 16 ff), (qp, fs_ai X 16 (fs_shk gg k))] H locs → ∀ (ls : Array Slot), lv_has ls 5 [(0, .ref h0), (1, .int x), (2, .long sm), (4, .int (nI k))] → W p l e ({ frames := 1, cells := 0, slots := 0, locals := 23 }) s m args below meth c H locs 0 0 (MQ below (fs_Qi X (fun r (u : Bool) => (u = true → r = (fs_sat (fs_rd (fs_dot ff (fs_shift gg x) 16) 15) 32767) ∧ (fs_short x)) ∧ (u = false → ¬ (fs_short x))) (fun u => match u with | true => [(h0, .inr (5, [.int 0, .ref qa, .ref qp, .ref qf, .ref qb, .ref qk, .ref qt, .int ex, .long eX, .long eZ])), (qa, fs_ai X 16 ff), (qp, fs_ai X 16 (fs_shift gg x))] | false => [(h0, .inr (5, [.int 1, .ref qa, .ref qp, .ref qf, .ref qb, .ref qk, .ref qt, .int ex, .long eX, .long eZ])), (qa, fs_ai X 16 ff), (qp, fs_ai X 16 gg)]) A) args s 0 0 A) (F0 m 27 ls []) := by
    intro n
    induction n with
    | zero => intro sm k hxs hk hsm hfu; exact absurd hfu (by omega)
    | succ n ih_27 =>
      intro sm k hxs hk hsm hfu H locs hH ls hl
      refine lv_iload hx hb dX5_filter_27 (lv_at hl 3 rfl) ?_
      refine lv_if_le (tgt := 73) hx hb dX5_filter_29 (by decide) (fun c_1 => ?_) (fun c_1 => ?_)
      · obtain rfl : k = 0 := fs_leT (by omega) c_1
        refine lv_aload_n hx hb dX5_filter_73 rfl (lv_at hl 0 rfl) ?_
        refine fs_get C in_5 hH 0 rfl rfl 2 (by decide) mw_309 (v := .ref qp) rfl dX5_filter_74 ?_
        refine lv_iconst (v := 0) hx hb dX5_filter_77 (by decide) ?_
        refine lv_iload_n hx hb dX5_filter_78 rfl (lv_at hl 1 rfl) ?_
        refine fs_iast C hH 2 rfl (k := 0) rfl (by decide) (by decide) (ws' := [(h0, .inr (5, [.int 0, .ref qa, .ref qp, .ref qf, .ref qb, .ref qk, .ref qt, .int ex, .long eX, .long eZ])), (qa, fs_ai X 16 ff), (qp, fs_ai X 16 (upd (fs_shk gg 0) 0 x))]) rfl dX5_filter_79 (fun H locs hH => ?_)
        have hH : fs_H X A s [(h0, .inr (5, [.int 0, .ref qa, .ref qp, .ref qf, .ref qb, .ref qk, .ref qt, .int ex, .long eX, .long eZ])), (qa, fs_ai X 16 ff), (qp, fs_ai X 16 (fs_shift gg x))] _ _ := hH.to (by rw [← fs_shk_0])
        refine lv_lload_n hx hb dX5_filter_80 rfl (lv_at hl 2 rfl) ?_
        refine lv_aload_n hx hb dX5_filter_81 rfl (lv_at hl 0 rfl) ?_
        refine fs_get C in_5 hH 0 rfl rfl 1 (by decide) mw_308 (v := .ref qa) rfl dX5_filter_82 ?_
        refine lv_iconst (v := 0) hx hb dX5_filter_85 (by decide) ?_
        refine fs_iald C hH 1 rfl (k := 0) rfl (by decide) (by decide) dX5_filter_86 ?_
        refine lv_iload_n hx hb dX5_filter_87 rfl (lv_at hl 1 rfl) ?_
        refine lv_imul hx hb dX5_filter_88 ?_
        refine lv_i2l hx hb dX5_filter_89 rfl ?_
        refine lv_ladd hx hb dX5_filter_90 ?_
        refine fs_topl (y := (fs_dot ff (fs_shift gg x) 16)) (fs_dlast (hF 0 (by decide)) hxs hsm) ?_
        refine lv_lstore_n (lv' := [(2, .long (fs_dot ff (fs_shift gg x) 16)), (0, .ref h0), (1, .int x), (4, .int (nI 0))]) hx hb dX5_filter_91 rfl hl (by decide) rfl (fun ls hl => ?_)
        refine lv_lload_n hx hb dX5_filter_92 rfl (lv_at hl 0 rfl) ?_
        refine lv_bipush (v := 15) hx hb dX5_filter_93 (by decide) ?_
        refine fs_cl C hH (wr := [(h0, .inr (5, [.int 0, .ref qa, .ref qp, .ref qf, .ref qb, .ref qk, .ref qt, .int ex, .long eX, .long eZ])), (qa, fs_ai X 16 ff), (qp, fs_ai X 16 (fs_shift gg x))]) [] [0, 1, 2] rfl rfl (by decide) (by decide) (fs_rS (rest := []) (As := [.long (fs_dot ff (fs_shift gg x) 16), .int 15]) (n := 2) C hH (wc := []) [] (by decide) rfl (c_X5_rounded l X _ (fs_dot ff (fs_shift gg x) 16) 15 ) rfl rfl mw_351 mw_349 mw_350 mw_6 (by decide +kernel) ⟨Nat.le_of_ble_eq_true rfl, Nat.le_of_ble_eq_true rfl⟩ rfl hl.1 rfl (Nat.le_of_ble_eq_true rfl) dX5_filter_95 ⟨Nat.le_of_ble_eq_true rfl, Nat.le_of_ble_eq_true rfl⟩) (fun r_2 u_3 H locs hr_4 hH => ?_)
        subst hr_4
        have hH : fs_H X A s [(h0, .inr (5, [.int 0, .ref qa, .ref qp, .ref qf, .ref qb, .ref qk, .ref qt, .int ex, .long eX, .long eZ])), (qa, fs_ai X 16 ff), (qp, fs_ai X 16 (fs_shift gg x))] _ _ := hH
        refine fs_topl (y := (fs_rd (fs_dot ff (fs_shift gg x) 16) 15)) (if_neg (by decide)) ?_
        refine lv_ldc2 (v := 32767) hx hb hown (hts _ mw_359) dX5_filter_98 ?_
        refine fs_ci C hH (wr := [(h0, .inr (5, [.int 0, .ref qa, .ref qp, .ref qf, .ref qb, .ref qk, .ref qt, .int ex, .long eX, .long eZ])), (qa, fs_ai X 16 ff), (qp, fs_ai X 16 (fs_shift gg x))]) [] [0, 1, 2] rfl rfl (by decide) (by decide) (fs_rS (rest := []) (As := [.long (fs_rd (fs_dot ff (fs_shift gg x) 16) 15), .long 32767]) (n := 2) C hH (wc := []) [] (by decide) rfl (c_X5_within l X _ (fs_rd (fs_dot ff (fs_shift gg x) 16) 15) 32767 ) rfl rfl mw_348 mw_346 mw_347 mw_6 (by decide +kernel) ⟨Nat.le_of_ble_eq_true rfl, Nat.le_of_ble_eq_true rfl⟩ rfl hl.1 rfl (Nat.le_of_ble_eq_true rfl) dX5_filter_101 ⟨Nat.le_of_ble_eq_true rfl, Nat.le_of_ble_eq_true rfl⟩) (fun r_5 u_6 H locs hr_7 hH => ?_)
        subst hr_7
        have hH : fs_H X A s [(h0, .inr (5, [.int 0, .ref qa, .ref qp, .ref qf, .ref qb, .ref qk, .ref qt, .int ex, .long eX, .long eZ])), (qa, fs_ai X 16 ff), (qp, fs_ai X 16 (fs_shift gg x))] _ _ := hH
        exact fs_iret C hH true rfl (⟨fun _ => ⟨rfl, hxs⟩, fun h => (by cases h)⟩) dX5_filter_104
      · obtain ⟨j, rfl⟩ : ∃ j, k = j + 1 := ⟨k - 1, by have := fs_leF c_1; omega⟩
        refine lv_aload_n hx hb dX5_filter_32 rfl (lv_at hl 0 rfl) ?_
        refine fs_get C in_5 hH 0 rfl rfl 2 (by decide) mw_309 (v := .ref qp) rfl dX5_filter_33 ?_
        refine lv_iload hx hb dX5_filter_36 (lv_at hl 3 rfl) ?_
        refine lv_aload_n hx hb dX5_filter_38 rfl (lv_at hl 0 rfl) ?_
        refine fs_get C in_5 hH 0 rfl rfl 2 (by decide) mw_309 (v := .ref qp) rfl dX5_filter_39 ?_
        refine lv_iload hx hb dX5_filter_42 (lv_at hl 3 rfl) ?_
        refine lv_iconst (v := 1) hx hb dX5_filter_44 (by decide) ?_
        refine lv_isub hx hb dX5_filter_45 ?_
        refine fs_iald C hH 2 rfl (k := j) (nI_pred j) (by omega) (by decide) dX5_filter_46 ?_
        refine fs_iast C hH 2 rfl (k := (j + 1)) rfl (by omega) (by decide) (ws' := [(h0, .inr (5, [.int 0, .ref qa, .ref qp, .ref qf, .ref qb, .ref qk, .ref qt, .int ex, .long eX, .long eZ])), (qa, fs_ai X 16 ff), (qp, fs_ai X 16 (upd (fs_shk gg (j + 1)) (j + 1) ((fs_shk gg (j + 1)) j)))]) rfl dX5_filter_47 (fun H locs hH => ?_)
        have hH : fs_H X A s [(h0, .inr (5, [.int 0, .ref qa, .ref qp, .ref qf, .ref qb, .ref qk, .ref qt, .int ex, .long eX, .long eZ])), (qa, fs_ai X 16 ff), (qp, fs_ai X 16 (fs_shk gg j))] _ _ := hH.to (by rw [← fs_shk_s gg j (by omega)])
        refine lv_lload_n hx hb dX5_filter_48 rfl (lv_at hl 2 rfl) ?_
        refine lv_aload_n hx hb dX5_filter_49 rfl (lv_at hl 0 rfl) ?_
        refine fs_get C in_5 hH 0 rfl rfl 1 (by decide) mw_308 (v := .ref qa) rfl dX5_filter_50 ?_
        refine lv_iload hx hb dX5_filter_53 (lv_at hl 3 rfl) ?_
        refine fs_iald C hH 1 rfl (k := (j + 1)) rfl (by omega) (by decide) dX5_filter_55 ?_
        refine lv_aload_n hx hb dX5_filter_56 rfl (lv_at hl 0 rfl) ?_
        refine fs_get C in_5 hH 0 rfl rfl 2 (by decide) mw_309 (v := .ref qp) rfl dX5_filter_57 ?_
        refine lv_iload hx hb dX5_filter_60 (lv_at hl 3 rfl) ?_
        refine fs_iald C hH 2 rfl (k := (j + 1)) rfl (by omega) (by decide) dX5_filter_62 ?_
        refine fs_topi (y := (gg j)) (fs_shk_at gg (by omega)) ?_
        refine lv_imul hx hb dX5_filter_63 ?_
        refine lv_i2l hx hb dX5_filter_64 rfl ?_
        refine lv_ladd hx hb dX5_filter_65 ?_
        refine lv_lstore_n (lv' := [(2, .long (sm + (Int32.toInt64 ((ff (j + 1)) * (gg j))))), (0, .ref h0), (1, .int x), (4, .int (nI (j + 1)))]) hx hb dX5_filter_66 rfl hl (by decide) rfl (fun ls hl => ?_)
        refine lv_iinc (v := (nI j)) (lv' := [(4, .int (nI j)), (2, .long (sm + (Int32.toInt64 ((ff (j + 1)) * (gg j))))), (0, .ref h0), (1, .int x)]) hx hb dX5_filter_67 hl (k := 3) rfl (pk_m1 j) (by decide) rfl (fun ls hl => ?_)
        refine lv_goto (tgt := 27) hx hb dX5_filter_70 (by decide) ?_
        exact ih_27 (sm + (Int32.toInt64 ((ff (j + 1)) * (gg j)))) j hxs (by omega) (fs_dstep (by omega) (hF _ (by omega)) (hG _ (by omega)) hsm) (by omega) _ _ hH ls (lv_sub hl [2, 3, 1, 0] rfl)
  have hH : fs_H X A s [(h0, .inr (5, [.int rf, .ref qa, .ref qp, .ref qf, .ref qb, .ref qk, .ref qt, .int ex, .long eX, .long eZ])), (qa, fs_ai X 16 ff), (qp, fs_ai X 16 gg)] s.heap [] := hH
  refine lv_aload_n hx hb dX5_filter_0 rfl (lv_at hl 0 rfl) ?_
  refine lv_iload_n hx hb dX5_filter_1 rfl (lv_at hl 1 rfl) ?_
  refine fs_ci C hH (wr := [(h0, .inr (5, [.int rf, .ref qa, .ref qp, .ref qf, .ref qb, .ref qk, .ref qt, .int ex, .long eX, .long eZ])), (qa, fs_ai X 16 ff), (qp, fs_ai X 16 gg)]) [] [0, 1, 2] rfl rfl (by decide) (by decide) (fs_rS (rest := [.ref h0]) (As := [.int x]) (n := 1) C hH (wc := []) [] (by decide) rfl (c_X5_isShort l X _ x ) rfl rfl mw_358 mw_356 mw_357 mw_6 (by decide +kernel) ⟨Nat.le_of_ble_eq_true rfl, Nat.le_of_ble_eq_true rfl⟩ rfl hl.1 rfl (Nat.le_of_ble_eq_true rfl) dX5_filter_2 ⟨Nat.le_of_ble_eq_true rfl, Nat.le_of_ble_eq_true rfl⟩) (fun r_8 u_9 H locs hr_10 hH => ?_)
  subst hr_10
  have hH : fs_H X A s [(h0, .inr (5, [.int rf, .ref qa, .ref qp, .ref qf, .ref qb, .ref qk, .ref qt, .int ex, .long eX, .long eZ])), (qa, fs_ai X 16 ff), (qp, fs_ai X 16 gg)] _ _ := hH
  refine lv_if_eq (tgt := 12) hx hb dX5_filter_5 (by decide) (fun c_11 => ?_) (fun c_11 => ?_)
  · refine lv_iconst (v := 1) hx hb dX5_filter_12 (by decide) ?_
    refine fs_ci C hH (wr := [(qa, fs_ai X 16 ff), (qp, fs_ai X 16 gg)]) [0] [1, 2] rfl rfl (by decide) (by decide) (fs_rV (rest := []) (As := [.int 1]) (n := 1) (q0 := 0) (ci := 5) C hH (wc := [(h0, .inr (5, [.int rf, .ref qa, .ref qp, .ref qf, .ref qb, .ref qk, .ref qt, .int ex, .long eX, .long eZ]))]) [0] (by decide) rfl (c_X5_refused l X _ h0 qa qp qf qb qk qt rf ex eX eZ 1 ) rfl rfl rfl rfl mw_341 mw_339 mw_340 mw_493 mw_6 (by decide +kernel) ⟨Nat.le_of_ble_eq_true rfl, Nat.le_of_ble_eq_true rfl⟩ rfl hl.1 rfl (Nat.le_of_ble_eq_true rfl) dX5_filter_13 ⟨Nat.le_of_ble_eq_true rfl, Nat.le_of_ble_eq_true rfl⟩) (fun r_12 u_13 H locs hr_14 hH => ?_)
    subst hr_14
    have hH : fs_H X A s [(h0, .inr (5, [.int 1, .ref qa, .ref qp, .ref qf, .ref qb, .ref qk, .ref qt, .int ex, .long eX, .long eZ])), (qa, fs_ai X 16 ff), (qp, fs_ai X 16 gg)] _ _ := hH.sub [2, 0, 1] (by decide) rfl
    refine lv_if_eq (tgt := 21) hx hb dX5_filter_16 (by decide) (fun c_15 => ?_) (fun c_15 => ?_)
    · exact absurd c_15 (by decide)
    · refine lv_iconst (v := 0) hx hb dX5_filter_19 (by decide) ?_
      exact fs_iret C hH false rfl (⟨fun h => (by cases h), fun _ => (fs_bi_0.mp c_11)⟩) dX5_filter_20
  · refine lv_iconst (v := 0) hx hb dX5_filter_8 (by decide) ?_
    refine lv_goto (tgt := 13) hx hb dX5_filter_9 (by decide) ?_
    refine fs_ci C hH (wr := [(qa, fs_ai X 16 ff), (qp, fs_ai X 16 gg)]) [0] [1, 2] rfl rfl (by decide) (by decide) (fs_rV (rest := []) (As := [.int 0]) (n := 1) (q0 := 0) (ci := 5) C hH (wc := [(h0, .inr (5, [.int rf, .ref qa, .ref qp, .ref qf, .ref qb, .ref qk, .ref qt, .int ex, .long eX, .long eZ]))]) [0] (by decide) rfl (c_X5_refused l X _ h0 qa qp qf qb qk qt rf ex eX eZ 0 ) rfl rfl rfl rfl mw_341 mw_339 mw_340 mw_493 mw_6 (by decide +kernel) ⟨Nat.le_of_ble_eq_true rfl, Nat.le_of_ble_eq_true rfl⟩ rfl hl.1 rfl (Nat.le_of_ble_eq_true rfl) dX5_filter_13 ⟨Nat.le_of_ble_eq_true rfl, Nat.le_of_ble_eq_true rfl⟩) (fun r_16 u_17 H locs hr_18 hH => ?_)
    subst hr_18
    have hH : fs_H X A s [(h0, .inr (5, [.int 0, .ref qa, .ref qp, .ref qf, .ref qb, .ref qk, .ref qt, .int ex, .long eX, .long eZ])), (qa, fs_ai X 16 ff), (qp, fs_ai X 16 gg)] _ _ := hH.sub [2, 0, 1] (by decide) rfl
    refine lv_if_eq (tgt := 21) hx hb dX5_filter_16 (by decide) (fun c_19 => ?_) (fun c_19 => ?_)
    · refine lv_lconst (v := 0) hx hb dX5_filter_21 (by decide) ?_
      refine lv_lstore_n (lv' := [(2, .long 0), (0, .ref h0), (1, .int x)]) hx hb dX5_filter_22 rfl hl (by decide) rfl (fun ls hl => ?_)
      refine lv_bipush (v := 15) hx hb dX5_filter_23 (by decide) ?_
      have hH : fs_H X A s [(h0, .inr (5, [.int 0, .ref qa, .ref qp, .ref qf, .ref qb, .ref qk, .ref qt, .int ex, .long eX, .long eZ])), (qa, fs_ai X 16 ff), (qp, fs_ai X 16 (fs_shk gg 15))] _ _ := hH.to (by rw [fs_shk_15])
      refine lv_istore (lv' := [(4, .int 15), (2, .long 0), (0, .ref h0), (1, .int x)]) hx hb dX5_filter_25 hl (by decide) rfl (fun ls hl => ?_)
      exact K_27 16 0 15 (fs_bi_nz.mp c_11) (by omega) (Int64.zero_add _) (by omega) _ _ hH ls (lv_sub hl [2, 3, 1, 0] rfl)
    · exact absurd c_19 (by decide)
set_option maxHeartbeats 4000000 in
set_option maxRecDepth 100000 in
theorem c_X5_stage (l : Launch) (X : fs_X) (sz : Nat) (h0 : Nat) (qa : Nat) (qp : Nat) (qf : Nat) (qb : Nat) (qk : Nat) (qt : Nat) (rf : Int32) (ex : Int32) (eX : Int64) (eZ : Int64) (fa : Nat → Int32) (a : Int32) (b : Int32) (v : Int32)  : fs_M l X yX5_stage cX5_stage 4 none ({ frames := 1, cells := 0, slots := 0, locals := 22 }) [.ref h0, .int a, .int b, .int v] [(h0, .inr (5, [.int rf, .ref qa, .ref qp, .ref qf, .ref qb, .ref qk, .ref qt, .int ex, .long eX, .long eZ])), (qf, fs_ai X 20 fa)] sz (fs_Qv X (fun (u : Bool) => (u = true → ((¬ a < 0 ∧ ¬ 4 ≤ a) ∧ (¬ b < 0 ∧ ¬ 5 ≤ b) ∧ fs_short v)) ∧ (u = false → ¬ ((¬ a < 0 ∧ ¬ 4 ≤ a) ∧ (¬ b < 0 ∧ ¬ 5 ≤ b) ∧ fs_short v))) (fun u => match u with | true => [(h0, .inr (5, [.int 0, .ref qa, .ref qp, .ref qf, .ref qb, .ref qk, .ref qt, .int ex, .long eX, .long eZ])), (qf, fs_ai X 20 (upd fa (5 * (Int32.toNatClampNeg a) + (Int32.toNatClampNeg b)) v))] | false => [(h0, .inr (5, [.int 1, .ref qa, .ref qp, .ref qf, .ref qb, .ref qk, .ref qt, .int ex, .long eX, .long eZ])), (qf, fs_ai X 20 fa)])) 0 0 := by
  refine fs_ofW (by decide) (Nat.le_of_ble_eq_true rfl) ?_
  intro p e s m args below meth c A ls C hH hl
  have C : fs_At X A p s m args meth c cX5_stage 4 none RX5 "stage" := C
  have hx := C.1
  have hb := C.2.1
  have hown := C.2.2.2.2.1
  have hts := C.2.2.2.2.2.1
  have hl : lv_has ls 4 [(0, .ref h0), (1, .int a), (2, .int b), (3, .int v)] := hl
  have hH : fs_H X A s [(h0, .inr (5, [.int rf, .ref qa, .ref qp, .ref qf, .ref qb, .ref qk, .ref qt, .int ex, .long eX, .long eZ])), (qf, fs_ai X 20 fa)] s.heap [] := hH
  refine lv_aload_n hx hb dX5_stage_0 rfl (lv_at hl 0 rfl) ?_
  refine lv_iload_n hx hb dX5_stage_1 rfl (lv_at hl 1 rfl) ?_
  refine lv_iconst (v := 0) hx hb dX5_stage_2 (by decide) ?_
  refine lv_iconst (v := 3) hx hb dX5_stage_3 (by decide) ?_
  refine fs_ci C hH (wr := [(h0, .inr (5, [.int rf, .ref qa, .ref qp, .ref qf, .ref qb, .ref qk, .ref qt, .int ex, .long eX, .long eZ])), (qf, fs_ai X 20 fa)]) [] [0, 1] rfl rfl (by decide) (by decide) (fs_rS (rest := [.ref h0]) (As := [.int a, .int 0, .int 3]) (n := 3) C hH (wc := []) [] (by decide) rfl (c_X5_isIn l X _ a 0 3 ) rfl rfl mw_338 mw_336 mw_337 mw_6 (by decide +kernel) ⟨Nat.le_of_ble_eq_true rfl, Nat.le_of_ble_eq_true rfl⟩ rfl hl.1 rfl (Nat.le_of_ble_eq_true rfl) dX5_stage_4 ⟨Nat.le_of_ble_eq_true rfl, Nat.le_of_ble_eq_true rfl⟩) (fun r_1 u_2 H locs hr_3 hH => ?_)
  subst hr_3
  have hH : fs_H X A s [(h0, .inr (5, [.int rf, .ref qa, .ref qp, .ref qf, .ref qb, .ref qk, .ref qt, .int ex, .long eX, .long eZ])), (qf, fs_ai X 20 fa)] _ _ := hH
  refine lv_if_eq (tgt := 30) hx hb dX5_stage_7 (by decide) (fun c_4 => ?_) (fun c_4 => ?_)
  · refine lv_iconst (v := 1) hx hb dX5_stage_30 (by decide) ?_
    refine fs_ci C hH (wr := [(qf, fs_ai X 20 fa)]) [0] [1] rfl rfl (by decide) (by decide) (fs_rV (rest := []) (As := [.int 1]) (n := 1) (q0 := 0) (ci := 5) C hH (wc := [(h0, .inr (5, [.int rf, .ref qa, .ref qp, .ref qf, .ref qb, .ref qk, .ref qt, .int ex, .long eX, .long eZ]))]) [0] (by decide) rfl (c_X5_refused l X _ h0 qa qp qf qb qk qt rf ex eX eZ 1 ) rfl rfl rfl rfl mw_341 mw_339 mw_340 mw_493 mw_6 (by decide +kernel) ⟨Nat.le_of_ble_eq_true rfl, Nat.le_of_ble_eq_true rfl⟩ rfl hl.1 rfl (Nat.le_of_ble_eq_true rfl) dX5_stage_31 ⟨Nat.le_of_ble_eq_true rfl, Nat.le_of_ble_eq_true rfl⟩) (fun r_5 u_6 H locs hr_7 hH => ?_)
    subst hr_7
    have hH : fs_H X A s [(h0, .inr (5, [.int 1, .ref qa, .ref qp, .ref qf, .ref qb, .ref qk, .ref qt, .int ex, .long eX, .long eZ])), (qf, fs_ai X 20 fa)] _ _ := hH.sub [1, 0] (by decide) rfl
    refine lv_if_eq (tgt := 38) hx hb dX5_stage_34 (by decide) (fun c_8 => ?_) (fun c_8 => ?_)
    · exact absurd c_8 (by decide)
    · exact fs_vret C hH false rfl (⟨fun h => (by cases h), fun _ => fun h => (fs_bi_0.mp c_4) ⟨h.1.1, fs_c3.mpr h.1.2⟩⟩) dX5_stage_37
  · refine lv_iload_n hx hb dX5_stage_10 rfl (lv_at hl 2 rfl) ?_
    refine lv_iconst (v := 0) hx hb dX5_stage_11 (by decide) ?_
    refine lv_iconst (v := 4) hx hb dX5_stage_12 (by decide) ?_
    refine fs_ci C hH (wr := [(h0, .inr (5, [.int rf, .ref qa, .ref qp, .ref qf, .ref qb, .ref qk, .ref qt, .int ex, .long eX, .long eZ])), (qf, fs_ai X 20 fa)]) [] [0, 1] rfl rfl (by decide) (by decide) (fs_rS (rest := [.ref h0]) (As := [.int b, .int 0, .int 4]) (n := 3) C hH (wc := []) [] (by decide) rfl (c_X5_isIn l X _ b 0 4 ) rfl rfl mw_338 mw_336 mw_337 mw_6 (by decide +kernel) ⟨Nat.le_of_ble_eq_true rfl, Nat.le_of_ble_eq_true rfl⟩ rfl hl.1 rfl (Nat.le_of_ble_eq_true rfl) dX5_stage_13 ⟨Nat.le_of_ble_eq_true rfl, Nat.le_of_ble_eq_true rfl⟩) (fun r_9 u_10 H locs hr_11 hH => ?_)
    subst hr_11
    have hH : fs_H X A s [(h0, .inr (5, [.int rf, .ref qa, .ref qp, .ref qf, .ref qb, .ref qk, .ref qt, .int ex, .long eX, .long eZ])), (qf, fs_ai X 20 fa)] _ _ := hH
    refine lv_if_eq (tgt := 30) hx hb dX5_stage_16 (by decide) (fun c_12 => ?_) (fun c_12 => ?_)
    · refine lv_iconst (v := 1) hx hb dX5_stage_30 (by decide) ?_
      refine fs_ci C hH (wr := [(qf, fs_ai X 20 fa)]) [0] [1] rfl rfl (by decide) (by decide) (fs_rV (rest := []) (As := [.int 1]) (n := 1) (q0 := 0) (ci := 5) C hH (wc := [(h0, .inr (5, [.int rf, .ref qa, .ref qp, .ref qf, .ref qb, .ref qk, .ref qt, .int ex, .long eX, .long eZ]))]) [0] (by decide) rfl (c_X5_refused l X _ h0 qa qp qf qb qk qt rf ex eX eZ 1 ) rfl rfl rfl rfl mw_341 mw_339 mw_340 mw_493 mw_6 (by decide +kernel) ⟨Nat.le_of_ble_eq_true rfl, Nat.le_of_ble_eq_true rfl⟩ rfl hl.1 rfl (Nat.le_of_ble_eq_true rfl) dX5_stage_31 ⟨Nat.le_of_ble_eq_true rfl, Nat.le_of_ble_eq_true rfl⟩) (fun r_13 u_14 H locs hr_15 hH => ?_)
      subst hr_15
      have hH : fs_H X A s [(h0, .inr (5, [.int 1, .ref qa, .ref qp, .ref qf, .ref qb, .ref qk, .ref qt, .int ex, .long eX, .long eZ])), (qf, fs_ai X 20 fa)] _ _ := hH.sub [1, 0] (by decide) rfl
      refine lv_if_eq (tgt := 38) hx hb dX5_stage_34 (by decide) (fun c_16 => ?_) (fun c_16 => ?_)
      · exact absurd c_16 (by decide)
      · exact fs_vret C hH false rfl (⟨fun h => (by cases h), fun _ => fun h => (fs_bi_0.mp c_12) ⟨h.2.1.1, fs_c4.mpr h.2.1.2⟩⟩) dX5_stage_37
    · refine lv_iload_n hx hb dX5_stage_19 rfl (lv_at hl 3 rfl) ?_
      refine fs_ci C hH (wr := [(h0, .inr (5, [.int rf, .ref qa, .ref qp, .ref qf, .ref qb, .ref qk, .ref qt, .int ex, .long eX, .long eZ])), (qf, fs_ai X 20 fa)]) [] [0, 1] rfl rfl (by decide) (by decide) (fs_rS (rest := [.ref h0]) (As := [.int v]) (n := 1) C hH (wc := []) [] (by decide) rfl (c_X5_isShort l X _ v ) rfl rfl mw_358 mw_356 mw_357 mw_6 (by decide +kernel) ⟨Nat.le_of_ble_eq_true rfl, Nat.le_of_ble_eq_true rfl⟩ rfl hl.1 rfl (Nat.le_of_ble_eq_true rfl) dX5_stage_20 ⟨Nat.le_of_ble_eq_true rfl, Nat.le_of_ble_eq_true rfl⟩) (fun r_17 u_18 H locs hr_19 hH => ?_)
      subst hr_19
      have hH : fs_H X A s [(h0, .inr (5, [.int rf, .ref qa, .ref qp, .ref qf, .ref qb, .ref qk, .ref qt, .int ex, .long eX, .long eZ])), (qf, fs_ai X 20 fa)] _ _ := hH
      refine lv_if_eq (tgt := 30) hx hb dX5_stage_23 (by decide) (fun c_20 => ?_) (fun c_20 => ?_)
      · refine lv_iconst (v := 1) hx hb dX5_stage_30 (by decide) ?_
        refine fs_ci C hH (wr := [(qf, fs_ai X 20 fa)]) [0] [1] rfl rfl (by decide) (by decide) (fs_rV (rest := []) (As := [.int 1]) (n := 1) (q0 := 0) (ci := 5) C hH (wc := [(h0, .inr (5, [.int rf, .ref qa, .ref qp, .ref qf, .ref qb, .ref qk, .ref qt, .int ex, .long eX, .long eZ]))]) [0] (by decide) rfl (c_X5_refused l X _ h0 qa qp qf qb qk qt rf ex eX eZ 1 ) rfl rfl rfl rfl mw_341 mw_339 mw_340 mw_493 mw_6 (by decide +kernel) ⟨Nat.le_of_ble_eq_true rfl, Nat.le_of_ble_eq_true rfl⟩ rfl hl.1 rfl (Nat.le_of_ble_eq_true rfl) dX5_stage_31 ⟨Nat.le_of_ble_eq_true rfl, Nat.le_of_ble_eq_true rfl⟩) (fun r_21 u_22 H locs hr_23 hH => ?_)
        subst hr_23
        have hH : fs_H X A s [(h0, .inr (5, [.int 1, .ref qa, .ref qp, .ref qf, .ref qb, .ref qk, .ref qt, .int ex, .long eX, .long eZ])), (qf, fs_ai X 20 fa)] _ _ := hH.sub [1, 0] (by decide) rfl
        refine lv_if_eq (tgt := 38) hx hb dX5_stage_34 (by decide) (fun c_24 => ?_) (fun c_24 => ?_)
        · exact absurd c_24 (by decide)
        · exact fs_vret C hH false rfl (⟨fun h => (by cases h), fun _ => fun h => (fs_bi_0.mp c_20) h.2.2⟩) dX5_stage_37
      · refine lv_iconst (v := 0) hx hb dX5_stage_26 (by decide) ?_
        refine lv_goto (tgt := 31) hx hb dX5_stage_27 (by decide) ?_
        refine fs_ci C hH (wr := [(qf, fs_ai X 20 fa)]) [0] [1] rfl rfl (by decide) (by decide) (fs_rV (rest := []) (As := [.int 0]) (n := 1) (q0 := 0) (ci := 5) C hH (wc := [(h0, .inr (5, [.int rf, .ref qa, .ref qp, .ref qf, .ref qb, .ref qk, .ref qt, .int ex, .long eX, .long eZ]))]) [0] (by decide) rfl (c_X5_refused l X _ h0 qa qp qf qb qk qt rf ex eX eZ 0 ) rfl rfl rfl rfl mw_341 mw_339 mw_340 mw_493 mw_6 (by decide +kernel) ⟨Nat.le_of_ble_eq_true rfl, Nat.le_of_ble_eq_true rfl⟩ rfl hl.1 rfl (Nat.le_of_ble_eq_true rfl) dX5_stage_31 ⟨Nat.le_of_ble_eq_true rfl, Nat.le_of_ble_eq_true rfl⟩) (fun r_25 u_26 H locs hr_27 hH => ?_)
        subst hr_27
        have hH : fs_H X A s [(h0, .inr (5, [.int 0, .ref qa, .ref qp, .ref qf, .ref qb, .ref qk, .ref qt, .int ex, .long eX, .long eZ])), (qf, fs_ai X 20 fa)] _ _ := hH.sub [1, 0] (by decide) rfl
        refine lv_if_eq (tgt := 38) hx hb dX5_stage_34 (by decide) (fun c_28 => ?_) (fun c_28 => ?_)
        · have h7 := fs_ixn (n := 4) (by decide) ⟨(fs_bi_nz.mp c_4).1, fs_c3.mp (fs_bi_nz.mp c_4).2⟩
          have h16 := fs_ixn (n := 5) (by decide) ⟨(fs_bi_nz.mp c_12).1, fs_c4.mp (fs_bi_nz.mp c_12).2⟩
          refine lv_aload_n hx hb dX5_stage_38 rfl (lv_at hl 0 rfl) ?_
          refine fs_get C in_5 hH 0 rfl rfl 3 (by decide) mw_310 (v := .ref qf) rfl dX5_stage_39 ?_
          refine lv_iconst (v := 5) hx hb dX5_stage_42 (by decide) ?_
          refine lv_iload_n hx hb dX5_stage_43 rfl (lv_at hl 1 rfl) ?_
          refine lv_imul hx hb dX5_stage_44 ?_
          refine lv_iload_n hx hb dX5_stage_45 rfl (lv_at hl 2 rfl) ?_
          refine lv_iadd hx hb dX5_stage_46 ?_
          refine lv_iload_n hx hb dX5_stage_47 rfl (lv_at hl 3 rfl) ?_
          refine fs_iast C hH 1 rfl (k := (5 * (Int32.toNatClampNeg a) + (Int32.toNatClampNeg b))) (fs_ia (fs_im (a := 5) rfl h7.1) h16.1) (by have := h7.2; have := h16.2; omega) (by decide) (ws' := [(h0, .inr (5, [.int 0, .ref qa, .ref qp, .ref qf, .ref qb, .ref qk, .ref qt, .int ex, .long eX, .long eZ])), (qf, fs_ai X 20 (upd fa (5 * (Int32.toNatClampNeg a) + (Int32.toNatClampNeg b)) v))]) rfl dX5_stage_48 (fun H locs hH => ?_)
          exact fs_vret C hH true rfl (⟨fun _ => ⟨⟨(fs_bi_nz.mp c_4).1, fs_c3.mp (fs_bi_nz.mp c_4).2⟩, ⟨(fs_bi_nz.mp c_12).1, fs_c4.mp (fs_bi_nz.mp c_12).2⟩, (fs_bi_nz.mp c_20)⟩, fun h => (by cases h)⟩) dX5_stage_49
        · exact absurd c_28 (by decide)
set_option maxHeartbeats 4000000 in
set_option maxRecDepth 100000 in
theorem c_X5_chain (l : Launch) (X : fs_X) (sz : Nat) (h0 : Nat) (qa : Nat) (qp : Nat) (qf : Nat) (qb : Nat) (qk : Nat) (qt : Nat) (rf : Int32) (ex : Int32) (eX : Int64) (eZ : Int64) (fa : Nat → Int32) (bb : Nat → Int32) (x : Int32)  : fs_M l X yX5_chain cX5_chain 10 (some .int) ({ frames := 1, cells := 0, slots := 0, locals := 23 }) [.ref h0, .int x] [(h0, .inr (5, [.int rf, .ref qa, .ref qp, .ref qf, .ref qb, .ref qk, .ref qt, .int ex, .long eX, .long eZ])), (qf, fs_ai X 20 fa), (qb, fs_ai X 16 bb)] sz (fs_Qi X (fun r (u : Bool) => (u = true → r = ((fs_cs fa bb x 4).2) ∧ (fs_short x)) ∧ (u = false → ¬ (fs_short x))) (fun u => match u with | true => [(h0, .inr (5, [.int 0, .ref qa, .ref qp, .ref qf, .ref qb, .ref qk, .ref qt, .int ex, .long eX, .long eZ])), (qf, fs_ai X 20 fa), (qb, fs_ai X 16 ((fs_cs fa bb x 4).1))] | false => [(h0, .inr (5, [.int 1, .ref qa, .ref qp, .ref qf, .ref qb, .ref qk, .ref qt, .int ex, .long eX, .long eZ])), (qf, fs_ai X 20 fa), (qb, fs_ai X 16 bb)])) 0 0 := by
  refine fs_ofW (by decide) (Nat.le_of_ble_eq_true rfl) ?_
  intro p e s m args below meth c A ls C hH hl
  have C : fs_At X A p s m args meth c cX5_chain 10 (some .int) RX5 "chain" := C
  have hx := C.1
  have hb := C.2.1
  have hown := C.2.2.2.2.1
  have hts := C.2.2.2.2.2.1
  have hl : lv_has ls 10 [(0, .ref h0), (1, .int x)] := hl
  have K_27 : ∀ (n : Nat) (s9 : Nat), (fs_short x) → (s9 ≤ 4) → (4 < s9 + n) → ∀ (H : Heap) (locs : List Loc), fs_H X A s [(h0, .inr (5, [.int 0, .ref qa, .ref qp, .ref qf, .ref qb, .ref qk, .ref qt, .int ex, .long eX, .long eZ])), (qf, fs_ai X 20 fa), (qb, fs_ai X 16 ((fs_cs fa bb x s9).1))] H locs → ∀ (ls : Array Slot), lv_has ls 10 [(0, .ref h0), (2, .long (Int32.toInt64 (fs_cs fa bb x s9).2)), (4, .int (nI s9))] → W p l e ({ frames := 1, cells := 0, slots := 0, locals := 23 }) s m args below meth c H locs 0 0 (MQ below (fs_Qi X (fun r (u : Bool) => (u = true → r = ((fs_cs fa bb x 4).2) ∧ (fs_short x)) ∧ (u = false → ¬ (fs_short x))) (fun u => match u with | true => [(h0, .inr (5, [.int 0, .ref qa, .ref qp, .ref qf, .ref qb, .ref qk, .ref qt, .int ex, .long eX, .long eZ])), (qf, fs_ai X 20 fa), (qb, fs_ai X 16 ((fs_cs fa bb x 4).1))] | false => [(h0, .inr (5, [.int 1, .ref qa, .ref qp, .ref qf, .ref qb, .ref qk, .ref qt, .int ex, .long eX, .long eZ])), (qf, fs_ai X 20 fa), (qb, fs_ai X 16 bb)]) A) args s 0 0 A) (F0 m 27 ls []) := by
    intro n
    induction n with
    | zero => intro s9 hxs hs9 hfu; exact absurd hfu (by omega)
    | succ n ih_27 =>
      intro s9 hxs hs9 hfu H locs hH ls hl
      refine lv_iload hx hb dX5_chain_27 (lv_at hl 2 rfl) ?_
      refine lv_iconst (v := 4) hx hb dX5_chain_29 (by decide) ?_
      refine lv_icmp_ge (tgt := 201) hx hb dX5_chain_30 (by decide) (fun c_1 => ?_) (fun c_1 => ?_)
      · obtain rfl : s9 = 4 := by have := fs_geT (a := s9) (b := 4) (by omega) (by omega) c_1; omega
        refine lv_lload_n hx hb dX5_chain_201 rfl (lv_at hl 1 rfl) ?_
        refine lv_l2i hx hb dX5_chain_202 rfl ?_
        refine fs_topi (y := (fs_cs fa bb x 4).2) (Int32.toInt32_toInt64 _) ?_
        exact fs_iret C hH true rfl (⟨fun _ => ⟨rfl, hxs⟩, fun h => (by cases h)⟩) dX5_chain_203
      · have hlt := fs_geF (a := s9) (b := 4) (by omega) (by omega) c_1
        refine lv_aload_n hx hb dX5_chain_33 rfl (lv_at hl 0 rfl) ?_
        refine fs_get C in_5 hH 0 rfl rfl 3 (by decide) mw_310 (v := .ref qf) rfl dX5_chain_34 ?_
        refine lv_iconst (v := 5) hx hb dX5_chain_37 (by decide) ?_
        refine lv_iload hx hb dX5_chain_38 (lv_at hl 2 rfl) ?_
        refine lv_imul hx hb dX5_chain_40 ?_
        refine fs_iald C hH 1 rfl (k := (5 * s9)) (fs_im (a := 5) (b := s9) rfl rfl) (by omega) (by decide) dX5_chain_41 ?_
        refine lv_i2l hx hb dX5_chain_42 rfl ?_
        refine lv_lload_n hx hb dX5_chain_43 rfl (lv_at hl 1 rfl) ?_
        refine lv_lmul hx hb dX5_chain_44 ?_
        refine lv_lstore (lv' := [(5, .long ((Int32.toInt64 (fa (5 * s9))) * (Int32.toInt64 (fs_cs fa bb x s9).2))), (0, .ref h0), (2, .long (Int32.toInt64 (fs_cs fa bb x s9).2)), (4, .int (nI s9))]) hx hb dX5_chain_45 hl (by decide) rfl (fun ls hl => ?_)
        refine lv_iconst (v := 0) hx hb dX5_chain_47 (by decide) ?_
        refine lv_istore (lv' := [(7, .int 0), (5, .long ((Int32.toInt64 (fa (5 * s9))) * (Int32.toInt64 (fs_cs fa bb x s9).2))), (0, .ref h0), (2, .long (Int32.toInt64 (fs_cs fa bb x s9).2)), (4, .int (nI s9))]) hx hb dX5_chain_48 hl (by decide) rfl (fun ls hl => ?_)
        refine lv_iload hx hb dX5_chain_50 (lv_at hl 0 rfl) ?_
        refine lv_iconst (v := 4) hx hb dX5_chain_52 (by decide) ?_
        refine lv_icmp_ge (tgt := 114) hx hb dX5_chain_53 (by decide) (fun c_2 => ?_) (fun c_2 => ?_)
        · exact absurd c_2 (by decide)
        · refine lv_aload_n hx hb dX5_chain_56 rfl (lv_at hl 2 rfl) ?_
          refine fs_get C in_5 hH 0 rfl rfl 3 (by decide) mw_310 (v := .ref qf) rfl dX5_chain_57 ?_
          refine lv_iconst (v := 5) hx hb dX5_chain_60 (by decide) ?_
          refine lv_iload hx hb dX5_chain_61 (lv_at hl 4 rfl) ?_
          refine lv_imul hx hb dX5_chain_63 ?_
          refine lv_iconst (v := 1) hx hb dX5_chain_64 (by decide) ?_
          refine lv_iadd hx hb dX5_chain_65 ?_
          refine lv_iload hx hb dX5_chain_66 (lv_at hl 0 rfl) ?_
          refine lv_iadd hx hb dX5_chain_68 ?_
          refine fs_iald C hH 1 rfl (k := (((5 * s9) + 1) + 0)) (fs_ia (a := ((5 * s9) + 1)) (b := 0) (fs_ia (a := (5 * s9)) (b := 1) (fs_im (a := 5) (b := s9) rfl rfl) rfl) rfl) (by omega) (by decide) dX5_chain_69 ?_
          refine lv_i2l hx hb dX5_chain_70 rfl ?_
          refine lv_aload_n hx hb dX5_chain_71 rfl (lv_at hl 2 rfl) ?_
          refine fs_get C in_5 hH 0 rfl rfl 4 (by decide) mw_311 (v := .ref qb) rfl dX5_chain_72 ?_
          refine lv_iconst (v := 4) hx hb dX5_chain_75 (by decide) ?_
          refine lv_iload hx hb dX5_chain_76 (lv_at hl 4 rfl) ?_
          refine lv_imul hx hb dX5_chain_78 ?_
          refine lv_iload hx hb dX5_chain_79 (lv_at hl 0 rfl) ?_
          refine lv_iadd hx hb dX5_chain_81 ?_
          refine fs_iald C hH 2 rfl (k := ((4 * s9) + 0)) (fs_ia (a := (4 * s9)) (b := 0) (fs_im (a := 4) (b := s9) rfl rfl) rfl) (by omega) (by decide) dX5_chain_82 ?_
          refine lv_i2l hx hb dX5_chain_83 rfl ?_
          refine lv_lmul hx hb dX5_chain_84 ?_
          refine lv_lstore (lv' := [(8, .long ((Int32.toInt64 (fa (((5 * s9) + 1) + 0))) * (Int32.toInt64 (((fs_cs fa bb x s9).1) ((4 * s9) + 0))))), (7, .int 0), (5, .long ((Int32.toInt64 (fa (5 * s9))) * (Int32.toInt64 (fs_cs fa bb x s9).2))), (0, .ref h0), (2, .long (Int32.toInt64 (fs_cs fa bb x s9).2)), (4, .int (nI s9))]) hx hb dX5_chain_85 hl (by decide) rfl (fun ls hl => ?_)
          refine lv_iload hx hb dX5_chain_87 (lv_at hl 1 rfl) ?_
          refine lv_iconst (v := 2) hx hb dX5_chain_89 (by decide) ?_
          refine lv_icmp_ge (tgt := 101) hx hb dX5_chain_90 (by decide) (fun c_3 => ?_) (fun c_3 => ?_)
          · exact absurd c_3 (by decide)
          · refine lv_lload hx hb dX5_chain_93 (lv_at hl 2 rfl) ?_
            refine lv_lload hx hb dX5_chain_95 (lv_at hl 0 rfl) ?_
            refine lv_ladd hx hb dX5_chain_97 ?_
            refine lv_goto (tgt := 106) hx hb dX5_chain_98 (by decide) ?_
            refine lv_lstore (lv' := [(5, .long (((Int32.toInt64 (fa (5 * s9))) * (Int32.toInt64 (fs_cs fa bb x s9).2)) + ((Int32.toInt64 (fa (((5 * s9) + 1) + 0))) * (Int32.toInt64 (((fs_cs fa bb x s9).1) ((4 * s9) + 0)))))), (8, .long ((Int32.toInt64 (fa (((5 * s9) + 1) + 0))) * (Int32.toInt64 (((fs_cs fa bb x s9).1) ((4 * s9) + 0))))), (7, .int 0), (0, .ref h0), (2, .long (Int32.toInt64 (fs_cs fa bb x s9).2)), (4, .int (nI s9))]) hx hb dX5_chain_106 hl (by decide) rfl (fun ls hl => ?_)
            refine lv_iinc (v := 1) (lv' := [(7, .int 1), (5, .long (((Int32.toInt64 (fa (5 * s9))) * (Int32.toInt64 (fs_cs fa bb x s9).2)) + ((Int32.toInt64 (fa (((5 * s9) + 1) + 0))) * (Int32.toInt64 (((fs_cs fa bb x s9).1) ((4 * s9) + 0)))))), (8, .long ((Int32.toInt64 (fa (((5 * s9) + 1) + 0))) * (Int32.toInt64 (((fs_cs fa bb x s9).1) ((4 * s9) + 0))))), (0, .ref h0), (2, .long (Int32.toInt64 (fs_cs fa bb x s9).2)), (4, .int (nI s9))]) hx hb dX5_chain_108 hl (k := 2) rfl (by decide) (by decide) rfl (fun ls hl => ?_)
            refine lv_goto (tgt := 50) hx hb dX5_chain_111 (by decide) ?_
            refine lv_iload hx hb dX5_chain_50 (lv_at hl 0 rfl) ?_
            refine lv_iconst (v := 4) hx hb dX5_chain_52 (by decide) ?_
            refine lv_icmp_ge (tgt := 114) hx hb dX5_chain_53 (by decide) (fun c_4 => ?_) (fun c_4 => ?_)
            · exact absurd c_4 (by decide)
            · refine lv_aload_n hx hb dX5_chain_56 rfl (lv_at hl 3 rfl) ?_
              refine fs_get C in_5 hH 0 rfl rfl 3 (by decide) mw_310 (v := .ref qf) rfl dX5_chain_57 ?_
              refine lv_iconst (v := 5) hx hb dX5_chain_60 (by decide) ?_
              refine lv_iload hx hb dX5_chain_61 (lv_at hl 5 rfl) ?_
              refine lv_imul hx hb dX5_chain_63 ?_
              refine lv_iconst (v := 1) hx hb dX5_chain_64 (by decide) ?_
              refine lv_iadd hx hb dX5_chain_65 ?_
              refine lv_iload hx hb dX5_chain_66 (lv_at hl 0 rfl) ?_
              refine lv_iadd hx hb dX5_chain_68 ?_
              refine fs_iald C hH 1 rfl (k := (((5 * s9) + 1) + 1)) (fs_ia (a := ((5 * s9) + 1)) (b := 1) (fs_ia (a := (5 * s9)) (b := 1) (fs_im (a := 5) (b := s9) rfl rfl) rfl) rfl) (by omega) (by decide) dX5_chain_69 ?_
              refine lv_i2l hx hb dX5_chain_70 rfl ?_
              refine lv_aload_n hx hb dX5_chain_71 rfl (lv_at hl 3 rfl) ?_
              refine fs_get C in_5 hH 0 rfl rfl 4 (by decide) mw_311 (v := .ref qb) rfl dX5_chain_72 ?_
              refine lv_iconst (v := 4) hx hb dX5_chain_75 (by decide) ?_
              refine lv_iload hx hb dX5_chain_76 (lv_at hl 5 rfl) ?_
              refine lv_imul hx hb dX5_chain_78 ?_
              refine lv_iload hx hb dX5_chain_79 (lv_at hl 0 rfl) ?_
              refine lv_iadd hx hb dX5_chain_81 ?_
              refine fs_iald C hH 2 rfl (k := ((4 * s9) + 1)) (fs_ia (a := (4 * s9)) (b := 1) (fs_im (a := 4) (b := s9) rfl rfl) rfl) (by omega) (by decide) dX5_chain_82 ?_
              refine lv_i2l hx hb dX5_chain_83 rfl ?_
              refine lv_lmul hx hb dX5_chain_84 ?_
              refine lv_lstore (lv' := [(8, .long ((Int32.toInt64 (fa (((5 * s9) + 1) + 1))) * (Int32.toInt64 (((fs_cs fa bb x s9).1) ((4 * s9) + 1))))), (7, .int 1), (5, .long (((Int32.toInt64 (fa (5 * s9))) * (Int32.toInt64 (fs_cs fa bb x s9).2)) + ((Int32.toInt64 (fa (((5 * s9) + 1) + 0))) * (Int32.toInt64 (((fs_cs fa bb x s9).1) ((4 * s9) + 0)))))), (0, .ref h0), (2, .long (Int32.toInt64 (fs_cs fa bb x s9).2)), (4, .int (nI s9))]) hx hb dX5_chain_85 hl (by decide) rfl (fun ls hl => ?_)
              refine lv_iload hx hb dX5_chain_87 (lv_at hl 1 rfl) ?_
              refine lv_iconst (v := 2) hx hb dX5_chain_89 (by decide) ?_
              refine lv_icmp_ge (tgt := 101) hx hb dX5_chain_90 (by decide) (fun c_5 => ?_) (fun c_5 => ?_)
              · exact absurd c_5 (by decide)
              · refine lv_lload hx hb dX5_chain_93 (lv_at hl 2 rfl) ?_
                refine lv_lload hx hb dX5_chain_95 (lv_at hl 0 rfl) ?_
                refine lv_ladd hx hb dX5_chain_97 ?_
                refine lv_goto (tgt := 106) hx hb dX5_chain_98 (by decide) ?_
                refine lv_lstore (lv' := [(5, .long ((((Int32.toInt64 (fa (5 * s9))) * (Int32.toInt64 (fs_cs fa bb x s9).2)) + ((Int32.toInt64 (fa (((5 * s9) + 1) + 0))) * (Int32.toInt64 (((fs_cs fa bb x s9).1) ((4 * s9) + 0))))) + ((Int32.toInt64 (fa (((5 * s9) + 1) + 1))) * (Int32.toInt64 (((fs_cs fa bb x s9).1) ((4 * s9) + 1)))))), (8, .long ((Int32.toInt64 (fa (((5 * s9) + 1) + 1))) * (Int32.toInt64 (((fs_cs fa bb x s9).1) ((4 * s9) + 1))))), (7, .int 1), (0, .ref h0), (2, .long (Int32.toInt64 (fs_cs fa bb x s9).2)), (4, .int (nI s9))]) hx hb dX5_chain_106 hl (by decide) rfl (fun ls hl => ?_)
                refine lv_iinc (v := 2) (lv' := [(7, .int 2), (5, .long ((((Int32.toInt64 (fa (5 * s9))) * (Int32.toInt64 (fs_cs fa bb x s9).2)) + ((Int32.toInt64 (fa (((5 * s9) + 1) + 0))) * (Int32.toInt64 (((fs_cs fa bb x s9).1) ((4 * s9) + 0))))) + ((Int32.toInt64 (fa (((5 * s9) + 1) + 1))) * (Int32.toInt64 (((fs_cs fa bb x s9).1) ((4 * s9) + 1)))))), (8, .long ((Int32.toInt64 (fa (((5 * s9) + 1) + 1))) * (Int32.toInt64 (((fs_cs fa bb x s9).1) ((4 * s9) + 1))))), (0, .ref h0), (2, .long (Int32.toInt64 (fs_cs fa bb x s9).2)), (4, .int (nI s9))]) hx hb dX5_chain_108 hl (k := 2) rfl (by decide) (by decide) rfl (fun ls hl => ?_)
                refine lv_goto (tgt := 50) hx hb dX5_chain_111 (by decide) ?_
                refine lv_iload hx hb dX5_chain_50 (lv_at hl 0 rfl) ?_
                refine lv_iconst (v := 4) hx hb dX5_chain_52 (by decide) ?_
                refine lv_icmp_ge (tgt := 114) hx hb dX5_chain_53 (by decide) (fun c_6 => ?_) (fun c_6 => ?_)
                · exact absurd c_6 (by decide)
                · refine lv_aload_n hx hb dX5_chain_56 rfl (lv_at hl 3 rfl) ?_
                  refine fs_get C in_5 hH 0 rfl rfl 3 (by decide) mw_310 (v := .ref qf) rfl dX5_chain_57 ?_
                  refine lv_iconst (v := 5) hx hb dX5_chain_60 (by decide) ?_
                  refine lv_iload hx hb dX5_chain_61 (lv_at hl 5 rfl) ?_
                  refine lv_imul hx hb dX5_chain_63 ?_
                  refine lv_iconst (v := 1) hx hb dX5_chain_64 (by decide) ?_
                  refine lv_iadd hx hb dX5_chain_65 ?_
                  refine lv_iload hx hb dX5_chain_66 (lv_at hl 0 rfl) ?_
                  refine lv_iadd hx hb dX5_chain_68 ?_
                  refine fs_iald C hH 1 rfl (k := (((5 * s9) + 1) + 2)) (fs_ia (a := ((5 * s9) + 1)) (b := 2) (fs_ia (a := (5 * s9)) (b := 1) (fs_im (a := 5) (b := s9) rfl rfl) rfl) rfl) (by omega) (by decide) dX5_chain_69 ?_
                  refine lv_i2l hx hb dX5_chain_70 rfl ?_
                  refine lv_aload_n hx hb dX5_chain_71 rfl (lv_at hl 3 rfl) ?_
                  refine fs_get C in_5 hH 0 rfl rfl 4 (by decide) mw_311 (v := .ref qb) rfl dX5_chain_72 ?_
                  refine lv_iconst (v := 4) hx hb dX5_chain_75 (by decide) ?_
                  refine lv_iload hx hb dX5_chain_76 (lv_at hl 5 rfl) ?_
                  refine lv_imul hx hb dX5_chain_78 ?_
                  refine lv_iload hx hb dX5_chain_79 (lv_at hl 0 rfl) ?_
                  refine lv_iadd hx hb dX5_chain_81 ?_
                  refine fs_iald C hH 2 rfl (k := ((4 * s9) + 2)) (fs_ia (a := (4 * s9)) (b := 2) (fs_im (a := 4) (b := s9) rfl rfl) rfl) (by omega) (by decide) dX5_chain_82 ?_
                  refine lv_i2l hx hb dX5_chain_83 rfl ?_
                  refine lv_lmul hx hb dX5_chain_84 ?_
                  refine lv_lstore (lv' := [(8, .long ((Int32.toInt64 (fa (((5 * s9) + 1) + 2))) * (Int32.toInt64 (((fs_cs fa bb x s9).1) ((4 * s9) + 2))))), (7, .int 2), (5, .long ((((Int32.toInt64 (fa (5 * s9))) * (Int32.toInt64 (fs_cs fa bb x s9).2)) + ((Int32.toInt64 (fa (((5 * s9) + 1) + 0))) * (Int32.toInt64 (((fs_cs fa bb x s9).1) ((4 * s9) + 0))))) + ((Int32.toInt64 (fa (((5 * s9) + 1) + 1))) * (Int32.toInt64 (((fs_cs fa bb x s9).1) ((4 * s9) + 1)))))), (0, .ref h0), (2, .long (Int32.toInt64 (fs_cs fa bb x s9).2)), (4, .int (nI s9))]) hx hb dX5_chain_85 hl (by decide) rfl (fun ls hl => ?_)
                  refine lv_iload hx hb dX5_chain_87 (lv_at hl 1 rfl) ?_
                  refine lv_iconst (v := 2) hx hb dX5_chain_89 (by decide) ?_
                  refine lv_icmp_ge (tgt := 101) hx hb dX5_chain_90 (by decide) (fun c_7 => ?_) (fun c_7 => ?_)
                  · refine lv_lload hx hb dX5_chain_101 (lv_at hl 2 rfl) ?_
                    refine lv_lload hx hb dX5_chain_103 (lv_at hl 0 rfl) ?_
                    refine lv_lsub hx hb dX5_chain_105 ?_
                    refine lv_lstore (lv' := [(5, .long (((((Int32.toInt64 (fa (5 * s9))) * (Int32.toInt64 (fs_cs fa bb x s9).2)) + ((Int32.toInt64 (fa (((5 * s9) + 1) + 0))) * (Int32.toInt64 (((fs_cs fa bb x s9).1) ((4 * s9) + 0))))) + ((Int32.toInt64 (fa (((5 * s9) + 1) + 1))) * (Int32.toInt64 (((fs_cs fa bb x s9).1) ((4 * s9) + 1))))) - ((Int32.toInt64 (fa (((5 * s9) + 1) + 2))) * (Int32.toInt64 (((fs_cs fa bb x s9).1) ((4 * s9) + 2)))))), (8, .long ((Int32.toInt64 (fa (((5 * s9) + 1) + 2))) * (Int32.toInt64 (((fs_cs fa bb x s9).1) ((4 * s9) + 2))))), (7, .int 2), (0, .ref h0), (2, .long (Int32.toInt64 (fs_cs fa bb x s9).2)), (4, .int (nI s9))]) hx hb dX5_chain_106 hl (by decide) rfl (fun ls hl => ?_)
                    refine lv_iinc (v := 3) (lv' := [(7, .int 3), (5, .long (((((Int32.toInt64 (fa (5 * s9))) * (Int32.toInt64 (fs_cs fa bb x s9).2)) + ((Int32.toInt64 (fa (((5 * s9) + 1) + 0))) * (Int32.toInt64 (((fs_cs fa bb x s9).1) ((4 * s9) + 0))))) + ((Int32.toInt64 (fa (((5 * s9) + 1) + 1))) * (Int32.toInt64 (((fs_cs fa bb x s9).1) ((4 * s9) + 1))))) - ((Int32.toInt64 (fa (((5 * s9) + 1) + 2))) * (Int32.toInt64 (((fs_cs fa bb x s9).1) ((4 * s9) + 2)))))), (8, .long ((Int32.toInt64 (fa (((5 * s9) + 1) + 2))) * (Int32.toInt64 (((fs_cs fa bb x s9).1) ((4 * s9) + 2))))), (0, .ref h0), (2, .long (Int32.toInt64 (fs_cs fa bb x s9).2)), (4, .int (nI s9))]) hx hb dX5_chain_108 hl (k := 2) rfl (by decide) (by decide) rfl (fun ls hl => ?_)
                    refine lv_goto (tgt := 50) hx hb dX5_chain_111 (by decide) ?_
                    refine lv_iload hx hb dX5_chain_50 (lv_at hl 0 rfl) ?_
                    refine lv_iconst (v := 4) hx hb dX5_chain_52 (by decide) ?_
                    refine lv_icmp_ge (tgt := 114) hx hb dX5_chain_53 (by decide) (fun c_8 => ?_) (fun c_8 => ?_)
                    · exact absurd c_8 (by decide)
                    · refine lv_aload_n hx hb dX5_chain_56 rfl (lv_at hl 3 rfl) ?_
                      refine fs_get C in_5 hH 0 rfl rfl 3 (by decide) mw_310 (v := .ref qf) rfl dX5_chain_57 ?_
                      refine lv_iconst (v := 5) hx hb dX5_chain_60 (by decide) ?_
                      refine lv_iload hx hb dX5_chain_61 (lv_at hl 5 rfl) ?_
                      refine lv_imul hx hb dX5_chain_63 ?_
                      refine lv_iconst (v := 1) hx hb dX5_chain_64 (by decide) ?_
                      refine lv_iadd hx hb dX5_chain_65 ?_
                      refine lv_iload hx hb dX5_chain_66 (lv_at hl 0 rfl) ?_
                      refine lv_iadd hx hb dX5_chain_68 ?_
                      refine fs_iald C hH 1 rfl (k := (((5 * s9) + 1) + 3)) (fs_ia (a := ((5 * s9) + 1)) (b := 3) (fs_ia (a := (5 * s9)) (b := 1) (fs_im (a := 5) (b := s9) rfl rfl) rfl) rfl) (by omega) (by decide) dX5_chain_69 ?_
                      refine lv_i2l hx hb dX5_chain_70 rfl ?_
                      refine lv_aload_n hx hb dX5_chain_71 rfl (lv_at hl 3 rfl) ?_
                      refine fs_get C in_5 hH 0 rfl rfl 4 (by decide) mw_311 (v := .ref qb) rfl dX5_chain_72 ?_
                      refine lv_iconst (v := 4) hx hb dX5_chain_75 (by decide) ?_
                      refine lv_iload hx hb dX5_chain_76 (lv_at hl 5 rfl) ?_
                      refine lv_imul hx hb dX5_chain_78 ?_
                      refine lv_iload hx hb dX5_chain_79 (lv_at hl 0 rfl) ?_
                      refine lv_iadd hx hb dX5_chain_81 ?_
                      refine fs_iald C hH 2 rfl (k := ((4 * s9) + 3)) (fs_ia (a := (4 * s9)) (b := 3) (fs_im (a := 4) (b := s9) rfl rfl) rfl) (by omega) (by decide) dX5_chain_82 ?_
                      refine lv_i2l hx hb dX5_chain_83 rfl ?_
                      refine lv_lmul hx hb dX5_chain_84 ?_
                      refine lv_lstore (lv' := [(8, .long ((Int32.toInt64 (fa (((5 * s9) + 1) + 3))) * (Int32.toInt64 (((fs_cs fa bb x s9).1) ((4 * s9) + 3))))), (7, .int 3), (5, .long (((((Int32.toInt64 (fa (5 * s9))) * (Int32.toInt64 (fs_cs fa bb x s9).2)) + ((Int32.toInt64 (fa (((5 * s9) + 1) + 0))) * (Int32.toInt64 (((fs_cs fa bb x s9).1) ((4 * s9) + 0))))) + ((Int32.toInt64 (fa (((5 * s9) + 1) + 1))) * (Int32.toInt64 (((fs_cs fa bb x s9).1) ((4 * s9) + 1))))) - ((Int32.toInt64 (fa (((5 * s9) + 1) + 2))) * (Int32.toInt64 (((fs_cs fa bb x s9).1) ((4 * s9) + 2)))))), (0, .ref h0), (2, .long (Int32.toInt64 (fs_cs fa bb x s9).2)), (4, .int (nI s9))]) hx hb dX5_chain_85 hl (by decide) rfl (fun ls hl => ?_)
                      refine lv_iload hx hb dX5_chain_87 (lv_at hl 1 rfl) ?_
                      refine lv_iconst (v := 2) hx hb dX5_chain_89 (by decide) ?_
                      refine lv_icmp_ge (tgt := 101) hx hb dX5_chain_90 (by decide) (fun c_9 => ?_) (fun c_9 => ?_)
                      · refine lv_lload hx hb dX5_chain_101 (lv_at hl 2 rfl) ?_
                        refine lv_lload hx hb dX5_chain_103 (lv_at hl 0 rfl) ?_
                        refine lv_lsub hx hb dX5_chain_105 ?_
                        refine lv_lstore (lv' := [(5, .long ((((((Int32.toInt64 (fa (5 * s9))) * (Int32.toInt64 (fs_cs fa bb x s9).2)) + ((Int32.toInt64 (fa (((5 * s9) + 1) + 0))) * (Int32.toInt64 (((fs_cs fa bb x s9).1) ((4 * s9) + 0))))) + ((Int32.toInt64 (fa (((5 * s9) + 1) + 1))) * (Int32.toInt64 (((fs_cs fa bb x s9).1) ((4 * s9) + 1))))) - ((Int32.toInt64 (fa (((5 * s9) + 1) + 2))) * (Int32.toInt64 (((fs_cs fa bb x s9).1) ((4 * s9) + 2))))) - ((Int32.toInt64 (fa (((5 * s9) + 1) + 3))) * (Int32.toInt64 (((fs_cs fa bb x s9).1) ((4 * s9) + 3)))))), (8, .long ((Int32.toInt64 (fa (((5 * s9) + 1) + 3))) * (Int32.toInt64 (((fs_cs fa bb x s9).1) ((4 * s9) + 3))))), (7, .int 3), (0, .ref h0), (2, .long (Int32.toInt64 (fs_cs fa bb x s9).2)), (4, .int (nI s9))]) hx hb dX5_chain_106 hl (by decide) rfl (fun ls hl => ?_)
                        refine lv_iinc (v := 4) (lv' := [(7, .int 4), (5, .long ((((((Int32.toInt64 (fa (5 * s9))) * (Int32.toInt64 (fs_cs fa bb x s9).2)) + ((Int32.toInt64 (fa (((5 * s9) + 1) + 0))) * (Int32.toInt64 (((fs_cs fa bb x s9).1) ((4 * s9) + 0))))) + ((Int32.toInt64 (fa (((5 * s9) + 1) + 1))) * (Int32.toInt64 (((fs_cs fa bb x s9).1) ((4 * s9) + 1))))) - ((Int32.toInt64 (fa (((5 * s9) + 1) + 2))) * (Int32.toInt64 (((fs_cs fa bb x s9).1) ((4 * s9) + 2))))) - ((Int32.toInt64 (fa (((5 * s9) + 1) + 3))) * (Int32.toInt64 (((fs_cs fa bb x s9).1) ((4 * s9) + 3)))))), (8, .long ((Int32.toInt64 (fa (((5 * s9) + 1) + 3))) * (Int32.toInt64 (((fs_cs fa bb x s9).1) ((4 * s9) + 3))))), (0, .ref h0), (2, .long (Int32.toInt64 (fs_cs fa bb x s9).2)), (4, .int (nI s9))]) hx hb dX5_chain_108 hl (k := 2) rfl (by decide) (by decide) rfl (fun ls hl => ?_)
                        refine lv_goto (tgt := 50) hx hb dX5_chain_111 (by decide) ?_
                        refine lv_iload hx hb dX5_chain_50 (lv_at hl 0 rfl) ?_
                        refine lv_iconst (v := 4) hx hb dX5_chain_52 (by decide) ?_
                        refine lv_icmp_ge (tgt := 114) hx hb dX5_chain_53 (by decide) (fun c_10 => ?_) (fun c_10 => ?_)
                        · refine lv_aload_n hx hb dX5_chain_114 rfl (lv_at hl 3 rfl) ?_
                          refine fs_get C in_5 hH 0 rfl rfl 4 (by decide) mw_311 (v := .ref qb) rfl dX5_chain_115 ?_
                          refine lv_iconst (v := 4) hx hb dX5_chain_118 (by decide) ?_
                          refine lv_iload hx hb dX5_chain_119 (lv_at hl 5 rfl) ?_
                          refine lv_imul hx hb dX5_chain_121 ?_
                          refine lv_iconst (v := 1) hx hb dX5_chain_122 (by decide) ?_
                          refine lv_iadd hx hb dX5_chain_123 ?_
                          refine lv_aload_n hx hb dX5_chain_124 rfl (lv_at hl 3 rfl) ?_
                          refine fs_get C in_5 hH 0 rfl rfl 4 (by decide) mw_311 (v := .ref qb) rfl dX5_chain_125 ?_
                          refine lv_iconst (v := 4) hx hb dX5_chain_128 (by decide) ?_
                          refine lv_iload hx hb dX5_chain_129 (lv_at hl 5 rfl) ?_
                          refine lv_imul hx hb dX5_chain_131 ?_
                          refine fs_iald C hH 2 rfl (k := (4 * s9)) (fs_im (a := 4) (b := s9) rfl rfl) (by omega) (by decide) dX5_chain_132 ?_
                          refine fs_iast C hH 2 rfl (k := ((4 * s9) + 1)) (fs_ia (a := (4 * s9)) (b := 1) (fs_im (a := 4) (b := s9) rfl rfl) rfl) (by omega) (by decide) (ws' := [(h0, .inr (5, [.int 0, .ref qa, .ref qp, .ref qf, .ref qb, .ref qk, .ref qt, .int ex, .long eX, .long eZ])), (qf, fs_ai X 20 fa), (qb, fs_ai X 16 (upd ((fs_cs fa bb x s9).1) ((4 * s9) + 1) (((fs_cs fa bb x s9).1) (4 * s9))))]) rfl dX5_chain_133 (fun H locs hH => ?_)
                          refine lv_aload_n hx hb dX5_chain_134 rfl (lv_at hl 3 rfl) ?_
                          refine fs_get C in_5 hH 0 rfl rfl 4 (by decide) mw_311 (v := .ref qb) rfl dX5_chain_135 ?_
                          refine lv_iconst (v := 4) hx hb dX5_chain_138 (by decide) ?_
                          refine lv_iload hx hb dX5_chain_139 (lv_at hl 5 rfl) ?_
                          refine lv_imul hx hb dX5_chain_141 ?_
                          refine lv_lload_n hx hb dX5_chain_142 rfl (lv_at hl 4 rfl) ?_
                          refine lv_l2i hx hb dX5_chain_143 rfl ?_
                          refine fs_topi (y := (fs_cs fa bb x s9).2) (Int32.toInt32_toInt64 _) ?_
                          refine fs_iast C hH 2 rfl (k := (4 * s9)) (fs_im (a := 4) (b := s9) rfl rfl) (by omega) (by decide) (ws' := [(h0, .inr (5, [.int 0, .ref qa, .ref qp, .ref qf, .ref qb, .ref qk, .ref qt, .int ex, .long eX, .long eZ])), (qf, fs_ai X 20 fa), (qb, fs_ai X 16 (upd (upd ((fs_cs fa bb x s9).1) ((4 * s9) + 1) (((fs_cs fa bb x s9).1) (4 * s9))) (4 * s9) ((fs_cs fa bb x s9).2)))]) rfl dX5_chain_144 (fun H locs hH => ?_)
                          refine lv_aload_n hx hb dX5_chain_145 rfl (lv_at hl 3 rfl) ?_
                          refine fs_get C in_5 hH 0 rfl rfl 4 (by decide) mw_311 (v := .ref qb) rfl dX5_chain_146 ?_
                          refine lv_iconst (v := 4) hx hb dX5_chain_149 (by decide) ?_
                          refine lv_iload hx hb dX5_chain_150 (lv_at hl 5 rfl) ?_
                          refine lv_imul hx hb dX5_chain_152 ?_
                          refine lv_iconst (v := 3) hx hb dX5_chain_153 (by decide) ?_
                          refine lv_iadd hx hb dX5_chain_154 ?_
                          refine lv_aload_n hx hb dX5_chain_155 rfl (lv_at hl 3 rfl) ?_
                          refine fs_get C in_5 hH 0 rfl rfl 4 (by decide) mw_311 (v := .ref qb) rfl dX5_chain_156 ?_
                          refine lv_iconst (v := 4) hx hb dX5_chain_159 (by decide) ?_
                          refine lv_iload hx hb dX5_chain_160 (lv_at hl 5 rfl) ?_
                          refine lv_imul hx hb dX5_chain_162 ?_
                          refine lv_iconst (v := 2) hx hb dX5_chain_163 (by decide) ?_
                          refine lv_iadd hx hb dX5_chain_164 ?_
                          refine fs_iald C hH 2 rfl (k := ((4 * s9) + 2)) (fs_ia (a := (4 * s9)) (b := 2) (fs_im (a := 4) (b := s9) rfl rfl) rfl) (by omega) (by decide) dX5_chain_165 ?_
                          refine fs_topi (y := ((fs_cs fa bb x s9).1 (4 * s9 + 2))) (by rw [fs_updn _ (by omega), fs_updn _ (by omega)]) ?_
                          refine fs_iast C hH 2 rfl (k := ((4 * s9) + 3)) (fs_ia (a := (4 * s9)) (b := 3) (fs_im (a := 4) (b := s9) rfl rfl) rfl) (by omega) (by decide) (ws' := [(h0, .inr (5, [.int 0, .ref qa, .ref qp, .ref qf, .ref qb, .ref qk, .ref qt, .int ex, .long eX, .long eZ])), (qf, fs_ai X 20 fa), (qb, fs_ai X 16 (upd (upd (upd ((fs_cs fa bb x s9).1) ((4 * s9) + 1) (((fs_cs fa bb x s9).1) (4 * s9))) (4 * s9) ((fs_cs fa bb x s9).2)) ((4 * s9) + 3) ((fs_cs fa bb x s9).1 (4 * s9 + 2))))]) rfl dX5_chain_166 (fun H locs hH => ?_)
                          refine lv_lload hx hb dX5_chain_167 (lv_at hl 1 rfl) ?_
                          refine lv_bipush (v := 14) hx hb dX5_chain_169 (by decide) ?_
                          refine fs_cl C hH (wr := [(h0, .inr (5, [.int 0, .ref qa, .ref qp, .ref qf, .ref qb, .ref qk, .ref qt, .int ex, .long eX, .long eZ])), (qf, fs_ai X 20 fa), (qb, fs_ai X 16 (upd (upd (upd ((fs_cs fa bb x s9).1) ((4 * s9) + 1) (((fs_cs fa bb x s9).1) (4 * s9))) (4 * s9) ((fs_cs fa bb x s9).2)) ((4 * s9) + 3) ((fs_cs fa bb x s9).1 (4 * s9 + 2))))]) [] [0, 1, 2] rfl rfl (by decide) (by decide) (fs_rS (rest := []) (As := [.long ((((((Int32.toInt64 (fa (5 * s9))) * (Int32.toInt64 (fs_cs fa bb x s9).2)) + ((Int32.toInt64 (fa (((5 * s9) + 1) + 0))) * (Int32.toInt64 (((fs_cs fa bb x s9).1) ((4 * s9) + 0))))) + ((Int32.toInt64 (fa (((5 * s9) + 1) + 1))) * (Int32.toInt64 (((fs_cs fa bb x s9).1) ((4 * s9) + 1))))) - ((Int32.toInt64 (fa (((5 * s9) + 1) + 2))) * (Int32.toInt64 (((fs_cs fa bb x s9).1) ((4 * s9) + 2))))) - ((Int32.toInt64 (fa (((5 * s9) + 1) + 3))) * (Int32.toInt64 (((fs_cs fa bb x s9).1) ((4 * s9) + 3))))), .int 14]) (n := 2) C hH (wc := []) [] (by decide) rfl (c_X5_rounded l X _ ((((((Int32.toInt64 (fa (5 * s9))) * (Int32.toInt64 (fs_cs fa bb x s9).2)) + ((Int32.toInt64 (fa (((5 * s9) + 1) + 0))) * (Int32.toInt64 (((fs_cs fa bb x s9).1) ((4 * s9) + 0))))) + ((Int32.toInt64 (fa (((5 * s9) + 1) + 1))) * (Int32.toInt64 (((fs_cs fa bb x s9).1) ((4 * s9) + 1))))) - ((Int32.toInt64 (fa (((5 * s9) + 1) + 2))) * (Int32.toInt64 (((fs_cs fa bb x s9).1) ((4 * s9) + 2))))) - ((Int32.toInt64 (fa (((5 * s9) + 1) + 3))) * (Int32.toInt64 (((fs_cs fa bb x s9).1) ((4 * s9) + 3))))) 14 ) rfl rfl mw_351 mw_349 mw_350 mw_6 (by decide +kernel) ⟨Nat.le_of_ble_eq_true rfl, Nat.le_of_ble_eq_true rfl⟩ rfl hl.1 rfl (Nat.le_of_ble_eq_true rfl) dX5_chain_171 ⟨Nat.le_of_ble_eq_true rfl, Nat.le_of_ble_eq_true rfl⟩) (fun r_11 u_12 H locs hr_13 hH => ?_)
                          subst hr_13
                          have hH : fs_H X A s [(h0, .inr (5, [.int 0, .ref qa, .ref qp, .ref qf, .ref qb, .ref qk, .ref qt, .int ex, .long eX, .long eZ])), (qf, fs_ai X 20 fa), (qb, fs_ai X 16 (upd (upd (upd ((fs_cs fa bb x s9).1) ((4 * s9) + 1) (((fs_cs fa bb x s9).1) (4 * s9))) (4 * s9) ((fs_cs fa bb x s9).2)) ((4 * s9) + 3) ((fs_cs fa bb x s9).1 (4 * s9 + 2))))] _ _ := hH
                          refine lv_ldc2 (v := 32767) hx hb hown (hts _ mw_359) dX5_chain_174 ?_
                          refine fs_ci C hH (wr := [(h0, .inr (5, [.int 0, .ref qa, .ref qp, .ref qf, .ref qb, .ref qk, .ref qt, .int ex, .long eX, .long eZ])), (qf, fs_ai X 20 fa), (qb, fs_ai X 16 (upd (upd (upd ((fs_cs fa bb x s9).1) ((4 * s9) + 1) (((fs_cs fa bb x s9).1) (4 * s9))) (4 * s9) ((fs_cs fa bb x s9).2)) ((4 * s9) + 3) ((fs_cs fa bb x s9).1 (4 * s9 + 2))))]) [] [0, 1, 2] rfl rfl (by decide) (by decide) (fs_rS (rest := []) (As := [.long (if 14 = 0 then ((((((Int32.toInt64 (fa (5 * s9))) * (Int32.toInt64 (fs_cs fa bb x s9).2)) + ((Int32.toInt64 (fa (((5 * s9) + 1) + 0))) * (Int32.toInt64 (((fs_cs fa bb x s9).1) ((4 * s9) + 0))))) + ((Int32.toInt64 (fa (((5 * s9) + 1) + 1))) * (Int32.toInt64 (((fs_cs fa bb x s9).1) ((4 * s9) + 1))))) - ((Int32.toInt64 (fa (((5 * s9) + 1) + 2))) * (Int32.toInt64 (((fs_cs fa bb x s9).1) ((4 * s9) + 2))))) - ((Int32.toInt64 (fa (((5 * s9) + 1) + 3))) * (Int32.toInt64 (((fs_cs fa bb x s9).1) ((4 * s9) + 3))))) else fs_rd ((((((Int32.toInt64 (fa (5 * s9))) * (Int32.toInt64 (fs_cs fa bb x s9).2)) + ((Int32.toInt64 (fa (((5 * s9) + 1) + 0))) * (Int32.toInt64 (((fs_cs fa bb x s9).1) ((4 * s9) + 0))))) + ((Int32.toInt64 (fa (((5 * s9) + 1) + 1))) * (Int32.toInt64 (((fs_cs fa bb x s9).1) ((4 * s9) + 1))))) - ((Int32.toInt64 (fa (((5 * s9) + 1) + 2))) * (Int32.toInt64 (((fs_cs fa bb x s9).1) ((4 * s9) + 2))))) - ((Int32.toInt64 (fa (((5 * s9) + 1) + 3))) * (Int32.toInt64 (((fs_cs fa bb x s9).1) ((4 * s9) + 3))))) 14), .long 32767]) (n := 2) C hH (wc := []) [] (by decide) rfl (c_X5_within l X _ (if 14 = 0 then ((((((Int32.toInt64 (fa (5 * s9))) * (Int32.toInt64 (fs_cs fa bb x s9).2)) + ((Int32.toInt64 (fa (((5 * s9) + 1) + 0))) * (Int32.toInt64 (((fs_cs fa bb x s9).1) ((4 * s9) + 0))))) + ((Int32.toInt64 (fa (((5 * s9) + 1) + 1))) * (Int32.toInt64 (((fs_cs fa bb x s9).1) ((4 * s9) + 1))))) - ((Int32.toInt64 (fa (((5 * s9) + 1) + 2))) * (Int32.toInt64 (((fs_cs fa bb x s9).1) ((4 * s9) + 2))))) - ((Int32.toInt64 (fa (((5 * s9) + 1) + 3))) * (Int32.toInt64 (((fs_cs fa bb x s9).1) ((4 * s9) + 3))))) else fs_rd ((((((Int32.toInt64 (fa (5 * s9))) * (Int32.toInt64 (fs_cs fa bb x s9).2)) + ((Int32.toInt64 (fa (((5 * s9) + 1) + 0))) * (Int32.toInt64 (((fs_cs fa bb x s9).1) ((4 * s9) + 0))))) + ((Int32.toInt64 (fa (((5 * s9) + 1) + 1))) * (Int32.toInt64 (((fs_cs fa bb x s9).1) ((4 * s9) + 1))))) - ((Int32.toInt64 (fa (((5 * s9) + 1) + 2))) * (Int32.toInt64 (((fs_cs fa bb x s9).1) ((4 * s9) + 2))))) - ((Int32.toInt64 (fa (((5 * s9) + 1) + 3))) * (Int32.toInt64 (((fs_cs fa bb x s9).1) ((4 * s9) + 3))))) 14) 32767 ) rfl rfl mw_348 mw_346 mw_347 mw_6 (by decide +kernel) ⟨Nat.le_of_ble_eq_true rfl, Nat.le_of_ble_eq_true rfl⟩ rfl hl.1 rfl (Nat.le_of_ble_eq_true rfl) dX5_chain_177 ⟨Nat.le_of_ble_eq_true rfl, Nat.le_of_ble_eq_true rfl⟩) (fun r_14 u_15 H locs hr_16 hH => ?_)
                          subst hr_16
                          have hH : fs_H X A s [(h0, .inr (5, [.int 0, .ref qa, .ref qp, .ref qf, .ref qb, .ref qk, .ref qt, .int ex, .long eX, .long eZ])), (qf, fs_ai X 20 fa), (qb, fs_ai X 16 (upd (upd (upd ((fs_cs fa bb x s9).1) ((4 * s9) + 1) (((fs_cs fa bb x s9).1) (4 * s9))) (4 * s9) ((fs_cs fa bb x s9).2)) ((4 * s9) + 3) ((fs_cs fa bb x s9).1 (4 * s9 + 2))))] _ _ := hH
                          refine fs_topi (y := (fs_st (fun j => fa (5 * s9 + j)) ((fs_cs fa bb x s9).1 (4 * s9)) ((fs_cs fa bb x s9).1 (4 * s9 + 1)) ((fs_cs fa bb x s9).1 (4 * s9 + 2)) ((fs_cs fa bb x s9).1 (4 * s9 + 3)) (fs_cs fa bb x s9).2)) (by rw [if_neg (by decide)]; rfl) ?_
                          refine lv_i2l hx hb dX5_chain_180 rfl ?_
                          refine lv_lstore_n (lv' := [(2, .long (Int32.toInt64 (fs_st (fun j => fa (5 * s9 + j)) ((fs_cs fa bb x s9).1 (4 * s9)) ((fs_cs fa bb x s9).1 (4 * s9 + 1)) ((fs_cs fa bb x s9).1 (4 * s9 + 2)) ((fs_cs fa bb x s9).1 (4 * s9 + 3)) (fs_cs fa bb x s9).2))), (7, .int 4), (5, .long ((((((Int32.toInt64 (fa (5 * s9))) * (Int32.toInt64 (fs_cs fa bb x s9).2)) + ((Int32.toInt64 (fa (((5 * s9) + 1) + 0))) * (Int32.toInt64 (((fs_cs fa bb x s9).1) ((4 * s9) + 0))))) + ((Int32.toInt64 (fa (((5 * s9) + 1) + 1))) * (Int32.toInt64 (((fs_cs fa bb x s9).1) ((4 * s9) + 1))))) - ((Int32.toInt64 (fa (((5 * s9) + 1) + 2))) * (Int32.toInt64 (((fs_cs fa bb x s9).1) ((4 * s9) + 2))))) - ((Int32.toInt64 (fa (((5 * s9) + 1) + 3))) * (Int32.toInt64 (((fs_cs fa bb x s9).1) ((4 * s9) + 3)))))), (8, .long ((Int32.toInt64 (fa (((5 * s9) + 1) + 3))) * (Int32.toInt64 (((fs_cs fa bb x s9).1) ((4 * s9) + 3))))), (0, .ref h0), (4, .int (nI s9))]) hx hb dX5_chain_181 rfl hl (by decide) rfl (fun ls hl => ?_)
                          refine lv_aload_n hx hb dX5_chain_182 rfl (lv_at hl 4 rfl) ?_
                          refine fs_get C in_5 hH 0 rfl rfl 4 (by decide) mw_311 (v := .ref qb) rfl dX5_chain_183 ?_
                          refine lv_iconst (v := 4) hx hb dX5_chain_186 (by decide) ?_
                          refine lv_iload hx hb dX5_chain_187 (lv_at hl 5 rfl) ?_
                          refine lv_imul hx hb dX5_chain_189 ?_
                          refine lv_iconst (v := 2) hx hb dX5_chain_190 (by decide) ?_
                          refine lv_iadd hx hb dX5_chain_191 ?_
                          refine lv_lload_n hx hb dX5_chain_192 rfl (lv_at hl 0 rfl) ?_
                          refine lv_l2i hx hb dX5_chain_193 rfl ?_
                          refine fs_topi (y := (fs_st (fun j => fa (5 * s9 + j)) ((fs_cs fa bb x s9).1 (4 * s9)) ((fs_cs fa bb x s9).1 (4 * s9 + 1)) ((fs_cs fa bb x s9).1 (4 * s9 + 2)) ((fs_cs fa bb x s9).1 (4 * s9 + 3)) (fs_cs fa bb x s9).2)) (Int32.toInt32_toInt64 _) ?_
                          refine fs_iast C hH 2 rfl (k := ((4 * s9) + 2)) (fs_ia (a := (4 * s9)) (b := 2) (fs_im (a := 4) (b := s9) rfl rfl) rfl) (by omega) (by decide) (ws' := [(h0, .inr (5, [.int 0, .ref qa, .ref qp, .ref qf, .ref qb, .ref qk, .ref qt, .int ex, .long eX, .long eZ])), (qf, fs_ai X 20 fa), (qb, fs_ai X 16 (upd (upd (upd (upd ((fs_cs fa bb x s9).1) ((4 * s9) + 1) (((fs_cs fa bb x s9).1) (4 * s9))) (4 * s9) ((fs_cs fa bb x s9).2)) ((4 * s9) + 3) ((fs_cs fa bb x s9).1 (4 * s9 + 2))) ((4 * s9) + 2) (fs_st (fun j => fa (5 * s9 + j)) ((fs_cs fa bb x s9).1 (4 * s9)) ((fs_cs fa bb x s9).1 (4 * s9 + 1)) ((fs_cs fa bb x s9).1 (4 * s9 + 2)) ((fs_cs fa bb x s9).1 (4 * s9 + 3)) (fs_cs fa bb x s9).2)))]) rfl dX5_chain_194 (fun H locs hH => ?_)
                          have hH : fs_H X A s [(h0, .inr (5, [.int 0, .ref qa, .ref qp, .ref qf, .ref qb, .ref qk, .ref qt, .int ex, .long eX, .long eZ])), (qf, fs_ai X 20 fa), (qb, fs_ai X 16 ((fs_cs fa bb x (s9 + 1)).1))] _ _ := hH.to (by rw [fs_cs])
                          refine lv_iinc (v := (nI (s9 + 1))) (lv' := [(4, .int (nI (s9 + 1))), (2, .long (Int32.toInt64 (fs_st (fun j => fa (5 * s9 + j)) ((fs_cs fa bb x s9).1 (4 * s9)) ((fs_cs fa bb x s9).1 (4 * s9 + 1)) ((fs_cs fa bb x s9).1 (4 * s9 + 2)) ((fs_cs fa bb x s9).1 (4 * s9 + 3)) (fs_cs fa bb x s9).2))), (7, .int 4), (5, .long ((((((Int32.toInt64 (fa (5 * s9))) * (Int32.toInt64 (fs_cs fa bb x s9).2)) + ((Int32.toInt64 (fa (((5 * s9) + 1) + 0))) * (Int32.toInt64 (((fs_cs fa bb x s9).1) ((4 * s9) + 0))))) + ((Int32.toInt64 (fa (((5 * s9) + 1) + 1))) * (Int32.toInt64 (((fs_cs fa bb x s9).1) ((4 * s9) + 1))))) - ((Int32.toInt64 (fa (((5 * s9) + 1) + 2))) * (Int32.toInt64 (((fs_cs fa bb x s9).1) ((4 * s9) + 2))))) - ((Int32.toInt64 (fa (((5 * s9) + 1) + 3))) * (Int32.toInt64 (((fs_cs fa bb x s9).1) ((4 * s9) + 3)))))), (8, .long ((Int32.toInt64 (fa (((5 * s9) + 1) + 3))) * (Int32.toInt64 (((fs_cs fa bb x s9).1) ((4 * s9) + 3))))), (0, .ref h0)]) hx hb dX5_chain_195 hl (k := 5) rfl (nI_1 s9) (by decide) rfl (fun ls hl => ?_)
                          refine lv_goto (tgt := 27) hx hb dX5_chain_198 (by decide) ?_
                          exact ih_27 (s9 + 1) hxs (by omega) (by omega) _ _ hH ls (lv_sub hl [5, 1, 0] rfl)
                        · exact absurd c_10 (by decide)
                      · exact absurd c_9 (by decide)
                  · exact absurd c_7 (by decide)
  have hH : fs_H X A s [(h0, .inr (5, [.int rf, .ref qa, .ref qp, .ref qf, .ref qb, .ref qk, .ref qt, .int ex, .long eX, .long eZ])), (qf, fs_ai X 20 fa), (qb, fs_ai X 16 bb)] s.heap [] := hH
  refine lv_aload_n hx hb dX5_chain_0 rfl (lv_at hl 0 rfl) ?_
  refine lv_iload_n hx hb dX5_chain_1 rfl (lv_at hl 1 rfl) ?_
  refine fs_ci C hH (wr := [(h0, .inr (5, [.int rf, .ref qa, .ref qp, .ref qf, .ref qb, .ref qk, .ref qt, .int ex, .long eX, .long eZ])), (qf, fs_ai X 20 fa), (qb, fs_ai X 16 bb)]) [] [0, 1, 2] rfl rfl (by decide) (by decide) (fs_rS (rest := [.ref h0]) (As := [.int x]) (n := 1) C hH (wc := []) [] (by decide) rfl (c_X5_isShort l X _ x ) rfl rfl mw_358 mw_356 mw_357 mw_6 (by decide +kernel) ⟨Nat.le_of_ble_eq_true rfl, Nat.le_of_ble_eq_true rfl⟩ rfl hl.1 rfl (Nat.le_of_ble_eq_true rfl) dX5_chain_2 ⟨Nat.le_of_ble_eq_true rfl, Nat.le_of_ble_eq_true rfl⟩) (fun r_17 u_18 H locs hr_19 hH => ?_)
  subst hr_19
  have hH : fs_H X A s [(h0, .inr (5, [.int rf, .ref qa, .ref qp, .ref qf, .ref qb, .ref qk, .ref qt, .int ex, .long eX, .long eZ])), (qf, fs_ai X 20 fa), (qb, fs_ai X 16 bb)] _ _ := hH
  refine lv_if_eq (tgt := 12) hx hb dX5_chain_5 (by decide) (fun c_20 => ?_) (fun c_20 => ?_)
  · refine lv_iconst (v := 1) hx hb dX5_chain_12 (by decide) ?_
    refine fs_ci C hH (wr := [(qf, fs_ai X 20 fa), (qb, fs_ai X 16 bb)]) [0] [1, 2] rfl rfl (by decide) (by decide) (fs_rV (rest := []) (As := [.int 1]) (n := 1) (q0 := 0) (ci := 5) C hH (wc := [(h0, .inr (5, [.int rf, .ref qa, .ref qp, .ref qf, .ref qb, .ref qk, .ref qt, .int ex, .long eX, .long eZ]))]) [0] (by decide) rfl (c_X5_refused l X _ h0 qa qp qf qb qk qt rf ex eX eZ 1 ) rfl rfl rfl rfl mw_341 mw_339 mw_340 mw_493 mw_6 (by decide +kernel) ⟨Nat.le_of_ble_eq_true rfl, Nat.le_of_ble_eq_true rfl⟩ rfl hl.1 rfl (Nat.le_of_ble_eq_true rfl) dX5_chain_13 ⟨Nat.le_of_ble_eq_true rfl, Nat.le_of_ble_eq_true rfl⟩) (fun r_21 u_22 H locs hr_23 hH => ?_)
    subst hr_23
    have hH : fs_H X A s [(h0, .inr (5, [.int 1, .ref qa, .ref qp, .ref qf, .ref qb, .ref qk, .ref qt, .int ex, .long eX, .long eZ])), (qf, fs_ai X 20 fa), (qb, fs_ai X 16 bb)] _ _ := hH.sub [2, 0, 1] (by decide) rfl
    refine lv_if_eq (tgt := 21) hx hb dX5_chain_16 (by decide) (fun c_24 => ?_) (fun c_24 => ?_)
    · exact absurd c_24 (by decide)
    · refine lv_iconst (v := 0) hx hb dX5_chain_19 (by decide) ?_
      exact fs_iret C hH false rfl (⟨fun h => (by cases h), fun _ => (fs_bi_0.mp c_20)⟩) dX5_chain_20
  · refine lv_iconst (v := 0) hx hb dX5_chain_8 (by decide) ?_
    refine lv_goto (tgt := 13) hx hb dX5_chain_9 (by decide) ?_
    refine fs_ci C hH (wr := [(qf, fs_ai X 20 fa), (qb, fs_ai X 16 bb)]) [0] [1, 2] rfl rfl (by decide) (by decide) (fs_rV (rest := []) (As := [.int 0]) (n := 1) (q0 := 0) (ci := 5) C hH (wc := [(h0, .inr (5, [.int rf, .ref qa, .ref qp, .ref qf, .ref qb, .ref qk, .ref qt, .int ex, .long eX, .long eZ]))]) [0] (by decide) rfl (c_X5_refused l X _ h0 qa qp qf qb qk qt rf ex eX eZ 0 ) rfl rfl rfl rfl mw_341 mw_339 mw_340 mw_493 mw_6 (by decide +kernel) ⟨Nat.le_of_ble_eq_true rfl, Nat.le_of_ble_eq_true rfl⟩ rfl hl.1 rfl (Nat.le_of_ble_eq_true rfl) dX5_chain_13 ⟨Nat.le_of_ble_eq_true rfl, Nat.le_of_ble_eq_true rfl⟩) (fun r_25 u_26 H locs hr_27 hH => ?_)
    subst hr_27
    have hH : fs_H X A s [(h0, .inr (5, [.int 0, .ref qa, .ref qp, .ref qf, .ref qb, .ref qk, .ref qt, .int ex, .long eX, .long eZ])), (qf, fs_ai X 20 fa), (qb, fs_ai X 16 bb)] _ _ := hH.sub [2, 0, 1] (by decide) rfl
    refine lv_if_eq (tgt := 21) hx hb dX5_chain_16 (by decide) (fun c_28 => ?_) (fun c_28 => ?_)
    · refine lv_iload_n hx hb dX5_chain_21 rfl (lv_at hl 1 rfl) ?_
      refine lv_i2l hx hb dX5_chain_22 rfl ?_
      refine lv_lstore_n (lv' := [(2, .long (Int32.toInt64 x)), (0, .ref h0), (1, .int x)]) hx hb dX5_chain_23 rfl hl (by decide) rfl (fun ls hl => ?_)
      refine lv_iconst (v := 0) hx hb dX5_chain_24 (by decide) ?_
      refine lv_istore (lv' := [(4, .int 0), (2, .long (Int32.toInt64 x)), (0, .ref h0), (1, .int x)]) hx hb dX5_chain_25 hl (by decide) rfl (fun ls hl => ?_)
      exact K_27 5 0 (fs_bi_nz.mp c_20) (by omega) (by omega) _ _ hH ls (lv_sub hl [2, 1, 0] rfl)
    · exact absurd c_28 (by decide)
set_option maxHeartbeats 4000000 in
set_option maxRecDepth 100000 in
theorem c_X5_calm (l : Launch) (X : fs_X) (sz : Nat) (h0 : Nat) (qa : Nat) (qp : Nat) (qf : Nat) (qb : Nat) (qk : Nat) (qt : Nat) (rf : Int32) (ex : Int32) (eX : Int64) (eZ : Int64) (gg : Nat → Int32) (bb : Nat → Int32)  : fs_M l X yX5_calm cX5_calm 2 none ({ frames := 0, cells := 0, slots := 0, locals := 0 }) [.ref h0] [(h0, .inr (5, [.int rf, .ref qa, .ref qp, .ref qf, .ref qb, .ref qk, .ref qt, .int ex, .long eX, .long eZ])), (qp, fs_ai X 16 gg), (qb, fs_ai X 16 bb)] sz (fs_Qv X (fun (_ : Unit) => True) (fun _ => [(h0, .inr (5, [.int 0, .ref qa, .ref qp, .ref qf, .ref qb, .ref qk, .ref qt, .int ex, .long eX, .long eZ])), (qp, fs_ai X 16 (fs_zero gg 16)), (qb, fs_ai X 16 (fs_zero bb 16))])) 0 0 := by
  refine fs_ofW (by decide) (Nat.le_of_ble_eq_true rfl) ?_
  intro p e s m args below meth c A ls C hH hl
  have C : fs_At X A p s m args meth c cX5_calm 2 none RX5 "calm" := C
  have hx := C.1
  have hb := C.2.1
  have hown := C.2.2.2.2.1
  have hts := C.2.2.2.2.2.1
  have hl : lv_has ls 2 [(0, .ref h0)] := hl
  have K_7 : ∀ (n : Nat) (k : Nat), (k ≤ 16) → (16 < k + n) → ∀ (H : Heap) (locs : List Loc), fs_H X A s [(h0, .inr (5, [.int 0, .ref qa, .ref qp, .ref qf, .ref qb, .ref qk, .ref qt, .int ex, .long eX, .long eZ])), (qp, fs_ai X 16 (fs_zero gg k)), (qb, fs_ai X 16 (fs_zero bb k))] H locs → ∀ (ls : Array Slot), lv_has ls 2 [(0, .ref h0), (1, .int (nI k))] → W p l e ({ frames := 0, cells := 0, slots := 0, locals := 0 }) s m args below meth c H locs 0 0 (MQ below (fs_Qv X (fun (_ : Unit) => True) (fun _ => [(h0, .inr (5, [.int 0, .ref qa, .ref qp, .ref qf, .ref qb, .ref qk, .ref qt, .int ex, .long eX, .long eZ])), (qp, fs_ai X 16 (fs_zero gg 16)), (qb, fs_ai X 16 (fs_zero bb 16))]) A) args s 0 0 A) (F0 m 7 ls []) := by
    intro n
    induction n with
    | zero => intro k hk hfu; exact absurd hfu (by omega)
    | succ n ih_7 =>
      intro k hk hfu H locs hH ls hl
      refine lv_iload_n hx hb dX5_calm_7 rfl (lv_at hl 1 rfl) ?_
      refine lv_bipush (v := 16) hx hb dX5_calm_8 (by decide) ?_
      refine lv_icmp_ge (tgt := 33) hx hb dX5_calm_10 (by decide) (fun c_1 => ?_) (fun c_1 => ?_)
      · obtain rfl : k = 16 := by have := fs_geT (a := k) (b := 16) (by omega) (by omega) c_1; omega
        exact fs_vret C hH () rfl trivial dX5_calm_33
      · have hlt := fs_geF (a := k) (b := 16) (by omega) (by omega) c_1
        refine lv_aload_n hx hb dX5_calm_13 rfl (lv_at hl 0 rfl) ?_
        refine fs_get C in_5 hH 0 rfl rfl 2 (by decide) mw_309 (v := .ref qp) rfl dX5_calm_14 ?_
        refine lv_iload_n hx hb dX5_calm_17 rfl (lv_at hl 1 rfl) ?_
        refine lv_iconst (v := 0) hx hb dX5_calm_18 (by decide) ?_
        refine fs_iast C hH 1 rfl (k := k) rfl (by omega) (by decide) (ws' := [(h0, .inr (5, [.int 0, .ref qa, .ref qp, .ref qf, .ref qb, .ref qk, .ref qt, .int ex, .long eX, .long eZ])), (qp, fs_ai X 16 (upd (fs_zero gg k) k 0)), (qb, fs_ai X 16 (fs_zero bb k))]) rfl dX5_calm_19 (fun H locs hH => ?_)
        have hH : fs_H X A s [(h0, .inr (5, [.int 0, .ref qa, .ref qp, .ref qf, .ref qb, .ref qk, .ref qt, .int ex, .long eX, .long eZ])), (qp, fs_ai X 16 (fs_zero gg (k + 1))), (qb, fs_ai X 16 (fs_zero bb k))] _ _ := hH.to (by rw [← fs_zero_s])
        refine lv_aload_n hx hb dX5_calm_20 rfl (lv_at hl 0 rfl) ?_
        refine fs_get C in_5 hH 0 rfl rfl 4 (by decide) mw_311 (v := .ref qb) rfl dX5_calm_21 ?_
        refine lv_iload_n hx hb dX5_calm_24 rfl (lv_at hl 1 rfl) ?_
        refine lv_iconst (v := 0) hx hb dX5_calm_25 (by decide) ?_
        refine fs_iast C hH 2 rfl (k := k) rfl (by omega) (by decide) (ws' := [(h0, .inr (5, [.int 0, .ref qa, .ref qp, .ref qf, .ref qb, .ref qk, .ref qt, .int ex, .long eX, .long eZ])), (qp, fs_ai X 16 (fs_zero gg (k + 1))), (qb, fs_ai X 16 (upd (fs_zero bb k) k 0))]) rfl dX5_calm_26 (fun H locs hH => ?_)
        have hH : fs_H X A s [(h0, .inr (5, [.int 0, .ref qa, .ref qp, .ref qf, .ref qb, .ref qk, .ref qt, .int ex, .long eX, .long eZ])), (qp, fs_ai X 16 (fs_zero gg (k + 1))), (qb, fs_ai X 16 (fs_zero bb (k + 1)))] _ _ := hH.to (by rw [← fs_zero_s bb])
        refine lv_iinc (v := (nI (k + 1))) (lv' := [(1, .int (nI (k + 1))), (0, .ref h0)]) hx hb dX5_calm_27 hl (k := 1) rfl (nI_1 k) (by decide) rfl (fun ls hl => ?_)
        refine lv_goto (tgt := 7) hx hb dX5_calm_30 (by decide) ?_
        exact ih_7 (k + 1) (by omega) (by omega) _ _ hH ls (lv_sub hl [1, 0] rfl)
  have hH : fs_H X A s [(h0, .inr (5, [.int rf, .ref qa, .ref qp, .ref qf, .ref qb, .ref qk, .ref qt, .int ex, .long eX, .long eZ])), (qp, fs_ai X 16 gg), (qb, fs_ai X 16 bb)] s.heap [] := hH
  refine lv_aload_n hx hb dX5_calm_0 rfl (lv_at hl 0 rfl) ?_
  refine lv_iconst (v := 0) hx hb dX5_calm_1 (by decide) ?_
  refine fs_put C in_5 tyX5 tyX5_ok nmX5 hH 0 rfl rfl 0 (by decide) mw_307 rfl rfl rfl (Nat.le_of_ble_eq_true rfl) (ws' := [(h0, .inr (5, [.int 0, .ref qa, .ref qp, .ref qf, .ref qb, .ref qk, .ref qt, .int ex, .long eX, .long eZ])), (qp, fs_ai X 16 gg), (qb, fs_ai X 16 bb)]) rfl dX5_calm_2 (fun H locs hH => ?_)
  refine lv_iconst (v := 0) hx hb dX5_calm_5 (by decide) ?_
  have hH : fs_H X A s [(h0, .inr (5, [.int 0, .ref qa, .ref qp, .ref qf, .ref qb, .ref qk, .ref qt, .int ex, .long eX, .long eZ])), (qp, fs_ai X 16 (fs_zero gg 0)), (qb, fs_ai X 16 (fs_zero bb 0))] _ _ := hH.to (by rw [fs_zero_0, fs_zero_0])
  refine lv_istore_n (lv' := [(1, .int 0), (0, .ref h0)]) hx hb dX5_calm_6 rfl hl (by decide) rfl (fun ls hl => ?_)
  exact K_7 17 0 (by omega) (by omega) _ _ hH ls (lv_sub hl [1, 0] rfl)
set_option maxHeartbeats 4000000 in
set_option maxRecDepth 100000 in
theorem c_X5_put (l : Launch) (X : fs_X) (sz : Nat) (h0 : Nat) (qa : Nat) (qp : Nat) (qf : Nat) (qb : Nat) (qk : Nat) (qt : Nat) (rf : Int32) (ex : Int32) (eX : Int64) (eZ : Int64) (re : Nat → Int32) (im : Nat → Int32) (p0 : Int32) (rv : Int32) (iv : Int32)  : fs_M l X yX5_put cX5_put 4 none ({ frames := 1, cells := 0, slots := 0, locals := 22 }) [.ref h0, .int p0, .int rv, .int iv] [(h0, .inr (5, [.int rf, .ref qa, .ref qp, .ref qf, .ref qb, .ref qk, .ref qt, .int ex, .long eX, .long eZ])), (qk, fs_al X 64 (fs_il re im))] sz (fs_Qv X (fun (u : Bool) => (u = true → (¬ p0 < 0 ∧ ¬ 32 ≤ p0)) ∧ (u = false → ¬ (¬ p0 < 0 ∧ ¬ 32 ≤ p0))) (fun u => match u with | true => [(h0, .inr (5, [.int 0, .ref qa, .ref qp, .ref qf, .ref qb, .ref qk, .ref qt, .int 0, .long eX, .long eZ])), (qk, fs_al X 64 (fs_il (upd re (Int32.toNatClampNeg p0) rv) (upd im (Int32.toNatClampNeg p0) iv)))] | false => [(h0, .inr (5, [.int 1, .ref qa, .ref qp, .ref qf, .ref qb, .ref qk, .ref qt, .int ex, .long eX, .long eZ])), (qk, fs_al X 64 (fs_il re im))])) 0 0 := by
  refine fs_ofW (by decide) (Nat.le_of_ble_eq_true rfl) ?_
  intro p e s m args below meth c A ls C hH hl
  have C : fs_At X A p s m args meth c cX5_put 4 none RX5 "put" := C
  have hx := C.1
  have hb := C.2.1
  have hown := C.2.2.2.2.1
  have hts := C.2.2.2.2.2.1
  have hl : lv_has ls 4 [(0, .ref h0), (1, .int p0), (2, .int rv), (3, .int iv)] := hl
  have hH : fs_H X A s [(h0, .inr (5, [.int rf, .ref qa, .ref qp, .ref qf, .ref qb, .ref qk, .ref qt, .int ex, .long eX, .long eZ])), (qk, fs_al X 64 (fs_il re im))] s.heap [] := hH
  refine lv_aload_n hx hb dX5_put_0 rfl (lv_at hl 0 rfl) ?_
  refine lv_iload_n hx hb dX5_put_1 rfl (lv_at hl 1 rfl) ?_
  refine lv_iconst (v := 0) hx hb dX5_put_2 (by decide) ?_
  refine lv_bipush (v := 31) hx hb dX5_put_3 (by decide) ?_
  refine fs_ci C hH (wr := [(h0, .inr (5, [.int rf, .ref qa, .ref qp, .ref qf, .ref qb, .ref qk, .ref qt, .int ex, .long eX, .long eZ])), (qk, fs_al X 64 (fs_il re im))]) [] [0, 1] rfl rfl (by decide) (by decide) (fs_rS (rest := [.ref h0]) (As := [.int p0, .int 0, .int 31]) (n := 3) C hH (wc := []) [] (by decide) rfl (c_X5_isIn l X _ p0 0 31 ) rfl rfl mw_338 mw_336 mw_337 mw_6 (by decide +kernel) ⟨Nat.le_of_ble_eq_true rfl, Nat.le_of_ble_eq_true rfl⟩ rfl hl.1 rfl (Nat.le_of_ble_eq_true rfl) dX5_put_5 ⟨Nat.le_of_ble_eq_true rfl, Nat.le_of_ble_eq_true rfl⟩) (fun r_1 u_2 H locs hr_3 hH => ?_)
  subst hr_3
  have hH : fs_H X A s [(h0, .inr (5, [.int rf, .ref qa, .ref qp, .ref qf, .ref qb, .ref qk, .ref qt, .int ex, .long eX, .long eZ])), (qk, fs_al X 64 (fs_il re im))] _ _ := hH
  refine lv_if_eq (tgt := 15) hx hb dX5_put_8 (by decide) (fun c_4 => ?_) (fun c_4 => ?_)
  · refine lv_iconst (v := 1) hx hb dX5_put_15 (by decide) ?_
    refine fs_ci C hH (wr := [(qk, fs_al X 64 (fs_il re im))]) [0] [1] rfl rfl (by decide) (by decide) (fs_rV (rest := []) (As := [.int 1]) (n := 1) (q0 := 0) (ci := 5) C hH (wc := [(h0, .inr (5, [.int rf, .ref qa, .ref qp, .ref qf, .ref qb, .ref qk, .ref qt, .int ex, .long eX, .long eZ]))]) [0] (by decide) rfl (c_X5_refused l X _ h0 qa qp qf qb qk qt rf ex eX eZ 1 ) rfl rfl rfl rfl mw_341 mw_339 mw_340 mw_493 mw_6 (by decide +kernel) ⟨Nat.le_of_ble_eq_true rfl, Nat.le_of_ble_eq_true rfl⟩ rfl hl.1 rfl (Nat.le_of_ble_eq_true rfl) dX5_put_16 ⟨Nat.le_of_ble_eq_true rfl, Nat.le_of_ble_eq_true rfl⟩) (fun r_5 u_6 H locs hr_7 hH => ?_)
    subst hr_7
    have hH : fs_H X A s [(h0, .inr (5, [.int 1, .ref qa, .ref qp, .ref qf, .ref qb, .ref qk, .ref qt, .int ex, .long eX, .long eZ])), (qk, fs_al X 64 (fs_il re im))] _ _ := hH.sub [1, 0] (by decide) rfl
    refine lv_if_eq (tgt := 23) hx hb dX5_put_19 (by decide) (fun c_8 => ?_) (fun c_8 => ?_)
    · exact absurd c_8 (by decide)
    · exact fs_vret C hH false rfl (⟨fun h => (by cases h), fun _ => fun h => (fs_bi_0.mp c_4) ⟨h.1, fs_c31.mpr h.2⟩⟩) dX5_put_22
  · refine lv_iconst (v := 0) hx hb dX5_put_11 (by decide) ?_
    refine lv_goto (tgt := 16) hx hb dX5_put_12 (by decide) ?_
    refine fs_ci C hH (wr := [(qk, fs_al X 64 (fs_il re im))]) [0] [1] rfl rfl (by decide) (by decide) (fs_rV (rest := []) (As := [.int 0]) (n := 1) (q0 := 0) (ci := 5) C hH (wc := [(h0, .inr (5, [.int rf, .ref qa, .ref qp, .ref qf, .ref qb, .ref qk, .ref qt, .int ex, .long eX, .long eZ]))]) [0] (by decide) rfl (c_X5_refused l X _ h0 qa qp qf qb qk qt rf ex eX eZ 0 ) rfl rfl rfl rfl mw_341 mw_339 mw_340 mw_493 mw_6 (by decide +kernel) ⟨Nat.le_of_ble_eq_true rfl, Nat.le_of_ble_eq_true rfl⟩ rfl hl.1 rfl (Nat.le_of_ble_eq_true rfl) dX5_put_16 ⟨Nat.le_of_ble_eq_true rfl, Nat.le_of_ble_eq_true rfl⟩) (fun r_9 u_10 H locs hr_11 hH => ?_)
    subst hr_11
    have hH : fs_H X A s [(h0, .inr (5, [.int 0, .ref qa, .ref qp, .ref qf, .ref qb, .ref qk, .ref qt, .int ex, .long eX, .long eZ])), (qk, fs_al X 64 (fs_il re im))] _ _ := hH.sub [1, 0] (by decide) rfl
    refine lv_if_eq (tgt := 23) hx hb dX5_put_19 (by decide) (fun c_12 => ?_) (fun c_12 => ?_)
    · have h8 := fs_ixn (n := 32) (by decide) ⟨(fs_bi_nz.mp c_4).1, fs_c31.mp (fs_bi_nz.mp c_4).2⟩
      refine lv_aload_n hx hb dX5_put_23 rfl (lv_at hl 0 rfl) ?_
      refine fs_get C in_5 hH 0 rfl rfl 5 (by decide) mw_312 (v := .ref qk) rfl dX5_put_24 ?_
      refine lv_iconst (v := 2) hx hb dX5_put_27 (by decide) ?_
      refine lv_iload_n hx hb dX5_put_28 rfl (lv_at hl 1 rfl) ?_
      refine lv_imul hx hb dX5_put_29 ?_
      refine lv_iload_n hx hb dX5_put_30 rfl (lv_at hl 2 rfl) ?_
      refine lv_i2l hx hb dX5_put_31 rfl ?_
      refine fs_last C hH 1 rfl (k := (2 * (Int32.toNatClampNeg p0))) (fs_im (a := 2) rfl h8.1) (by have := h8.2; omega) (by decide) (ws' := [(h0, .inr (5, [.int 0, .ref qa, .ref qp, .ref qf, .ref qb, .ref qk, .ref qt, .int ex, .long eX, .long eZ])), (qk, fs_al X 64 (vp_updL (fs_il re im) (2 * (Int32.toNatClampNeg p0)) (Int32.toInt64 rv)))]) rfl dX5_put_32 (fun H locs hH => ?_)
      have hH : fs_H X A s [(h0, .inr (5, [.int 0, .ref qa, .ref qp, .ref qf, .ref qb, .ref qk, .ref qt, .int ex, .long eX, .long eZ])), (qk, fs_al X 64 (fs_il (upd re (Int32.toNatClampNeg p0) rv) im))] _ _ := hH.to (by rw [fs_il_ue])
      refine lv_aload_n hx hb dX5_put_33 rfl (lv_at hl 0 rfl) ?_
      refine fs_get C in_5 hH 0 rfl rfl 5 (by decide) mw_312 (v := .ref qk) rfl dX5_put_34 ?_
      refine lv_iconst (v := 2) hx hb dX5_put_37 (by decide) ?_
      refine lv_iload_n hx hb dX5_put_38 rfl (lv_at hl 1 rfl) ?_
      refine lv_imul hx hb dX5_put_39 ?_
      refine lv_iconst (v := 1) hx hb dX5_put_40 (by decide) ?_
      refine lv_iadd hx hb dX5_put_41 ?_
      refine lv_iload_n hx hb dX5_put_42 rfl (lv_at hl 3 rfl) ?_
      refine lv_i2l hx hb dX5_put_43 rfl ?_
      refine fs_last C hH 1 rfl (k := (2 * (Int32.toNatClampNeg p0) + 1)) (fs_ia (b := 1) (fs_im (a := 2) rfl h8.1) rfl) (by have := h8.2; omega) (by decide) (ws' := [(h0, .inr (5, [.int 0, .ref qa, .ref qp, .ref qf, .ref qb, .ref qk, .ref qt, .int ex, .long eX, .long eZ])), (qk, fs_al X 64 (vp_updL (fs_il (upd re (Int32.toNatClampNeg p0) rv) im) (2 * (Int32.toNatClampNeg p0) + 1) (Int32.toInt64 iv)))]) rfl dX5_put_44 (fun H locs hH => ?_)
      have hH : fs_H X A s [(h0, .inr (5, [.int 0, .ref qa, .ref qp, .ref qf, .ref qb, .ref qk, .ref qt, .int ex, .long eX, .long eZ])), (qk, fs_al X 64 (fs_il (upd re (Int32.toNatClampNeg p0) rv) (upd im (Int32.toNatClampNeg p0) iv)))] _ _ := hH.to (by rw [fs_il_uo])
      refine lv_aload_n hx hb dX5_put_45 rfl (lv_at hl 0 rfl) ?_
      refine lv_iconst (v := 0) hx hb dX5_put_46 (by decide) ?_
      refine fs_put C in_5 tyX5 tyX5_ok nmX5 hH 0 rfl rfl 7 (by decide) mw_314 rfl rfl rfl (Nat.le_of_ble_eq_true rfl) (ws' := [(h0, .inr (5, [.int 0, .ref qa, .ref qp, .ref qf, .ref qb, .ref qk, .ref qt, .int 0, .long eX, .long eZ])), (qk, fs_al X 64 (fs_il (upd re (Int32.toNatClampNeg p0) rv) (upd im (Int32.toNatClampNeg p0) iv)))]) rfl dX5_put_47 (fun H locs hH => ?_)
      exact fs_vret C hH true rfl (⟨fun _ => ⟨(fs_bi_nz.mp c_4).1, fs_c31.mp (fs_bi_nz.mp c_4).2⟩, fun h => (by cases h)⟩) dX5_put_50
    · exact absurd c_12 (by decide)
set_option maxHeartbeats 4000000 in
set_option maxRecDepth 100000 in
theorem c_X5_get (l : Launch) (X : fs_X) (sz : Nat) (h0 : Nat) (qa : Nat) (qp : Nat) (qf : Nat) (qb : Nat) (qk : Nat) (qt : Nat) (rf : Int32) (ex : Int32) (eX : Int64) (eZ : Int64) (re : Nat → Int32) (im : Nat → Int32) (p0 : Int32) (sec : Int32)  : fs_M l X yX5_get cX5_get 3 (some .int) ({ frames := 1, cells := 0, slots := 0, locals := 22 }) [.ref h0, .int p0, .int sec] [(h0, .inr (5, [.int rf, .ref qa, .ref qp, .ref qf, .ref qb, .ref qk, .ref qt, .int ex, .long eX, .long eZ])), (qk, fs_al X 64 (fs_il re im))] sz (fs_Qi X (fun r (u : Bool) => (u = true → r = (if sec = 0 then re (Int32.toNatClampNeg p0) else im (Int32.toNatClampNeg p0)) ∧ (¬ p0 < 0 ∧ ¬ 32 ≤ p0)) ∧ (u = false → ¬ (¬ p0 < 0 ∧ ¬ 32 ≤ p0))) (fun u => match u with | true => [(h0, .inr (5, [.int 0, .ref qa, .ref qp, .ref qf, .ref qb, .ref qk, .ref qt, .int ex, .long eX, .long eZ])), (qk, fs_al X 64 (fs_il re im))] | false => [(h0, .inr (5, [.int 1, .ref qa, .ref qp, .ref qf, .ref qb, .ref qk, .ref qt, .int ex, .long eX, .long eZ])), (qk, fs_al X 64 (fs_il re im))])) 0 0 := by
  refine fs_ofW (by decide) (Nat.le_of_ble_eq_true rfl) ?_
  intro p e s m args below meth c A ls C hH hl
  have C : fs_At X A p s m args meth c cX5_get 3 (some .int) RX5 "get" := C
  have hx := C.1
  have hb := C.2.1
  have hown := C.2.2.2.2.1
  have hts := C.2.2.2.2.2.1
  have hl : lv_has ls 3 [(0, .ref h0), (1, .int p0), (2, .int sec)] := hl
  have hH : fs_H X A s [(h0, .inr (5, [.int rf, .ref qa, .ref qp, .ref qf, .ref qb, .ref qk, .ref qt, .int ex, .long eX, .long eZ])), (qk, fs_al X 64 (fs_il re im))] s.heap [] := hH
  refine lv_aload_n hx hb dX5_get_0 rfl (lv_at hl 0 rfl) ?_
  refine lv_iload_n hx hb dX5_get_1 rfl (lv_at hl 1 rfl) ?_
  refine lv_iconst (v := 0) hx hb dX5_get_2 (by decide) ?_
  refine lv_bipush (v := 31) hx hb dX5_get_3 (by decide) ?_
  refine fs_ci C hH (wr := [(h0, .inr (5, [.int rf, .ref qa, .ref qp, .ref qf, .ref qb, .ref qk, .ref qt, .int ex, .long eX, .long eZ])), (qk, fs_al X 64 (fs_il re im))]) [] [0, 1] rfl rfl (by decide) (by decide) (fs_rS (rest := [.ref h0]) (As := [.int p0, .int 0, .int 31]) (n := 3) C hH (wc := []) [] (by decide) rfl (c_X5_isIn l X _ p0 0 31 ) rfl rfl mw_338 mw_336 mw_337 mw_6 (by decide +kernel) ⟨Nat.le_of_ble_eq_true rfl, Nat.le_of_ble_eq_true rfl⟩ rfl hl.1 rfl (Nat.le_of_ble_eq_true rfl) dX5_get_5 ⟨Nat.le_of_ble_eq_true rfl, Nat.le_of_ble_eq_true rfl⟩) (fun r_1 u_2 H locs hr_3 hH => ?_)
  subst hr_3
  have hH : fs_H X A s [(h0, .inr (5, [.int rf, .ref qa, .ref qp, .ref qf, .ref qb, .ref qk, .ref qt, .int ex, .long eX, .long eZ])), (qk, fs_al X 64 (fs_il re im))] _ _ := hH
  refine lv_if_eq (tgt := 15) hx hb dX5_get_8 (by decide) (fun c_4 => ?_) (fun c_4 => ?_)
  · refine lv_iconst (v := 1) hx hb dX5_get_15 (by decide) ?_
    refine fs_ci C hH (wr := [(qk, fs_al X 64 (fs_il re im))]) [0] [1] rfl rfl (by decide) (by decide) (fs_rV (rest := []) (As := [.int 1]) (n := 1) (q0 := 0) (ci := 5) C hH (wc := [(h0, .inr (5, [.int rf, .ref qa, .ref qp, .ref qf, .ref qb, .ref qk, .ref qt, .int ex, .long eX, .long eZ]))]) [0] (by decide) rfl (c_X5_refused l X _ h0 qa qp qf qb qk qt rf ex eX eZ 1 ) rfl rfl rfl rfl mw_341 mw_339 mw_340 mw_493 mw_6 (by decide +kernel) ⟨Nat.le_of_ble_eq_true rfl, Nat.le_of_ble_eq_true rfl⟩ rfl hl.1 rfl (Nat.le_of_ble_eq_true rfl) dX5_get_16 ⟨Nat.le_of_ble_eq_true rfl, Nat.le_of_ble_eq_true rfl⟩) (fun r_5 u_6 H locs hr_7 hH => ?_)
    subst hr_7
    have hH : fs_H X A s [(h0, .inr (5, [.int 1, .ref qa, .ref qp, .ref qf, .ref qb, .ref qk, .ref qt, .int ex, .long eX, .long eZ])), (qk, fs_al X 64 (fs_il re im))] _ _ := hH.sub [1, 0] (by decide) rfl
    refine lv_if_eq (tgt := 24) hx hb dX5_get_19 (by decide) (fun c_8 => ?_) (fun c_8 => ?_)
    · exact absurd c_8 (by decide)
    · refine lv_iconst (v := 0) hx hb dX5_get_22 (by decide) ?_
      exact fs_iret C hH false rfl (⟨fun h => (by cases h), fun _ => fun h => (fs_bi_0.mp c_4) ⟨h.1, fs_c31.mpr h.2⟩⟩) dX5_get_23
  · refine lv_iconst (v := 0) hx hb dX5_get_11 (by decide) ?_
    refine lv_goto (tgt := 16) hx hb dX5_get_12 (by decide) ?_
    refine fs_ci C hH (wr := [(qk, fs_al X 64 (fs_il re im))]) [0] [1] rfl rfl (by decide) (by decide) (fs_rV (rest := []) (As := [.int 0]) (n := 1) (q0 := 0) (ci := 5) C hH (wc := [(h0, .inr (5, [.int rf, .ref qa, .ref qp, .ref qf, .ref qb, .ref qk, .ref qt, .int ex, .long eX, .long eZ]))]) [0] (by decide) rfl (c_X5_refused l X _ h0 qa qp qf qb qk qt rf ex eX eZ 0 ) rfl rfl rfl rfl mw_341 mw_339 mw_340 mw_493 mw_6 (by decide +kernel) ⟨Nat.le_of_ble_eq_true rfl, Nat.le_of_ble_eq_true rfl⟩ rfl hl.1 rfl (Nat.le_of_ble_eq_true rfl) dX5_get_16 ⟨Nat.le_of_ble_eq_true rfl, Nat.le_of_ble_eq_true rfl⟩) (fun r_9 u_10 H locs hr_11 hH => ?_)
    subst hr_11
    have hH : fs_H X A s [(h0, .inr (5, [.int 0, .ref qa, .ref qp, .ref qf, .ref qb, .ref qk, .ref qt, .int ex, .long eX, .long eZ])), (qk, fs_al X 64 (fs_il re im))] _ _ := hH.sub [1, 0] (by decide) rfl
    refine lv_if_eq (tgt := 24) hx hb dX5_get_19 (by decide) (fun c_12 => ?_) (fun c_12 => ?_)
    · have h8 := fs_ixn (n := 32) (by decide) ⟨(fs_bi_nz.mp c_4).1, fs_c31.mp (fs_bi_nz.mp c_4).2⟩
      refine lv_aload_n hx hb dX5_get_24 rfl (lv_at hl 0 rfl) ?_
      refine fs_get C in_5 hH 0 rfl rfl 5 (by decide) mw_312 (v := .ref qk) rfl dX5_get_25 ?_
      refine lv_iload_n hx hb dX5_get_28 rfl (lv_at hl 2 rfl) ?_
      refine lv_if_eq (tgt := 40) hx hb dX5_get_29 (by decide) (fun c_13 => ?_) (fun c_13 => ?_)
      · refine lv_iconst (v := 2) hx hb dX5_get_40 (by decide) ?_
        refine lv_iload_n hx hb dX5_get_41 rfl (lv_at hl 1 rfl) ?_
        refine lv_imul hx hb dX5_get_42 ?_
        refine fs_lald C hH 1 rfl (k := (2 * (Int32.toNatClampNeg p0))) (fs_im (a := 2) rfl h8.1) (by have := h8.2; omega) (by decide) dX5_get_43 ?_
        refine fs_topl (y := (Int32.toInt64 (re (Int32.toNatClampNeg p0)))) (fs_il_e _ _ _) ?_
        refine lv_l2i hx hb dX5_get_44 rfl ?_
        refine fs_topi (y := (re (Int32.toNatClampNeg p0))) (Int32.toInt32_toInt64 _) ?_
        exact fs_iret C hH true rfl (⟨fun _ => ⟨by rw [if_pos c_13], ⟨(fs_bi_nz.mp c_4).1, fs_c31.mp (fs_bi_nz.mp c_4).2⟩⟩, fun h => (by cases h)⟩) dX5_get_45
      · refine lv_iconst (v := 2) hx hb dX5_get_32 (by decide) ?_
        refine lv_iload_n hx hb dX5_get_33 rfl (lv_at hl 1 rfl) ?_
        refine lv_imul hx hb dX5_get_34 ?_
        refine lv_iconst (v := 1) hx hb dX5_get_35 (by decide) ?_
        refine lv_iadd hx hb dX5_get_36 ?_
        refine lv_goto (tgt := 43) hx hb dX5_get_37 (by decide) ?_
        refine fs_lald C hH 1 rfl (k := (2 * (Int32.toNatClampNeg p0) + 1)) (fs_ia (b := 1) (fs_im (a := 2) rfl h8.1) rfl) (by have := h8.2; omega) (by decide) dX5_get_43 ?_
        refine fs_topl (y := (Int32.toInt64 (im (Int32.toNatClampNeg p0)))) (fs_il_o _ _ _) ?_
        refine lv_l2i hx hb dX5_get_44 rfl ?_
        refine fs_topi (y := (im (Int32.toNatClampNeg p0))) (Int32.toInt32_toInt64 _) ?_
        exact fs_iret C hH true rfl (⟨fun _ => ⟨by rw [if_neg c_13], ⟨(fs_bi_nz.mp c_4).1, fs_c31.mp (fs_bi_nz.mp c_4).2⟩⟩, fun h => (by cases h)⟩) dX5_get_45
    · exact absurd c_12 (by decide)
