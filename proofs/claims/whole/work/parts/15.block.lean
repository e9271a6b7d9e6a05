set_option maxHeartbeats 4000000 in
set_option maxRecDepth 100000 in
theorem c_X0_init (l : Launch) (X : fs_X) (sz : Nat) (h0 : Nat)  : fs_M l X yX0_init cX0_init 1 none ({ frames := 1, cells := 2, slots := 64, locals := 12 }) [.ref h0] [(h0, .inr (0, [.null, .null, .int 0]))] sz (fs_Qv X (fun (_ : Nat × Nat) => True) (fun u => [(h0, .inr (0, [.ref u.1, .ref u.2, .int 0])), (u.1, fs_ai X 32 (fun _ => 0)), (u.2, fs_ai X 32 (fun _ => 0))])) 2 64 := by
  refine fs_ofW (by decide) (Nat.le_of_ble_eq_true rfl) ?_
  intro p e s m args below meth c A ls C hH hl
  have C : fs_At X A p s m args meth c cX0_init 1 none RX0 "<init>" := C
  have hx := C.1
  have hb := C.2.1
  have hown := C.2.2.2.2.1
  have hts := C.2.2.2.2.2.1
  have hl : lv_has ls 1 [(0, .ref h0)] := hl
  have hH : fs_H X A s [(h0, .inr (0, [.null, .null, .int 0]))] s.heap [] := hH
  refine lv_aload_n hx hb dX0_init_0 rfl (lv_at hl 0 rfl) ?_
  refine W.objInit hx hb hown (hts _ mw_49) (hts _ mw_18) (hts _ mw_19) rfl (by rw [C.2.2.2.1]; exact hl.1) rfl dX0_init_1 (Nat.le_of_ble_eq_true rfl) (Nat.le_of_ble_eq_true rfl) ?_
  refine W.eq (g2 := F0 m 4 ls []) rfl ?_
  refine lv_aload_n hx hb dX0_init_4 rfl (lv_at hl 0 rfl) ?_
  refine lv_bipush (v := 32) hx hb dX0_init_5 (by decide) ?_
  refine fs_newI C hH (N := 32) rfl (by decide) (Nat.le_of_ble_eq_true rfl) (Nat.le_of_ble_eq_true rfl) mw_29 dX0_init_7 (fun q_1 H hH => ?_)
  have hH : fs_H X A s [(h0, .inr (0, [.null, .null, .int 0])), (q_1, fs_ai X 32 (fun _ => 0))] _ _ := hH
  refine fs_putF C in_0 tyX0 tyX0_ok nmX0 hH 0 rfl rfl 0 (by decide) mw_50 rfl rfl rfl rfl (Nat.le_of_ble_eq_true rfl) (ws' := [(h0, .inr (0, [.ref q_1, .null, .int 0])), (q_1, fs_ai X 32 (fun _ => 0))]) rfl dX0_init_9 (fun H locs hH => ?_)
  refine lv_aload_n hx hb dX0_init_12 rfl (lv_at hl 0 rfl) ?_
  refine lv_bipush (v := 32) hx hb dX0_init_13 (by decide) ?_
  refine fs_newI C hH (N := 32) rfl (by decide) (Nat.le_of_ble_eq_true rfl) (Nat.le_of_ble_eq_true rfl) mw_29 dX0_init_15 (fun q_2 H hH => ?_)
  have hH : fs_H X A s [(h0, .inr (0, [.ref q_1, .null, .int 0])), (q_1, fs_ai X 32 (fun _ => 0)), (q_2, fs_ai X 32 (fun _ => 0))] _ _ := hH
  refine fs_putF C in_0 tyX0 tyX0_ok nmX0 hH 0 rfl rfl 1 (by decide) mw_51 rfl rfl rfl rfl (Nat.le_of_ble_eq_true rfl) (ws' := [(h0, .inr (0, [.ref q_1, .ref q_2, .int 0])), (q_1, fs_ai X 32 (fun _ => 0)), (q_2, fs_ai X 32 (fun _ => 0))]) rfl dX0_init_17 (fun H locs hH => ?_)
  exact fs_vret C hH (q_1, q_2) rfl trivial dX0_init_20
set_option maxHeartbeats 4000000 in
set_option maxRecDepth 100000 in
theorem c_X0_reorder (l : Launch) (X : fs_X) (sz : Nat) (h0 : Nat) (qr : Nat) (qi : Nat) (S : fs_K) (mm : Nat) (hmm : mm < 6) : fs_M l X yX0_reorder cX0_reorder 4 none ({ frames := 1, cells := 0, slots := 0, locals := 23 }) [.ref h0, .int (nI mm)] [(h0, .inr (0, [.ref qr, .ref qi, .int S.2.2])), (qr, fs_ai X 32 S.1), (qi, fs_ai X 32 S.2.1)] sz (fs_Qv X (fun (_ : Unit) => True) (fun _ => [(h0, .inr (0, [.ref qr, .ref qi, .int S.2.2])), (qr, fs_ai X 32 (fs_pm mm S.1)), (qi, fs_ai X 32 (fs_pm mm S.2.1))])) 0 0 := by
  refine fs_ofW (by decide) (Nat.le_of_ble_eq_true rfl) ?_
  intro p e s m args below meth c A ls C hH hl
  have C : fs_At X A p s m args meth c cX0_reorder 4 none RX0 "reorder" := C
  have hx := C.1
  have hb := C.2.1
  have hown := C.2.2.2.2.1
  have hts := C.2.2.2.2.2.1
  have hl : lv_has ls 4 [(0, .ref h0), (1, .int (nI mm))] := hl
  have hp := fs_pw4 mm hmm
  have K_2 : ∀ (n : Nat) (k : Nat), (k ≤ 2 ^ mm) → (2 ^ mm < k + n) → ∀ (H : Heap) (locs : List Loc), fs_H X A s [(h0, .inr (0, [.ref qr, .ref qi, .int S.2.2])), (qr, fs_ai X 32 (fs_pk mm k S.1)), (qi, fs_ai X 32 (fs_pk mm k S.2.1))] H locs → ∀ (ls : Array Slot), lv_has ls 4 [(0, .ref h0), (1, .int (nI mm)), (2, .int (nI k))] → W p l e ({ frames := 1, cells := 0, slots := 0, locals := 23 }) s m args below meth c H locs 0 0 (MQ below (fs_Qv X (fun (_ : Unit) => True) (fun _ => [(h0, .inr (0, [.ref qr, .ref qi, .int S.2.2])), (qr, fs_ai X 32 (fs_pm mm S.1)), (qi, fs_ai X 32 (fs_pm mm S.2.1))]) A) args s 0 0 A) (F0 m 2 ls []) := by
    intro n
    induction n with
    | zero => intro k hk hfu; exact absurd hfu (by omega)
    | succ n ih_2 =>
      intro k hk hfu H locs hH ls hl
      refine lv_iload_n hx hb dX0_reorder_2 rfl (lv_at hl 2 rfl) ?_
      refine lv_iconst (v := 1) hx hb dX0_reorder_3 (by decide) ?_
      refine lv_iload_n hx hb dX0_reorder_4 rfl (lv_at hl 1 rfl) ?_
      refine lv_ishl hx hb dX0_reorder_5 ?_
      refine fs_topi (y := (nI (2 ^ mm))) (fs_pw1 mm hmm) ?_
      refine lv_icmp_ge (tgt := 44) hx hb dX0_reorder_6 (by decide) (fun c_1 => ?_) (fun c_1 => ?_)
      · have hge := fs_geT (a := k) (b := 2 ^ mm) (by omega) (by omega) c_1
        have hkn : k = 2 ^ mm := by omega
        have hH : fs_H X A s [(h0, .inr (0, [.ref qr, .ref qi, .int S.2.2])), (qr, fs_ai X 32 (fs_pm mm S.1)), (qi, fs_ai X 32 (fs_pm mm S.2.1))] _ _ := hH.to (by rw [hkn, fs_pk_n, fs_pk_n])
        exact fs_vret C hH () rfl trivial dX0_reorder_44
      · have hlt := fs_geF (a := k) (b := 2 ^ mm) (by omega) (by omega) c_1
        refine lv_iload_n hx hb dX0_reorder_9 rfl (lv_at hl 2 rfl) ?_
        refine lv_iload_n hx hb dX0_reorder_10 rfl (lv_at hl 1 rfl) ?_
        refine fs_ci C hH (wr := [(h0, .inr (0, [.ref qr, .ref qi, .int S.2.2])), (qr, fs_ai X 32 (fs_pk mm k S.1)), (qi, fs_ai X 32 (fs_pk mm k S.2.1))]) [] [0, 1, 2] rfl rfl (by decide) (by decide) (fs_rS (rest := []) (As := [.int (nI k), .int (nI mm)]) (n := 2) C hH (wc := []) [] (by decide) rfl (c_X0_bitsTurnedRound l X _ (nI k) mm (by omega)) rfl rfl mw_247 mw_245 mw_246 mw_4 (by decide +kernel) ⟨Nat.le_of_ble_eq_true rfl, Nat.le_of_ble_eq_true rfl⟩ rfl hl.1 rfl (Nat.le_of_ble_eq_true rfl) dX0_reorder_11 ⟨Nat.le_of_ble_eq_true rfl, Nat.le_of_ble_eq_true rfl⟩) (fun r_2 u_3 H locs hr_4 hH => ?_)
        subst hr_4
        have hH : fs_H X A s [(h0, .inr (0, [.ref qr, .ref qi, .int S.2.2])), (qr, fs_ai X 32 (fs_pk mm k S.1)), (qi, fs_ai X 32 (fs_pk mm k S.2.1))] _ _ := hH
        refine fs_topi (y := (nI (fs_rn mm k))) ((fs_rn_all mm hmm k hlt).1) ?_
        have hr := (fs_rn_all mm hmm k hlt).2.1
        refine lv_istore_n (lv' := [(3, .int (nI (fs_rn mm k))), (0, .ref h0), (1, .int (nI mm)), (2, .int (nI k))]) hx hb dX0_reorder_14 rfl hl (by decide) rfl (fun ls hl => ?_)
        refine lv_iload_n hx hb dX0_reorder_15 rfl (lv_at hl 3 rfl) ?_
        refine lv_iload_n hx hb dX0_reorder_16 rfl (lv_at hl 0 rfl) ?_
        refine lv_icmp_ge (tgt := 38) hx hb dX0_reorder_17 (by decide) (fun c_5 => ?_) (fun c_5 => ?_)
        · have hq := fs_geT (a := k) (b := fs_rn mm k) (by omega) (by omega) c_5
          have hH : fs_H X A s [(h0, .inr (0, [.ref qr, .ref qi, .int S.2.2])), (qr, fs_ai X 32 (fs_pk mm (k + 1) S.1)), (qi, fs_ai X 32 (fs_pk mm (k + 1) S.2.1))] _ _ := hH.to (by rw [fs_pk_n2 hmm hlt (by omega) S.1, fs_pk_n2 hmm hlt (by omega) S.2.1])
          refine lv_iinc (v := (nI (k + 1))) (lv' := [(2, .int (nI (k + 1))), (3, .int (nI (fs_rn mm k))), (0, .ref h0), (1, .int (nI mm))]) hx hb dX0_reorder_38 hl (k := 3) rfl (nI_1 k) (by decide) rfl (fun ls hl => ?_)
          refine lv_goto (tgt := 2) hx hb dX0_reorder_41 (by decide) ?_
          exact ih_2 (k + 1) (by omega) (by omega) _ _ hH ls (lv_sub hl [2, 3, 0] rfl)
        · have hq := fs_geF (a := k) (b := fs_rn mm k) (by omega) (by omega) c_5
          refine lv_aload_n hx hb dX0_reorder_20 rfl (lv_at hl 1 rfl) ?_
          refine fs_get C in_0 hH 0 rfl rfl 0 (by decide) mw_50 (v := .ref qr) rfl dX0_reorder_21 ?_
          refine lv_iload_n hx hb dX0_reorder_24 rfl (lv_at hl 3 rfl) ?_
          refine lv_iload_n hx hb dX0_reorder_25 rfl (lv_at hl 0 rfl) ?_
          refine fs_cv C hH (wr := [(h0, .inr (0, [.ref qr, .ref qi, .int S.2.2])), (qi, fs_ai X 32 (fs_pk mm k S.2.1))]) [1] [0, 2] rfl rfl (by decide) (by decide) (fs_rS (rest := []) (As := [.ref qr, .int (nI k), .int (nI (fs_rn mm k))]) (n := 3) C hH (wc := [(qr, fs_ai X 32 (fs_pk mm k S.1))]) [1] (by decide) rfl (c_X0_swap l X _ qr (fs_pk mm k S.1) k (fs_rn mm k) (by omega) (by omega)) rfl rfl mw_250 mw_248 mw_249 mw_4 (by decide +kernel) ⟨Nat.le_of_ble_eq_true rfl, Nat.le_of_ble_eq_true rfl⟩ rfl hl.1 rfl (Nat.le_of_ble_eq_true rfl) dX0_reorder_26 ⟨Nat.le_of_ble_eq_true rfl, Nat.le_of_ble_eq_true rfl⟩) (fun u_7 H locs hr_8 hH => ?_)
          have hH : fs_H X A s [(h0, .inr (0, [.ref qr, .ref qi, .int S.2.2])), (qr, fs_ai X 32 (upd (upd (fs_pk mm k S.1) k ((fs_pk mm k S.1) (fs_rn mm k))) (fs_rn mm k) ((fs_pk mm k S.1) k))), (qi, fs_ai X 32 (fs_pk mm k S.2.1))] _ _ := hH.sub [0, 2, 1] (by decide) rfl
          refine lv_aload_n hx hb dX0_reorder_29 rfl (lv_at hl 1 rfl) ?_
          refine fs_get C in_0 hH 0 rfl rfl 1 (by decide) mw_51 (v := .ref qi) rfl dX0_reorder_30 ?_
          refine lv_iload_n hx hb dX0_reorder_33 rfl (lv_at hl 3 rfl) ?_
          refine lv_iload_n hx hb dX0_reorder_34 rfl (lv_at hl 0 rfl) ?_
          refine fs_cv C hH (wr := [(h0, .inr (0, [.ref qr, .ref qi, .int S.2.2])), (qr, fs_ai X 32 (upd (upd (fs_pk mm k S.1) k ((fs_pk mm k S.1) (fs_rn mm k))) (fs_rn mm k) ((fs_pk mm k S.1) k)))]) [2] [0, 1] rfl rfl (by decide) (by decide) (fs_rS (rest := []) (As := [.ref qi, .int (nI k), .int (nI (fs_rn mm k))]) (n := 3) C hH (wc := [(qi, fs_ai X 32 (fs_pk mm k S.2.1))]) [2] (by decide) rfl (c_X0_swap l X _ qi (fs_pk mm k S.2.1) k (fs_rn mm k) (by omega) (by omega)) rfl rfl mw_250 mw_248 mw_249 mw_4 (by decide +kernel) ⟨Nat.le_of_ble_eq_true rfl, Nat.le_of_ble_eq_true rfl⟩ rfl hl.1 rfl (Nat.le_of_ble_eq_true rfl) dX0_reorder_35 ⟨Nat.le_of_ble_eq_true rfl, Nat.le_of_ble_eq_true rfl⟩) (fun u_10 H locs hr_11 hH => ?_)
          have hH : fs_H X A s [(h0, .inr (0, [.ref qr, .ref qi, .int S.2.2])), (qr, fs_ai X 32 (upd (upd (fs_pk mm k S.1) k ((fs_pk mm k S.1) (fs_rn mm k))) (fs_rn mm k) ((fs_pk mm k S.1) k))), (qi, fs_ai X 32 (upd (upd (fs_pk mm k S.2.1) k ((fs_pk mm k S.2.1) (fs_rn mm k))) (fs_rn mm k) ((fs_pk mm k S.2.1) k)))] _ _ := hH
          have hH : fs_H X A s [(h0, .inr (0, [.ref qr, .ref qi, .int S.2.2])), (qr, fs_ai X 32 (fs_pk mm (k + 1) S.1)), (qi, fs_ai X 32 (fs_pk mm (k + 1) S.2.1))] _ _ := hH.to (by rw [fs_pk_s hmm hlt hq S.1, fs_pk_s hmm hlt hq S.2.1])
          refine lv_iinc (v := (nI (k + 1))) (lv' := [(2, .int (nI (k + 1))), (3, .int (nI (fs_rn mm k))), (0, .ref h0), (1, .int (nI mm))]) hx hb dX0_reorder_38 hl (k := 3) rfl (nI_1 k) (by decide) rfl (fun ls hl => ?_)
          refine lv_goto (tgt := 2) hx hb dX0_reorder_41 (by decide) ?_
          exact ih_2 (k + 1) (by omega) (by omega) _ _ hH ls (lv_sub hl [2, 3, 0] rfl)
  have hH : fs_H X A s [(h0, .inr (0, [.ref qr, .ref qi, .int S.2.2])), (qr, fs_ai X 32 S.1), (qi, fs_ai X 32 S.2.1)] s.heap [] := hH
  refine lv_iconst (v := 0) hx hb dX0_reorder_0 (by decide) ?_
  have hH : fs_H X A s [(h0, .inr (0, [.ref qr, .ref qi, .int S.2.2])), (qr, fs_ai X 32 (fs_pk mm 0 S.1)), (qi, fs_ai X 32 (fs_pk mm 0 S.2.1))] _ _ := hH.to (by rw [fs_pk_0, fs_pk_0])
  refine lv_istore_n (lv' := [(2, .int 0), (0, .ref h0), (1, .int (nI mm))]) hx hb dX0_reorder_1 rfl hl (by decide) rfl (fun ls hl => ?_)
  exact K_2 (2 ^ mm + 1) 0 (by omega) (by omega) _ _ hH ls (lv_sub hl [1, 2, 0] rfl)
set_option maxHeartbeats 4000000 in
set_option maxRecDepth 100000 in
theorem c_X0_isTooBig (l : Launch) (X : fs_X) (sz : Nat) (h0 : Nat) (qr : Nat) (qi : Nat) (S : fs_K) (cn : Nat) (hcn : cn ≤ 32) : fs_M l X yX0_isTooBig cX0_isTooBig 3 (some .boolean) ({ frames := 1, cells := 0, slots := 0, locals := 21 }) [.ref h0, .int (nI cn)] [(h0, .inr (0, [.ref qr, .ref qi, .int S.2.2])), (qr, fs_ai X 32 S.1), (qi, fs_ai X 32 S.2.1)] sz (fs_Qi X (fun r (_ : Unit) => r = fs_bi (fs_tb S.1 S.2.1 cn = true)) (fun _ => [(h0, .inr (0, [.ref qr, .ref qi, .int S.2.2])), (qr, fs_ai X 32 S.1), (qi, fs_ai X 32 S.2.1)])) 0 0 := by
  refine fs_ofW (by decide) (Nat.le_of_ble_eq_true rfl) ?_
  intro p e s m args below meth c A ls C hH hl
  have C : fs_At X A p s m args meth c cX0_isTooBig 3 (some .boolean) RX0 "isTooBig" := C
  have hx := C.1
  have hb := C.2.1
  have hown := C.2.2.2.2.1
  have hts := C.2.2.2.2.2.1
  have hl : lv_has ls 3 [(0, .ref h0), (1, .int (nI cn))] := hl
  have K_2 : ∀ (n : Nat) (k : Nat), (k ≤ cn) → (fs_tb S.1 S.2.1 k = false) → (cn < k + n) → ∀ (H : Heap) (locs : List Loc), fs_H X A s [(h0, .inr (0, [.ref qr, .ref qi, .int S.2.2])), (qr, fs_ai X 32 S.1), (qi, fs_ai X 32 S.2.1)] H locs → ∀ (ls : Array Slot), lv_has ls 3 [(0, .ref h0), (1, .int (nI cn)), (2, .int (nI k))] → W p l e ({ frames := 1, cells := 0, slots := 0, locals := 21 }) s m args below meth c H locs 0 0 (MQ below (fs_Qi X (fun r (_ : Unit) => r = fs_bi (fs_tb S.1 S.2.1 cn = true)) (fun _ => [(h0, .inr (0, [.ref qr, .ref qi, .int S.2.2])), (qr, fs_ai X 32 S.1), (qi, fs_ai X 32 S.2.1)]) A) args s 0 0 A) (F0 m 2 ls []) := by
    intro n
    induction n with
    | zero => intro k hk hno hfu; exact absurd hfu (by omega)
    | succ n ih_2 =>
      intro k hk hno hfu H locs hH ls hl
      refine lv_iload_n hx hb dX0_isTooBig_2 rfl (lv_at hl 2 rfl) ?_
      refine lv_iload_n hx hb dX0_isTooBig_3 rfl (lv_at hl 1 rfl) ?_
      refine lv_icmp_ge (tgt := 49) hx hb dX0_isTooBig_4 (by decide) (fun c_1 => ?_) (fun c_1 => ?_)
      · have hge := fs_geT (a := k) (b := cn) (by omega) (by omega) c_1
        refine lv_iconst (v := 0) hx hb dX0_isTooBig_49 (by decide) ?_
        exact fs_zret C hH rfl () rfl ((fs_bi_f (by rw [← (show k = cn from by omega), hno]; decide)).symm) dX0_isTooBig_50
      · have hlt := fs_geF (a := k) (b := cn) (by omega) (by omega) c_1
        refine lv_aload_n hx hb dX0_isTooBig_7 rfl (lv_at hl 0 rfl) ?_
        refine fs_get C in_0 hH 0 rfl rfl 0 (by decide) mw_50 (v := .ref qr) rfl dX0_isTooBig_8 ?_
        refine lv_iload_n hx hb dX0_isTooBig_11 rfl (lv_at hl 2 rfl) ?_
        refine fs_iald C hH 1 rfl (k := k) rfl (by omega) (by decide) dX0_isTooBig_12 ?_
        refine lv_i2l hx hb dX0_isTooBig_13 rfl ?_
        refine fs_cl C hH (wr := [(h0, .inr (0, [.ref qr, .ref qi, .int S.2.2])), (qr, fs_ai X 32 S.1), (qi, fs_ai X 32 S.2.1)]) [] [0, 1, 2] rfl rfl (by decide) (by decide) (fs_rSN (rest := []) (As := [.long (Int32.toInt64 (S.1 k))]) (n := 1) C hH (wc := []) [] (by decide) rfl (c_X4_sizeOf l X _ (Int32.toInt64 (S.1 k)) ) rfl rfl mw_108 (List.mem_of_getElem? (i := 15) rfl) mw_107 mw_1 (by decide +kernel) ⟨Nat.le_of_ble_eq_true rfl, Nat.le_of_ble_eq_true rfl⟩ rfl hl.1 rfl (Nat.le_of_ble_eq_true rfl) dX0_isTooBig_14 ⟨Nat.le_of_ble_eq_true rfl, Nat.le_of_ble_eq_true rfl⟩) (fun r_2 u_3 H locs hr_4 hH => ?_)
        subst hr_4
        have hH : fs_H X A s [(h0, .inr (0, [.ref qr, .ref qi, .int S.2.2])), (qr, fs_ai X 32 S.1), (qi, fs_ai X 32 S.2.1)] _ _ := hH
        refine lv_ldc2 (v := 536870912) hx hb hown (hts _ mw_257) dX0_isTooBig_17 ?_
        refine fs_lge (tgt := 41) hx hb dX0_isTooBig_20 dX0_isTooBig_21 (by decide) (fun c_5 => ?_) (fun c_5 => ?_)
        · refine lv_iconst (v := 1) hx hb dX0_isTooBig_41 (by decide) ?_
          exact fs_zret C hH rfl () rfl ((fs_bi_t (fs_tb_of (Or.inl c_5) cn hlt)).symm) dX0_isTooBig_42
        · refine lv_aload_n hx hb dX0_isTooBig_24 rfl (lv_at hl 0 rfl) ?_
          refine fs_get C in_0 hH 0 rfl rfl 1 (by decide) mw_51 (v := .ref qi) rfl dX0_isTooBig_25 ?_
          refine lv_iload_n hx hb dX0_isTooBig_28 rfl (lv_at hl 2 rfl) ?_
          refine fs_iald C hH 2 rfl (k := k) rfl (by omega) (by decide) dX0_isTooBig_29 ?_
          refine lv_i2l hx hb dX0_isTooBig_30 rfl ?_
          refine fs_cl C hH (wr := [(h0, .inr (0, [.ref qr, .ref qi, .int S.2.2])), (qr, fs_ai X 32 S.1), (qi, fs_ai X 32 S.2.1)]) [] [0, 1, 2] rfl rfl (by decide) (by decide) (fs_rSN (rest := []) (As := [.long (Int32.toInt64 (S.2.1 k))]) (n := 1) C hH (wc := []) [] (by decide) rfl (c_X4_sizeOf l X _ (Int32.toInt64 (S.2.1 k)) ) rfl rfl mw_108 (List.mem_of_getElem? (i := 15) rfl) mw_107 mw_1 (by decide +kernel) ⟨Nat.le_of_ble_eq_true rfl, Nat.le_of_ble_eq_true rfl⟩ rfl hl.1 rfl (Nat.le_of_ble_eq_true rfl) dX0_isTooBig_31 ⟨Nat.le_of_ble_eq_true rfl, Nat.le_of_ble_eq_true rfl⟩) (fun r_6 u_7 H locs hr_8 hH => ?_)
          subst hr_8
          have hH : fs_H X A s [(h0, .inr (0, [.ref qr, .ref qi, .int S.2.2])), (qr, fs_ai X 32 S.1), (qi, fs_ai X 32 S.2.1)] _ _ := hH
          refine lv_ldc2 (v := 536870912) hx hb hown (hts _ mw_257) dX0_isTooBig_34 ?_
          refine fs_llt (tgt := 43) hx hb dX0_isTooBig_37 dX0_isTooBig_38 (by decide) (fun c_9 => ?_) (fun c_9 => ?_)
          · refine lv_iinc (v := (nI (k + 1))) (lv' := [(2, .int (nI (k + 1))), (0, .ref h0), (1, .int (nI cn))]) hx hb dX0_isTooBig_43 hl (k := 2) rfl (nI_1 k) (by decide) rfl (fun ls hl => ?_)
            refine lv_goto (tgt := 2) hx hb dX0_isTooBig_46 (by decide) ?_
            exact ih_2 (k + 1) (by omega) (by simp [fs_tb, fs_big, hno, c_5, Int64.not_le.mpr c_9]) (by omega) _ _ hH ls (lv_sub hl [1, 2, 0] rfl)
          · refine lv_iconst (v := 1) hx hb dX0_isTooBig_41 (by decide) ?_
            exact fs_zret C hH rfl () rfl ((fs_bi_t (fs_tb_of (Or.inr (Int64.not_lt.mp c_9)) cn hlt)).symm) dX0_isTooBig_42
  have hH : fs_H X A s [(h0, .inr (0, [.ref qr, .ref qi, .int S.2.2])), (qr, fs_ai X 32 S.1), (qi, fs_ai X 32 S.2.1)] s.heap [] := hH
  refine lv_iconst (v := 0) hx hb dX0_isTooBig_0 (by decide) ?_
  refine lv_istore_n (lv' := [(2, .int 0), (0, .ref h0), (1, .int (nI cn))]) hx hb dX0_isTooBig_1 rfl hl (by decide) rfl (fun ls hl => ?_)
  exact K_2 (cn + 1) 0 (by omega) rfl (by omega) _ _ hH ls (lv_sub hl [1, 2, 0] rfl)
set_option maxHeartbeats 4000000 in
set_option maxRecDepth 100000 in
theorem c_X0_makeRoom (l : Launch) (X : fs_X) (sz : Nat) (h0 : Nat) (qr : Nat) (qi : Nat) (S : fs_K) (cn : Nat) (hcn : cn ≤ 32) : fs_M l X yX0_makeRoom cX0_makeRoom 4 none ({ frames := 2, cells := 0, slots := 0, locals := 43 }) [.ref h0, .int (nI cn)] [(h0, .inr (0, [.ref qr, .ref qi, .int S.2.2])), (qr, fs_ai X 32 S.1), (qi, fs_ai X 32 S.2.1)] sz (fs_Qv X (fun (_ : Unit) => True) (fun _ => [(h0, .inr (0, [.ref qr, .ref qi, .int ((fs_low cn (fs_low cn S)).2.2)])), (qr, fs_ai X 32 ((fs_low cn (fs_low cn S)).1)), (qi, fs_ai X 32 ((fs_low cn (fs_low cn S)).2.1))])) 0 0 := by
  refine fs_ofW (by decide) (Nat.le_of_ble_eq_true rfl) ?_
  intro p e s m args below meth c A ls C hH hl
  have C : fs_At X A p s m args meth c cX0_makeRoom 4 none RX0 "makeRoom" := C
  have hx := C.1
  have hb := C.2.1
  have hown := C.2.2.2.2.1
  have hts := C.2.2.2.2.2.1
  have hl : lv_has ls 4 [(0, .ref h0), (1, .int (nI cn))] := hl
  have K_17 : ∀ (n : Nat) (S1 : fs_K) (ii : Nat) (k : Nat), (k ≤ cn) → (ii < 2) → (fs_mr cn (1 - ii) (fs_lo S1.1 cn, fs_lo S1.2.1 cn, S1.2.2 + 1) = fs_low cn (fs_low cn S)) → ((2 - ii) * 40 + (cn - k) < n) → ∀ (H : Heap) (locs : List Loc), fs_H X A s [(h0, .inr (0, [.ref qr, .ref qi, .int S1.2.2])), (qr, fs_ai X 32 (fs_lo S1.1 k)), (qi, fs_ai X 32 (fs_lo S1.2.1 k))] H locs → ∀ (ls : Array Slot), lv_has ls 4 [(0, .ref h0), (1, .int (nI cn)), (2, .int (nI ii)), (3, .int (nI k))] → W p l e ({ frames := 2, cells := 0, slots := 0, locals := 43 }) s m args below meth c H locs 0 0 (MQ below (fs_Qv X (fun (_ : Unit) => True) (fun _ => [(h0, .inr (0, [.ref qr, .ref qi, .int ((fs_low cn (fs_low cn S)).2.2)])), (qr, fs_ai X 32 ((fs_low cn (fs_low cn S)).1)), (qi, fs_ai X 32 ((fs_low cn (fs_low cn S)).2.1))]) A) args s 0 0 A) (F0 m 17 ls []) := by
    intro n
    induction n with
    | zero => intro S1 ii k hk hii hq hfu; exact absurd hfu (by omega)
    | succ n ih_17 =>
      intro S1 ii k hk hii hq hfu H locs hH ls hl
      refine lv_iload_n hx hb dX0_makeRoom_17 rfl (lv_at hl 3 rfl) ?_
      refine lv_iload_n hx hb dX0_makeRoom_18 rfl (lv_at hl 1 rfl) ?_
      refine lv_icmp_ge (tgt := 64) hx hb dX0_makeRoom_19 (by decide) (fun c_1 => ?_) (fun c_1 => ?_)
      · have hge := fs_geT (a := k) (b := cn) (by omega) (by omega) c_1
        have hkn : k = cn := by omega
        have hH : fs_H X A s [(h0, .inr (0, [.ref qr, .ref qi, .int S1.2.2])), (qr, fs_ai X 32 (fs_lo S1.1 cn)), (qi, fs_ai X 32 (fs_lo S1.2.1 cn))] _ _ := hH.to (by rw [hkn])
        refine lv_aload_n hx hb dX0_makeRoom_64 rfl (lv_at hl 0 rfl) ?_
        refine lv_dup hx hb dX0_makeRoom_65 rfl ?_
        refine fs_get C in_0 hH 0 rfl rfl 2 (by decide) mw_52 (v := .int S1.2.2) rfl dX0_makeRoom_66 ?_
        refine lv_iconst (v := 1) hx hb dX0_makeRoom_69 (by decide) ?_
        refine lv_iadd hx hb dX0_makeRoom_70 ?_
        refine fs_put C in_0 tyX0 tyX0_ok nmX0 hH 0 rfl rfl 2 (by decide) mw_52 rfl rfl rfl (Nat.le_of_ble_eq_true rfl) (ws' := [(h0, .inr (0, [.ref qr, .ref qi, .int (S1.2.2 + 1)])), (qr, fs_ai X 32 (fs_lo S1.1 cn)), (qi, fs_ai X 32 (fs_lo S1.2.1 cn))]) rfl dX0_makeRoom_71 (fun H locs hH => ?_)
        refine lv_iinc (v := (nI (ii + 1))) (lv' := [(2, .int (nI (ii + 1))), (0, .ref h0), (1, .int (nI cn)), (3, .int (nI k))]) hx hb dX0_makeRoom_74 hl (k := 2) rfl (nI_1 ii) (by decide) rfl (fun ls hl => ?_)
        refine lv_goto (tgt := 2) hx hb dX0_makeRoom_77 (by decide) ?_
        refine lv_iload_n hx hb dX0_makeRoom_2 rfl (lv_at hl 0 rfl) ?_
        refine lv_iconst (v := 2) hx hb dX0_makeRoom_3 (by decide) ?_
        refine lv_icmp_ge (tgt := 80) hx hb dX0_makeRoom_4 (by decide) (fun c_2 => ?_) (fun c_2 => ?_)
        · have h2 := fs_geT (a := ii + 1) (b := 2) (by omega) (by omega) c_2
          obtain rfl : ii = 1 := by omega
          have hH : fs_H X A s [(h0, .inr (0, [.ref qr, .ref qi, .int ((fs_low cn (fs_low cn S)).2.2)])), (qr, fs_ai X 32 ((fs_low cn (fs_low cn S)).1)), (qi, fs_ai X 32 ((fs_low cn (fs_low cn S)).2.1))] _ _ := hH.to (by rw [← hq, fs_mr])
          exact fs_vret C hH () rfl trivial dX0_makeRoom_80
        · have h2 := fs_geF (a := ii + 1) (b := 2) (by omega) (by omega) c_2
          obtain rfl : ii = 0 := by omega
          refine lv_aload_n hx hb dX0_makeRoom_7 rfl (lv_at hl 1 rfl) ?_
          refine lv_iload_n hx hb dX0_makeRoom_8 rfl (lv_at hl 2 rfl) ?_
          refine fs_ci C hH (wr := []) [0, 1, 2] [] rfl rfl (by decide) (by decide) (fs_rV (rest := []) (As := [.int (nI cn)]) (n := 1) (q0 := 0) (ci := 0) C hH (wc := [(h0, .inr (0, [.ref qr, .ref qi, .int (S1.2.2 + 1)])), (qr, fs_ai X 32 (fs_lo S1.1 cn)), (qi, fs_ai X 32 (fs_lo S1.2.1 cn))]) [0, 1, 2] (by decide) rfl (c_X0_isTooBig l X _ h0 qr qi (fs_lo S1.1 cn, fs_lo S1.2.1 cn, S1.2.2 + 1) cn (by omega)) rfl rfl rfl rfl mw_256 mw_254 mw_255 mw_490 mw_4 (by decide +kernel) ⟨Nat.le_of_ble_eq_true rfl, Nat.le_of_ble_eq_true rfl⟩ rfl hl.1 rfl (Nat.le_of_ble_eq_true rfl) dX0_makeRoom_9 ⟨Nat.le_of_ble_eq_true rfl, Nat.le_of_ble_eq_true rfl⟩) (fun r_3 u_4 H locs hr_5 hH => ?_)
          subst hr_5
          have hH : fs_H X A s [(h0, .inr (0, [.ref qr, .ref qi, .int (S1.2.2 + 1)])), (qr, fs_ai X 32 (fs_lo S1.1 cn)), (qi, fs_ai X 32 (fs_lo S1.2.1 cn))] _ _ := hH
          refine lv_if_eq (tgt := 80) hx hb dX0_makeRoom_12 (by decide) (fun c_6 => ?_) (fun c_6 => ?_)
          · have hbg := fs_bi_0.mp c_6
            have hH : fs_H X A s [(h0, .inr (0, [.ref qr, .ref qi, .int ((fs_low cn (fs_low cn S)).2.2)])), (qr, fs_ai X 32 ((fs_low cn (fs_low cn S)).1)), (qi, fs_ai X 32 ((fs_low cn (fs_low cn S)).2.1))] _ _ := hH.to (by rw [← hq, fs_mr, fs_mr, fs_low_f hbg])
            exact fs_vret C hH () rfl trivial dX0_makeRoom_80
          · have hbg := fs_bi_nz.mp c_6
            refine lv_iconst (v := 0) hx hb dX0_makeRoom_15 (by decide) ?_
            have hH : fs_H X A s [(h0, .inr (0, [.ref qr, .ref qi, .int (S1.2.2 + 1)])), (qr, fs_ai X 32 (fs_lo (fs_lo S1.1 cn) 0)), (qi, fs_ai X 32 (fs_lo (fs_lo S1.2.1 cn) 0))] _ _ := hH.to (by rw [fs_lo_0, fs_lo_0])
            refine lv_istore_n (lv' := [(3, .int 0), (2, .int (nI (0 + 1))), (0, .ref h0), (1, .int (nI cn))]) hx hb dX0_makeRoom_16 rfl hl (by decide) rfl (fun ls hl => ?_)
            exact ih_17 (fs_lo S1.1 cn, fs_lo S1.2.1 cn, S1.2.2 + 1) 1 0 (by omega) (by omega) (by rw [← hq, fs_mr, fs_mr, fs_mr, fs_low_t hbg]) (by omega) _ _ hH ls (lv_sub hl [2, 3, 1, 0] rfl)
      · have hlt := fs_geF (a := k) (b := cn) (by omega) (by omega) c_1
        refine lv_aload_n hx hb dX0_makeRoom_22 rfl (lv_at hl 0 rfl) ?_
        refine fs_get C in_0 hH 0 rfl rfl 0 (by decide) mw_50 (v := .ref qr) rfl dX0_makeRoom_23 ?_
        refine lv_iload_n hx hb dX0_makeRoom_26 rfl (lv_at hl 3 rfl) ?_
        refine lv_aload_n hx hb dX0_makeRoom_27 rfl (lv_at hl 0 rfl) ?_
        refine fs_get C in_0 hH 0 rfl rfl 0 (by decide) mw_50 (v := .ref qr) rfl dX0_makeRoom_28 ?_
        refine lv_iload_n hx hb dX0_makeRoom_31 rfl (lv_at hl 3 rfl) ?_
        refine fs_iald C hH 1 rfl (k := k) rfl (by omega) (by decide) dX0_makeRoom_32 ?_
        refine fs_topi (y := (S1.1 k)) (fs_lo_k S1.1 k) ?_
        refine lv_i2l hx hb dX0_makeRoom_33 rfl ?_
        refine lv_iconst (v := 1) hx hb dX0_makeRoom_34 (by decide) ?_
        refine fs_cl C hH (wr := [(h0, .inr (0, [.ref qr, .ref qi, .int S1.2.2])), (qr, fs_ai X 32 (fs_lo S1.1 k)), (qi, fs_ai X 32 (fs_lo S1.2.1 k))]) [] [0, 1, 2] rfl rfl (by decide) (by decide) (fs_rSN (rest := [.int (nI k), .ref qr]) (As := [.long (Int32.toInt64 (S1.1 k)), .int 1]) (n := 2) C hH (wc := []) [] (by decide) rfl (c_X4_rounded l X _ (Int32.toInt64 (S1.1 k)) 1 ) rfl rfl mw_81 (List.mem_of_getElem? (i := 16) rfl) mw_80 mw_1 (by decide +kernel) ⟨Nat.le_of_ble_eq_true rfl, Nat.le_of_ble_eq_true rfl⟩ rfl hl.1 rfl (Nat.le_of_ble_eq_true rfl) dX0_makeRoom_35 ⟨Nat.le_of_ble_eq_true rfl, Nat.le_of_ble_eq_true rfl⟩) (fun r_7 u_8 H locs hr_9 hH => ?_)
        subst hr_9
        have hH : fs_H X A s [(h0, .inr (0, [.ref qr, .ref qi, .int S1.2.2])), (qr, fs_ai X 32 (fs_lo S1.1 k)), (qi, fs_ai X 32 (fs_lo S1.2.1 k))] _ _ := hH
        refine lv_l2i hx hb dX0_makeRoom_38 rfl ?_
        refine fs_iast C hH 1 rfl (k := k) rfl (by omega) (by decide) (ws' := [(h0, .inr (0, [.ref qr, .ref qi, .int S1.2.2])), (qr, fs_ai X 32 (upd (fs_lo S1.1 k) k (Int64.toInt32 (fs_rd (Int32.toInt64 (S1.1 k)) 1)))), (qi, fs_ai X 32 (fs_lo S1.2.1 k))]) rfl dX0_makeRoom_39 (fun H locs hH => ?_)
        have hH : fs_H X A s [(h0, .inr (0, [.ref qr, .ref qi, .int S1.2.2])), (qr, fs_ai X 32 (fs_lo S1.1 (k + 1))), (qi, fs_ai X 32 (fs_lo S1.2.1 k))] _ _ := hH.to (by rw [fs_lo_s])
        refine lv_aload_n hx hb dX0_makeRoom_40 rfl (lv_at hl 0 rfl) ?_
        refine fs_get C in_0 hH 0 rfl rfl 1 (by decide) mw_51 (v := .ref qi) rfl dX0_makeRoom_41 ?_
        refine lv_iload_n hx hb dX0_makeRoom_44 rfl (lv_at hl 3 rfl) ?_
        refine lv_aload_n hx hb dX0_makeRoom_45 rfl (lv_at hl 0 rfl) ?_
        refine fs_get C in_0 hH 0 rfl rfl 1 (by decide) mw_51 (v := .ref qi) rfl dX0_makeRoom_46 ?_
        refine lv_iload_n hx hb dX0_makeRoom_49 rfl (lv_at hl 3 rfl) ?_
        refine fs_iald C hH 2 rfl (k := k) rfl (by omega) (by decide) dX0_makeRoom_50 ?_
        refine fs_topi (y := (S1.2.1 k)) (fs_lo_k S1.2.1 k) ?_
        refine lv_i2l hx hb dX0_makeRoom_51 rfl ?_
        refine lv_iconst (v := 1) hx hb dX0_makeRoom_52 (by decide) ?_
        refine fs_cl C hH (wr := [(h0, .inr (0, [.ref qr, .ref qi, .int S1.2.2])), (qr, fs_ai X 32 (fs_lo S1.1 (k + 1))), (qi, fs_ai X 32 (fs_lo S1.2.1 k))]) [] [0, 1, 2] rfl rfl (by decide) (by decide) (fs_rSN (rest := [.int (nI k), .ref qi]) (As := [.long (Int32.toInt64 (S1.2.1 k)), .int 1]) (n := 2) C hH (wc := []) [] (by decide) rfl (c_X4_rounded l X _ (Int32.toInt64 (S1.2.1 k)) 1 ) rfl rfl mw_81 (List.mem_of_getElem? (i := 16) rfl) mw_80 mw_1 (by decide +kernel) ⟨Nat.le_of_ble_eq_true rfl, Nat.le_of_ble_eq_true rfl⟩ rfl hl.1 rfl (Nat.le_of_ble_eq_true rfl) dX0_makeRoom_53 ⟨Nat.le_of_ble_eq_true rfl, Nat.le_of_ble_eq_true rfl⟩) (fun r_10 u_11 H locs hr_12 hH => ?_)
        subst hr_12
        have hH : fs_H X A s [(h0, .inr (0, [.ref qr, .ref qi, .int S1.2.2])), (qr, fs_ai X 32 (fs_lo S1.1 (k + 1))), (qi, fs_ai X 32 (fs_lo S1.2.1 k))] _ _ := hH
        refine lv_l2i hx hb dX0_makeRoom_56 rfl ?_
        refine fs_iast C hH 2 rfl (k := k) rfl (by omega) (by decide) (ws' := [(h0, .inr (0, [.ref qr, .ref qi, .int S1.2.2])), (qr, fs_ai X 32 (fs_lo S1.1 (k + 1))), (qi, fs_ai X 32 (upd (fs_lo S1.2.1 k) k (Int64.toInt32 (fs_rd (Int32.toInt64 (S1.2.1 k)) 1))))]) rfl dX0_makeRoom_57 (fun H locs hH => ?_)
        have hH : fs_H X A s [(h0, .inr (0, [.ref qr, .ref qi, .int S1.2.2])), (qr, fs_ai X 32 (fs_lo S1.1 (k + 1))), (qi, fs_ai X 32 (fs_lo S1.2.1 (k + 1)))] _ _ := hH.to (by rw [fs_lo_s])
        refine lv_iinc (v := (nI (k + 1))) (lv' := [(3, .int (nI (k + 1))), (0, .ref h0), (1, .int (nI cn)), (2, .int (nI ii))]) hx hb dX0_makeRoom_58 hl (k := 3) rfl (nI_1 k) (by decide) rfl (fun ls hl => ?_)
        refine lv_goto (tgt := 17) hx hb dX0_makeRoom_61 (by decide) ?_
        exact ih_17 S1 ii (k + 1) (by omega) (by omega) hq (by omega) _ _ hH ls (lv_sub hl [1, 2, 3, 0] rfl)
  have hH : fs_H X A s [(h0, .inr (0, [.ref qr, .ref qi, .int S.2.2])), (qr, fs_ai X 32 S.1), (qi, fs_ai X 32 S.2.1)] s.heap [] := hH
  refine lv_iconst (v := 0) hx hb dX0_makeRoom_0 (by decide) ?_
  refine lv_istore_n (lv' := [(2, .int 0), (0, .ref h0), (1, .int (nI cn))]) hx hb dX0_makeRoom_1 rfl hl (by decide) rfl (fun ls hl => ?_)
  refine lv_iload_n hx hb dX0_makeRoom_2 rfl (lv_at hl 0 rfl) ?_
  refine lv_iconst (v := 2) hx hb dX0_makeRoom_3 (by decide) ?_
  refine lv_icmp_ge (tgt := 80) hx hb dX0_makeRoom_4 (by decide) (fun c_13 => ?_) (fun c_13 => ?_)
  · exact absurd c_13 (by decide)
  · refine lv_aload_n hx hb dX0_makeRoom_7 rfl (lv_at hl 1 rfl) ?_
    refine lv_iload_n hx hb dX0_makeRoom_8 rfl (lv_at hl 2 rfl) ?_
    refine fs_ci C hH (wr := []) [0, 1, 2] [] rfl rfl (by decide) (by decide) (fs_rV (rest := []) (As := [.int (nI cn)]) (n := 1) (q0 := 0) (ci := 0) C hH (wc := [(h0, .inr (0, [.ref qr, .ref qi, .int S.2.2])), (qr, fs_ai X 32 S.1), (qi, fs_ai X 32 S.2.1)]) [0, 1, 2] (by decide) rfl (c_X0_isTooBig l X _ h0 qr qi S cn (by omega)) rfl rfl rfl rfl mw_256 mw_254 mw_255 mw_490 mw_4 (by decide +kernel) ⟨Nat.le_of_ble_eq_true rfl, Nat.le_of_ble_eq_true rfl⟩ rfl hl.1 rfl (Nat.le_of_ble_eq_true rfl) dX0_makeRoom_9 ⟨Nat.le_of_ble_eq_true rfl, Nat.le_of_ble_eq_true rfl⟩) (fun r_14 u_15 H locs hr_16 hH => ?_)
    subst hr_16
    have hH : fs_H X A s [(h0, .inr (0, [.ref qr, .ref qi, .int S.2.2])), (qr, fs_ai X 32 S.1), (qi, fs_ai X 32 S.2.1)] _ _ := hH
    refine lv_if_eq (tgt := 80) hx hb dX0_makeRoom_12 (by decide) (fun c_17 => ?_) (fun c_17 => ?_)
    · have hbg := fs_bi_0.mp c_17
      have hH : fs_H X A s [(h0, .inr (0, [.ref qr, .ref qi, .int ((fs_low cn (fs_low cn S)).2.2)])), (qr, fs_ai X 32 ((fs_low cn (fs_low cn S)).1)), (qi, fs_ai X 32 ((fs_low cn (fs_low cn S)).2.1))] _ _ := hH.to (by rw [fs_low_f hbg, fs_low_f hbg])
      exact fs_vret C hH () rfl trivial dX0_makeRoom_80
    · have hbg := fs_bi_nz.mp c_17
      refine lv_iconst (v := 0) hx hb dX0_makeRoom_15 (by decide) ?_
      have hH : fs_H X A s [(h0, .inr (0, [.ref qr, .ref qi, .int S.2.2])), (qr, fs_ai X 32 (fs_lo S.1 0)), (qi, fs_ai X 32 (fs_lo S.2.1 0))] _ _ := hH.to (by rw [fs_lo_0, fs_lo_0])
      refine lv_istore_n (lv' := [(3, .int 0), (2, .int 0), (0, .ref h0), (1, .int (nI cn))]) hx hb dX0_makeRoom_16 rfl hl (by decide) rfl (fun ls hl => ?_)
      exact K_17 200 S 0 0 (by omega) (by omega) (by rw [fs_mr, fs_mr, ← fs_low_t hbg]) (by omega) _ _ hH ls (lv_sub hl [2, 3, 1, 0] rfl)
set_option maxHeartbeats 4000000 in
set_option maxRecDepth 100000 in
theorem c_X0_cross (l : Launch) (X : fs_X) (sz : Nat) (h0 : Nat) (qr : Nat) (qi : Nat) (S : fs_K) (k : Nat) (i : Nat) (w : Nat) (back : Int32) (hi : i < 5) (hk : k + 2 ^ i < 32) (hw : (nI k &&& (nI (2 ^ i) - 1)) * 16 / nI (2 ^ i) = nI w) (hw16 : w < 16) : fs_M l X yX0_cross cX0_cross 18 none ({ frames := 2, cells := 0, slots := 0, locals := 38 }) [.ref h0, .int (nI k), .int (nI (2 ^ i)), .int back] [(h0, .inr (0, [.ref qr, .ref qi, .int S.2.2])), (qr, fs_ai X 32 S.1), (qi, fs_ai X 32 S.2.1)] sz (fs_Qv X (fun (_ : Unit) => True) (fun _ => [(h0, .inr (0, [.ref qr, .ref qi, .int S.2.2])), (qr, fs_ai X 32 (fs_xr S.1 S.2.1 k (k + 2 ^ i) w back)), (qi, fs_ai X 32 (fs_xi S.1 S.2.1 k (k + 2 ^ i) w back))])) 0 0 := by
  refine fs_ofW (by decide) (Nat.le_of_ble_eq_true rfl) ?_
  intro p e s m args below meth c A ls C hH hl
  have C : fs_At X A p s m args meth c cX0_cross 18 none RX0 "cross" := C
  have hx := C.1
  have hb := C.2.1
  have hown := C.2.2.2.2.1
  have hts := C.2.2.2.2.2.1
  have hl : lv_has ls 18 [(0, .ref h0), (1, .int (nI k)), (2, .int (nI (2 ^ i))), (3, .int back)] := hl
  have hk0 : k < 32 := Nat.lt_of_le_of_lt (Nat.le_add_right _ _) hk
  have hH : fs_H X A s [(h0, .inr (0, [.ref qr, .ref qi, .int S.2.2])), (qr, fs_ai X 32 S.1), (qi, fs_ai X 32 S.2.1)] s.heap [] := hH
  refine lv_iload_n hx hb dX0_cross_0 rfl (lv_at hl 1 rfl) ?_
  refine lv_iload_n hx hb dX0_cross_1 rfl (lv_at hl 2 rfl) ?_
  refine lv_iadd hx hb dX0_cross_2 ?_
  refine fs_topi (y := (nI (k + 2 ^ i))) (nI_add k (2 ^ i)) ?_
  refine lv_istore (lv' := [(4, .int (nI (k + 2 ^ i))), (0, .ref h0), (1, .int (nI k)), (2, .int (nI (2 ^ i))), (3, .int back)]) hx hb dX0_cross_3 hl (by decide) rfl (fun ls hl => ?_)
  refine lv_iload_n hx hb dX0_cross_5 rfl (lv_at hl 2 rfl) ?_
  refine lv_iload_n hx hb dX0_cross_6 rfl (lv_at hl 3 rfl) ?_
  refine lv_iconst (v := 1) hx hb dX0_cross_7 (by decide) ?_
  refine lv_isub hx hb dX0_cross_8 ?_
  refine lv_iand hx hb dX0_cross_9 ?_
  refine lv_bipush (v := 16) hx hb dX0_cross_10 (by decide) ?_
  refine lv_imul hx hb dX0_cross_12 ?_
  refine lv_iload_n hx hb dX0_cross_13 rfl (lv_at hl 3 rfl) ?_
  refine lv_idiv hx hb dX0_cross_14 (fs_pwn i (by omega)) ?_
  refine fs_topi (y := (nI w)) (hw) ?_
  refine lv_istore (lv' := [(5, .int (nI w)), (4, .int (nI (k + 2 ^ i))), (0, .ref h0), (1, .int (nI k)), (2, .int (nI (2 ^ i))), (3, .int back)]) hx hb dX0_cross_15 hl (by decide) rfl (fun ls hl => ?_)
  refine lv_iload hx hb dX0_cross_17 (lv_at hl 0 rfl) ?_
  refine fs_cl C hH (wr := [(h0, .inr (0, [.ref qr, .ref qi, .int S.2.2])), (qr, fs_ai X 32 S.1), (qi, fs_ai X 32 S.2.1)]) [] [0, 1, 2] rfl rfl (by decide) (by decide) (fs_rS (rest := []) (As := [.int (nI w)]) (n := 1) C hH (wc := []) [] (by decide) rfl (c_X0_cosineOf l X _ w (by omega)) rfl rfl mw_263 mw_261 mw_262 mw_4 (by decide +kernel) ⟨Nat.le_of_ble_eq_true rfl, Nat.le_of_ble_eq_true rfl⟩ rfl hl.1 rfl (Nat.le_of_ble_eq_true rfl) dX0_cross_19 ⟨Nat.le_of_ble_eq_true rfl, Nat.le_of_ble_eq_true rfl⟩) (fun r_1 u_2 H locs hr_3 hH => ?_)
  subst hr_3
  have hH : fs_H X A s [(h0, .inr (0, [.ref qr, .ref qi, .int S.2.2])), (qr, fs_ai X 32 S.1), (qi, fs_ai X 32 S.2.1)] _ _ := hH
  refine lv_lstore (lv' := [(6, .long (fs_cos w)), (5, .int (nI w)), (4, .int (nI (k + 2 ^ i))), (0, .ref h0), (1, .int (nI k)), (2, .int (nI (2 ^ i))), (3, .int back)]) hx hb dX0_cross_22 hl (by decide) rfl (fun ls hl => ?_)
  refine lv_iload_n hx hb dX0_cross_24 rfl (lv_at hl 6 rfl) ?_
  refine lv_if_eq (tgt := 37) hx hb dX0_cross_25 (by decide) (fun c_4 => ?_) (fun c_4 => ?_)
  · refine lv_iload hx hb dX0_cross_37 (lv_at hl 1 rfl) ?_
    refine fs_cl C hH (wr := [(h0, .inr (0, [.ref qr, .ref qi, .int S.2.2])), (qr, fs_ai X 32 S.1), (qi, fs_ai X 32 S.2.1)]) [] [0, 1, 2] rfl rfl (by decide) (by decide) (fs_rS (rest := []) (As := [.int (nI w)]) (n := 1) C hH (wc := []) [] (by decide) rfl (c_X0_sineOf l X _ w (by omega)) rfl rfl mw_267 mw_265 mw_266 mw_4 (by decide +kernel) ⟨Nat.le_of_ble_eq_true rfl, Nat.le_of_ble_eq_true rfl⟩ rfl hl.1 rfl (Nat.le_of_ble_eq_true rfl) dX0_cross_39 ⟨Nat.le_of_ble_eq_true rfl, Nat.le_of_ble_eq_true rfl⟩) (fun r_5 u_6 H locs hr_7 hH => ?_)
    subst hr_7
    have hH : fs_H X A s [(h0, .inr (0, [.ref qr, .ref qi, .int S.2.2])), (qr, fs_ai X 32 S.1), (qi, fs_ai X 32 S.2.1)] _ _ := hH
    refine fs_topl (y := (fs_ss w back)) (by rw [fs_ss, if_pos c_4]) ?_
    refine lv_lstore (lv' := [(8, .long (fs_ss w back)), (6, .long (fs_cos w)), (5, .int (nI w)), (4, .int (nI (k + 2 ^ i))), (0, .ref h0), (1, .int (nI k)), (2, .int (nI (2 ^ i))), (3, .int back)]) hx hb dX0_cross_42 hl (by decide) rfl (fun ls hl => ?_)
    refine lv_aload_n hx hb dX0_cross_44 rfl (lv_at hl 4 rfl) ?_
    refine fs_get C in_0 hH 0 rfl rfl 0 (by decide) mw_50 (v := .ref qr) rfl dX0_cross_45 ?_
    refine lv_iload hx hb dX0_cross_48 (lv_at hl 3 rfl) ?_
    refine fs_iald C hH 1 rfl (k := (k + 2 ^ i)) rfl (by omega) (by decide) dX0_cross_50 ?_
    refine lv_i2l hx hb dX0_cross_51 rfl ?_
    refine lv_lload hx hb dX0_cross_52 (lv_at hl 1 rfl) ?_
    refine lv_lmul hx hb dX0_cross_54 ?_
    refine lv_aload_n hx hb dX0_cross_55 rfl (lv_at hl 4 rfl) ?_
    refine fs_get C in_0 hH 0 rfl rfl 1 (by decide) mw_51 (v := .ref qi) rfl dX0_cross_56 ?_
    refine lv_iload hx hb dX0_cross_59 (lv_at hl 3 rfl) ?_
    refine fs_iald C hH 2 rfl (k := (k + 2 ^ i)) rfl (by omega) (by decide) dX0_cross_61 ?_
    refine lv_i2l hx hb dX0_cross_62 rfl ?_
    refine lv_lload hx hb dX0_cross_63 (lv_at hl 0 rfl) ?_
    refine lv_lmul hx hb dX0_cross_65 ?_
    refine lv_ladd hx hb dX0_cross_66 ?_
    refine lv_bipush (v := 31) hx hb dX0_cross_67 (by decide) ?_
    refine fs_cl C hH (wr := [(h0, .inr (0, [.ref qr, .ref qi, .int S.2.2])), (qr, fs_ai X 32 S.1), (qi, fs_ai X 32 S.2.1)]) [] [0, 1, 2] rfl rfl (by decide) (by decide) (fs_rSN (rest := []) (As := [.long (((Int32.toInt64 (S.1 (k + 2 ^ i))) * (fs_cos w)) + ((Int32.toInt64 (S.2.1 (k + 2 ^ i))) * (fs_ss w back))), .int 31]) (n := 2) C hH (wc := []) [] (by decide) rfl (c_X4_rounded l X _ (((Int32.toInt64 (S.1 (k + 2 ^ i))) * (fs_cos w)) + ((Int32.toInt64 (S.2.1 (k + 2 ^ i))) * (fs_ss w back))) 31 ) rfl rfl mw_81 (List.mem_of_getElem? (i := 16) rfl) mw_80 mw_1 (by decide +kernel) ⟨Nat.le_of_ble_eq_true rfl, Nat.le_of_ble_eq_true rfl⟩ rfl hl.1 rfl (Nat.le_of_ble_eq_true rfl) dX0_cross_69 ⟨Nat.le_of_ble_eq_true rfl, Nat.le_of_ble_eq_true rfl⟩) (fun r_8 u_9 H locs hr_10 hH => ?_)
    subst hr_10
    have hH : fs_H X A s [(h0, .inr (0, [.ref qr, .ref qi, .int S.2.2])), (qr, fs_ai X 32 S.1), (qi, fs_ai X 32 S.2.1)] _ _ := hH
    refine fs_topl (y := (fs_u S.1 S.2.1 (k + 2 ^ i) w back)) (rfl) ?_
    refine lv_lstore (lv' := [(10, .long (fs_u S.1 S.2.1 (k + 2 ^ i) w back)), (8, .long (fs_ss w back)), (6, .long (fs_cos w)), (5, .int (nI w)), (4, .int (nI (k + 2 ^ i))), (0, .ref h0), (1, .int (nI k)), (2, .int (nI (2 ^ i))), (3, .int back)]) hx hb dX0_cross_72 hl (by decide) rfl (fun ls hl => ?_)
    refine lv_aload_n hx hb dX0_cross_74 rfl (lv_at hl 5 rfl) ?_
    refine fs_get C in_0 hH 0 rfl rfl 1 (by decide) mw_51 (v := .ref qi) rfl dX0_cross_75 ?_
    refine lv_iload hx hb dX0_cross_78 (lv_at hl 4 rfl) ?_
    refine fs_iald C hH 2 rfl (k := (k + 2 ^ i)) rfl (by omega) (by decide) dX0_cross_80 ?_
    refine lv_i2l hx hb dX0_cross_81 rfl ?_
    refine lv_lload hx hb dX0_cross_82 (lv_at hl 2 rfl) ?_
    refine lv_lmul hx hb dX0_cross_84 ?_
    refine lv_aload_n hx hb dX0_cross_85 rfl (lv_at hl 5 rfl) ?_
    refine fs_get C in_0 hH 0 rfl rfl 0 (by decide) mw_50 (v := .ref qr) rfl dX0_cross_86 ?_
    refine lv_iload hx hb dX0_cross_89 (lv_at hl 4 rfl) ?_
    refine fs_iald C hH 1 rfl (k := (k + 2 ^ i)) rfl (by omega) (by decide) dX0_cross_91 ?_
    refine lv_i2l hx hb dX0_cross_92 rfl ?_
    refine lv_lload hx hb dX0_cross_93 (lv_at hl 1 rfl) ?_
    refine lv_lmul hx hb dX0_cross_95 ?_
    refine lv_lsub hx hb dX0_cross_96 ?_
    refine lv_bipush (v := 31) hx hb dX0_cross_97 (by decide) ?_
    refine fs_cl C hH (wr := [(h0, .inr (0, [.ref qr, .ref qi, .int S.2.2])), (qr, fs_ai X 32 S.1), (qi, fs_ai X 32 S.2.1)]) [] [0, 1, 2] rfl rfl (by decide) (by decide) (fs_rSN (rest := []) (As := [.long (((Int32.toInt64 (S.2.1 (k + 2 ^ i))) * (fs_cos w)) - ((Int32.toInt64 (S.1 (k + 2 ^ i))) * (fs_ss w back))), .int 31]) (n := 2) C hH (wc := []) [] (by decide) rfl (c_X4_rounded l X _ (((Int32.toInt64 (S.2.1 (k + 2 ^ i))) * (fs_cos w)) - ((Int32.toInt64 (S.1 (k + 2 ^ i))) * (fs_ss w back))) 31 ) rfl rfl mw_81 (List.mem_of_getElem? (i := 16) rfl) mw_80 mw_1 (by decide +kernel) ⟨Nat.le_of_ble_eq_true rfl, Nat.le_of_ble_eq_true rfl⟩ rfl hl.1 rfl (Nat.le_of_ble_eq_true rfl) dX0_cross_99 ⟨Nat.le_of_ble_eq_true rfl, Nat.le_of_ble_eq_true rfl⟩) (fun r_11 u_12 H locs hr_13 hH => ?_)
    subst hr_13
    have hH : fs_H X A s [(h0, .inr (0, [.ref qr, .ref qi, .int S.2.2])), (qr, fs_ai X 32 S.1), (qi, fs_ai X 32 S.2.1)] _ _ := hH
    refine fs_topl (y := (fs_v S.1 S.2.1 (k + 2 ^ i) w back)) (rfl) ?_
    refine lv_lstore (lv' := [(12, .long (fs_v S.1 S.2.1 (k + 2 ^ i) w back)), (10, .long (fs_u S.1 S.2.1 (k + 2 ^ i) w back)), (8, .long (fs_ss w back)), (6, .long (fs_cos w)), (5, .int (nI w)), (4, .int (nI (k + 2 ^ i))), (0, .ref h0), (1, .int (nI k)), (2, .int (nI (2 ^ i))), (3, .int back)]) hx hb dX0_cross_102 hl (by decide) rfl (fun ls hl => ?_)
    refine lv_aload_n hx hb dX0_cross_104 rfl (lv_at hl 6 rfl) ?_
    refine fs_get C in_0 hH 0 rfl rfl 0 (by decide) mw_50 (v := .ref qr) rfl dX0_cross_105 ?_
    refine lv_iload_n hx hb dX0_cross_108 rfl (lv_at hl 7 rfl) ?_
    refine fs_iald C hH 1 rfl (k := k) rfl (by omega) (by decide) dX0_cross_109 ?_
    refine lv_i2l hx hb dX0_cross_110 rfl ?_
    refine lv_lstore (lv' := [(14, .long (Int32.toInt64 (S.1 k))), (12, .long (fs_v S.1 S.2.1 (k + 2 ^ i) w back)), (10, .long (fs_u S.1 S.2.1 (k + 2 ^ i) w back)), (8, .long (fs_ss w back)), (6, .long (fs_cos w)), (5, .int (nI w)), (4, .int (nI (k + 2 ^ i))), (0, .ref h0), (1, .int (nI k)), (2, .int (nI (2 ^ i))), (3, .int back)]) hx hb dX0_cross_111 hl (by decide) rfl (fun ls hl => ?_)
    refine lv_aload_n hx hb dX0_cross_113 rfl (lv_at hl 7 rfl) ?_
    refine fs_get C in_0 hH 0 rfl rfl 1 (by decide) mw_51 (v := .ref qi) rfl dX0_cross_114 ?_
    refine lv_iload_n hx hb dX0_cross_117 rfl (lv_at hl 8 rfl) ?_
    refine fs_iald C hH 2 rfl (k := k) rfl (by omega) (by decide) dX0_cross_118 ?_
    refine lv_i2l hx hb dX0_cross_119 rfl ?_
    refine lv_lstore (lv' := [(16, .long (Int32.toInt64 (S.2.1 k))), (14, .long (Int32.toInt64 (S.1 k))), (12, .long (fs_v S.1 S.2.1 (k + 2 ^ i) w back)), (10, .long (fs_u S.1 S.2.1 (k + 2 ^ i) w back)), (8, .long (fs_ss w back)), (6, .long (fs_cos w)), (5, .int (nI w)), (4, .int (nI (k + 2 ^ i))), (0, .ref h0), (1, .int (nI k)), (2, .int (nI (2 ^ i))), (3, .int back)]) hx hb dX0_cross_120 hl (by decide) rfl (fun ls hl => ?_)
    refine lv_aload_n hx hb dX0_cross_122 rfl (lv_at hl 8 rfl) ?_
    refine fs_get C in_0 hH 0 rfl rfl 0 (by decide) mw_50 (v := .ref qr) rfl dX0_cross_123 ?_
    refine lv_iload_n hx hb dX0_cross_126 rfl (lv_at hl 9 rfl) ?_
    refine lv_lload hx hb dX0_cross_127 (lv_at hl 1 rfl) ?_
    refine lv_lload hx hb dX0_cross_129 (lv_at hl 3 rfl) ?_
    refine lv_ladd hx hb dX0_cross_131 ?_
    refine fs_ci C hH (wr := [(h0, .inr (0, [.ref qr, .ref qi, .int S.2.2])), (qr, fs_ai X 32 S.1), (qi, fs_ai X 32 S.2.1)]) [] [0, 1, 2] rfl rfl (by decide) (by decide) (fs_rSN (rest := [.int (nI k), .ref qr]) (As := [.long ((Int32.toInt64 (S.1 k)) + (fs_u S.1 S.2.1 (k + 2 ^ i) w back))]) (n := 1) C hH (wc := []) [] (by decide) rfl (c_X4_satLong l X _ ((Int32.toInt64 (S.1 k)) + (fs_u S.1 S.2.1 (k + 2 ^ i) w back)) ) rfl rfl mw_175 (List.mem_of_getElem? (i := 17) rfl) mw_174 mw_1 (by decide +kernel) ⟨Nat.le_of_ble_eq_true rfl, Nat.le_of_ble_eq_true rfl⟩ rfl hl.1 rfl (Nat.le_of_ble_eq_true rfl) dX0_cross_132 ⟨Nat.le_of_ble_eq_true rfl, Nat.le_of_ble_eq_true rfl⟩) (fun r_14 u_15 H locs hr_16 hH => ?_)
    subst hr_16
    have hH : fs_H X A s [(h0, .inr (0, [.ref qr, .ref qi, .int S.2.2])), (qr, fs_ai X 32 S.1), (qi, fs_ai X 32 S.2.1)] _ _ := hH
    refine fs_iast C hH 1 rfl (k := k) rfl (by omega) (by decide) (ws' := [(h0, .inr (0, [.ref qr, .ref qi, .int S.2.2])), (qr, fs_ai X 32 (upd S.1 k (fs_sat ((Int32.toInt64 (S.1 k)) + (fs_u S.1 S.2.1 (k + 2 ^ i) w back)) 2147483647))), (qi, fs_ai X 32 S.2.1)]) rfl dX0_cross_135 (fun H locs hH => ?_)
    refine lv_aload_n hx hb dX0_cross_136 rfl (lv_at hl 8 rfl) ?_
    refine fs_get C in_0 hH 0 rfl rfl 1 (by decide) mw_51 (v := .ref qi) rfl dX0_cross_137 ?_
    refine lv_iload_n hx hb dX0_cross_140 rfl (lv_at hl 9 rfl) ?_
    refine lv_lload hx hb dX0_cross_141 (lv_at hl 0 rfl) ?_
    refine lv_lload hx hb dX0_cross_143 (lv_at hl 2 rfl) ?_
    refine lv_ladd hx hb dX0_cross_145 ?_
    refine fs_ci C hH (wr := [(h0, .inr (0, [.ref qr, .ref qi, .int S.2.2])), (qr, fs_ai X 32 (upd S.1 k (fs_sat ((Int32.toInt64 (S.1 k)) + (fs_u S.1 S.2.1 (k + 2 ^ i) w back)) 2147483647))), (qi, fs_ai X 32 S.2.1)]) [] [0, 1, 2] rfl rfl (by decide) (by decide) (fs_rSN (rest := [.int (nI k), .ref qi]) (As := [.long ((Int32.toInt64 (S.2.1 k)) + (fs_v S.1 S.2.1 (k + 2 ^ i) w back))]) (n := 1) C hH (wc := []) [] (by decide) rfl (c_X4_satLong l X _ ((Int32.toInt64 (S.2.1 k)) + (fs_v S.1 S.2.1 (k + 2 ^ i) w back)) ) rfl rfl mw_175 (List.mem_of_getElem? (i := 17) rfl) mw_174 mw_1 (by decide +kernel) ⟨Nat.le_of_ble_eq_true rfl, Nat.le_of_ble_eq_true rfl⟩ rfl hl.1 rfl (Nat.le_of_ble_eq_true rfl) dX0_cross_146 ⟨Nat.le_of_ble_eq_true rfl, Nat.le_of_ble_eq_true rfl⟩) (fun r_17 u_18 H locs hr_19 hH => ?_)
    subst hr_19
    have hH : fs_H X A s [(h0, .inr (0, [.ref qr, .ref qi, .int S.2.2])), (qr, fs_ai X 32 (upd S.1 k (fs_sat ((Int32.toInt64 (S.1 k)) + (fs_u S.1 S.2.1 (k + 2 ^ i) w back)) 2147483647))), (qi, fs_ai X 32 S.2.1)] _ _ := hH
    refine fs_iast C hH 2 rfl (k := k) rfl (by omega) (by decide) (ws' := [(h0, .inr (0, [.ref qr, .ref qi, .int S.2.2])), (qr, fs_ai X 32 (upd S.1 k (fs_sat ((Int32.toInt64 (S.1 k)) + (fs_u S.1 S.2.1 (k + 2 ^ i) w back)) 2147483647))), (qi, fs_ai X 32 (upd S.2.1 k (fs_sat ((Int32.toInt64 (S.2.1 k)) + (fs_v S.1 S.2.1 (k + 2 ^ i) w back)) 2147483647)))]) rfl dX0_cross_149 (fun H locs hH => ?_)
    refine lv_aload_n hx hb dX0_cross_150 rfl (lv_at hl 8 rfl) ?_
    refine fs_get C in_0 hH 0 rfl rfl 0 (by decide) mw_50 (v := .ref qr) rfl dX0_cross_151 ?_
    refine lv_iload hx hb dX0_cross_154 (lv_at hl 7 rfl) ?_
    refine lv_lload hx hb dX0_cross_156 (lv_at hl 1 rfl) ?_
    refine lv_lload hx hb dX0_cross_158 (lv_at hl 3 rfl) ?_
    refine lv_lsub hx hb dX0_cross_160 ?_
    refine fs_ci C hH (wr := [(h0, .inr (0, [.ref qr, .ref qi, .int S.2.2])), (qr, fs_ai X 32 (upd S.1 k (fs_sat ((Int32.toInt64 (S.1 k)) + (fs_u S.1 S.2.1 (k + 2 ^ i) w back)) 2147483647))), (qi, fs_ai X 32 (upd S.2.1 k (fs_sat ((Int32.toInt64 (S.2.1 k)) + (fs_v S.1 S.2.1 (k + 2 ^ i) w back)) 2147483647)))]) [] [0, 1, 2] rfl rfl (by decide) (by decide) (fs_rSN (rest := [.int (nI (k + 2 ^ i)), .ref qr]) (As := [.long ((Int32.toInt64 (S.1 k)) - (fs_u S.1 S.2.1 (k + 2 ^ i) w back))]) (n := 1) C hH (wc := []) [] (by decide) rfl (c_X4_satLong l X _ ((Int32.toInt64 (S.1 k)) - (fs_u S.1 S.2.1 (k + 2 ^ i) w back)) ) rfl rfl mw_175 (List.mem_of_getElem? (i := 17) rfl) mw_174 mw_1 (by decide +kernel) ⟨Nat.le_of_ble_eq_true rfl, Nat.le_of_ble_eq_true rfl⟩ rfl hl.1 rfl (Nat.le_of_ble_eq_true rfl) dX0_cross_161 ⟨Nat.le_of_ble_eq_true rfl, Nat.le_of_ble_eq_true rfl⟩) (fun r_20 u_21 H locs hr_22 hH => ?_)
    subst hr_22
    have hH : fs_H X A s [(h0, .inr (0, [.ref qr, .ref qi, .int S.2.2])), (qr, fs_ai X 32 (upd S.1 k (fs_sat ((Int32.toInt64 (S.1 k)) + (fs_u S.1 S.2.1 (k + 2 ^ i) w back)) 2147483647))), (qi, fs_ai X 32 (upd S.2.1 k (fs_sat ((Int32.toInt64 (S.2.1 k)) + (fs_v S.1 S.2.1 (k + 2 ^ i) w back)) 2147483647)))] _ _ := hH
    refine fs_iast C hH 1 rfl (k := (k + 2 ^ i)) rfl (by omega) (by decide) (ws' := [(h0, .inr (0, [.ref qr, .ref qi, .int S.2.2])), (qr, fs_ai X 32 (upd (upd S.1 k (fs_sat ((Int32.toInt64 (S.1 k)) + (fs_u S.1 S.2.1 (k + 2 ^ i) w back)) 2147483647)) (k + 2 ^ i) (fs_sat ((Int32.toInt64 (S.1 k)) - (fs_u S.1 S.2.1 (k + 2 ^ i) w back)) 2147483647))), (qi, fs_ai X 32 (upd S.2.1 k (fs_sat ((Int32.toInt64 (S.2.1 k)) + (fs_v S.1 S.2.1 (k + 2 ^ i) w back)) 2147483647)))]) rfl dX0_cross_164 (fun H locs hH => ?_)
    refine lv_aload_n hx hb dX0_cross_165 rfl (lv_at hl 8 rfl) ?_
    refine fs_get C in_0 hH 0 rfl rfl 1 (by decide) mw_51 (v := .ref qi) rfl dX0_cross_166 ?_
    refine lv_iload hx hb dX0_cross_169 (lv_at hl 7 rfl) ?_
    refine lv_lload hx hb dX0_cross_171 (lv_at hl 0 rfl) ?_
    refine lv_lload hx hb dX0_cross_173 (lv_at hl 2 rfl) ?_
    refine lv_lsub hx hb dX0_cross_175 ?_
    refine fs_ci C hH (wr := [(h0, .inr (0, [.ref qr, .ref qi, .int S.2.2])), (qr, fs_ai X 32 (upd (upd S.1 k (fs_sat ((Int32.toInt64 (S.1 k)) + (fs_u S.1 S.2.1 (k + 2 ^ i) w back)) 2147483647)) (k + 2 ^ i) (fs_sat ((Int32.toInt64 (S.1 k)) - (fs_u S.1 S.2.1 (k + 2 ^ i) w back)) 2147483647))), (qi, fs_ai X 32 (upd S.2.1 k (fs_sat ((Int32.toInt64 (S.2.1 k)) + (fs_v S.1 S.2.1 (k + 2 ^ i) w back)) 2147483647)))]) [] [0, 1, 2] rfl rfl (by decide) (by decide) (fs_rSN (rest := [.int (nI (k + 2 ^ i)), .ref qi]) (As := [.long ((Int32.toInt64 (S.2.1 k)) - (fs_v S.1 S.2.1 (k + 2 ^ i) w back))]) (n := 1) C hH (wc := []) [] (by decide) rfl (c_X4_satLong l X _ ((Int32.toInt64 (S.2.1 k)) - (fs_v S.1 S.2.1 (k + 2 ^ i) w back)) ) rfl rfl mw_175 (List.mem_of_getElem? (i := 17) rfl) mw_174 mw_1 (by decide +kernel) ⟨Nat.le_of_ble_eq_true rfl, Nat.le_of_ble_eq_true rfl⟩ rfl hl.1 rfl (Nat.le_of_ble_eq_true rfl) dX0_cross_176 ⟨Nat.le_of_ble_eq_true rfl, Nat.le_of_ble_eq_true rfl⟩) (fun r_23 u_24 H locs hr_25 hH => ?_)
    subst hr_25
    have hH : fs_H X A s [(h0, .inr (0, [.ref qr, .ref qi, .int S.2.2])), (qr, fs_ai X 32 (upd (upd S.1 k (fs_sat ((Int32.toInt64 (S.1 k)) + (fs_u S.1 S.2.1 (k + 2 ^ i) w back)) 2147483647)) (k + 2 ^ i) (fs_sat ((Int32.toInt64 (S.1 k)) - (fs_u S.1 S.2.1 (k + 2 ^ i) w back)) 2147483647))), (qi, fs_ai X 32 (upd S.2.1 k (fs_sat ((Int32.toInt64 (S.2.1 k)) + (fs_v S.1 S.2.1 (k + 2 ^ i) w back)) 2147483647)))] _ _ := hH
    refine fs_iast C hH 2 rfl (k := (k + 2 ^ i)) rfl (by omega) (by decide) (ws' := [(h0, .inr (0, [.ref qr, .ref qi, .int S.2.2])), (qr, fs_ai X 32 (upd (upd S.1 k (fs_sat ((Int32.toInt64 (S.1 k)) + (fs_u S.1 S.2.1 (k + 2 ^ i) w back)) 2147483647)) (k + 2 ^ i) (fs_sat ((Int32.toInt64 (S.1 k)) - (fs_u S.1 S.2.1 (k + 2 ^ i) w back)) 2147483647))), (qi, fs_ai X 32 (upd (upd S.2.1 k (fs_sat ((Int32.toInt64 (S.2.1 k)) + (fs_v S.1 S.2.1 (k + 2 ^ i) w back)) 2147483647)) (k + 2 ^ i) (fs_sat ((Int32.toInt64 (S.2.1 k)) - (fs_v S.1 S.2.1 (k + 2 ^ i) w back)) 2147483647)))]) rfl dX0_cross_179 (fun H locs hH => ?_)
    have hH : fs_H X A s [(h0, .inr (0, [.ref qr, .ref qi, .int S.2.2])), (qr, fs_ai X 32 (fs_xr S.1 S.2.1 k (k + 2 ^ i) w back)), (qi, fs_ai X 32 (fs_xi S.1 S.2.1 k (k + 2 ^ i) w back))] _ _ := hH.to (by rw [fs_xr, fs_xi])
    exact fs_vret C hH () rfl trivial dX0_cross_180
  · refine lv_iload hx hb dX0_cross_28 (lv_at hl 1 rfl) ?_
    refine fs_cl C hH (wr := [(h0, .inr (0, [.ref qr, .ref qi, .int S.2.2])), (qr, fs_ai X 32 S.1), (qi, fs_ai X 32 S.2.1)]) [] [0, 1, 2] rfl rfl (by decide) (by decide) (fs_rS (rest := []) (As := [.int (nI w)]) (n := 1) C hH (wc := []) [] (by decide) rfl (c_X0_sineOf l X _ w (by omega)) rfl rfl mw_267 mw_265 mw_266 mw_4 (by decide +kernel) ⟨Nat.le_of_ble_eq_true rfl, Nat.le_of_ble_eq_true rfl⟩ rfl hl.1 rfl (Nat.le_of_ble_eq_true rfl) dX0_cross_30 ⟨Nat.le_of_ble_eq_true rfl, Nat.le_of_ble_eq_true rfl⟩) (fun r_26 u_27 H locs hr_28 hH => ?_)
    subst hr_28
    have hH : fs_H X A s [(h0, .inr (0, [.ref qr, .ref qi, .int S.2.2])), (qr, fs_ai X 32 S.1), (qi, fs_ai X 32 S.2.1)] _ _ := hH
    refine lv_lneg hx hb dX0_cross_33 ?_
    refine lv_goto (tgt := 42) hx hb dX0_cross_34 (by decide) ?_
    refine fs_topl (y := (fs_ss w back)) (by rw [fs_ss, if_neg c_4]) ?_
    refine lv_lstore (lv' := [(8, .long (fs_ss w back)), (6, .long (fs_cos w)), (5, .int (nI w)), (4, .int (nI (k + 2 ^ i))), (0, .ref h0), (1, .int (nI k)), (2, .int (nI (2 ^ i))), (3, .int back)]) hx hb dX0_cross_42 hl (by decide) rfl (fun ls hl => ?_)
    refine lv_aload_n hx hb dX0_cross_44 rfl (lv_at hl 4 rfl) ?_
    refine fs_get C in_0 hH 0 rfl rfl 0 (by decide) mw_50 (v := .ref qr) rfl dX0_cross_45 ?_
    refine lv_iload hx hb dX0_cross_48 (lv_at hl 3 rfl) ?_
    refine fs_iald C hH 1 rfl (k := (k + 2 ^ i)) rfl (by omega) (by decide) dX0_cross_50 ?_
    refine lv_i2l hx hb dX0_cross_51 rfl ?_
    refine lv_lload hx hb dX0_cross_52 (lv_at hl 1 rfl) ?_
    refine lv_lmul hx hb dX0_cross_54 ?_
    refine lv_aload_n hx hb dX0_cross_55 rfl (lv_at hl 4 rfl) ?_
    refine fs_get C in_0 hH 0 rfl rfl 1 (by decide) mw_51 (v := .ref qi) rfl dX0_cross_56 ?_
    refine lv_iload hx hb dX0_cross_59 (lv_at hl 3 rfl) ?_
    refine fs_iald C hH 2 rfl (k := (k + 2 ^ i)) rfl (by omega) (by decide) dX0_cross_61 ?_
    refine lv_i2l hx hb dX0_cross_62 rfl ?_
    refine lv_lload hx hb dX0_cross_63 (lv_at hl 0 rfl) ?_
    refine lv_lmul hx hb dX0_cross_65 ?_
    refine lv_ladd hx hb dX0_cross_66 ?_
    refine lv_bipush (v := 31) hx hb dX0_cross_67 (by decide) ?_
    refine fs_cl C hH (wr := [(h0, .inr (0, [.ref qr, .ref qi, .int S.2.2])), (qr, fs_ai X 32 S.1), (qi, fs_ai X 32 S.2.1)]) [] [0, 1, 2] rfl rfl (by decide) (by decide) (fs_rSN (rest := []) (As := [.long (((Int32.toInt64 (S.1 (k + 2 ^ i))) * (fs_cos w)) + ((Int32.toInt64 (S.2.1 (k + 2 ^ i))) * (fs_ss w back))), .int 31]) (n := 2) C hH (wc := []) [] (by decide) rfl (c_X4_rounded l X _ (((Int32.toInt64 (S.1 (k + 2 ^ i))) * (fs_cos w)) + ((Int32.toInt64 (S.2.1 (k + 2 ^ i))) * (fs_ss w back))) 31 ) rfl rfl mw_81 (List.mem_of_getElem? (i := 16) rfl) mw_80 mw_1 (by decide +kernel) ⟨Nat.le_of_ble_eq_true rfl, Nat.le_of_ble_eq_true rfl⟩ rfl hl.1 rfl (Nat.le_of_ble_eq_true rfl) dX0_cross_69 ⟨Nat.le_of_ble_eq_true rfl, Nat.le_of_ble_eq_true rfl⟩) (fun r_29 u_30 H locs hr_31 hH => ?_)
    subst hr_31
    have hH : fs_H X A s [(h0, .inr (0, [.ref qr, .ref qi, .int S.2.2])), (qr, fs_ai X 32 S.1), (qi, fs_ai X 32 S.2.1)] _ _ := hH
    refine fs_topl (y := (fs_u S.1 S.2.1 (k + 2 ^ i) w back)) (rfl) ?_
    refine lv_lstore (lv' := [(10, .long (fs_u S.1 S.2.1 (k + 2 ^ i) w back)), (8, .long (fs_ss w back)), (6, .long (fs_cos w)), (5, .int (nI w)), (4, .int (nI (k + 2 ^ i))), (0, .ref h0), (1, .int (nI k)), (2, .int (nI (2 ^ i))), (3, .int back)]) hx hb dX0_cross_72 hl (by decide) rfl (fun ls hl => ?_)
    refine lv_aload_n hx hb dX0_cross_74 rfl (lv_at hl 5 rfl) ?_
    refine fs_get C in_0 hH 0 rfl rfl 1 (by decide) mw_51 (v := .ref qi) rfl dX0_cross_75 ?_
    refine lv_iload hx hb dX0_cross_78 (lv_at hl 4 rfl) ?_
    refine fs_iald C hH 2 rfl (k := (k + 2 ^ i)) rfl (by omega) (by decide) dX0_cross_80 ?_
    refine lv_i2l hx hb dX0_cross_81 rfl ?_
    refine lv_lload hx hb dX0_cross_82 (lv_at hl 2 rfl) ?_
    refine lv_lmul hx hb dX0_cross_84 ?_
    refine lv_aload_n hx hb dX0_cross_85 rfl (lv_at hl 5 rfl) ?_
    refine fs_get C in_0 hH 0 rfl rfl 0 (by decide) mw_50 (v := .ref qr) rfl dX0_cross_86 ?_
    refine lv_iload hx hb dX0_cross_89 (lv_at hl 4 rfl) ?_
    refine fs_iald C hH 1 rfl (k := (k + 2 ^ i)) rfl (by omega) (by decide) dX0_cross_91 ?_
    refine lv_i2l hx hb dX0_cross_92 rfl ?_
    refine lv_lload hx hb dX0_cross_93 (lv_at hl 1 rfl) ?_
    refine lv_lmul hx hb dX0_cross_95 ?_
    refine lv_lsub hx hb dX0_cross_96 ?_
    refine lv_bipush (v := 31) hx hb dX0_cross_97 (by decide) ?_
    refine fs_cl C hH (wr := [(h0, .inr (0, [.ref qr, .ref qi, .int S.2.2])), (qr, fs_ai X 32 S.1), (qi, fs_ai X 32 S.2.1)]) [] [0, 1, 2] rfl rfl (by decide) (by decide) (fs_rSN (rest := []) (As := [.long (((Int32.toInt64 (S.2.1 (k + 2 ^ i))) * (fs_cos w)) - ((Int32.toInt64 (S.1 (k + 2 ^ i))) * (fs_ss w back))), .int 31]) (n := 2) C hH (wc := []) [] (by decide) rfl (c_X4_rounded l X _ (((Int32.toInt64 (S.2.1 (k + 2 ^ i))) * (fs_cos w)) - ((Int32.toInt64 (S.1 (k + 2 ^ i))) * (fs_ss w back))) 31 ) rfl rfl mw_81 (List.mem_of_getElem? (i := 16) rfl) mw_80 mw_1 (by decide +kernel) ⟨Nat.le_of_ble_eq_true rfl, Nat.le_of_ble_eq_true rfl⟩ rfl hl.1 rfl (Nat.le_of_ble_eq_true rfl) dX0_cross_99 ⟨Nat.le_of_ble_eq_true rfl, Nat.le_of_ble_eq_true rfl⟩) (fun r_32 u_33 H locs hr_34 hH => ?_)
    subst hr_34
    have hH : fs_H X A s [(h0, .inr (0, [.ref qr, .ref qi, .int S.2.2])), (qr, fs_ai X 32 S.1), (qi, fs_ai X 32 S.2.1)] _ _ := hH
    refine fs_topl (y := (fs_v S.1 S.2.1 (k + 2 ^ i) w back)) (rfl) ?_
    refine lv_lstore (lv' := [(12, .long (fs_v S.1 S.2.1 (k + 2 ^ i) w back)), (10, .long (fs_u S.1 S.2.1 (k + 2 ^ i) w back)), (8, .long (fs_ss w back)), (6, .long (fs_cos w)), (5, .int (nI w)), (4, .int (nI (k + 2 ^ i))), (0, .ref h0), (1, .int (nI k)), (2, .int (nI (2 ^ i))), (3, .int back)]) hx hb dX0_cross_102 hl (by decide) rfl (fun ls hl => ?_)
    refine lv_aload_n hx hb dX0_cross_104 rfl (lv_at hl 6 rfl) ?_
    refine fs_get C in_0 hH 0 rfl rfl 0 (by decide) mw_50 (v := .ref qr) rfl dX0_cross_105 ?_
    refine lv_iload_n hx hb dX0_cross_108 rfl (lv_at hl 7 rfl) ?_
    refine fs_iald C hH 1 rfl (k := k) rfl (by omega) (by decide) dX0_cross_109 ?_
    refine lv_i2l hx hb dX0_cross_110 rfl ?_
    refine lv_lstore (lv' := [(14, .long (Int32.toInt64 (S.1 k))), (12, .long (fs_v S.1 S.2.1 (k + 2 ^ i) w back)), (10, .long (fs_u S.1 S.2.1 (k + 2 ^ i) w back)), (8, .long (fs_ss w back)), (6, .long (fs_cos w)), (5, .int (nI w)), (4, .int (nI (k + 2 ^ i))), (0, .ref h0), (1, .int (nI k)), (2, .int (nI (2 ^ i))), (3, .int back)]) hx hb dX0_cross_111 hl (by decide) rfl (fun ls hl => ?_)
    refine lv_aload_n hx hb dX0_cross_113 rfl (lv_at hl 7 rfl) ?_
    refine fs_get C in_0 hH 0 rfl rfl 1 (by decide) mw_51 (v := .ref qi) rfl dX0_cross_114 ?_
    refine lv_iload_n hx hb dX0_cross_117 rfl (lv_at hl 8 rfl) ?_
    refine fs_iald C hH 2 rfl (k := k) rfl (by omega) (by decide) dX0_cross_118 ?_
    refine lv_i2l hx hb dX0_cross_119 rfl ?_
    refine lv_lstore (lv' := [(16, .long (Int32.toInt64 (S.2.1 k))), (14, .long (Int32.toInt64 (S.1 k))), (12, .long (fs_v S.1 S.2.1 (k + 2 ^ i) w back)), (10, .long (fs_u S.1 S.2.1 (k + 2 ^ i) w back)), (8, .long (fs_ss w back)), (6, .long (fs_cos w)), (5, .int (nI w)), (4, .int (nI (k + 2 ^ i))), (0, .ref h0), (1, .int (nI k)), (2, .int (nI (2 ^ i))), (3, .int back)]) hx hb dX0_cross_120 hl (by decide) rfl (fun ls hl => ?_)
    refine lv_aload_n hx hb dX0_cross_122 rfl (lv_at hl 8 rfl) ?_
    refine fs_get C in_0 hH 0 rfl rfl 0 (by decide) mw_50 (v := .ref qr) rfl dX0_cross_123 ?_
    refine lv_iload_n hx hb dX0_cross_126 rfl (lv_at hl 9 rfl) ?_
    refine lv_lload hx hb dX0_cross_127 (lv_at hl 1 rfl) ?_
    refine lv_lload hx hb dX0_cross_129 (lv_at hl 3 rfl) ?_
    refine lv_ladd hx hb dX0_cross_131 ?_
    refine fs_ci C hH (wr := [(h0, .inr (0, [.ref qr, .ref qi, .int S.2.2])), (qr, fs_ai X 32 S.1), (qi, fs_ai X 32 S.2.1)]) [] [0, 1, 2] rfl rfl (by decide) (by decide) (fs_rSN (rest := [.int (nI k), .ref qr]) (As := [.long ((Int32.toInt64 (S.1 k)) + (fs_u S.1 S.2.1 (k + 2 ^ i) w back))]) (n := 1) C hH (wc := []) [] (by decide) rfl (c_X4_satLong l X _ ((Int32.toInt64 (S.1 k)) + (fs_u S.1 S.2.1 (k + 2 ^ i) w back)) ) rfl rfl mw_175 (List.mem_of_getElem? (i := 17) rfl) mw_174 mw_1 (by decide +kernel) ⟨Nat.le_of_ble_eq_true rfl, Nat.le_of_ble_eq_true rfl⟩ rfl hl.1 rfl (Nat.le_of_ble_eq_true rfl) dX0_cross_132 ⟨Nat.le_of_ble_eq_true rfl, Nat.le_of_ble_eq_true rfl⟩) (fun r_35 u_36 H locs hr_37 hH => ?_)
    subst hr_37
    have hH : fs_H X A s [(h0, .inr (0, [.ref qr, .ref qi, .int S.2.2])), (qr, fs_ai X 32 S.1), (qi, fs_ai X 32 S.2.1)] _ _ := hH
    refine fs_iast C hH 1 rfl (k := k) rfl (by omega) (by decide) (ws' := [(h0, .inr (0, [.ref qr, .ref qi, .int S.2.2])), (qr, fs_ai X 32 (upd S.1 k (fs_sat ((Int32.toInt64 (S.1 k)) + (fs_u S.1 S.2.1 (k + 2 ^ i) w back)) 2147483647))), (qi, fs_ai X 32 S.2.1)]) rfl dX0_cross_135 (fun H locs hH => ?_)
    refine lv_aload_n hx hb dX0_cross_136 rfl (lv_at hl 8 rfl) ?_
    refine fs_get C in_0 hH 0 rfl rfl 1 (by decide) mw_51 (v := .ref qi) rfl dX0_cross_137 ?_
    refine lv_iload_n hx hb dX0_cross_140 rfl (lv_at hl 9 rfl) ?_
    refine lv_lload hx hb dX0_cross_141 (lv_at hl 0 rfl) ?_
    refine lv_lload hx hb dX0_cross_143 (lv_at hl 2 rfl) ?_
    refine lv_ladd hx hb dX0_cross_145 ?_
    refine fs_ci C hH (wr := [(h0, .inr (0, [.ref qr, .ref qi, .int S.2.2])), (qr, fs_ai X 32 (upd S.1 k (fs_sat ((Int32.toInt64 (S.1 k)) + (fs_u S.1 S.2.1 (k + 2 ^ i) w back)) 2147483647))), (qi, fs_ai X 32 S.2.1)]) [] [0, 1, 2] rfl rfl (by decide) (by decide) (fs_rSN (rest := [.int (nI k), .ref qi]) (As := [.long ((Int32.toInt64 (S.2.1 k)) + (fs_v S.1 S.2.1 (k + 2 ^ i) w back))]) (n := 1) C hH (wc := []) [] (by decide) rfl (c_X4_satLong l X _ ((Int32.toInt64 (S.2.1 k)) + (fs_v S.1 S.2.1 (k + 2 ^ i) w back)) ) rfl rfl mw_175 (List.mem_of_getElem? (i := 17) rfl) mw_174 mw_1 (by decide +kernel) ⟨Nat.le_of_ble_eq_true rfl, Nat.le_of_ble_eq_true rfl⟩ rfl hl.1 rfl (Nat.le_of_ble_eq_true rfl) dX0_cross_146 ⟨Nat.le_of_ble_eq_true rfl, Nat.le_of_ble_eq_true rfl⟩) (fun r_38 u_39 H locs hr_40 hH => ?_)
    subst hr_40
    have hH : fs_H X A s [(h0, .inr (0, [.ref qr, .ref qi, .int S.2.2])), (qr, fs_ai X 32 (upd S.1 k (fs_sat ((Int32.toInt64 (S.1 k)) + (fs_u S.1 S.2.1 (k + 2 ^ i) w back)) 2147483647))), (qi, fs_ai X 32 S.2.1)] _ _ := hH
    refine fs_iast C hH 2 rfl (k := k) rfl (by omega) (by decide) (ws' := [(h0, .inr (0, [.ref qr, .ref qi, .int S.2.2])), (qr, fs_ai X 32 (upd S.1 k (fs_sat ((Int32.toInt64 (S.1 k)) + (fs_u S.1 S.2.1 (k + 2 ^ i) w back)) 2147483647))), (qi, fs_ai X 32 (upd S.2.1 k (fs_sat ((Int32.toInt64 (S.2.1 k)) + (fs_v S.1 S.2.1 (k + 2 ^ i) w back)) 2147483647)))]) rfl dX0_cross_149 (fun H locs hH => ?_)
    refine lv_aload_n hx hb dX0_cross_150 rfl (lv_at hl 8 rfl) ?_
    refine fs_get C in_0 hH 0 rfl rfl 0 (by decide) mw_50 (v := .ref qr) rfl dX0_cross_151 ?_
    refine lv_iload hx hb dX0_cross_154 (lv_at hl 7 rfl) ?_
    refine lv_lload hx hb dX0_cross_156 (lv_at hl 1 rfl) ?_
    refine lv_lload hx hb dX0_cross_158 (lv_at hl 3 rfl) ?_
    refine lv_lsub hx hb dX0_cross_160 ?_
    refine fs_ci C hH (wr := [(h0, .inr (0, [.ref qr, .ref qi, .int S.2.2])), (qr, fs_ai X 32 (upd S.1 k (fs_sat ((Int32.toInt64 (S.1 k)) + (fs_u S.1 S.2.1 (k + 2 ^ i) w back)) 2147483647))), (qi, fs_ai X 32 (upd S.2.1 k (fs_sat ((Int32.toInt64 (S.2.1 k)) + (fs_v S.1 S.2.1 (k + 2 ^ i) w back)) 2147483647)))]) [] [0, 1, 2] rfl rfl (by decide) (by decide) (fs_rSN (rest := [.int (nI (k + 2 ^ i)), .ref qr]) (As := [.long ((Int32.toInt64 (S.1 k)) - (fs_u S.1 S.2.1 (k + 2 ^ i) w back))]) (n := 1) C hH (wc := []) [] (by decide) rfl (c_X4_satLong l X _ ((Int32.toInt64 (S.1 k)) - (fs_u S.1 S.2.1 (k + 2 ^ i) w back)) ) rfl rfl mw_175 (List.mem_of_getElem? (i := 17) rfl) mw_174 mw_1 (by decide +kernel) ⟨Nat.le_of_ble_eq_true rfl, Nat.le_of_ble_eq_true rfl⟩ rfl hl.1 rfl (Nat.le_of_ble_eq_true rfl) dX0_cross_161 ⟨Nat.le_of_ble_eq_true rfl, Nat.le_of_ble_eq_true rfl⟩) (fun r_41 u_42 H locs hr_43 hH => ?_)
    subst hr_43
    have hH : fs_H X A s [(h0, .inr (0, [.ref qr, .ref qi, .int S.2.2])), (qr, fs_ai X 32 (upd S.1 k (fs_sat ((Int32.toInt64 (S.1 k)) + (fs_u S.1 S.2.1 (k + 2 ^ i) w back)) 2147483647))), (qi, fs_ai X 32 (upd S.2.1 k (fs_sat ((Int32.toInt64 (S.2.1 k)) + (fs_v S.1 S.2.1 (k + 2 ^ i) w back)) 2147483647)))] _ _ := hH
    refine fs_iast C hH 1 rfl (k := (k + 2 ^ i)) rfl (by omega) (by decide) (ws' := [(h0, .inr (0, [.ref qr, .ref qi, .int S.2.2])), (qr, fs_ai X 32 (upd (upd S.1 k (fs_sat ((Int32.toInt64 (S.1 k)) + (fs_u S.1 S.2.1 (k + 2 ^ i) w back)) 2147483647)) (k + 2 ^ i) (fs_sat ((Int32.toInt64 (S.1 k)) - (fs_u S.1 S.2.1 (k + 2 ^ i) w back)) 2147483647))), (qi, fs_ai X 32 (upd S.2.1 k (fs_sat ((Int32.toInt64 (S.2.1 k)) + (fs_v S.1 S.2.1 (k + 2 ^ i) w back)) 2147483647)))]) rfl dX0_cross_164 (fun H locs hH => ?_)
    refine lv_aload_n hx hb dX0_cross_165 rfl (lv_at hl 8 rfl) ?_
    refine fs_get C in_0 hH 0 rfl rfl 1 (by decide) mw_51 (v := .ref qi) rfl dX0_cross_166 ?_
    refine lv_iload hx hb dX0_cross_169 (lv_at hl 7 rfl) ?_
    refine lv_lload hx hb dX0_cross_171 (lv_at hl 0 rfl) ?_
    refine lv_lload hx hb dX0_cross_173 (lv_at hl 2 rfl) ?_
    refine lv_lsub hx hb dX0_cross_175 ?_
    refine fs_ci C hH (wr := [(h0, .inr (0, [.ref qr, .ref qi, .int S.2.2])), (qr, fs_ai X 32 (upd (upd S.1 k (fs_sat ((Int32.toInt64 (S.1 k)) + (fs_u S.1 S.2.1 (k + 2 ^ i) w back)) 2147483647)) (k + 2 ^ i) (fs_sat ((Int32.toInt64 (S.1 k)) - (fs_u S.1 S.2.1 (k + 2 ^ i) w back)) 2147483647))), (qi, fs_ai X 32 (upd S.2.1 k (fs_sat ((Int32.toInt64 (S.2.1 k)) + (fs_v S.1 S.2.1 (k + 2 ^ i) w back)) 2147483647)))]) [] [0, 1, 2] rfl rfl (by decide) (by decide) (fs_rSN (rest := [.int (nI (k + 2 ^ i)), .ref qi]) (As := [.long ((Int32.toInt64 (S.2.1 k)) - (fs_v S.1 S.2.1 (k + 2 ^ i) w back))]) (n := 1) C hH (wc := []) [] (by decide) rfl (c_X4_satLong l X _ ((Int32.toInt64 (S.2.1 k)) - (fs_v S.1 S.2.1 (k + 2 ^ i) w back)) ) rfl rfl mw_175 (List.mem_of_getElem? (i := 17) rfl) mw_174 mw_1 (by decide +kernel) ⟨Nat.le_of_ble_eq_true rfl, Nat.le_of_ble_eq_true rfl⟩ rfl hl.1 rfl (Nat.le_of_ble_eq_true rfl) dX0_cross_176 ⟨Nat.le_of_ble_eq_true rfl, Nat.le_of_ble_eq_true rfl⟩) (fun r_44 u_45 H locs hr_46 hH => ?_)
    subst hr_46
    have hH : fs_H X A s [(h0, .inr (0, [.ref qr, .ref qi, .int S.2.2])), (qr, fs_ai X 32 (upd (upd S.1 k (fs_sat ((Int32.toInt64 (S.1 k)) + (fs_u S.1 S.2.1 (k + 2 ^ i) w back)) 2147483647)) (k + 2 ^ i) (fs_sat ((Int32.toInt64 (S.1 k)) - (fs_u S.1 S.2.1 (k + 2 ^ i) w back)) 2147483647))), (qi, fs_ai X 32 (upd S.2.1 k (fs_sat ((Int32.toInt64 (S.2.1 k)) + (fs_v S.1 S.2.1 (k + 2 ^ i) w back)) 2147483647)))] _ _ := hH
    refine fs_iast C hH 2 rfl (k := (k + 2 ^ i)) rfl (by omega) (by decide) (ws' := [(h0, .inr (0, [.ref qr, .ref qi, .int S.2.2])), (qr, fs_ai X 32 (upd (upd S.1 k (fs_sat ((Int32.toInt64 (S.1 k)) + (fs_u S.1 S.2.1 (k + 2 ^ i) w back)) 2147483647)) (k + 2 ^ i) (fs_sat ((Int32.toInt64 (S.1 k)) - (fs_u S.1 S.2.1 (k + 2 ^ i) w back)) 2147483647))), (qi, fs_ai X 32 (upd (upd S.2.1 k (fs_sat ((Int32.toInt64 (S.2.1 k)) + (fs_v S.1 S.2.1 (k + 2 ^ i) w back)) 2147483647)) (k + 2 ^ i) (fs_sat ((Int32.toInt64 (S.2.1 k)) - (fs_v S.1 S.2.1 (k + 2 ^ i) w back)) 2147483647)))]) rfl dX0_cross_179 (fun H locs hH => ?_)
    have hH : fs_H X A s [(h0, .inr (0, [.ref qr, .ref qi, .int S.2.2])), (qr, fs_ai X 32 (fs_xr S.1 S.2.1 k (k + 2 ^ i) w back)), (qi, fs_ai X 32 (fs_xi S.1 S.2.1 k (k + 2 ^ i) w back))] _ _ := hH.to (by rw [fs_xr, fs_xi])
    exact fs_vret C hH () rfl trivial dX0_cross_180
set_option maxHeartbeats 4000000 in
set_option maxRecDepth 100000 in
theorem c_X0_intoWaves (l : Launch) (X : fs_X) (sz : Nat) (h0 : Nat) (qr : Nat) (qi : Nat) (S : fs_K) (mm : Nat) (back : Int32) (hmm : mm < 6) : fs_M l X yX0_intoWaves cX0_intoWaves 6 none ({ frames := 3, cells := 0, slots := 0, locals := 75 }) [.ref h0, .int (nI mm), .int back] [(h0, .inr (0, [.ref qr, .ref qi, .int S.2.2])), (qr, fs_ai X 32 S.1), (qi, fs_ai X 32 S.2.1)] sz (fs_Qv X (fun (_ : Unit) => True) (fun _ => [(h0, .inr (0, [.ref qr, .ref qi, .int ((fs_tr mm back S mm).2.2)])), (qr, fs_ai X 32 ((fs_tr mm back S mm).1)), (qi, fs_ai X 32 ((fs_tr mm back S mm).2.1))])) 0 0 := by
  refine fs_ofW (by decide) (Nat.le_of_ble_eq_true rfl) ?_
  intro p e s m args below meth c A ls C hH hl
  have C : fs_At X A p s m args meth c cX0_intoWaves 6 none RX0 "intoWaves" := C
  have hx := C.1
  have hb := C.2.1
  have hown := C.2.2.2.2.1
  have hts := C.2.2.2.2.2.1
  have hl : lv_has ls 6 [(0, .ref h0), (1, .int (nI mm)), (2, .int back)] := hl
  have hp := fs_pw4 mm hmm
  have K_12 : ∀ (n : Nat) (i : Nat), (i ≤ mm) → (mm < i + n) → ∀ (H : Heap) (locs : List Loc), fs_H X A s [(h0, .inr (0, [.ref qr, .ref qi, .int ((fs_tr mm back S i).2.2)])), (qr, fs_ai X 32 ((fs_tr mm back S i).1)), (qi, fs_ai X 32 ((fs_tr mm back S i).2.1))] H locs → ∀ (ls : Array Slot), lv_has ls 6 [(0, .ref h0), (2, .int back), (3, .int (nI (2 ^ mm))), (4, .int (nI (2 ^ i)))] → W p l e ({ frames := 3, cells := 0, slots := 0, locals := 75 }) s m args below meth c H locs 0 0 (MQ below (fs_Qv X (fun (_ : Unit) => True) (fun _ => [(h0, .inr (0, [.ref qr, .ref qi, .int ((fs_tr mm back S mm).2.2)])), (qr, fs_ai X 32 ((fs_tr mm back S mm).1)), (qi, fs_ai X 32 ((fs_tr mm back S mm).2.1))]) A) args s 0 0 A) (F0 m 12 ls []) := by
    intro n
    induction n with
    | zero => intro i hi hfu; exact absurd hfu (by omega)
    | succ n ih_12 =>
      intro i hi hfu H locs hH ls hl
      have K_26 : ∀ (n : Nat) (k : Nat), (i < mm) → (k ≤ 2 ^ mm) → (2 ^ mm < k + n) → ∀ (H : Heap) (locs : List Loc), fs_H X A s [(h0, .inr (0, [.ref qr, .ref qi, .int ((fs_low (2 ^ mm) (fs_low (2 ^ mm) (fs_tr mm back S i))).2.2)])), (qr, fs_ai X 32 ((fs_cr i back (fs_low (2 ^ mm) (fs_low (2 ^ mm) (fs_tr mm back S i))).1 (fs_low (2 ^ mm) (fs_low (2 ^ mm) (fs_tr mm back S i))).2.1 k).1)), (qi, fs_ai X 32 ((fs_cr i back (fs_low (2 ^ mm) (fs_low (2 ^ mm) (fs_tr mm back S i))).1 (fs_low (2 ^ mm) (fs_low (2 ^ mm) (fs_tr mm back S i))).2.1 k).2))] H locs → ∀ (ls : Array Slot), lv_has ls 6 [(0, .ref h0), (2, .int back), (3, .int (nI (2 ^ mm))), (4, .int (nI (2 ^ i))), (5, .int (nI k))] → W p l e ({ frames := 3, cells := 0, slots := 0, locals := 75 }) s m args below meth c H locs 0 0 (MQ below (fs_Qv X (fun (_ : Unit) => True) (fun _ => [(h0, .inr (0, [.ref qr, .ref qi, .int ((fs_tr mm back S mm).2.2)])), (qr, fs_ai X 32 ((fs_tr mm back S mm).1)), (qi, fs_ai X 32 ((fs_tr mm back S mm).2.1))]) A) args s 0 0 A) (F0 m 26 ls []) := by
        intro n
        induction n with
        | zero => intro k him hk hfu; exact absurd hfu (by omega)
        | succ n ih_26 =>
          intro k him hk hfu H locs hH ls hl
          refine lv_iload hx hb dX0_intoWaves_26 (lv_at hl 4 rfl) ?_
          refine lv_iload_n hx hb dX0_intoWaves_28 rfl (lv_at hl 2 rfl) ?_
          refine lv_icmp_ge (tgt := 55) hx hb dX0_intoWaves_29 (by decide) (fun c_1 => ?_) (fun c_1 => ?_)
          · have hge := fs_geT (a := k) (b := 2 ^ mm) (by omega) (by omega) c_1
            have hkn : k = 2 ^ mm := by omega
            have hH : fs_H X A s [(h0, .inr (0, [.ref qr, .ref qi, .int ((fs_tr mm back S (i + 1)).2.2)])), (qr, fs_ai X 32 ((fs_tr mm back S (i + 1)).1)), (qi, fs_ai X 32 ((fs_tr mm back S (i + 1)).2.1))] _ _ := hH.to (by rw [hkn, fs_tr, fs_pass])
            refine lv_iload hx hb dX0_intoWaves_55 (lv_at hl 3 rfl) ?_
            refine lv_iconst (v := 2) hx hb dX0_intoWaves_57 (by decide) ?_
            refine lv_imul hx hb dX0_intoWaves_58 ?_
            refine fs_topi (y := (nI (2 ^ (i + 1)))) ((fs_pw2 i (by omega)).1) ?_
            refine lv_istore (lv' := [(4, .int (nI (2 ^ (i + 1)))), (0, .ref h0), (2, .int back), (3, .int (nI (2 ^ mm))), (5, .int (nI k))]) hx hb dX0_intoWaves_59 hl (by decide) rfl (fun ls hl => ?_)
            refine lv_goto (tgt := 12) hx hb dX0_intoWaves_61 (by decide) ?_
            exact ih_12 (i + 1) (by omega) (by omega) _ _ hH ls (lv_sub hl [1, 2, 3, 0] rfl)
          · have hlt := fs_geF (a := k) (b := 2 ^ mm) (by omega) (by omega) c_1
            refine lv_iload hx hb dX0_intoWaves_32 (lv_at hl 4 rfl) ?_
            refine lv_iload hx hb dX0_intoWaves_34 (lv_at hl 3 rfl) ?_
            refine lv_iand hx hb dX0_intoWaves_36 ?_
            refine lv_if_ne (tgt := 49) hx hb dX0_intoWaves_37 (by decide) (fun c_2 => ?_) (fun c_2 => ?_)
            · have hc : ¬ k / 2 ^ i % 2 = 0 := fun z => c_2 ((fs_and1 i (by omega) k (by omega)).mpr z)
              have hH : fs_H X A s [(h0, .inr (0, [.ref qr, .ref qi, .int ((fs_low (2 ^ mm) (fs_low (2 ^ mm) (fs_tr mm back S i))).2.2)])), (qr, fs_ai X 32 ((fs_cr i back (fs_low (2 ^ mm) (fs_low (2 ^ mm) (fs_tr mm back S i))).1 (fs_low (2 ^ mm) (fs_low (2 ^ mm) (fs_tr mm back S i))).2.1 (k + 1)).1)), (qi, fs_ai X 32 ((fs_cr i back (fs_low (2 ^ mm) (fs_low (2 ^ mm) (fs_tr mm back S i))).1 (fs_low (2 ^ mm) (fs_low (2 ^ mm) (fs_tr mm back S i))).2.1 (k + 1)).2))] _ _ := hH.to (by rw [fs_crF hc])
              refine lv_iinc (v := (nI (k + 1))) (lv' := [(5, .int (nI (k + 1))), (0, .ref h0), (2, .int back), (3, .int (nI (2 ^ mm))), (4, .int (nI (2 ^ i)))]) hx hb dX0_intoWaves_49 hl (k := 4) rfl (nI_1 k) (by decide) rfl (fun ls hl => ?_)
              refine lv_goto (tgt := 26) hx hb dX0_intoWaves_52 (by decide) ?_
              exact ih_26 (k + 1) him (by omega) (by omega) _ _ hH ls (lv_sub hl [1, 2, 3, 4, 0] rfl)
            · have hc := (fs_and1 i (by omega) k (by omega)).mp c_2
              have htop := fs_top mm hmm i him k hlt hc
              refine lv_aload_n hx hb dX0_intoWaves_40 rfl (lv_at hl 0 rfl) ?_
              refine lv_iload hx hb dX0_intoWaves_41 (lv_at hl 4 rfl) ?_
              refine lv_iload hx hb dX0_intoWaves_43 (lv_at hl 3 rfl) ?_
              refine lv_iload_n hx hb dX0_intoWaves_45 rfl (lv_at hl 1 rfl) ?_
              refine fs_cv C hH (wr := []) [0, 1, 2] [] rfl rfl (by decide) (by decide) (fs_rV (rest := []) (As := [.int (nI k), .int (nI (2 ^ i)), .int back]) (n := 3) (q0 := 0) (ci := 0) C hH (wc := [(h0, .inr (0, [.ref qr, .ref qi, .int ((fs_low (2 ^ mm) (fs_low (2 ^ mm) (fs_tr mm back S i))).2.2)])), (qr, fs_ai X 32 ((fs_cr i back (fs_low (2 ^ mm) (fs_low (2 ^ mm) (fs_tr mm back S i))).1 (fs_low (2 ^ mm) (fs_low (2 ^ mm) (fs_tr mm back S i))).2.1 k).1)), (qi, fs_ai X 32 ((fs_cr i back (fs_low (2 ^ mm) (fs_low (2 ^ mm) (fs_tr mm back S i))).1 (fs_low (2 ^ mm) (fs_low (2 ^ mm) (fs_tr mm back S i))).2.1 k).2))]) [0, 1, 2] (by decide) rfl (c_X0_cross l X _ h0 qr qi (((fs_cr i back (fs_low (2 ^ mm) (fs_low (2 ^ mm) (fs_tr mm back S i))).1 (fs_low (2 ^ mm) (fs_low (2 ^ mm) (fs_tr mm back S i))).2.1 k).1, (fs_cr i back (fs_low (2 ^ mm) (fs_low (2 ^ mm) (fs_tr mm back S i))).1 (fs_low (2 ^ mm) (fs_low (2 ^ mm) (fs_tr mm back S i))).2.1 k).2, (fs_low (2 ^ mm) (fs_low (2 ^ mm) (fs_tr mm back S i))).2.2) : fs_K) k i (k % 2 ^ i * 16 / 2 ^ i) back (by omega) (by omega) (fs_and2 i (by omega) k (by omega)) (fs_wv i (by omega) k (by omega))) rfl rfl rfl rfl mw_260 mw_258 mw_259 mw_491 mw_4 (by decide +kernel) ⟨Nat.le_of_ble_eq_true rfl, Nat.le_of_ble_eq_true rfl⟩ rfl hl.1 rfl (Nat.le_of_ble_eq_true rfl) dX0_intoWaves_46 ⟨Nat.le_of_ble_eq_true rfl, Nat.le_of_ble_eq_true rfl⟩) (fun u_4 H locs hr_5 hH => ?_)
              have hH : fs_H X A s [(h0, .inr (0, [.ref qr, .ref qi, .int ((fs_low (2 ^ mm) (fs_low (2 ^ mm) (fs_tr mm back S i))).2.2)])), (qr, fs_ai X 32 (fs_xr (fs_cr i back (fs_low (2 ^ mm) (fs_low (2 ^ mm) (fs_tr mm back S i))).1 (fs_low (2 ^ mm) (fs_low (2 ^ mm) (fs_tr mm back S i))).2.1 k).1 (fs_cr i back (fs_low (2 ^ mm) (fs_low (2 ^ mm) (fs_tr mm back S i))).1 (fs_low (2 ^ mm) (fs_low (2 ^ mm) (fs_tr mm back S i))).2.1 k).2 k (k + 2 ^ i) (k % 2 ^ i * 16 / 2 ^ i) back)), (qi, fs_ai X 32 (fs_xi (fs_cr i back (fs_low (2 ^ mm) (fs_low (2 ^ mm) (fs_tr mm back S i))).1 (fs_low (2 ^ mm) (fs_low (2 ^ mm) (fs_tr mm back S i))).2.1 k).1 (fs_cr i back (fs_low (2 ^ mm) (fs_low (2 ^ mm) (fs_tr mm back S i))).1 (fs_low (2 ^ mm) (fs_low (2 ^ mm) (fs_tr mm back S i))).2.1 k).2 k (k + 2 ^ i) (k % 2 ^ i * 16 / 2 ^ i) back))] _ _ := hH
              have hH : fs_H X A s [(h0, .inr (0, [.ref qr, .ref qi, .int ((fs_low (2 ^ mm) (fs_low (2 ^ mm) (fs_tr mm back S i))).2.2)])), (qr, fs_ai X 32 ((fs_cr i back (fs_low (2 ^ mm) (fs_low (2 ^ mm) (fs_tr mm back S i))).1 (fs_low (2 ^ mm) (fs_low (2 ^ mm) (fs_tr mm back S i))).2.1 (k + 1)).1)), (qi, fs_ai X 32 ((fs_cr i back (fs_low (2 ^ mm) (fs_low (2 ^ mm) (fs_tr mm back S i))).1 (fs_low (2 ^ mm) (fs_low (2 ^ mm) (fs_tr mm back S i))).2.1 (k + 1)).2))] _ _ := hH.to (by rw [fs_crT hc])
              refine lv_iinc (v := (nI (k + 1))) (lv' := [(5, .int (nI (k + 1))), (0, .ref h0), (2, .int back), (3, .int (nI (2 ^ mm))), (4, .int (nI (2 ^ i)))]) hx hb dX0_intoWaves_49 hl (k := 4) rfl (nI_1 k) (by decide) rfl (fun ls hl => ?_)
              refine lv_goto (tgt := 26) hx hb dX0_intoWaves_52 (by decide) ?_
              exact ih_26 (k + 1) him (by omega) (by omega) _ _ hH ls (lv_sub hl [1, 2, 3, 4, 0] rfl)
      refine lv_iload hx hb dX0_intoWaves_12 (lv_at hl 3 rfl) ?_
      refine lv_iload_n hx hb dX0_intoWaves_14 rfl (lv_at hl 2 rfl) ?_
      refine lv_icmp_ge (tgt := 64) hx hb dX0_intoWaves_15 (by decide) (fun c_6 => ?_) (fun c_6 => ?_)
      · have hge := (fs_pw3 mm hmm i (by omega)).mp c_6
        have hie : i = mm := by omega
        have hH : fs_H X A s [(h0, .inr (0, [.ref qr, .ref qi, .int ((fs_tr mm back S mm).2.2)])), (qr, fs_ai X 32 ((fs_tr mm back S mm).1)), (qi, fs_ai X 32 ((fs_tr mm back S mm).2.1))] _ _ := hH.to (by rw [hie])
        exact fs_vret C hH () rfl trivial dX0_intoWaves_64
      · have him : i < mm := Nat.lt_of_not_le fun z => c_6 ((fs_pw3 mm hmm i (by omega)).mpr z)
        refine lv_aload_n hx hb dX0_intoWaves_18 rfl (lv_at hl 0 rfl) ?_
        refine lv_iload_n hx hb dX0_intoWaves_19 rfl (lv_at hl 2 rfl) ?_
        refine fs_cv C hH (wr := []) [0, 1, 2] [] rfl rfl (by decide) (by decide) (fs_rV (rest := []) (As := [.int (nI (2 ^ mm))]) (n := 1) (q0 := 0) (ci := 0) C hH (wc := [(h0, .inr (0, [.ref qr, .ref qi, .int ((fs_tr mm back S i).2.2)])), (qr, fs_ai X 32 ((fs_tr mm back S i).1)), (qi, fs_ai X 32 ((fs_tr mm back S i).2.1))]) [0, 1, 2] (by decide) rfl (c_X0_makeRoom l X _ h0 qr qi (fs_tr mm back S i) (2 ^ mm) (by omega)) rfl rfl rfl rfl mw_253 mw_251 mw_252 mw_489 mw_4 (by decide +kernel) ⟨Nat.le_of_ble_eq_true rfl, Nat.le_of_ble_eq_true rfl⟩ rfl hl.1 rfl (Nat.le_of_ble_eq_true rfl) dX0_intoWaves_20 ⟨Nat.le_of_ble_eq_true rfl, Nat.le_of_ble_eq_true rfl⟩) (fun u_8 H locs hr_9 hH => ?_)
        have hH : fs_H X A s [(h0, .inr (0, [.ref qr, .ref qi, .int ((fs_low (2 ^ mm) (fs_low (2 ^ mm) (fs_tr mm back S i))).2.2)])), (qr, fs_ai X 32 ((fs_low (2 ^ mm) (fs_low (2 ^ mm) (fs_tr mm back S i))).1)), (qi, fs_ai X 32 ((fs_low (2 ^ mm) (fs_low (2 ^ mm) (fs_tr mm back S i))).2.1))] _ _ := hH
        refine lv_iconst (v := 0) hx hb dX0_intoWaves_23 (by decide) ?_
        have hH : fs_H X A s [(h0, .inr (0, [.ref qr, .ref qi, .int ((fs_low (2 ^ mm) (fs_low (2 ^ mm) (fs_tr mm back S i))).2.2)])), (qr, fs_ai X 32 ((fs_cr i back (fs_low (2 ^ mm) (fs_low (2 ^ mm) (fs_tr mm back S i))).1 (fs_low (2 ^ mm) (fs_low (2 ^ mm) (fs_tr mm back S i))).2.1 0).1)), (qi, fs_ai X 32 ((fs_cr i back (fs_low (2 ^ mm) (fs_low (2 ^ mm) (fs_tr mm back S i))).1 (fs_low (2 ^ mm) (fs_low (2 ^ mm) (fs_tr mm back S i))).2.1 0).2))] _ _ := hH.to (by rw [fs_cr])
        refine lv_istore (lv' := [(5, .int 0), (0, .ref h0), (2, .int back), (3, .int (nI (2 ^ mm))), (4, .int (nI (2 ^ i)))]) hx hb dX0_intoWaves_24 hl (by decide) rfl (fun ls hl => ?_)
        exact K_26 (2 ^ mm + 1) 0 him (by omega) (by omega) _ _ hH ls (lv_sub hl [1, 2, 3, 4, 0] rfl)
  have hH : fs_H X A s [(h0, .inr (0, [.ref qr, .ref qi, .int S.2.2])), (qr, fs_ai X 32 S.1), (qi, fs_ai X 32 S.2.1)] s.heap [] := hH
  refine lv_iconst (v := 1) hx hb dX0_intoWaves_0 (by decide) ?_
  refine lv_iload_n hx hb dX0_intoWaves_1 rfl (lv_at hl 1 rfl) ?_
  refine lv_ishl hx hb dX0_intoWaves_2 ?_
  refine fs_topi (y := (nI (2 ^ mm))) (fs_pw1 mm hmm) ?_
  refine lv_istore_n (lv' := [(3, .int (nI (2 ^ mm))), (0, .ref h0), (1, .int (nI mm)), (2, .int back)]) hx hb dX0_intoWaves_3 rfl hl (by decide) rfl (fun ls hl => ?_)
  refine lv_aload_n hx hb dX0_intoWaves_4 rfl (lv_at hl 1 rfl) ?_
  refine lv_iload_n hx hb dX0_intoWaves_5 rfl (lv_at hl 2 rfl) ?_
  refine fs_cv C hH (wr := []) [0, 1, 2] [] rfl rfl (by decide) (by decide) (fs_rV (rest := []) (As := [.int (nI mm)]) (n := 1) (q0 := 0) (ci := 0) C hH (wc := [(h0, .inr (0, [.ref qr, .ref qi, .int S.2.2])), (qr, fs_ai X 32 S.1), (qi, fs_ai X 32 S.2.1)]) [0, 1, 2] (by decide) rfl (c_X0_reorder l X _ h0 qr qi S mm (by omega)) rfl rfl rfl rfl mw_244 mw_242 mw_243 mw_488 mw_4 (by decide +kernel) ⟨Nat.le_of_ble_eq_true rfl, Nat.le_of_ble_eq_true rfl⟩ rfl hl.1 rfl (Nat.le_of_ble_eq_true rfl) dX0_intoWaves_6 ⟨Nat.le_of_ble_eq_true rfl, Nat.le_of_ble_eq_true rfl⟩) (fun u_11 H locs hr_12 hH => ?_)
  have hH : fs_H X A s [(h0, .inr (0, [.ref qr, .ref qi, .int S.2.2])), (qr, fs_ai X 32 (fs_pm mm S.1)), (qi, fs_ai X 32 (fs_pm mm S.2.1))] _ _ := hH
  refine lv_iconst (v := 1) hx hb dX0_intoWaves_9 (by decide) ?_
  have hH : fs_H X A s [(h0, .inr (0, [.ref qr, .ref qi, .int ((fs_tr mm back S 0).2.2)])), (qr, fs_ai X 32 ((fs_tr mm back S 0).1)), (qi, fs_ai X 32 ((fs_tr mm back S 0).2.1))] _ _ := hH.to (by rw [fs_tr])
  refine lv_istore (lv' := [(4, .int 1), (3, .int (nI (2 ^ mm))), (0, .ref h0), (1, .int (nI mm)), (2, .int back)]) hx hb dX0_intoWaves_10 hl (by decide) rfl (fun ls hl => ?_)
  exact K_12 (mm + 1) 0 (by omega) (by omega) _ _ hH ls (lv_sub hl [2, 4, 1, 0] rfl)
