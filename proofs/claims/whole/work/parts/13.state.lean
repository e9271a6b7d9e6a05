theorem fs_H.to {X : fs_X} {A : Nat → Prop} {s : State} {ws ws' : va_W} {H : Heap} {locs : List Loc} (h : fs_H X A s ws H locs) (e : ws = ws') : fs_H X A s ws' H locs := e ▸ h
theorem fs_leT {k : Nat} (hk : k < 2 ^ 31) (h : nI k ≤ 0) : k = 0 := by
  rcases Nat.eq_zero_or_pos k with h0 | h0
  · exact h0
  · exact absurd h (nI_nle h0 hk)
theorem fs_leF {k : Nat} (h : ¬ nI k ≤ 0) : 0 < k := by
  rcases Nat.eq_zero_or_pos k with h0 | h0
  · subst h0; exact absurd (by decide) h
  · exact h0
set_option maxHeartbeats 4000000 in
set_option maxRecDepth 100000 in
theorem c_X2_init (l : Launch) (X : fs_X) (sz : Nat) (h0 : Nat)  : fs_M l X yX2_init cX2_init 1 none ({ frames := 1, cells := 2, slots := 32, locals := 12 }) [.ref h0] [(h0, .inr (2, [.null, .null]))] sz (fs_Qv X (fun (_ : Nat × Nat) => True) (fun u => [(h0, .inr (2, [.ref u.1, .ref u.2])), (u.1, fs_ai X 16 (fun _ => 0)), (u.2, fs_ai X 16 (fun _ => 0))])) 2 32 := by
  refine fs_ofW (by decide) (Nat.le_of_ble_eq_true rfl) ?_
  intro p e s m args below meth c A ls C hH hl
  have C : fs_At X A p s m args meth c cX2_init 1 none RX2 "<init>" := C
  have hx := C.1
  have hb := C.2.1
  have hown := C.2.2.2.2.1
  have hts := C.2.2.2.2.2.1
  have hl : lv_has ls 1 [(0, .ref h0)] := hl
  have hH : fs_H X A s [(h0, .inr (2, [.null, .null]))] s.heap [] := hH
  refine lv_aload_n hx hb dX2_init_0 rfl (lv_at hl 0 rfl) ?_
  refine W.objInit hx hb hown (hts _ mw_24) (hts _ mw_18) (hts _ mw_19) rfl (by rw [C.2.2.2.1]; exact hl.1) rfl dX2_init_1 (Nat.le_of_ble_eq_true rfl) (Nat.le_of_ble_eq_true rfl) ?_
  refine W.eq (g2 := F0 m 4 ls []) rfl ?_
  refine lv_aload_n hx hb dX2_init_4 rfl (lv_at hl 0 rfl) ?_
  refine lv_bipush (v := 16) hx hb dX2_init_5 (by decide) ?_
  refine fs_newI C hH (N := 16) rfl (by decide) (Nat.le_of_ble_eq_true rfl) (Nat.le_of_ble_eq_true rfl) mw_29 dX2_init_7 (fun q_1 H hH => ?_)
  have hH : fs_H X A s [(h0, .inr (2, [.null, .null])), (q_1, fs_ai X 16 (fun _ => 0))] _ _ := hH
  refine fs_putF C in_2 tyX2 tyX2_ok nmX2 hH 0 rfl rfl 0 (by decide) mw_25 rfl rfl rfl rfl (Nat.le_of_ble_eq_true rfl) (ws' := [(h0, .inr (2, [.ref q_1, .null])), (q_1, fs_ai X 16 (fun _ => 0))]) rfl dX2_init_9 (fun H locs hH => ?_)
  refine lv_aload_n hx hb dX2_init_12 rfl (lv_at hl 0 rfl) ?_
  refine lv_bipush (v := 16) hx hb dX2_init_13 (by decide) ?_
  refine fs_newI C hH (N := 16) rfl (by decide) (Nat.le_of_ble_eq_true rfl) (Nat.le_of_ble_eq_true rfl) mw_29 dX2_init_15 (fun q_2 H hH => ?_)
  have hH : fs_H X A s [(h0, .inr (2, [.ref q_1, .null])), (q_1, fs_ai X 16 (fun _ => 0)), (q_2, fs_ai X 16 (fun _ => 0))] _ _ := hH
  refine fs_putF C in_2 tyX2 tyX2_ok nmX2 hH 0 rfl rfl 1 (by decide) mw_26 rfl rfl rfl rfl (Nat.le_of_ble_eq_true rfl) (ws' := [(h0, .inr (2, [.ref q_1, .ref q_2])), (q_1, fs_ai X 16 (fun _ => 0)), (q_2, fs_ai X 16 (fun _ => 0))]) rfl dX2_init_17 (fun H locs hH => ?_)
  exact fs_vret C hH (q_1, q_2) rfl trivial dX2_init_20
set_option maxHeartbeats 4000000 in
set_option maxRecDepth 100000 in
theorem c_X2_takeIn (l : Launch) (X : fs_X) (sz : Nat) (h0 : Nat) (q1 : Nat) (q2 : Nat) (gg : Nat → Int32) (x : Int32)  : fs_M l X yX2_takeIn cX2_takeIn 3 none ({ frames := 0, cells := 0, slots := 0, locals := 0 }) [.ref h0, .int x] [(h0, .inr (2, [.ref q1, .ref q2])), (q2, fs_ai X 16 gg)] sz (fs_Qv X (fun (_ : Unit) => True) (fun _ => [(h0, .inr (2, [.ref q1, .ref q2])), (q2, fs_ai X 16 (fs_shift gg x))])) 0 0 := by
  refine fs_ofW (by decide) (Nat.le_of_ble_eq_true rfl) ?_
  intro p e s m args below meth c A ls C hH hl
  have C : fs_At X A p s m args meth c cX2_takeIn 3 none RX2 "takeIn" := C
  have hx := C.1
  have hb := C.2.1
  have hown := C.2.2.2.2.1
  have hts := C.2.2.2.2.2.1
  have hl : lv_has ls 3 [(0, .ref h0), (1, .int x)] := hl
  have K_3 : ∀ (n : Nat) (k : Nat), (k ≤ 15) → (k < n) → ∀ (H : Heap) (locs : List Loc), fs_H X A s [(h0, .inr (2, [.ref q1, .ref q2])), (q2, fs_ai X 16 (fs_shk gg k))] H locs → ∀ (ls : Array Slot), lv_has ls 3 [(0, .ref h0), (1, .int x), (2, .int (nI k))] → W p l e ({ frames := 0, cells := 0, slots := 0, locals := 0 }) s m args below meth c H locs 0 0 (MQ below (fs_Qv X (fun (_ : Unit) => True) (fun _ => [(h0, .inr (2, [.ref q1, .ref q2])), (q2, fs_ai X 16 (fs_shift gg x))]) A) args s 0 0 A) (F0 m 3 ls []) := by
    intro n
    induction n with
    | zero => intro k hk hfu; exact absurd hfu (by omega)
    | succ n ih_3 =>
      intro k hk hfu H locs hH ls hl
      refine lv_iload_n hx hb dX2_takeIn_3 rfl (lv_at hl 2 rfl) ?_
      refine lv_if_le (tgt := 27) hx hb dX2_takeIn_4 (by decide) (fun c_1 => ?_) (fun c_1 => ?_)
      · obtain rfl : k = 0 := fs_leT (by omega) c_1
        refine lv_aload_n hx hb dX2_takeIn_27 rfl (lv_at hl 0 rfl) ?_
        refine fs_get C in_2 hH 0 rfl rfl 1 (by decide) mw_26 (v := .ref q2) rfl dX2_takeIn_28 ?_
        refine lv_iconst (v := 0) hx hb dX2_takeIn_31 (by decide) ?_
        refine lv_iload_n hx hb dX2_takeIn_32 rfl (lv_at hl 1 rfl) ?_
        refine fs_iast C hH 1 rfl (k := 0) rfl (by decide) (by decide) (ws' := [(h0, .inr (2, [.ref q1, .ref q2])), (q2, fs_ai X 16 (upd (fs_shk gg 0) 0 x))]) rfl dX2_takeIn_33 (fun H locs hH => ?_)
        have hH : fs_H X A s [(h0, .inr (2, [.ref q1, .ref q2])), (q2, fs_ai X 16 (fs_shift gg x))] _ _ := hH.to (by rw [← fs_shk_0])
        exact fs_vret C hH () rfl trivial dX2_takeIn_34
      · obtain ⟨j, rfl⟩ : ∃ j, k = j + 1 := ⟨k - 1, by have := fs_leF c_1; omega⟩
        refine lv_aload_n hx hb dX2_takeIn_7 rfl (lv_at hl 0 rfl) ?_
        refine fs_get C in_2 hH 0 rfl rfl 1 (by decide) mw_26 (v := .ref q2) rfl dX2_takeIn_8 ?_
        refine lv_iload_n hx hb dX2_takeIn_11 rfl (lv_at hl 2 rfl) ?_
        refine lv_aload_n hx hb dX2_takeIn_12 rfl (lv_at hl 0 rfl) ?_
        refine fs_get C in_2 hH 0 rfl rfl 1 (by decide) mw_26 (v := .ref q2) rfl dX2_takeIn_13 ?_
        refine lv_iload_n hx hb dX2_takeIn_16 rfl (lv_at hl 2 rfl) ?_
        refine lv_iconst (v := 1) hx hb dX2_takeIn_17 (by decide) ?_
        refine lv_isub hx hb dX2_takeIn_18 ?_
        refine fs_iald C hH 1 rfl (k := j) (nI_pred j) (by omega) (by decide) dX2_takeIn_19 ?_
        refine fs_iast C hH 1 rfl (k := (j + 1)) rfl (by omega) (by decide) (ws' := [(h0, .inr (2, [.ref q1, .ref q2])), (q2, fs_ai X 16 (upd (fs_shk gg (j + 1)) (j + 1) ((fs_shk gg (j + 1)) j)))]) rfl dX2_takeIn_20 (fun H locs hH => ?_)
        have hH : fs_H X A s [(h0, .inr (2, [.ref q1, .ref q2])), (q2, fs_ai X 16 (fs_shk gg j))] _ _ := hH.to (by rw [← fs_shk_s gg j (by omega)])
        refine lv_iinc (v := (nI j)) (lv' := [(2, .int (nI j)), (0, .ref h0), (1, .int x)]) hx hb dX2_takeIn_21 hl (k := 2) rfl (pk_m1 j) (by decide) rfl (fun ls hl => ?_)
        refine lv_goto (tgt := 3) hx hb dX2_takeIn_24 (by decide) ?_
        exact ih_3 j (by omega) (by omega) _ _ hH ls (lv_sub hl [1, 2, 0] rfl)
  have hH : fs_H X A s [(h0, .inr (2, [.ref q1, .ref q2])), (q2, fs_ai X 16 gg)] s.heap [] := hH
  refine lv_bipush (v := 15) hx hb dX2_takeIn_0 (by decide) ?_
  have hH : fs_H X A s [(h0, .inr (2, [.ref q1, .ref q2])), (q2, fs_ai X 16 (fs_shk gg 15))] _ _ := hH.to (by rw [fs_shk_15])
  refine lv_istore_n (lv' := [(2, .int 15), (0, .ref h0), (1, .int x)]) hx hb dX2_takeIn_2 rfl hl (by decide) rfl (fun ls hl => ?_)
  exact K_3 16 15 (by omega) (by omega) _ _ hH ls (lv_sub hl [1, 2, 0] rfl)
set_option maxHeartbeats 4000000 in
set_option maxRecDepth 100000 in
theorem c_X2_answerTo (l : Launch) (X : fs_X) (sz : Nat) (h0 : Nat) (q1 : Nat) (q2 : Nat) (ff : Nat → Int32) (gg : Nat → Int32) (x : Int32)  : fs_M l X yX2_answerTo cX2_answerTo 5 (some .int) ({ frames := 2, cells := 0, slots := 0, locals := 38 }) [.ref h0, .int x] [(h0, .inr (2, [.ref q1, .ref q2])), (q1, fs_ai X 16 ff), (q2, fs_ai X 16 gg)] sz (fs_Qi X (fun r (_ : Unit) => r = fs_sat (fs_rd (fs_dot ff (fs_shift gg x) 16) 15) 32767) (fun _ => [(h0, .inr (2, [.ref q1, .ref q2])), (q1, fs_ai X 16 ff), (q2, fs_ai X 16 (fs_shift gg x))])) 0 0 := by
  refine fs_ofW (by decide) (Nat.le_of_ble_eq_true rfl) ?_
  intro p e s m args below meth c A ls C hH hl
  have C : fs_At X A p s m args meth c cX2_answerTo 5 (some .int) RX2 "answerTo" := C
  have hx := C.1
  have hb := C.2.1
  have hown := C.2.2.2.2.1
  have hts := C.2.2.2.2.2.1
  have hl : lv_has ls 5 [(0, .ref h0), (1, .int x)] := hl
  have K_10 : ∀ (n : Nat) (k : Nat), (k ≤ 16) → (16 < k + n) → ∀ (H : Heap) (locs : List Loc), fs_H X A s [(h0, .inr (2, [.ref q1, .ref q2])), (q1, fs_ai X 16 ff), (q2, fs_ai X 16 (fs_shift gg x))] H locs → ∀ (ls : Array Slot), lv_has ls 5 [(0, .ref h0), (1, .int x), (2, .long (fs_dot ff (fs_shift gg x) k)), (4, .int (nI k))] → W p l e ({ frames := 2, cells := 0, slots := 0, locals := 38 }) s m args below meth c H locs 0 0 (MQ below (fs_Qi X (fun r (_ : Unit) => r = fs_sat (fs_rd (fs_dot ff (fs_shift gg x) 16) 15) 32767) (fun _ => [(h0, .inr (2, [.ref q1, .ref q2])), (q1, fs_ai X 16 ff), (q2, fs_ai X 16 (fs_shift gg x))]) A) args s 0 0 A) (F0 m 10 ls []) := by
    intro n
    induction n with
    | zero => intro k hk hfu; exact absurd hfu (by omega)
    | succ n ih_10 =>
      intro k hk hfu H locs hH ls hl
      refine lv_iload hx hb dX2_answerTo_10 (lv_at hl 3 rfl) ?_
      refine lv_bipush (v := 16) hx hb dX2_answerTo_12 (by decide) ?_
      refine lv_icmp_ge (tgt := 43) hx hb dX2_answerTo_14 (by decide) (fun c_1 => ?_) (fun c_1 => ?_)
      · obtain rfl : k = 16 := by have := fs_geT (a := k) (b := 16) (by omega) (by omega) c_1; omega
        refine lv_lload_n hx hb dX2_answerTo_43 rfl (lv_at hl 2 rfl) ?_
        refine lv_bipush (v := 15) hx hb dX2_answerTo_44 (by decide) ?_
        refine fs_cl C hH (wr := [(h0, .inr (2, [.ref q1, .ref q2])), (q1, fs_ai X 16 ff), (q2, fs_ai X 16 (fs_shift gg x))]) [] [0, 1, 2] rfl rfl (by decide) (by decide) (fs_rSN (rest := []) (As := [.long (fs_dot ff (fs_shift gg x) 16), .int 15]) (n := 2) C hH (wc := []) [] (by decide) rfl (c_X4_rounded l X _ (fs_dot ff (fs_shift gg x) 16) 15 ) rfl rfl mw_81 (List.mem_of_getElem? (i := 9) rfl) mw_80 mw_1 (by decide +kernel) ⟨Nat.le_of_ble_eq_true rfl, Nat.le_of_ble_eq_true rfl⟩ rfl hl.1 rfl (Nat.le_of_ble_eq_true rfl) dX2_answerTo_46 ⟨Nat.le_of_ble_eq_true rfl, Nat.le_of_ble_eq_true rfl⟩) (fun r_2 u_3 H locs hr_4 hH => ?_)
        subst hr_4
        have hH : fs_H X A s [(h0, .inr (2, [.ref q1, .ref q2])), (q1, fs_ai X 16 ff), (q2, fs_ai X 16 (fs_shift gg x))] _ _ := hH
        refine fs_ci C hH (wr := [(h0, .inr (2, [.ref q1, .ref q2])), (q1, fs_ai X 16 ff), (q2, fs_ai X 16 (fs_shift gg x))]) [] [0, 1, 2] rfl rfl (by decide) (by decide) (fs_rSN (rest := []) (As := [.long (fs_rd (fs_dot ff (fs_shift gg x) 16) 15)]) (n := 1) C hH (wc := []) [] (by decide) rfl (c_X4_satShort l X _ (fs_rd (fs_dot ff (fs_shift gg x) 16) 15) ) rfl rfl mw_84 (List.mem_of_getElem? (i := 10) rfl) mw_83 mw_1 (by decide +kernel) ⟨Nat.le_of_ble_eq_true rfl, Nat.le_of_ble_eq_true rfl⟩ rfl hl.1 rfl (Nat.le_of_ble_eq_true rfl) dX2_answerTo_49 ⟨Nat.le_of_ble_eq_true rfl, Nat.le_of_ble_eq_true rfl⟩) (fun r_5 u_6 H locs hr_7 hH => ?_)
        subst hr_7
        have hH : fs_H X A s [(h0, .inr (2, [.ref q1, .ref q2])), (q1, fs_ai X 16 ff), (q2, fs_ai X 16 (fs_shift gg x))] _ _ := hH
        exact fs_iret C hH () rfl rfl dX2_answerTo_52
      · have hlt := fs_geF (a := k) (b := 16) (by omega) (by omega) c_1
        refine lv_lload_n hx hb dX2_answerTo_17 rfl (lv_at hl 2 rfl) ?_
        refine lv_aload_n hx hb dX2_answerTo_18 rfl (lv_at hl 0 rfl) ?_
        refine fs_get C in_2 hH 0 rfl rfl 0 (by decide) mw_25 (v := .ref q1) rfl dX2_answerTo_19 ?_
        refine lv_iload hx hb dX2_answerTo_22 (lv_at hl 3 rfl) ?_
        refine fs_iald C hH 1 rfl (k := k) rfl (by omega) (by decide) dX2_answerTo_24 ?_
        refine lv_i2l hx hb dX2_answerTo_25 rfl ?_
        refine lv_aload_n hx hb dX2_answerTo_26 rfl (lv_at hl 0 rfl) ?_
        refine fs_get C in_2 hH 0 rfl rfl 1 (by decide) mw_26 (v := .ref q2) rfl dX2_answerTo_27 ?_
        refine lv_iload hx hb dX2_answerTo_30 (lv_at hl 3 rfl) ?_
        refine fs_iald C hH 2 rfl (k := k) rfl (by omega) (by decide) dX2_answerTo_32 ?_
        refine lv_i2l hx hb dX2_answerTo_33 rfl ?_
        refine lv_lmul hx hb dX2_answerTo_34 ?_
        refine lv_ladd hx hb dX2_answerTo_35 ?_
        refine lv_lstore_n (lv' := [(2, .long ((fs_dot ff (fs_shift gg x) k) + ((Int32.toInt64 (ff k)) * (Int32.toInt64 ((fs_shift gg x) k))))), (0, .ref h0), (1, .int x), (4, .int (nI k))]) hx hb dX2_answerTo_36 rfl hl (by decide) rfl (fun ls hl => ?_)
        refine lv_iinc (v := (nI (k + 1))) (lv' := [(4, .int (nI (k + 1))), (2, .long ((fs_dot ff (fs_shift gg x) k) + ((Int32.toInt64 (ff k)) * (Int32.toInt64 ((fs_shift gg x) k))))), (0, .ref h0), (1, .int x)]) hx hb dX2_answerTo_37 hl (k := 3) rfl (nI_1 k) (by decide) rfl (fun ls hl => ?_)
        refine lv_goto (tgt := 10) hx hb dX2_answerTo_40 (by decide) ?_
        exact ih_10 (k + 1) (by omega) (by omega) _ _ hH ls (lv_sub hl [2, 3, 1, 0] rfl)
  have hH : fs_H X A s [(h0, .inr (2, [.ref q1, .ref q2])), (q1, fs_ai X 16 ff), (q2, fs_ai X 16 gg)] s.heap [] := hH
  refine lv_aload_n hx hb dX2_answerTo_0 rfl (lv_at hl 0 rfl) ?_
  refine lv_iload_n hx hb dX2_answerTo_1 rfl (lv_at hl 1 rfl) ?_
  refine fs_cv C hH (wr := [(q1, fs_ai X 16 ff)]) [0, 2] [1] rfl rfl (by decide) (by decide) (fs_rV (rest := []) (As := [.int x]) (n := 1) (q0 := 0) (ci := 2) C hH (wc := [(h0, .inr (2, [.ref q1, .ref q2])), (q2, fs_ai X 16 gg)]) [0, 2] (by decide) rfl (c_X2_takeIn l X _ h0 q1 q2 gg x ) rfl rfl rfl rfl mw_209 mw_207 mw_208 mw_485 mw_2 (by decide +kernel) ⟨Nat.le_of_ble_eq_true rfl, Nat.le_of_ble_eq_true rfl⟩ rfl hl.1 rfl (Nat.le_of_ble_eq_true rfl) dX2_answerTo_2 ⟨Nat.le_of_ble_eq_true rfl, Nat.le_of_ble_eq_true rfl⟩) (fun u_9 H locs hr_10 hH => ?_)
  have hH : fs_H X A s [(h0, .inr (2, [.ref q1, .ref q2])), (q1, fs_ai X 16 ff), (q2, fs_ai X 16 (fs_shift gg x))] _ _ := hH.sub [1, 0, 2] (by decide) rfl
  refine lv_lconst (v := 0) hx hb dX2_answerTo_5 (by decide) ?_
  refine lv_lstore_n (lv' := [(2, .long 0), (0, .ref h0), (1, .int x)]) hx hb dX2_answerTo_6 rfl hl (by decide) rfl (fun ls hl => ?_)
  refine lv_iconst (v := 0) hx hb dX2_answerTo_7 (by decide) ?_
  refine lv_istore (lv' := [(4, .int 0), (2, .long 0), (0, .ref h0), (1, .int x)]) hx hb dX2_answerTo_8 hl (by decide) rfl (fun ls hl => ?_)
  exact K_10 17 0 (by omega) (by omega) _ _ hH ls (lv_sub hl [2, 3, 1, 0] rfl)
set_option maxHeartbeats 4000000 in
set_option maxRecDepth 100000 in
theorem c_X2_forget (l : Launch) (X : fs_X) (sz : Nat) (h0 : Nat) (q1 : Nat) (q2 : Nat) (gg : Nat → Int32)  : fs_M l X yX2_forget cX2_forget 2 none ({ frames := 0, cells := 0, slots := 0, locals := 0 }) [.ref h0] [(h0, .inr (2, [.ref q1, .ref q2])), (q2, fs_ai X 16 gg)] sz (fs_Qv X (fun (_ : Unit) => True) (fun _ => [(h0, .inr (2, [.ref q1, .ref q2])), (q2, fs_ai X 16 (fs_zero gg 16))])) 0 0 := by
  refine fs_ofW (by decide) (Nat.le_of_ble_eq_true rfl) ?_
  intro p e s m args below meth c A ls C hH hl
  have C : fs_At X A p s m args meth c cX2_forget 2 none RX2 "forget" := C
  have hx := C.1
  have hb := C.2.1
  have hown := C.2.2.2.2.1
  have hts := C.2.2.2.2.2.1
  have hl : lv_has ls 2 [(0, .ref h0)] := hl
  have K_2 : ∀ (n : Nat) (k : Nat), (k ≤ 16) → (16 < k + n) → ∀ (H : Heap) (locs : List Loc), fs_H X A s [(h0, .inr (2, [.ref q1, .ref q2])), (q2, fs_ai X 16 (fs_zero gg k))] H locs → ∀ (ls : Array Slot), lv_has ls 2 [(0, .ref h0), (1, .int (nI k))] → W p l e ({ frames := 0, cells := 0, slots := 0, locals := 0 }) s m args below meth c H locs 0 0 (MQ below (fs_Qv X (fun (_ : Unit) => True) (fun _ => [(h0, .inr (2, [.ref q1, .ref q2])), (q2, fs_ai X 16 (fs_zero gg 16))]) A) args s 0 0 A) (F0 m 2 ls []) := by
    intro n
    induction n with
    | zero => intro k hk hfu; exact absurd hfu (by omega)
    | succ n ih_2 =>
      intro k hk hfu H locs hH ls hl
      refine lv_iload_n hx hb dX2_forget_2 rfl (lv_at hl 1 rfl) ?_
      refine lv_bipush (v := 16) hx hb dX2_forget_3 (by decide) ?_
      refine lv_icmp_ge (tgt := 21) hx hb dX2_forget_5 (by decide) (fun c_1 => ?_) (fun c_1 => ?_)
      · obtain rfl : k = 16 := by have := fs_geT (a := k) (b := 16) (by omega) (by omega) c_1; omega
        exact fs_vret C hH () rfl trivial dX2_forget_21
      · have hlt := fs_geF (a := k) (b := 16) (by omega) (by omega) c_1
        refine lv_aload_n hx hb dX2_forget_8 rfl (lv_at hl 0 rfl) ?_
        refine fs_get C in_2 hH 0 rfl rfl 1 (by decide) mw_26 (v := .ref q2) rfl dX2_forget_9 ?_
        refine lv_iload_n hx hb dX2_forget_12 rfl (lv_at hl 1 rfl) ?_
        refine lv_iconst (v := 0) hx hb dX2_forget_13 (by decide) ?_
        refine fs_iast C hH 1 rfl (k := k) rfl (by omega) (by decide) (ws' := [(h0, .inr (2, [.ref q1, .ref q2])), (q2, fs_ai X 16 (upd (fs_zero gg k) k 0))]) rfl dX2_forget_14 (fun H locs hH => ?_)
        have hH : fs_H X A s [(h0, .inr (2, [.ref q1, .ref q2])), (q2, fs_ai X 16 (fs_zero gg (k + 1)))] _ _ := hH.to (by rw [← fs_zero_s])
        refine lv_iinc (v := (nI (k + 1))) (lv' := [(1, .int (nI (k + 1))), (0, .ref h0)]) hx hb dX2_forget_15 hl (k := 1) rfl (nI_1 k) (by decide) rfl (fun ls hl => ?_)
        refine lv_goto (tgt := 2) hx hb dX2_forget_18 (by decide) ?_
        exact ih_2 (k + 1) (by omega) (by omega) _ _ hH ls (lv_sub hl [1, 0] rfl)
  have hH : fs_H X A s [(h0, .inr (2, [.ref q1, .ref q2])), (q2, fs_ai X 16 gg)] s.heap [] := hH
  refine lv_iconst (v := 0) hx hb dX2_forget_0 (by decide) ?_
  have hH : fs_H X A s [(h0, .inr (2, [.ref q1, .ref q2])), (q2, fs_ai X 16 (fs_zero gg 0))] _ _ := hH.to (by rw [fs_zero_0])
  refine lv_istore_n (lv' := [(1, .int 0), (0, .ref h0)]) hx hb dX2_forget_1 rfl hl (by decide) rfl (fun ls hl => ?_)
  exact K_2 17 0 (by omega) (by omega) _ _ hH ls (lv_sub hl [1, 0] rfl)
set_option maxHeartbeats 4000000 in
set_option maxRecDepth 100000 in
theorem c_X1_init (l : Launch) (X : fs_X) (sz : Nat) (h0 : Nat)  : fs_M l X yX1_init cX1_init 1 none ({ frames := 1, cells := 1, slots := 5, locals := 12 }) [.ref h0] [(h0, .inr (1, [.null, .int 0, .int 0, .int 0, .int 0]))] sz (fs_Qv X (fun (_ : Nat) => True) (fun u => [(h0, .inr (1, [.ref u, .int 0, .int 0, .int 0, .int 0])), (u, fs_ai X 5 (upd (fun _ => 0) 0 16384))])) 1 5 := by
  refine fs_ofW (by decide) (Nat.le_of_ble_eq_true rfl) ?_
  intro p e s m args below meth c A ls C hH hl
  have C : fs_At X A p s m args meth c cX1_init 1 none RX1 "<init>" := C
  have hx := C.1
  have hb := C.2.1
  have hown := C.2.2.2.2.1
  have hts := C.2.2.2.2.2.1
  have hl : lv_has ls 1 [(0, .ref h0)] := hl
  have hH : fs_H X A s [(h0, .inr (1, [.null, .int 0, .int 0, .int 0, .int 0]))] s.heap [] := hH
  refine lv_aload_n hx hb dX1_init_0 rfl (lv_at hl 0 rfl) ?_
  refine W.objInit hx hb hown (hts _ mw_34) (hts _ mw_18) (hts _ mw_19) rfl (by rw [C.2.2.2.1]; exact hl.1) rfl dX1_init_1 (Nat.le_of_ble_eq_true rfl) (Nat.le_of_ble_eq_true rfl) ?_
  refine W.eq (g2 := F0 m 4 ls []) rfl ?_
  refine lv_aload_n hx hb dX1_init_4 rfl (lv_at hl 0 rfl) ?_
  refine lv_iconst (v := 5) hx hb dX1_init_5 (by decide) ?_
  refine fs_newI C hH (N := 5) rfl (by decide) (Nat.le_of_ble_eq_true rfl) (Nat.le_of_ble_eq_true rfl) mw_29 dX1_init_6 (fun q_1 H hH => ?_)
  have hH : fs_H X A s [(h0, .inr (1, [.null, .int 0, .int 0, .int 0, .int 0])), (q_1, fs_ai X 5 (fun _ => 0))] _ _ := hH
  refine fs_putF C in_1 tyX1 tyX1_ok nmX1 hH 0 rfl rfl 0 (by decide) mw_35 rfl rfl rfl rfl (Nat.le_of_ble_eq_true rfl) (ws' := [(h0, .inr (1, [.ref q_1, .int 0, .int 0, .int 0, .int 0])), (q_1, fs_ai X 5 (fun _ => 0))]) rfl dX1_init_8 (fun H locs hH => ?_)
  refine lv_aload_n hx hb dX1_init_11 rfl (lv_at hl 0 rfl) ?_
  refine fs_get C in_1 hH 0 rfl rfl 0 (by decide) mw_35 (v := .ref q_1) rfl dX1_init_12 ?_
  refine lv_iconst (v := 0) hx hb dX1_init_15 (by decide) ?_
  refine lv_sipush (v := 16384) hx hb dX1_init_16 (by decide) ?_
  refine fs_iast C hH 1 rfl (k := 0) rfl (by decide) (by decide) (ws' := [(h0, .inr (1, [.ref q_1, .int 0, .int 0, .int 0, .int 0])), (q_1, fs_ai X 5 (upd (fun _ => 0) 0 16384))]) rfl dX1_init_19 (fun H locs hH => ?_)
  exact fs_vret C hH q_1 rfl trivial dX1_init_20
set_option maxHeartbeats 4000000 in
set_option maxRecDepth 100000 in
theorem c_X1_answerTo (l : Launch) (X : fs_X) (sz : Nat) (h0 : Nat) (q1 : Nat) (cf : Nat → Int32) (x1 : Int32) (x2 : Int32) (y1 : Int32) (y2 : Int32) (x : Int32)  : fs_M l X yX1_answerTo cX1_answerTo 5 (some .int) ({ frames := 2, cells := 0, slots := 0, locals := 38 }) [.ref h0, .int x] [(h0, .inr (1, [.ref q1, .int x1, .int x2, .int y1, .int y2])), (q1, fs_ai X 5 cf)] sz (fs_Qi X (fun r (_ : Unit) => r = fs_st cf x1 x2 y1 y2 x) (fun _ => [(h0, .inr (1, [.ref q1, .int x, .int x1, .int (fs_st cf x1 x2 y1 y2 x), .int y1])), (q1, fs_ai X 5 cf)])) 0 0 := by
  refine fs_ofW (by decide) (Nat.le_of_ble_eq_true rfl) ?_
  intro p e s m args below meth c A ls C hH hl
  have C : fs_At X A p s m args meth c cX1_answerTo 5 (some .int) RX1 "answerTo" := C
  have hx := C.1
  have hb := C.2.1
  have hown := C.2.2.2.2.1
  have hts := C.2.2.2.2.2.1
  have hl : lv_has ls 5 [(0, .ref h0), (1, .int x)] := hl
  have hH : fs_H X A s [(h0, .inr (1, [.ref q1, .int x1, .int x2, .int y1, .int y2])), (q1, fs_ai X 5 cf)] s.heap [] := hH
  refine lv_aload_n hx hb dX1_answerTo_0 rfl (lv_at hl 0 rfl) ?_
  refine fs_get C in_1 hH 0 rfl rfl 0 (by decide) mw_35 (v := .ref q1) rfl dX1_answerTo_1 ?_
  refine lv_iconst (v := 0) hx hb dX1_answerTo_4 (by decide) ?_
  refine fs_iald C hH 1 rfl (k := 0) rfl (by decide) (by decide) dX1_answerTo_5 ?_
  refine lv_i2l hx hb dX1_answerTo_6 rfl ?_
  refine lv_iload_n hx hb dX1_answerTo_7 rfl (lv_at hl 1 rfl) ?_
  refine lv_i2l hx hb dX1_answerTo_8 rfl ?_
  refine lv_lmul hx hb dX1_answerTo_9 ?_
  refine lv_lstore_n (lv' := [(2, .long ((Int32.toInt64 (cf 0)) * (Int32.toInt64 x))), (0, .ref h0), (1, .int x)]) hx hb dX1_answerTo_10 rfl hl (by decide) rfl (fun ls hl => ?_)
  refine lv_lload_n hx hb dX1_answerTo_11 rfl (lv_at hl 0 rfl) ?_
  refine lv_aload_n hx hb dX1_answerTo_12 rfl (lv_at hl 1 rfl) ?_
  refine fs_get C in_1 hH 0 rfl rfl 0 (by decide) mw_35 (v := .ref q1) rfl dX1_answerTo_13 ?_
  refine lv_iconst (v := 1) hx hb dX1_answerTo_16 (by decide) ?_
  refine fs_iald C hH 1 rfl (k := 1) rfl (by decide) (by decide) dX1_answerTo_17 ?_
  refine lv_i2l hx hb dX1_answerTo_18 rfl ?_
  refine lv_aload_n hx hb dX1_answerTo_19 rfl (lv_at hl 1 rfl) ?_
  refine fs_get C in_1 hH 0 rfl rfl 1 (by decide) mw_36 (v := .int x1) rfl dX1_answerTo_20 ?_
  refine lv_i2l hx hb dX1_answerTo_23 rfl ?_
  refine lv_lmul hx hb dX1_answerTo_24 ?_
  refine lv_ladd hx hb dX1_answerTo_25 ?_
  refine lv_lstore_n (lv' := [(2, .long (((Int32.toInt64 (cf 0)) * (Int32.toInt64 x)) + ((Int32.toInt64 (cf 1)) * (Int32.toInt64 x1)))), (0, .ref h0), (1, .int x)]) hx hb dX1_answerTo_26 rfl hl (by decide) rfl (fun ls hl => ?_)
  refine lv_lload_n hx hb dX1_answerTo_27 rfl (lv_at hl 0 rfl) ?_
  refine lv_aload_n hx hb dX1_answerTo_28 rfl (lv_at hl 1 rfl) ?_
  refine fs_get C in_1 hH 0 rfl rfl 0 (by decide) mw_35 (v := .ref q1) rfl dX1_answerTo_29 ?_
  refine lv_iconst (v := 2) hx hb dX1_answerTo_32 (by decide) ?_
  refine fs_iald C hH 1 rfl (k := 2) rfl (by decide) (by decide) dX1_answerTo_33 ?_
  refine lv_i2l hx hb dX1_answerTo_34 rfl ?_
  refine lv_aload_n hx hb dX1_answerTo_35 rfl (lv_at hl 1 rfl) ?_
  refine fs_get C in_1 hH 0 rfl rfl 2 (by decide) mw_37 (v := .int x2) rfl dX1_answerTo_36 ?_
  refine lv_i2l hx hb dX1_answerTo_39 rfl ?_
  refine lv_lmul hx hb dX1_answerTo_40 ?_
  refine lv_ladd hx hb dX1_answerTo_41 ?_
  refine lv_lstore_n (lv' := [(2, .long ((((Int32.toInt64 (cf 0)) * (Int32.toInt64 x)) + ((Int32.toInt64 (cf 1)) * (Int32.toInt64 x1))) + ((Int32.toInt64 (cf 2)) * (Int32.toInt64 x2)))), (0, .ref h0), (1, .int x)]) hx hb dX1_answerTo_42 rfl hl (by decide) rfl (fun ls hl => ?_)
  refine lv_lload_n hx hb dX1_answerTo_43 rfl (lv_at hl 0 rfl) ?_
  refine lv_aload_n hx hb dX1_answerTo_44 rfl (lv_at hl 1 rfl) ?_
  refine fs_get C in_1 hH 0 rfl rfl 0 (by decide) mw_35 (v := .ref q1) rfl dX1_answerTo_45 ?_
  refine lv_iconst (v := 3) hx hb dX1_answerTo_48 (by decide) ?_
  refine fs_iald C hH 1 rfl (k := 3) rfl (by decide) (by decide) dX1_answerTo_49 ?_
  refine lv_i2l hx hb dX1_answerTo_50 rfl ?_
  refine lv_aload_n hx hb dX1_answerTo_51 rfl (lv_at hl 1 rfl) ?_
  refine fs_get C in_1 hH 0 rfl rfl 3 (by decide) mw_38 (v := .int y1) rfl dX1_answerTo_52 ?_
  refine lv_i2l hx hb dX1_answerTo_55 rfl ?_
  refine lv_lmul hx hb dX1_answerTo_56 ?_
  refine lv_lsub hx hb dX1_answerTo_57 ?_
  refine lv_lstore_n (lv' := [(2, .long (((((Int32.toInt64 (cf 0)) * (Int32.toInt64 x)) + ((Int32.toInt64 (cf 1)) * (Int32.toInt64 x1))) + ((Int32.toInt64 (cf 2)) * (Int32.toInt64 x2))) - ((Int32.toInt64 (cf 3)) * (Int32.toInt64 y1)))), (0, .ref h0), (1, .int x)]) hx hb dX1_answerTo_58 rfl hl (by decide) rfl (fun ls hl => ?_)
  refine lv_lload_n hx hb dX1_answerTo_59 rfl (lv_at hl 0 rfl) ?_
  refine lv_aload_n hx hb dX1_answerTo_60 rfl (lv_at hl 1 rfl) ?_
  refine fs_get C in_1 hH 0 rfl rfl 0 (by decide) mw_35 (v := .ref q1) rfl dX1_answerTo_61 ?_
  refine lv_iconst (v := 4) hx hb dX1_answerTo_64 (by decide) ?_
  refine fs_iald C hH 1 rfl (k := 4) rfl (by decide) (by decide) dX1_answerTo_65 ?_
  refine lv_i2l hx hb dX1_answerTo_66 rfl ?_
  refine lv_aload_n hx hb dX1_answerTo_67 rfl (lv_at hl 1 rfl) ?_
  refine fs_get C in_1 hH 0 rfl rfl 4 (by decide) mw_39 (v := .int y2) rfl dX1_answerTo_68 ?_
  refine lv_i2l hx hb dX1_answerTo_71 rfl ?_
  refine lv_lmul hx hb dX1_answerTo_72 ?_
  refine lv_lsub hx hb dX1_answerTo_73 ?_
  refine lv_lstore_n (lv' := [(2, .long ((((((Int32.toInt64 (cf 0)) * (Int32.toInt64 x)) + ((Int32.toInt64 (cf 1)) * (Int32.toInt64 x1))) + ((Int32.toInt64 (cf 2)) * (Int32.toInt64 x2))) - ((Int32.toInt64 (cf 3)) * (Int32.toInt64 y1))) - ((Int32.toInt64 (cf 4)) * (Int32.toInt64 y2)))), (0, .ref h0), (1, .int x)]) hx hb dX1_answerTo_74 rfl hl (by decide) rfl (fun ls hl => ?_)
  refine lv_lload_n hx hb dX1_answerTo_75 rfl (lv_at hl 0 rfl) ?_
  refine lv_bipush (v := 14) hx hb dX1_answerTo_76 (by decide) ?_
  refine fs_cl C hH (wr := [(h0, .inr (1, [.ref q1, .int x1, .int x2, .int y1, .int y2])), (q1, fs_ai X 5 cf)]) [] [0, 1] rfl rfl (by decide) (by decide) (fs_rSN (rest := []) (As := [.long ((((((Int32.toInt64 (cf 0)) * (Int32.toInt64 x)) + ((Int32.toInt64 (cf 1)) * (Int32.toInt64 x1))) + ((Int32.toInt64 (cf 2)) * (Int32.toInt64 x2))) - ((Int32.toInt64 (cf 3)) * (Int32.toInt64 y1))) - ((Int32.toInt64 (cf 4)) * (Int32.toInt64 y2))), .int 14]) (n := 2) C hH (wc := []) [] (by decide) rfl (c_X4_rounded l X _ ((((((Int32.toInt64 (cf 0)) * (Int32.toInt64 x)) + ((Int32.toInt64 (cf 1)) * (Int32.toInt64 x1))) + ((Int32.toInt64 (cf 2)) * (Int32.toInt64 x2))) - ((Int32.toInt64 (cf 3)) * (Int32.toInt64 y1))) - ((Int32.toInt64 (cf 4)) * (Int32.toInt64 y2))) 14 ) rfl rfl mw_81 (List.mem_of_getElem? (i := 12) rfl) mw_80 mw_1 (by decide +kernel) ⟨Nat.le_of_ble_eq_true rfl, Nat.le_of_ble_eq_true rfl⟩ rfl hl.1 rfl (Nat.le_of_ble_eq_true rfl) dX1_answerTo_78 ⟨Nat.le_of_ble_eq_true rfl, Nat.le_of_ble_eq_true rfl⟩) (fun r_1 u_2 H locs hr_3 hH => ?_)
  subst hr_3
  have hH : fs_H X A s [(h0, .inr (1, [.ref q1, .int x1, .int x2, .int y1, .int y2])), (q1, fs_ai X 5 cf)] _ _ := hH
  refine fs_ci C hH (wr := [(h0, .inr (1, [.ref q1, .int x1, .int x2, .int y1, .int y2])), (q1, fs_ai X 5 cf)]) [] [0, 1] rfl rfl (by decide) (by decide) (fs_rSN (rest := []) (As := [.long (fs_rd ((((((Int32.toInt64 (cf 0)) * (Int32.toInt64 x)) + ((Int32.toInt64 (cf 1)) * (Int32.toInt64 x1))) + ((Int32.toInt64 (cf 2)) * (Int32.toInt64 x2))) - ((Int32.toInt64 (cf 3)) * (Int32.toInt64 y1))) - ((Int32.toInt64 (cf 4)) * (Int32.toInt64 y2))) 14)]) (n := 1) C hH (wc := []) [] (by decide) rfl (c_X4_satShort l X _ (fs_rd ((((((Int32.toInt64 (cf 0)) * (Int32.toInt64 x)) + ((Int32.toInt64 (cf 1)) * (Int32.toInt64 x1))) + ((Int32.toInt64 (cf 2)) * (Int32.toInt64 x2))) - ((Int32.toInt64 (cf 3)) * (Int32.toInt64 y1))) - ((Int32.toInt64 (cf 4)) * (Int32.toInt64 y2))) 14) ) rfl rfl mw_84 (List.mem_of_getElem? (i := 13) rfl) mw_83 mw_1 (by decide +kernel) ⟨Nat.le_of_ble_eq_true rfl, Nat.le_of_ble_eq_true rfl⟩ rfl hl.1 rfl (Nat.le_of_ble_eq_true rfl) dX1_answerTo_81 ⟨Nat.le_of_ble_eq_true rfl, Nat.le_of_ble_eq_true rfl⟩) (fun r_4 u_5 H locs hr_6 hH => ?_)
  subst hr_6
  have hH : fs_H X A s [(h0, .inr (1, [.ref q1, .int x1, .int x2, .int y1, .int y2])), (q1, fs_ai X 5 cf)] _ _ := hH
  refine fs_topi (y := fs_st cf x1 x2 y1 y2 x) rfl ?_
  refine lv_istore (lv' := [(4, .int (fs_st cf x1 x2 y1 y2 x)), (2, .long ((((((Int32.toInt64 (cf 0)) * (Int32.toInt64 x)) + ((Int32.toInt64 (cf 1)) * (Int32.toInt64 x1))) + ((Int32.toInt64 (cf 2)) * (Int32.toInt64 x2))) - ((Int32.toInt64 (cf 3)) * (Int32.toInt64 y1))) - ((Int32.toInt64 (cf 4)) * (Int32.toInt64 y2)))), (0, .ref h0), (1, .int x)]) hx hb dX1_answerTo_84 hl (by decide) rfl (fun ls hl => ?_)
  refine lv_aload_n hx hb dX1_answerTo_86 rfl (lv_at hl 2 rfl) ?_
  refine lv_aload_n hx hb dX1_answerTo_87 rfl (lv_at hl 2 rfl) ?_
  refine fs_get C in_1 hH 0 rfl rfl 1 (by decide) mw_36 (v := .int x1) rfl dX1_answerTo_88 ?_
  refine fs_put C in_1 tyX1 tyX1_ok nmX1 hH 0 rfl rfl 2 (by decide) mw_37 rfl rfl rfl (Nat.le_of_ble_eq_true rfl) (ws' := [(h0, .inr (1, [.ref q1, .int x1, .int x1, .int y1, .int y2])), (q1, fs_ai X 5 cf)]) rfl dX1_answerTo_91 (fun H locs hH => ?_)
  refine lv_aload_n hx hb dX1_answerTo_94 rfl (lv_at hl 2 rfl) ?_
  refine lv_iload_n hx hb dX1_answerTo_95 rfl (lv_at hl 3 rfl) ?_
  refine fs_put C in_1 tyX1 tyX1_ok nmX1 hH 0 rfl rfl 1 (by decide) mw_36 rfl rfl rfl (Nat.le_of_ble_eq_true rfl) (ws' := [(h0, .inr (1, [.ref q1, .int x, .int x1, .int y1, .int y2])), (q1, fs_ai X 5 cf)]) rfl dX1_answerTo_96 (fun H locs hH => ?_)
  refine lv_aload_n hx hb dX1_answerTo_99 rfl (lv_at hl 2 rfl) ?_
  refine lv_aload_n hx hb dX1_answerTo_100 rfl (lv_at hl 2 rfl) ?_
  refine fs_get C in_1 hH 0 rfl rfl 3 (by decide) mw_38 (v := .int y1) rfl dX1_answerTo_101 ?_
  refine fs_put C in_1 tyX1 tyX1_ok nmX1 hH 0 rfl rfl 4 (by decide) mw_39 rfl rfl rfl (Nat.le_of_ble_eq_true rfl) (ws' := [(h0, .inr (1, [.ref q1, .int x, .int x1, .int y1, .int y1])), (q1, fs_ai X 5 cf)]) rfl dX1_answerTo_104 (fun H locs hH => ?_)
  refine lv_aload_n hx hb dX1_answerTo_107 rfl (lv_at hl 2 rfl) ?_
  refine lv_iload hx hb dX1_answerTo_108 (lv_at hl 0 rfl) ?_
  refine fs_put C in_1 tyX1 tyX1_ok nmX1 hH 0 rfl rfl 3 (by decide) mw_38 rfl rfl rfl (Nat.le_of_ble_eq_true rfl) (ws' := [(h0, .inr (1, [.ref q1, .int x, .int x1, .int (fs_st cf x1 x2 y1 y2 x), .int y1])), (q1, fs_ai X 5 cf)]) rfl dX1_answerTo_110 (fun H locs hH => ?_)
  refine lv_iload hx hb dX1_answerTo_113 (lv_at hl 0 rfl) ?_
  exact fs_iret C hH () rfl rfl dX1_answerTo_115
set_option maxHeartbeats 4000000 in
set_option maxRecDepth 100000 in
theorem c_X1_forget (l : Launch) (X : fs_X) (sz : Nat) (h0 : Nat) (q1 : Nat) (x1 : Int32) (x2 : Int32) (y1 : Int32) (y2 : Int32)  : fs_M l X yX1_forget cX1_forget 1 none ({ frames := 0, cells := 0, slots := 0, locals := 0 }) [.ref h0] [(h0, .inr (1, [.ref q1, .int x1, .int x2, .int y1, .int y2]))] sz (fs_Qv X (fun (_ : Unit) => True) (fun _ => [(h0, .inr (1, [.ref q1, .int 0, .int 0, .int 0, .int 0]))])) 0 0 := by
  refine fs_ofW (by decide) (Nat.le_of_ble_eq_true rfl) ?_
  intro p e s m args below meth c A ls C hH hl
  have C : fs_At X A p s m args meth c cX1_forget 1 none RX1 "forget" := C
  have hx := C.1
  have hb := C.2.1
  have hown := C.2.2.2.2.1
  have hts := C.2.2.2.2.2.1
  have hl : lv_has ls 1 [(0, .ref h0)] := hl
  have hH : fs_H X A s [(h0, .inr (1, [.ref q1, .int x1, .int x2, .int y1, .int y2]))] s.heap [] := hH
  refine lv_aload_n hx hb dX1_forget_0 rfl (lv_at hl 0 rfl) ?_
  refine lv_iconst (v := 0) hx hb dX1_forget_1 (by decide) ?_
  refine fs_put C in_1 tyX1 tyX1_ok nmX1 hH 0 rfl rfl 1 (by decide) mw_36 rfl rfl rfl (Nat.le_of_ble_eq_true rfl) (ws' := [(h0, .inr (1, [.ref q1, .int 0, .int x2, .int y1, .int y2]))]) rfl dX1_forget_2 (fun H locs hH => ?_)
  refine lv_aload_n hx hb dX1_forget_5 rfl (lv_at hl 0 rfl) ?_
  refine lv_iconst (v := 0) hx hb dX1_forget_6 (by decide) ?_
  refine fs_put C in_1 tyX1 tyX1_ok nmX1 hH 0 rfl rfl 2 (by decide) mw_37 rfl rfl rfl (Nat.le_of_ble_eq_true rfl) (ws' := [(h0, .inr (1, [.ref q1, .int 0, .int 0, .int y1, .int y2]))]) rfl dX1_forget_7 (fun H locs hH => ?_)
  refine lv_aload_n hx hb dX1_forget_10 rfl (lv_at hl 0 rfl) ?_
  refine lv_iconst (v := 0) hx hb dX1_forget_11 (by decide) ?_
  refine fs_put C in_1 tyX1 tyX1_ok nmX1 hH 0 rfl rfl 3 (by decide) mw_38 rfl rfl rfl (Nat.le_of_ble_eq_true rfl) (ws' := [(h0, .inr (1, [.ref q1, .int 0, .int 0, .int 0, .int y2]))]) rfl dX1_forget_12 (fun H locs hH => ?_)
  refine lv_aload_n hx hb dX1_forget_15 rfl (lv_at hl 0 rfl) ?_
  refine lv_iconst (v := 0) hx hb dX1_forget_16 (by decide) ?_
  refine fs_put C in_1 tyX1 tyX1_ok nmX1 hH 0 rfl rfl 4 (by decide) mw_39 rfl rfl rfl (Nat.le_of_ble_eq_true rfl) (ws' := [(h0, .inr (1, [.ref q1, .int 0, .int 0, .int 0, .int 0]))]) rfl dX1_forget_17 (fun H locs hH => ?_)
  exact fs_vret C hH () rfl trivial dX1_forget_20
set_option maxHeartbeats 4000000 in
set_option maxRecDepth 100000 in
theorem c_X3_init (l : Launch) (X : fs_X) (sz : Nat) (h0 : Nat) (t : fs_T)  : fs_M l X yX3_init cX3_init 1 none ({ frames := 1, cells := 0, slots := 0, locals := 12 }) [.ref h0] [(h0, .inr (3, [.long t.1, .long t.2.1, .long t.2.2]))] sz (fs_Qv X (fun (_ : Unit) => True) (fun _ => [(h0, .inr (3, [.long (t).1, .long (t).2.1, .long (t).2.2]))])) 0 0 := by
  refine fs_ofW (by decide) (Nat.le_of_ble_eq_true rfl) ?_
  intro p e s m args below meth c A ls C hH hl
  have C : fs_At X A p s m args meth c cX3_init 1 none RX3 "<init>" := C
  have hx := C.1
  have hb := C.2.1
  have hown := C.2.2.2.2.1
  have hts := C.2.2.2.2.2.1
  have hl : lv_has ls 1 [(0, .ref h0)] := hl
  have hH : fs_H X A s [(h0, .inr (3, [.long t.1, .long t.2.1, .long t.2.2]))] s.heap [] := hH
  refine lv_aload_n hx hb dX3_init_0 rfl (lv_at hl 0 rfl) ?_
  refine W.objInit hx hb hown (hts _ mw_60) (hts _ mw_18) (hts _ mw_19) rfl (by rw [C.2.2.2.1]; exact hl.1) rfl dX3_init_1 (Nat.le_of_ble_eq_true rfl) (Nat.le_of_ble_eq_true rfl) ?_
  refine W.eq (g2 := F0 m 4 ls []) rfl ?_
  exact fs_vret C hH () rfl trivial dX3_init_4
set_option maxHeartbeats 4000000 in
set_option maxRecDepth 100000 in
theorem c_X3_turn (l : Launch) (X : fs_X) (sz : Nat) (h0 : Nat) (t : fs_T) (k : Nat) (up : Int32) (hk : k < 30) : fs_M l X yX3_turn cX3_turn 7 none ({ frames := 0, cells := 0, slots := 0, locals := 0 }) [.ref h0, .int (nI k), .int up] [(h0, .inr (3, [.long t.1, .long t.2.1, .long t.2.2]))] sz (fs_Qv X (fun (_ : Unit) => True) (fun _ => [(h0, .inr (3, [.long (fs_tn k up t).1, .long (fs_tn k up t).2.1, .long (fs_tn k up t).2.2]))])) 0 0 := by
  refine fs_ofW (by decide) (Nat.le_of_ble_eq_true rfl) ?_
  intro p e s m args below meth c A ls C hH hl
  have C : fs_At X A p s m args meth c cX3_turn 7 none RX3 "turn" := C
  have hx := C.1
  have hb := C.2.1
  have hown := C.2.2.2.2.1
  have hts := C.2.2.2.2.2.1
  have hl : lv_has ls 7 [(0, .ref h0), (1, .int (nI k)), (2, .int up)] := hl
  have hH : fs_H X A s [(h0, .inr (3, [.long t.1, .long t.2.1, .long t.2.2]))] s.heap [] := hH
  refine lv_aload_n hx hb dX3_turn_0 rfl (lv_at hl 0 rfl) ?_
  refine fs_get C in_3 hH 0 rfl rfl 0 (by decide) mw_61 (v := .long t.1) rfl dX3_turn_1 ?_
  refine lv_iload_n hx hb dX3_turn_4 rfl (lv_at hl 1 rfl) ?_
  refine lv_lshr hx hb dX3_turn_5 rfl ?_
  refine lv_lstore_n (lv' := [(3, .long (t.1 >>> (Int32.toInt64 (nI k) &&& 63))), (0, .ref h0), (1, .int (nI k)), (2, .int up)]) hx hb dX3_turn_6 rfl hl (by decide) rfl (fun ls hl => ?_)
  refine lv_aload_n hx hb dX3_turn_7 rfl (lv_at hl 1 rfl) ?_
  refine fs_get C in_3 hH 0 rfl rfl 1 (by decide) mw_62 (v := .long t.2.1) rfl dX3_turn_8 ?_
  refine lv_iload_n hx hb dX3_turn_11 rfl (lv_at hl 2 rfl) ?_
  refine lv_lshr hx hb dX3_turn_12 rfl ?_
  refine lv_lstore (lv' := [(5, .long (t.2.1 >>> (Int32.toInt64 (nI k) &&& 63))), (3, .long (t.1 >>> (Int32.toInt64 (nI k) &&& 63))), (0, .ref h0), (1, .int (nI k)), (2, .int up)]) hx hb dX3_turn_13 hl (by decide) rfl (fun ls hl => ?_)
  refine lv_iload_n hx hb dX3_turn_15 rfl (lv_at hl 4 rfl) ?_
  refine lv_if_eq (tgt := 58) hx hb dX3_turn_16 (by decide) (fun c_1 => ?_) (fun c_1 => ?_)
  · refine lv_aload_n hx hb dX3_turn_58 rfl (lv_at hl 2 rfl) ?_
    refine lv_dup hx hb dX3_turn_59 rfl ?_
    refine fs_get C in_3 hH 0 rfl rfl 0 (by decide) mw_61 (v := .long t.1) rfl dX3_turn_60 ?_
    refine lv_lload hx hb dX3_turn_63 (lv_at hl 0 rfl) ?_
    refine lv_ladd hx hb dX3_turn_65 ?_
    refine fs_put C in_3 tyX3 tyX3_ok nmX3 hH 0 rfl rfl 0 (by decide) mw_61 rfl rfl rfl (Nat.le_of_ble_eq_true rfl) (ws' := [(h0, .inr (3, [.long (t.1 + (t.2.1 >>> (Int32.toInt64 (nI k) &&& 63))), .long t.2.1, .long t.2.2]))]) rfl dX3_turn_66 (fun H locs hH => ?_)
    refine lv_aload_n hx hb dX3_turn_69 rfl (lv_at hl 2 rfl) ?_
    refine lv_dup hx hb dX3_turn_70 rfl ?_
    refine fs_get C in_3 hH 0 rfl rfl 1 (by decide) mw_62 (v := .long t.2.1) rfl dX3_turn_71 ?_
    refine lv_lload_n hx hb dX3_turn_74 rfl (lv_at hl 1 rfl) ?_
    refine lv_lsub hx hb dX3_turn_75 ?_
    refine fs_put C in_3 tyX3 tyX3_ok nmX3 hH 0 rfl rfl 1 (by decide) mw_62 rfl rfl rfl (Nat.le_of_ble_eq_true rfl) (ws' := [(h0, .inr (3, [.long (t.1 + (t.2.1 >>> (Int32.toInt64 (nI k) &&& 63))), .long (t.2.1 - (t.1 >>> (Int32.toInt64 (nI k) &&& 63))), .long t.2.2]))]) rfl dX3_turn_76 (fun H locs hH => ?_)
    refine lv_aload_n hx hb dX3_turn_79 rfl (lv_at hl 2 rfl) ?_
    refine lv_dup hx hb dX3_turn_80 rfl ?_
    refine fs_get C in_3 hH 0 rfl rfl 2 (by decide) mw_63 (v := .long t.2.2) rfl dX3_turn_81 ?_
    refine fs_getA C hH mw_115 dX3_turn_84 ?_
    refine lv_iload_n hx hb dX3_turn_87 rfl (lv_at hl 3 rfl) ?_
    refine fs_tabA C hH (k := k) rfl (by omega) dX3_turn_88 ?_
    refine lv_i2l hx hb dX3_turn_89 rfl ?_
    refine lv_ladd hx hb dX3_turn_90 ?_
    refine fs_put C in_3 tyX3 tyX3_ok nmX3 hH 0 rfl rfl 2 (by decide) mw_63 rfl rfl rfl (Nat.le_of_ble_eq_true rfl) (ws' := [(h0, .inr (3, [.long (t.1 + (t.2.1 >>> (Int32.toInt64 (nI k) &&& 63))), .long (t.2.1 - (t.1 >>> (Int32.toInt64 (nI k) &&& 63))), .long (t.2.2 + (Int32.toInt64 (fs_arc k)))]))]) rfl dX3_turn_91 (fun H locs hH => ?_)
    have hH : fs_H X A s [(h0, .inr (3, [.long ((fs_tn k up t).1), .long ((fs_tn k up t).2.1), .long ((fs_tn k up t).2.2)]))] _ _ := hH.to (by rw [fs_tn, if_pos c_1])
    exact fs_vret C hH () rfl trivial dX3_turn_94
  · refine lv_aload_n hx hb dX3_turn_19 rfl (lv_at hl 2 rfl) ?_
    refine lv_dup hx hb dX3_turn_20 rfl ?_
    refine fs_get C in_3 hH 0 rfl rfl 0 (by decide) mw_61 (v := .long t.1) rfl dX3_turn_21 ?_
    refine lv_lload hx hb dX3_turn_24 (lv_at hl 0 rfl) ?_
    refine lv_lsub hx hb dX3_turn_26 ?_
    refine fs_put C in_3 tyX3 tyX3_ok nmX3 hH 0 rfl rfl 0 (by decide) mw_61 rfl rfl rfl (Nat.le_of_ble_eq_true rfl) (ws' := [(h0, .inr (3, [.long (t.1 - (t.2.1 >>> (Int32.toInt64 (nI k) &&& 63))), .long t.2.1, .long t.2.2]))]) rfl dX3_turn_27 (fun H locs hH => ?_)
    refine lv_aload_n hx hb dX3_turn_30 rfl (lv_at hl 2 rfl) ?_
    refine lv_dup hx hb dX3_turn_31 rfl ?_
    refine fs_get C in_3 hH 0 rfl rfl 1 (by decide) mw_62 (v := .long t.2.1) rfl dX3_turn_32 ?_
    refine lv_lload_n hx hb dX3_turn_35 rfl (lv_at hl 1 rfl) ?_
    refine lv_ladd hx hb dX3_turn_36 ?_
    refine fs_put C in_3 tyX3 tyX3_ok nmX3 hH 0 rfl rfl 1 (by decide) mw_62 rfl rfl rfl (Nat.le_of_ble_eq_true rfl) (ws' := [(h0, .inr (3, [.long (t.1 - (t.2.1 >>> (Int32.toInt64 (nI k) &&& 63))), .long (t.2.1 + (t.1 >>> (Int32.toInt64 (nI k) &&& 63))), .long t.2.2]))]) rfl dX3_turn_37 (fun H locs hH => ?_)
    refine lv_aload_n hx hb dX3_turn_40 rfl (lv_at hl 2 rfl) ?_
    refine lv_dup hx hb dX3_turn_41 rfl ?_
    refine fs_get C in_3 hH 0 rfl rfl 2 (by decide) mw_63 (v := .long t.2.2) rfl dX3_turn_42 ?_
    refine fs_getA C hH mw_115 dX3_turn_45 ?_
    refine lv_iload_n hx hb dX3_turn_48 rfl (lv_at hl 3 rfl) ?_
    refine fs_tabA C hH (k := k) rfl (by omega) dX3_turn_49 ?_
    refine lv_i2l hx hb dX3_turn_50 rfl ?_
    refine lv_lsub hx hb dX3_turn_51 ?_
    refine fs_put C in_3 tyX3 tyX3_ok nmX3 hH 0 rfl rfl 2 (by decide) mw_63 rfl rfl rfl (Nat.le_of_ble_eq_true rfl) (ws' := [(h0, .inr (3, [.long (t.1 - (t.2.1 >>> (Int32.toInt64 (nI k) &&& 63))), .long (t.2.1 + (t.1 >>> (Int32.toInt64 (nI k) &&& 63))), .long (t.2.2 - (Int32.toInt64 (fs_arc k)))]))]) rfl dX3_turn_52 (fun H locs hH => ?_)
    refine lv_goto (tgt := 94) hx hb dX3_turn_55 (by decide) ?_
    have hH : fs_H X A s [(h0, .inr (3, [.long ((fs_tn k up t).1), .long ((fs_tn k up t).2.1), .long ((fs_tn k up t).2.2)]))] _ _ := hH.to (by rw [fs_tn, if_neg c_1])
    exact fs_vret C hH () rfl trivial dX3_turn_94
set_option maxHeartbeats 4000000 in
set_option maxRecDepth 100000 in
theorem c_X3_turnByAngle (l : Launch) (X : fs_X) (sz : Nat) (h0 : Nat) (t : fs_T) (a : Int64)  : fs_M l X yX3_turnByAngle cX3_turnByAngle 5 none ({ frames := 1, cells := 0, slots := 0, locals := 26 }) [.ref h0, .long a] [(h0, .inr (3, [.long t.1, .long t.2.1, .long t.2.2]))] sz (fs_Qv X (fun (_ : Unit) => True) (fun _ => [(h0, .inr (3, [.long (fs_wave a).1, .long (fs_wave a).2.1, .long (fs_wave a).2.2]))])) 0 0 := by
  refine fs_ofW (by decide) (Nat.le_of_ble_eq_true rfl) ?_
  intro p e s m args below meth c A ls C hH hl
  have C : fs_At X A p s m args meth c cX3_turnByAngle 5 none RX3 "turnByAngle" := C
  have hx := C.1
  have hb := C.2.1
  have hown := C.2.2.2.2.1
  have hts := C.2.2.2.2.2.1
  have hl : lv_has ls 5 [(0, .ref h0), (1, .long a)] := hl
  have K_64 : ∀ (n : Nat) (fr : Int32) (z0 : Int64) (k : Nat), (k ≤ 30) → (fs_wave a = if fr = 0 then fs_w z0 30 else fs_neg (fs_w z0 30)) → (30 < k + n) → ∀ (H : Heap) (locs : List Loc), fs_H X A s [(h0, .inr (3, [.long ((fs_w z0 k).1), .long ((fs_w z0 k).2.1), .long ((fs_w z0 k).2.2)]))] H locs → ∀ (ls : Array Slot), lv_has ls 5 [(0, .ref h0), (1, .long a), (3, .int fr), (4, .int (nI k))] → W p l e ({ frames := 1, cells := 0, slots := 0, locals := 26 }) s m args below meth c H locs 0 0 (MQ below (fs_Qv X (fun (_ : Unit) => True) (fun _ => [(h0, .inr (3, [.long (fs_wave a).1, .long (fs_wave a).2.1, .long (fs_wave a).2.2]))]) A) args s 0 0 A) (F0 m 64 ls []) := by
    intro n
    induction n with
    | zero => intro fr z0 k hk hq hfu; exact absurd hfu (by omega)
    | succ n ih_64 =>
      intro fr z0 k hk hq hfu H locs hH ls hl
      refine lv_iload hx hb dX3_turnByAngle_64 (lv_at hl 3 rfl) ?_
      refine lv_bipush (v := 30) hx hb dX3_turnByAngle_66 (by decide) ?_
      refine lv_icmp_ge (tgt := 97) hx hb dX3_turnByAngle_68 (by decide) (fun c_1 => ?_) (fun c_1 => ?_)
      · obtain rfl : k = 30 := by have := fs_geT (a := k) (b := 30) (by omega) (by omega) c_1; omega
        refine lv_iload_n hx hb dX3_turnByAngle_97 rfl (lv_at hl 2 rfl) ?_
        refine lv_if_eq (tgt := 119) hx hb dX3_turnByAngle_98 (by decide) (fun c_2 => ?_) (fun c_2 => ?_)
        · have hH : fs_H X A s [(h0, .inr (3, [.long ((fs_wave a).1), .long ((fs_wave a).2.1), .long ((fs_wave a).2.2)]))] _ _ := hH.to (by rw [hq, if_pos c_2])
          exact fs_vret C hH () rfl trivial dX3_turnByAngle_119
        · refine lv_aload_n hx hb dX3_turnByAngle_101 rfl (lv_at hl 0 rfl) ?_
          refine lv_aload_n hx hb dX3_turnByAngle_102 rfl (lv_at hl 0 rfl) ?_
          refine fs_get C in_3 hH 0 rfl rfl 0 (by decide) mw_61 (v := .long ((fs_w z0 30).1)) rfl dX3_turnByAngle_103 ?_
          refine lv_lneg hx hb dX3_turnByAngle_106 ?_
          refine fs_put C in_3 tyX3 tyX3_ok nmX3 hH 0 rfl rfl 0 (by decide) mw_61 rfl rfl rfl (Nat.le_of_ble_eq_true rfl) (ws' := [(h0, .inr (3, [.long (-((fs_w z0 30).1)), .long ((fs_w z0 30).2.1), .long ((fs_w z0 30).2.2)]))]) rfl dX3_turnByAngle_107 (fun H locs hH => ?_)
          refine lv_aload_n hx hb dX3_turnByAngle_110 rfl (lv_at hl 0 rfl) ?_
          refine lv_aload_n hx hb dX3_turnByAngle_111 rfl (lv_at hl 0 rfl) ?_
          refine fs_get C in_3 hH 0 rfl rfl 1 (by decide) mw_62 (v := .long ((fs_w z0 30).2.1)) rfl dX3_turnByAngle_112 ?_
          refine lv_lneg hx hb dX3_turnByAngle_115 ?_
          refine fs_put C in_3 tyX3 tyX3_ok nmX3 hH 0 rfl rfl 1 (by decide) mw_62 rfl rfl rfl (Nat.le_of_ble_eq_true rfl) (ws' := [(h0, .inr (3, [.long (-((fs_w z0 30).1)), .long (-((fs_w z0 30).2.1)), .long ((fs_w z0 30).2.2)]))]) rfl dX3_turnByAngle_116 (fun H locs hH => ?_)
          have hH : fs_H X A s [(h0, .inr (3, [.long ((fs_wave a).1), .long ((fs_wave a).2.1), .long ((fs_wave a).2.2)]))] _ _ := hH.to (by rw [hq, if_neg c_2, fs_neg])
          exact fs_vret C hH () rfl trivial dX3_turnByAngle_119
      · have hlt := fs_geF (a := k) (b := 30) (by omega) (by omega) c_1
        refine lv_aload_n hx hb dX3_turnByAngle_71 rfl (lv_at hl 0 rfl) ?_
        refine lv_iload hx hb dX3_turnByAngle_72 (lv_at hl 3 rfl) ?_
        refine lv_aload_n hx hb dX3_turnByAngle_74 rfl (lv_at hl 0 rfl) ?_
        refine fs_get C in_3 hH 0 rfl rfl 2 (by decide) mw_63 (v := .long ((fs_w z0 k).2.2)) rfl dX3_turnByAngle_75 ?_
        refine lv_lconst (v := 0) hx hb dX3_turnByAngle_78 (by decide) ?_
        refine fs_llt (tgt := 87) hx hb dX3_turnByAngle_79 dX3_turnByAngle_80 (by decide) (fun c_3 => ?_) (fun c_3 => ?_)
        · refine lv_iconst (v := 0) hx hb dX3_turnByAngle_87 (by decide) ?_
          refine fs_cv C hH (wr := []) [0] [] rfl rfl (by decide) (by decide) (fs_rV (rest := []) (As := [.int (nI k), .int 0]) (n := 2) (q0 := 0) (ci := 3) C hH (wc := [(h0, .inr (3, [.long ((fs_w z0 k).1), .long ((fs_w z0 k).2.1), .long ((fs_w z0 k).2.2)]))]) [0] (by decide) rfl (c_X3_turn l X _ h0 (fs_w z0 k) k 0 (by omega)) rfl rfl rfl rfl mw_114 mw_112 mw_113 mw_483 mw_5 (by decide +kernel) ⟨Nat.le_of_ble_eq_true rfl, Nat.le_of_ble_eq_true rfl⟩ rfl hl.1 rfl (Nat.le_of_ble_eq_true rfl) dX3_turnByAngle_88 ⟨Nat.le_of_ble_eq_true rfl, Nat.le_of_ble_eq_true rfl⟩) (fun u_5 H locs hr_6 hH => ?_)
          have hH : fs_H X A s [(h0, .inr (3, [.long ((fs_tn k 0 (fs_w z0 k)).1), .long ((fs_tn k 0 (fs_w z0 k)).2.1), .long ((fs_tn k 0 (fs_w z0 k)).2.2)]))] _ _ := hH
          have hH : fs_H X A s [(h0, .inr (3, [.long ((fs_w z0 (k + 1)).1), .long ((fs_w z0 (k + 1)).2.1), .long ((fs_w z0 (k + 1)).2.2)]))] _ _ := hH.to (by rw [fs_wS0 c_3])
          refine lv_iinc (v := (nI (k + 1))) (lv' := [(4, .int (nI (k + 1))), (0, .ref h0), (1, .long a), (3, .int fr)]) hx hb dX3_turnByAngle_91 hl (k := 3) rfl (nI_1 k) (by decide) rfl (fun ls hl => ?_)
          refine lv_goto (tgt := 64) hx hb dX3_turnByAngle_94 (by decide) ?_
          exact ih_64 fr z0 (k + 1) (by omega) hq (by omega) _ _ hH ls (lv_sub hl [1, 2, 3, 0] rfl)
        · refine lv_iconst (v := 1) hx hb dX3_turnByAngle_83 (by decide) ?_
          refine lv_goto (tgt := 88) hx hb dX3_turnByAngle_84 (by decide) ?_
          refine fs_cv C hH (wr := []) [0] [] rfl rfl (by decide) (by decide) (fs_rV (rest := []) (As := [.int (nI k), .int 1]) (n := 2) (q0 := 0) (ci := 3) C hH (wc := [(h0, .inr (3, [.long ((fs_w z0 k).1), .long ((fs_w z0 k).2.1), .long ((fs_w z0 k).2.2)]))]) [0] (by decide) rfl (c_X3_turn l X _ h0 (fs_w z0 k) k 1 (by omega)) rfl rfl rfl rfl mw_114 mw_112 mw_113 mw_483 mw_5 (by decide +kernel) ⟨Nat.le_of_ble_eq_true rfl, Nat.le_of_ble_eq_true rfl⟩ rfl hl.1 rfl (Nat.le_of_ble_eq_true rfl) dX3_turnByAngle_88 ⟨Nat.le_of_ble_eq_true rfl, Nat.le_of_ble_eq_true rfl⟩) (fun u_8 H locs hr_9 hH => ?_)
          have hH : fs_H X A s [(h0, .inr (3, [.long ((fs_tn k 1 (fs_w z0 k)).1), .long ((fs_tn k 1 (fs_w z0 k)).2.1), .long ((fs_tn k 1 (fs_w z0 k)).2.2)]))] _ _ := hH
          have hH : fs_H X A s [(h0, .inr (3, [.long ((fs_w z0 (k + 1)).1), .long ((fs_w z0 (k + 1)).2.1), .long ((fs_w z0 (k + 1)).2.2)]))] _ _ := hH.to (by rw [fs_wS1 c_3])
          refine lv_iinc (v := (nI (k + 1))) (lv' := [(4, .int (nI (k + 1))), (0, .ref h0), (1, .long a), (3, .int fr)]) hx hb dX3_turnByAngle_91 hl (k := 3) rfl (nI_1 k) (by decide) rfl (fun ls hl => ?_)
          refine lv_goto (tgt := 64) hx hb dX3_turnByAngle_94 (by decide) ?_
          exact ih_64 fr z0 (k + 1) (by omega) hq (by omega) _ _ hH ls (lv_sub hl [1, 2, 3, 0] rfl)
  have hH : fs_H X A s [(h0, .inr (3, [.long t.1, .long t.2.1, .long t.2.2]))] s.heap [] := hH
  refine lv_lload_n hx hb dX3_turnByAngle_0 rfl (lv_at hl 1 rfl) ?_
  refine fs_cl C hH (wr := [(h0, .inr (3, [.long t.1, .long t.2.1, .long t.2.2]))]) [] [0] rfl rfl (by decide) (by decide) (fs_rSN (rest := []) (As := [.long a]) (n := 1) C hH (wc := []) [] (by decide) rfl (c_X4_sizeOf l X _ a ) rfl rfl mw_108 (List.mem_of_getElem? (i := 7) rfl) mw_107 mw_1 (by decide +kernel) ⟨Nat.le_of_ble_eq_true rfl, Nat.le_of_ble_eq_true rfl⟩ rfl hl.1 rfl (Nat.le_of_ble_eq_true rfl) dX3_turnByAngle_1 ⟨Nat.le_of_ble_eq_true rfl, Nat.le_of_ble_eq_true rfl⟩) (fun r_10 u_11 H locs hr_12 hH => ?_)
  subst hr_12
  have hH : fs_H X A s [(h0, .inr (3, [.long t.1, .long t.2.1, .long t.2.2]))] _ _ := hH
  refine lv_ldc2 (v := 1073741824) hx hb hown (hts _ mw_109) dX3_turnByAngle_4 ?_
  refine fs_lle (tgt := 15) hx hb dX3_turnByAngle_7 dX3_turnByAngle_8 (by decide) (fun c_13 => ?_) (fun c_13 => ?_)
  · refine lv_iconst (v := 0) hx hb dX3_turnByAngle_15 (by decide) ?_
    refine lv_istore_n (lv' := [(3, .int 0), (0, .ref h0), (1, .long a)]) hx hb dX3_turnByAngle_16 rfl hl (by decide) rfl (fun ls hl => ?_)
    refine lv_aload_n hx hb dX3_turnByAngle_17 rfl (lv_at hl 1 rfl) ?_
    refine lv_ldc2 (v := 652032874) hx hb hown (hts _ mw_110) dX3_turnByAngle_18 ?_
    refine fs_put C in_3 tyX3 tyX3_ok nmX3 hH 0 rfl rfl 0 (by decide) mw_61 rfl rfl rfl (Nat.le_of_ble_eq_true rfl) (ws' := [(h0, .inr (3, [.long 652032874, .long t.2.1, .long t.2.2]))]) rfl dX3_turnByAngle_21 (fun H locs hH => ?_)
    refine lv_aload_n hx hb dX3_turnByAngle_24 rfl (lv_at hl 1 rfl) ?_
    refine lv_lconst (v := 0) hx hb dX3_turnByAngle_25 (by decide) ?_
    refine fs_put C in_3 tyX3 tyX3_ok nmX3 hH 0 rfl rfl 1 (by decide) mw_62 rfl rfl rfl (Nat.le_of_ble_eq_true rfl) (ws' := [(h0, .inr (3, [.long 652032874, .long 0, .long t.2.2]))]) rfl dX3_turnByAngle_26 (fun H locs hH => ?_)
    refine lv_aload_n hx hb dX3_turnByAngle_29 rfl (lv_at hl 1 rfl) ?_
    refine lv_lload_n hx hb dX3_turnByAngle_30 rfl (lv_at hl 2 rfl) ?_
    refine fs_put C in_3 tyX3 tyX3_ok nmX3 hH 0 rfl rfl 2 (by decide) mw_63 rfl rfl rfl (Nat.le_of_ble_eq_true rfl) (ws' := [(h0, .inr (3, [.long 652032874, .long 0, .long a]))]) rfl dX3_turnByAngle_31 (fun H locs hH => ?_)
    refine lv_iload_n hx hb dX3_turnByAngle_34 rfl (lv_at hl 0 rfl) ?_
    refine lv_if_eq (tgt := 61) hx hb dX3_turnByAngle_35 (by decide) (fun c_14 => ?_) (fun c_14 => ?_)
    · refine lv_iconst (v := 0) hx hb dX3_turnByAngle_61 (by decide) ?_
      refine lv_istore (lv' := [(4, .int 0), (3, .int 0), (0, .ref h0), (1, .long a)]) hx hb dX3_turnByAngle_62 hl (by decide) rfl (fun ls hl => ?_)
      exact K_64 31 0 a 0 (by omega) (by simp [fs_wave, c_13, c_14]) (by omega) _ _ hH ls (lv_sub hl [2, 3, 1, 0] rfl)
    · exact absurd c_14 (by decide)
  · refine lv_iconst (v := 1) hx hb dX3_turnByAngle_11 (by decide) ?_
    refine lv_goto (tgt := 16) hx hb dX3_turnByAngle_12 (by decide) ?_
    refine lv_istore_n (lv' := [(3, .int 1), (0, .ref h0), (1, .long a)]) hx hb dX3_turnByAngle_16 rfl hl (by decide) rfl (fun ls hl => ?_)
    refine lv_aload_n hx hb dX3_turnByAngle_17 rfl (lv_at hl 1 rfl) ?_
    refine lv_ldc2 (v := 652032874) hx hb hown (hts _ mw_110) dX3_turnByAngle_18 ?_
    refine fs_put C in_3 tyX3 tyX3_ok nmX3 hH 0 rfl rfl 0 (by decide) mw_61 rfl rfl rfl (Nat.le_of_ble_eq_true rfl) (ws' := [(h0, .inr (3, [.long 652032874, .long t.2.1, .long t.2.2]))]) rfl dX3_turnByAngle_21 (fun H locs hH => ?_)
    refine lv_aload_n hx hb dX3_turnByAngle_24 rfl (lv_at hl 1 rfl) ?_
    refine lv_lconst (v := 0) hx hb dX3_turnByAngle_25 (by decide) ?_
    refine fs_put C in_3 tyX3 tyX3_ok nmX3 hH 0 rfl rfl 1 (by decide) mw_62 rfl rfl rfl (Nat.le_of_ble_eq_true rfl) (ws' := [(h0, .inr (3, [.long 652032874, .long 0, .long t.2.2]))]) rfl dX3_turnByAngle_26 (fun H locs hH => ?_)
    refine lv_aload_n hx hb dX3_turnByAngle_29 rfl (lv_at hl 1 rfl) ?_
    refine lv_lload_n hx hb dX3_turnByAngle_30 rfl (lv_at hl 2 rfl) ?_
    refine fs_put C in_3 tyX3 tyX3_ok nmX3 hH 0 rfl rfl 2 (by decide) mw_63 rfl rfl rfl (Nat.le_of_ble_eq_true rfl) (ws' := [(h0, .inr (3, [.long 652032874, .long 0, .long a]))]) rfl dX3_turnByAngle_31 (fun H locs hH => ?_)
    refine lv_iload_n hx hb dX3_turnByAngle_34 rfl (lv_at hl 0 rfl) ?_
    refine lv_if_eq (tgt := 61) hx hb dX3_turnByAngle_35 (by decide) (fun c_15 => ?_) (fun c_15 => ?_)
    · exact absurd c_15 (by decide)
    · refine lv_aload_n hx hb dX3_turnByAngle_38 rfl (lv_at hl 1 rfl) ?_
      refine lv_lload_n hx hb dX3_turnByAngle_39 rfl (lv_at hl 2 rfl) ?_
      refine lv_lconst (v := 0) hx hb dX3_turnByAngle_40 (by decide) ?_
      refine fs_lge (tgt := 53) hx hb dX3_turnByAngle_41 dX3_turnByAngle_42 (by decide) (fun c_16 => ?_) (fun c_16 => ?_)
      · refine lv_lload_n hx hb dX3_turnByAngle_53 rfl (lv_at hl 2 rfl) ?_
        refine lv_ldc2 (v := 2147483648) hx hb hown (hts _ mw_111) dX3_turnByAngle_54 ?_
        refine lv_lsub hx hb dX3_turnByAngle_57 ?_
        refine fs_put C in_3 tyX3 tyX3_ok nmX3 hH 0 rfl rfl 2 (by decide) mw_63 rfl rfl rfl (Nat.le_of_ble_eq_true rfl) (ws' := [(h0, .inr (3, [.long 652032874, .long 0, .long (a - 2147483648)]))]) rfl dX3_turnByAngle_58 (fun H locs hH => ?_)
        refine lv_iconst (v := 0) hx hb dX3_turnByAngle_61 (by decide) ?_
        refine lv_istore (lv' := [(4, .int 0), (3, .int 1), (0, .ref h0), (1, .long a)]) hx hb dX3_turnByAngle_62 hl (by decide) rfl (fun ls hl => ?_)
        exact K_64 31 1 (a - 2147483648) 0 (by omega) (by simp [fs_wave, c_13, c_15, c_16]) (by omega) _ _ hH ls (lv_sub hl [2, 3, 1, 0] rfl)
      · refine lv_lload_n hx hb dX3_turnByAngle_45 rfl (lv_at hl 2 rfl) ?_
        refine lv_ldc2 (v := 2147483648) hx hb hown (hts _ mw_111) dX3_turnByAngle_46 ?_
        refine lv_ladd hx hb dX3_turnByAngle_49 ?_
        refine lv_goto (tgt := 58) hx hb dX3_turnByAngle_50 (by decide) ?_
        refine fs_put C in_3 tyX3 tyX3_ok nmX3 hH 0 rfl rfl 2 (by decide) mw_63 rfl rfl rfl (Nat.le_of_ble_eq_true rfl) (ws' := [(h0, .inr (3, [.long 652032874, .long 0, .long (a + 2147483648)]))]) rfl dX3_turnByAngle_58 (fun H locs hH => ?_)
        refine lv_iconst (v := 0) hx hb dX3_turnByAngle_61 (by decide) ?_
        refine lv_istore (lv' := [(4, .int 0), (3, .int 1), (0, .ref h0), (1, .long a)]) hx hb dX3_turnByAngle_62 hl (by decide) rfl (fun ls hl => ?_)
        exact K_64 31 1 (a + 2147483648) 0 (by omega) (by simp [fs_wave, c_13, c_15, c_16]) (by omega) _ _ hH ls (lv_sub hl [2, 3, 1, 0] rfl)
set_option maxHeartbeats 4000000 in
set_option maxRecDepth 100000 in
theorem c_X3_turnToAxis (l : Launch) (X : fs_X) (sz : Nat) (h0 : Nat) (t : fs_T) (x0 : Int64) (y0 : Int64)  : fs_M l X yX3_turnToAxis cX3_turnToAxis 7 none ({ frames := 1, cells := 0, slots := 0, locals := 26 }) [.ref h0, .long x0, .long y0] [(h0, .inr (3, [.long t.1, .long t.2.1, .long t.2.2]))] sz (fs_Qv X (fun (_ : Unit) => True) (fun _ => [(h0, .inr (3, [.long (fs_axis x0 y0).1, .long (fs_axis x0 y0).2.1, .long (fs_axis x0 y0).2.2]))])) 0 0 := by
  refine fs_ofW (by decide) (Nat.le_of_ble_eq_true rfl) ?_
  intro p e s m args below meth c A ls C hH hl
  have C : fs_At X A p s m args meth c cX3_turnToAxis 7 none RX3 "turnToAxis" := C
  have hx := C.1
  have hb := C.2.1
  have hown := C.2.2.2.2.1
  have hts := C.2.2.2.2.2.1
  have hl : lv_has ls 7 [(0, .ref h0), (1, .long x0), (3, .long y0)] := hl
  have K_62 : ∀ (n : Nat) (t0 : fs_T) (k : Nat), (k ≤ 30) → (fs_axis x0 y0 = fs_a t0 30) → (30 < k + n) → ∀ (H : Heap) (locs : List Loc), fs_H X A s [(h0, .inr (3, [.long ((fs_a t0 k).1), .long ((fs_a t0 k).2.1), .long ((fs_a t0 k).2.2)]))] H locs → ∀ (ls : Array Slot), lv_has ls 7 [(0, .ref h0), (6, .int (nI k))] → W p l e ({ frames := 1, cells := 0, slots := 0, locals := 26 }) s m args below meth c H locs 0 0 (MQ below (fs_Qv X (fun (_ : Unit) => True) (fun _ => [(h0, .inr (3, [.long (fs_axis x0 y0).1, .long (fs_axis x0 y0).2.1, .long (fs_axis x0 y0).2.2]))]) A) args s 0 0 A) (F0 m 62 ls []) := by
    intro n
    induction n with
    | zero => intro t0 k hk hq hfu; exact absurd hfu (by omega)
    | succ n ih_62 =>
      intro t0 k hk hq hfu H locs hH ls hl
      refine lv_iload hx hb dX3_turnToAxis_62 (lv_at hl 1 rfl) ?_
      refine lv_bipush (v := 30) hx hb dX3_turnToAxis_64 (by decide) ?_
      refine lv_icmp_ge (tgt := 95) hx hb dX3_turnToAxis_66 (by decide) (fun c_1 => ?_) (fun c_1 => ?_)
      · obtain rfl : k = 30 := by have := fs_geT (a := k) (b := 30) (by omega) (by omega) c_1; omega
        have hH : fs_H X A s [(h0, .inr (3, [.long ((fs_axis x0 y0).1), .long ((fs_axis x0 y0).2.1), .long ((fs_axis x0 y0).2.2)]))] _ _ := hH.to (by rw [hq])
        exact fs_vret C hH () rfl trivial dX3_turnToAxis_95
      · have hlt := fs_geF (a := k) (b := 30) (by omega) (by omega) c_1
        refine lv_aload_n hx hb dX3_turnToAxis_69 rfl (lv_at hl 0 rfl) ?_
        refine lv_iload hx hb dX3_turnToAxis_70 (lv_at hl 1 rfl) ?_
        refine lv_aload_n hx hb dX3_turnToAxis_72 rfl (lv_at hl 0 rfl) ?_
        refine fs_get C in_3 hH 0 rfl rfl 1 (by decide) mw_62 (v := .long ((fs_a t0 k).2.1)) rfl dX3_turnToAxis_73 ?_
        refine lv_lconst (v := 0) hx hb dX3_turnToAxis_76 (by decide) ?_
        refine fs_lge (tgt := 85) hx hb dX3_turnToAxis_77 dX3_turnToAxis_78 (by decide) (fun c_2 => ?_) (fun c_2 => ?_)
        · refine lv_iconst (v := 0) hx hb dX3_turnToAxis_85 (by decide) ?_
          refine fs_cv C hH (wr := []) [0] [] rfl rfl (by decide) (by decide) (fs_rV (rest := []) (As := [.int (nI k), .int 0]) (n := 2) (q0 := 0) (ci := 3) C hH (wc := [(h0, .inr (3, [.long ((fs_a t0 k).1), .long ((fs_a t0 k).2.1), .long ((fs_a t0 k).2.2)]))]) [0] (by decide) rfl (c_X3_turn l X _ h0 (fs_a t0 k) k 0 (by omega)) rfl rfl rfl rfl mw_114 mw_112 mw_113 mw_483 mw_5 (by decide +kernel) ⟨Nat.le_of_ble_eq_true rfl, Nat.le_of_ble_eq_true rfl⟩ rfl hl.1 rfl (Nat.le_of_ble_eq_true rfl) dX3_turnToAxis_86 ⟨Nat.le_of_ble_eq_true rfl, Nat.le_of_ble_eq_true rfl⟩) (fun u_4 H locs hr_5 hH => ?_)
          have hH : fs_H X A s [(h0, .inr (3, [.long ((fs_tn k 0 (fs_a t0 k)).1), .long ((fs_tn k 0 (fs_a t0 k)).2.1), .long ((fs_tn k 0 (fs_a t0 k)).2.2)]))] _ _ := hH
          have hH : fs_H X A s [(h0, .inr (3, [.long ((fs_a t0 (k + 1)).1), .long ((fs_a t0 (k + 1)).2.1), .long ((fs_a t0 (k + 1)).2.2)]))] _ _ := hH.to (by rw [fs_aS0 c_2])
          refine lv_iinc (v := (nI (k + 1))) (lv' := [(6, .int (nI (k + 1))), (0, .ref h0)]) hx hb dX3_turnToAxis_89 hl (k := 1) rfl (nI_1 k) (by decide) rfl (fun ls hl => ?_)
          refine lv_goto (tgt := 62) hx hb dX3_turnToAxis_92 (by decide) ?_
          exact ih_62 t0 (k + 1) (by omega) hq (by omega) _ _ hH ls (lv_sub hl [1, 0] rfl)
        · refine lv_iconst (v := 1) hx hb dX3_turnToAxis_81 (by decide) ?_
          refine lv_goto (tgt := 86) hx hb dX3_turnToAxis_82 (by decide) ?_
          refine fs_cv C hH (wr := []) [0] [] rfl rfl (by decide) (by decide) (fs_rV (rest := []) (As := [.int (nI k), .int 1]) (n := 2) (q0 := 0) (ci := 3) C hH (wc := [(h0, .inr (3, [.long ((fs_a t0 k).1), .long ((fs_a t0 k).2.1), .long ((fs_a t0 k).2.2)]))]) [0] (by decide) rfl (c_X3_turn l X _ h0 (fs_a t0 k) k 1 (by omega)) rfl rfl rfl rfl mw_114 mw_112 mw_113 mw_483 mw_5 (by decide +kernel) ⟨Nat.le_of_ble_eq_true rfl, Nat.le_of_ble_eq_true rfl⟩ rfl hl.1 rfl (Nat.le_of_ble_eq_true rfl) dX3_turnToAxis_86 ⟨Nat.le_of_ble_eq_true rfl, Nat.le_of_ble_eq_true rfl⟩) (fun u_7 H locs hr_8 hH => ?_)
          have hH : fs_H X A s [(h0, .inr (3, [.long ((fs_tn k 1 (fs_a t0 k)).1), .long ((fs_tn k 1 (fs_a t0 k)).2.1), .long ((fs_tn k 1 (fs_a t0 k)).2.2)]))] _ _ := hH
          have hH : fs_H X A s [(h0, .inr (3, [.long ((fs_a t0 (k + 1)).1), .long ((fs_a t0 (k + 1)).2.1), .long ((fs_a t0 (k + 1)).2.2)]))] _ _ := hH.to (by rw [fs_aS1 c_2])
          refine lv_iinc (v := (nI (k + 1))) (lv' := [(6, .int (nI (k + 1))), (0, .ref h0)]) hx hb dX3_turnToAxis_89 hl (k := 1) rfl (nI_1 k) (by decide) rfl (fun ls hl => ?_)
          refine lv_goto (tgt := 62) hx hb dX3_turnToAxis_92 (by decide) ?_
          exact ih_62 t0 (k + 1) (by omega) hq (by omega) _ _ hH ls (lv_sub hl [1, 0] rfl)
  have hH : fs_H X A s [(h0, .inr (3, [.long t.1, .long t.2.1, .long t.2.2]))] s.heap [] := hH
  refine lv_lload_n hx hb dX3_turnToAxis_0 rfl (lv_at hl 1 rfl) ?_
  refine lv_lconst (v := 0) hx hb dX3_turnToAxis_1 (by decide) ?_
  refine fs_lge (tgt := 10) hx hb dX3_turnToAxis_2 dX3_turnToAxis_3 (by decide) (fun c_9 => ?_) (fun c_9 => ?_)
  · refine lv_iconst (v := 0) hx hb dX3_turnToAxis_10 (by decide) ?_
    refine lv_istore (lv' := [(5, .int 0), (0, .ref h0), (1, .long x0), (3, .long y0)]) hx hb dX3_turnToAxis_11 hl (by decide) rfl (fun ls hl => ?_)
    refine lv_aload_n hx hb dX3_turnToAxis_13 rfl (lv_at hl 1 rfl) ?_
    refine lv_iload hx hb dX3_turnToAxis_14 (lv_at hl 0 rfl) ?_
    refine lv_if_eq (tgt := 24) hx hb dX3_turnToAxis_16 (by decide) (fun c_10 => ?_) (fun c_10 => ?_)
    · refine lv_lload_n hx hb dX3_turnToAxis_24 rfl (lv_at hl 2 rfl) ?_
      refine fs_put C in_3 tyX3 tyX3_ok nmX3 hH 0 rfl rfl 0 (by decide) mw_61 rfl rfl rfl (Nat.le_of_ble_eq_true rfl) (ws' := [(h0, .inr (3, [.long x0, .long t.2.1, .long t.2.2]))]) rfl dX3_turnToAxis_25 (fun H locs hH => ?_)
      refine lv_aload_n hx hb dX3_turnToAxis_28 rfl (lv_at hl 1 rfl) ?_
      refine lv_iload hx hb dX3_turnToAxis_29 (lv_at hl 0 rfl) ?_
      refine lv_if_eq (tgt := 39) hx hb dX3_turnToAxis_31 (by decide) (fun c_11 => ?_) (fun c_11 => ?_)
      · refine lv_lload_n hx hb dX3_turnToAxis_39 rfl (lv_at hl 3 rfl) ?_
        refine fs_put C in_3 tyX3 tyX3_ok nmX3 hH 0 rfl rfl 1 (by decide) mw_62 rfl rfl rfl (Nat.le_of_ble_eq_true rfl) (ws' := [(h0, .inr (3, [.long x0, .long y0, .long t.2.2]))]) rfl dX3_turnToAxis_40 (fun H locs hH => ?_)
        refine lv_aload_n hx hb dX3_turnToAxis_43 rfl (lv_at hl 1 rfl) ?_
        refine lv_iload hx hb dX3_turnToAxis_44 (lv_at hl 0 rfl) ?_
        refine lv_if_eq (tgt := 55) hx hb dX3_turnToAxis_46 (by decide) (fun c_12 => ?_) (fun c_12 => ?_)
        · refine lv_lconst (v := 0) hx hb dX3_turnToAxis_55 (by decide) ?_
          refine fs_put C in_3 tyX3 tyX3_ok nmX3 hH 0 rfl rfl 2 (by decide) mw_63 rfl rfl rfl (Nat.le_of_ble_eq_true rfl) (ws' := [(h0, .inr (3, [.long x0, .long y0, .long 0]))]) rfl dX3_turnToAxis_56 (fun H locs hH => ?_)
          refine lv_iconst (v := 0) hx hb dX3_turnToAxis_59 (by decide) ?_
          refine lv_istore (lv' := [(6, .int 0), (5, .int 0), (0, .ref h0), (1, .long x0), (3, .long y0)]) hx hb dX3_turnToAxis_60 hl (by decide) rfl (fun ls hl => ?_)
          exact K_62 31 (x0, y0, 0) 0 (by omega) (by simp [fs_axis, c_9, c_10, c_11, c_12]) (by omega) _ _ hH ls (lv_sub hl [2, 0] rfl)
        · exact absurd c_12 (by decide)
      · exact absurd c_11 (by decide)
    · exact absurd c_10 (by decide)
  · refine lv_iconst (v := 1) hx hb dX3_turnToAxis_6 (by decide) ?_
    refine lv_goto (tgt := 11) hx hb dX3_turnToAxis_7 (by decide) ?_
    refine lv_istore (lv' := [(5, .int 1), (0, .ref h0), (1, .long x0), (3, .long y0)]) hx hb dX3_turnToAxis_11 hl (by decide) rfl (fun ls hl => ?_)
    refine lv_aload_n hx hb dX3_turnToAxis_13 rfl (lv_at hl 1 rfl) ?_
    refine lv_iload hx hb dX3_turnToAxis_14 (lv_at hl 0 rfl) ?_
    refine lv_if_eq (tgt := 24) hx hb dX3_turnToAxis_16 (by decide) (fun c_13 => ?_) (fun c_13 => ?_)
    · exact absurd c_13 (by decide)
    · refine lv_lload_n hx hb dX3_turnToAxis_19 rfl (lv_at hl 2 rfl) ?_
      refine lv_lneg hx hb dX3_turnToAxis_20 ?_
      refine lv_goto (tgt := 25) hx hb dX3_turnToAxis_21 (by decide) ?_
      refine fs_put C in_3 tyX3 tyX3_ok nmX3 hH 0 rfl rfl 0 (by decide) mw_61 rfl rfl rfl (Nat.le_of_ble_eq_true rfl) (ws' := [(h0, .inr (3, [.long (-x0), .long t.2.1, .long t.2.2]))]) rfl dX3_turnToAxis_25 (fun H locs hH => ?_)
      refine lv_aload_n hx hb dX3_turnToAxis_28 rfl (lv_at hl 1 rfl) ?_
      refine lv_iload hx hb dX3_turnToAxis_29 (lv_at hl 0 rfl) ?_
      refine lv_if_eq (tgt := 39) hx hb dX3_turnToAxis_31 (by decide) (fun c_14 => ?_) (fun c_14 => ?_)
      · exact absurd c_14 (by decide)
      · refine lv_lload_n hx hb dX3_turnToAxis_34 rfl (lv_at hl 3 rfl) ?_
        refine lv_lneg hx hb dX3_turnToAxis_35 ?_
        refine lv_goto (tgt := 40) hx hb dX3_turnToAxis_36 (by decide) ?_
        refine fs_put C in_3 tyX3 tyX3_ok nmX3 hH 0 rfl rfl 1 (by decide) mw_62 rfl rfl rfl (Nat.le_of_ble_eq_true rfl) (ws' := [(h0, .inr (3, [.long (-x0), .long (-y0), .long t.2.2]))]) rfl dX3_turnToAxis_40 (fun H locs hH => ?_)
        refine lv_aload_n hx hb dX3_turnToAxis_43 rfl (lv_at hl 1 rfl) ?_
        refine lv_iload hx hb dX3_turnToAxis_44 (lv_at hl 0 rfl) ?_
        refine lv_if_eq (tgt := 55) hx hb dX3_turnToAxis_46 (by decide) (fun c_15 => ?_) (fun c_15 => ?_)
        · exact absurd c_15 (by decide)
        · refine lv_ldc2 (v := (-2147483648)) hx hb hown (hts _ mw_292) dX3_turnToAxis_49 ?_
          refine lv_goto (tgt := 56) hx hb dX3_turnToAxis_52 (by decide) ?_
          refine fs_put C in_3 tyX3 tyX3_ok nmX3 hH 0 rfl rfl 2 (by decide) mw_63 rfl rfl rfl (Nat.le_of_ble_eq_true rfl) (ws' := [(h0, .inr (3, [.long (-x0), .long (-y0), .long (-2147483648)]))]) rfl dX3_turnToAxis_56 (fun H locs hH => ?_)
          refine lv_iconst (v := 0) hx hb dX3_turnToAxis_59 (by decide) ?_
          refine lv_istore (lv' := [(6, .int 0), (5, .int 1), (0, .ref h0), (1, .long x0), (3, .long y0)]) hx hb dX3_turnToAxis_60 hl (by decide) rfl (fun ls hl => ?_)
          exact K_62 31 ((-x0), (-y0), (-2147483648)) 0 (by omega) (by simp [fs_axis, c_9, c_13, c_14, c_15]) (by omega) _ _ hH ls (lv_sub hl [2, 0] rfl)
