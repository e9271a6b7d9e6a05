theorem fs_ix6 {m : Int32} (h0 : ¬ m < 0) (h5 : m ≤ 5) : ∃ j, j < 6 ∧ m = nI j := by
  obtain ⟨j, hj, rfl⟩ := nI_of2 (n := 5) (M := 5) (by decide) h0 h5
  exact ⟨j, by omega, rfl⟩
def fs_wvi (a cs : Int32) : Int32 := if cs = 0 then Int64.toInt32 (fs_wave (Int32.toInt64 a)).2.1 else Int64.toInt32 (fs_wave (Int32.toInt64 a)).1
def fs_ang (x y : Int32) : Int32 := if x = 0 ∧ y = 0 then 0 else Int64.toInt32 (fs_axis (Int32.toInt64 x) (Int32.toInt64 y)).2.2
def fs_len (x y : Int32) : Int32 := Int64.toInt32 (fs_rd ((fs_axis (Int32.toInt64 x) (Int32.toInt64 y)).1 * 652032874) 30)
set_option maxHeartbeats 4000000 in
set_option maxRecDepth 100000 in
theorem c_X4_work (l : Launch) (X : fs_X) (sz : Nat) (h0 : Nat) (nt : Nat) (ns : Nat) (nb : Nat) (nu : Nat) (way : Int32) (a : Int32) (b : Int32)  (hl9 : l.stackTraces = false) : fs_MX l X yX4_work cX4_work 4 (some .int) ({ frames := 6, cells := 1, slots := 6, locals := 81 }) [.ref h0, .int way, .int a, .int b] [(h0, .inr (4, [.ref nt, .ref ns, .ref nb, .ref nu]))] sz (fs_Qi X (fun r (_ : Unit) => r = (fs_sat (fs_reck way (Int32.toInt64 a) (Int32.toInt64 b) 31) 2147483647) ∧ (fs_way way b 31)) (fun _ => [(h0, .inr (4, [.ref nt, .ref ns, .ref nb, .ref nu]))])) (¬ (fs_way way b 31)) 1 6 := by
  refine fs_ofX (by decide) (Nat.le_of_ble_eq_true rfl) ?_
  intro p e s m args below meth c A ls C hH hl ht9
  have C : fs_At X A p s m args meth c cX4_work 4 (some .int) RX4 "work" := C
  have hx := C.1
  have hb := C.2.1
  have hown := C.2.2.2.2.1
  have hts := C.2.2.2.2.2.1
  have hl : lv_has ls 4 [(0, .ref h0), (1, .int way), (2, .int a), (3, .int b)] := hl
  have hH : fs_H X A s [(h0, .inr (4, [.ref nt, .ref ns, .ref nb, .ref nu]))] s.heap [] := hH
  refine lv_iload_n hx hb dX4_work_0 rfl (lv_at hl 1 rfl) ?_
  refine lv_iload_n hx hb dX4_work_1 rfl (lv_at hl 3 rfl) ?_
  refine lv_bipush (v := 31) hx hb dX4_work_2 (by decide) ?_
  refine fs_ci C hH (wr := [(h0, .inr (4, [.ref nt, .ref ns, .ref nb, .ref nu]))]) [] [0] rfl rfl (by decide) (by decide) (fs_rS (rest := []) (As := [.int way, .int b, .int 31]) (n := 3) C hH (wc := []) [] (by decide) rfl (c_X4_isWay l X _ way b 31 ) rfl rfl mw_126 mw_124 mw_125 mw_1 (by decide +kernel) ⟨Nat.le_of_ble_eq_true rfl, Nat.le_of_ble_eq_true rfl⟩ rfl hl.1 rfl (Nat.le_of_ble_eq_true rfl) dX4_work_4 ⟨Nat.le_of_ble_eq_true rfl, Nat.le_of_ble_eq_true rfl⟩) (fun r_1 u_2 H locs hr_3 hH => ?_)
  subst hr_3
  have hH : fs_H X A s [(h0, .inr (4, [.ref nt, .ref ns, .ref nb, .ref nu]))] _ _ := hH
  refine lv_if_ne (tgt := 18) hx hb dX4_work_7 (by decide) (fun c_4 => ?_) (fun c_4 => ?_)
  · refine lv_iload_n hx hb dX4_work_18 rfl (lv_at hl 1 rfl) ?_
    refine lv_iload_n hx hb dX4_work_19 rfl (lv_at hl 2 rfl) ?_
    refine lv_i2l hx hb dX4_work_20 rfl ?_
    refine lv_iload_n hx hb dX4_work_21 rfl (lv_at hl 3 rfl) ?_
    refine lv_i2l hx hb dX4_work_22 rfl ?_
    refine lv_bipush (v := 31) hx hb dX4_work_23 (by decide) ?_
    refine fs_cl C hH (wr := [(h0, .inr (4, [.ref nt, .ref ns, .ref nb, .ref nu]))]) [] [0] rfl rfl (by decide) (by decide) (fs_rS (rest := []) (As := [.int way, .long (Int32.toInt64 a), .long (Int32.toInt64 b), .int 31]) (n := 4) C hH (wc := []) [] (by decide) rfl (c_X4_reckoned l X _ way (Int32.toInt64 a) (Int32.toInt64 b) 31 ) rfl rfl mw_168 mw_166 mw_167 mw_1 (by decide +kernel) ⟨Nat.le_of_ble_eq_true rfl, Nat.le_of_ble_eq_true rfl⟩ rfl hl.1 rfl (Nat.le_of_ble_eq_true rfl) dX4_work_25 ⟨Nat.le_of_ble_eq_true rfl, Nat.le_of_ble_eq_true rfl⟩) (fun r_5 u_6 H locs hr_7 hH => ?_)
    subst hr_7
    have hH : fs_H X A s [(h0, .inr (4, [.ref nt, .ref ns, .ref nb, .ref nu]))] _ _ := hH
    refine fs_ci C hH (wr := [(h0, .inr (4, [.ref nt, .ref ns, .ref nb, .ref nu]))]) [] [0] rfl rfl (by decide) (by decide) (fs_rS (rest := []) (As := [.long (fs_reck way (Int32.toInt64 a) (Int32.toInt64 b) 31)]) (n := 1) C hH (wc := []) [] (by decide) rfl (c_X4_satLong l X _ (fs_reck way (Int32.toInt64 a) (Int32.toInt64 b) 31) ) rfl rfl mw_175 mw_173 mw_174 mw_1 (by decide +kernel) ⟨Nat.le_of_ble_eq_true rfl, Nat.le_of_ble_eq_true rfl⟩ rfl hl.1 rfl (Nat.le_of_ble_eq_true rfl) dX4_work_28 ⟨Nat.le_of_ble_eq_true rfl, Nat.le_of_ble_eq_true rfl⟩) (fun r_8 u_9 H locs hr_10 hH => ?_)
    subst hr_10
    have hH : fs_H X A s [(h0, .inr (4, [.ref nt, .ref ns, .ref nb, .ref nu]))] _ _ := hH
    refine W.widen (k := 1) (n := 6) (by decide) (by decide) ?_
    exact vx_ret (fs_iret C hH () rfl (⟨rfl, fs_bi_nz.mp c_4⟩) dX4_work_31)
  · exact fs_throw C hl9 ht9 hH hl.1 (fs_bi_0.mp c_4) mw_127 mw_10 dX4_work_10 dX4_work_13 dX4_work_14 dX4_work_17 (by decide) (Nat.le_of_ble_eq_true rfl) (by decide) (by decide) (by decide) (by decide)
set_option maxHeartbeats 4000000 in
set_option maxRecDepth 100000 in
theorem c_X4_small (l : Launch) (X : fs_X) (sz : Nat) (h0 : Nat) (nt : Nat) (ns : Nat) (nb : Nat) (nu : Nat) (way : Int32) (a : Int32) (b : Int32)  (hl9 : l.stackTraces = false) : fs_MX l X yX4_small cX4_small 4 (some .int) ({ frames := 6, cells := 1, slots := 6, locals := 81 }) [.ref h0, .int way, .int a, .int b] [(h0, .inr (4, [.ref nt, .ref ns, .ref nb, .ref nu]))] sz (fs_Qi X (fun r (_ : Unit) => r = (fs_sat (fs_reck way (Int32.toInt64 a) (Int32.toInt64 b) 15) 32767) ∧ (fs_way way b 15 ∧ fs_short a ∧ (¬ 2 < way → fs_short b))) (fun _ => [(h0, .inr (4, [.ref nt, .ref ns, .ref nb, .ref nu]))])) (¬ (fs_way way b 15 ∧ fs_short a ∧ (¬ 2 < way → fs_short b))) 1 6 := by
  refine fs_ofX (by decide) (Nat.le_of_ble_eq_true rfl) ?_
  intro p e s m args below meth c A ls C hH hl ht9
  have C : fs_At X A p s m args meth c cX4_small 4 (some .int) RX4 "small" := C
  have hx := C.1
  have hb := C.2.1
  have hown := C.2.2.2.2.1
  have hts := C.2.2.2.2.2.1
  have hl : lv_has ls 4 [(0, .ref h0), (1, .int way), (2, .int a), (3, .int b)] := hl
  have hH : fs_H X A s [(h0, .inr (4, [.ref nt, .ref ns, .ref nb, .ref nu]))] s.heap [] := hH
  refine lv_iload_n hx hb dX4_small_0 rfl (lv_at hl 1 rfl) ?_
  refine lv_iload_n hx hb dX4_small_1 rfl (lv_at hl 3 rfl) ?_
  refine lv_bipush (v := 15) hx hb dX4_small_2 (by decide) ?_
  refine fs_ci C hH (wr := [(h0, .inr (4, [.ref nt, .ref ns, .ref nb, .ref nu]))]) [] [0] rfl rfl (by decide) (by decide) (fs_rS (rest := []) (As := [.int way, .int b, .int 15]) (n := 3) C hH (wc := []) [] (by decide) rfl (c_X4_isWay l X _ way b 15 ) rfl rfl mw_126 mw_124 mw_125 mw_1 (by decide +kernel) ⟨Nat.le_of_ble_eq_true rfl, Nat.le_of_ble_eq_true rfl⟩ rfl hl.1 rfl (Nat.le_of_ble_eq_true rfl) dX4_small_4 ⟨Nat.le_of_ble_eq_true rfl, Nat.le_of_ble_eq_true rfl⟩) (fun r_1 u_2 H locs hr_3 hH => ?_)
  subst hr_3
  have hH : fs_H X A s [(h0, .inr (4, [.ref nt, .ref ns, .ref nb, .ref nu]))] _ _ := hH
  refine lv_if_eq (tgt := 17) hx hb dX4_small_7 (by decide) (fun c_4 => ?_) (fun c_4 => ?_)
  · exact fs_throw C hl9 ht9 hH hl.1 (fun h => (fs_bi_0.mp c_4) h.1) mw_127 mw_10 dX4_small_17 dX4_small_20 dX4_small_21 dX4_small_24 (by decide) (Nat.le_of_ble_eq_true rfl) (by decide) (by decide) (by decide) (by decide)
  · refine lv_iload_n hx hb dX4_small_10 rfl (lv_at hl 2 rfl) ?_
    refine fs_ci C hH (wr := [(h0, .inr (4, [.ref nt, .ref ns, .ref nb, .ref nu]))]) [] [0] rfl rfl (by decide) (by decide) (fs_rS (rest := []) (As := [.int a]) (n := 1) C hH (wc := []) [] (by decide) rfl (c_X4_isShort l X _ a ) rfl rfl mw_187 mw_185 mw_186 mw_1 (by decide +kernel) ⟨Nat.le_of_ble_eq_true rfl, Nat.le_of_ble_eq_true rfl⟩ rfl hl.1 rfl (Nat.le_of_ble_eq_true rfl) dX4_small_11 ⟨Nat.le_of_ble_eq_true rfl, Nat.le_of_ble_eq_true rfl⟩) (fun r_5 u_6 H locs hr_7 hH => ?_)
    subst hr_7
    have hH : fs_H X A s [(h0, .inr (4, [.ref nt, .ref ns, .ref nb, .ref nu]))] _ _ := hH
    refine lv_if_ne (tgt := 25) hx hb dX4_small_14 (by decide) (fun c_8 => ?_) (fun c_8 => ?_)
    · refine lv_iload_n hx hb dX4_small_25 rfl (lv_at hl 1 rfl) ?_
      refine lv_iconst (v := 2) hx hb dX4_small_26 (by decide) ?_
      refine lv_icmp_gt (tgt := 45) hx hb dX4_small_27 (by decide) (fun c_9 => ?_) (fun c_9 => ?_)
      · refine lv_iload_n hx hb dX4_small_45 rfl (lv_at hl 1 rfl) ?_
        refine lv_iload_n hx hb dX4_small_46 rfl (lv_at hl 2 rfl) ?_
        refine lv_i2l hx hb dX4_small_47 rfl ?_
        refine lv_iload_n hx hb dX4_small_48 rfl (lv_at hl 3 rfl) ?_
        refine lv_i2l hx hb dX4_small_49 rfl ?_
        refine lv_bipush (v := 15) hx hb dX4_small_50 (by decide) ?_
        refine fs_cl C hH (wr := [(h0, .inr (4, [.ref nt, .ref ns, .ref nb, .ref nu]))]) [] [0] rfl rfl (by decide) (by decide) (fs_rS (rest := []) (As := [.int way, .long (Int32.toInt64 a), .long (Int32.toInt64 b), .int 15]) (n := 4) C hH (wc := []) [] (by decide) rfl (c_X4_reckoned l X _ way (Int32.toInt64 a) (Int32.toInt64 b) 15 ) rfl rfl mw_168 mw_166 mw_167 mw_1 (by decide +kernel) ⟨Nat.le_of_ble_eq_true rfl, Nat.le_of_ble_eq_true rfl⟩ rfl hl.1 rfl (Nat.le_of_ble_eq_true rfl) dX4_small_52 ⟨Nat.le_of_ble_eq_true rfl, Nat.le_of_ble_eq_true rfl⟩) (fun r_10 u_11 H locs hr_12 hH => ?_)
        subst hr_12
        have hH : fs_H X A s [(h0, .inr (4, [.ref nt, .ref ns, .ref nb, .ref nu]))] _ _ := hH
        refine fs_ci C hH (wr := [(h0, .inr (4, [.ref nt, .ref ns, .ref nb, .ref nu]))]) [] [0] rfl rfl (by decide) (by decide) (fs_rS (rest := []) (As := [.long (fs_reck way (Int32.toInt64 a) (Int32.toInt64 b) 15)]) (n := 1) C hH (wc := []) [] (by decide) rfl (c_X4_satShort l X _ (fs_reck way (Int32.toInt64 a) (Int32.toInt64 b) 15) ) rfl rfl mw_84 mw_82 mw_83 mw_1 (by decide +kernel) ⟨Nat.le_of_ble_eq_true rfl, Nat.le_of_ble_eq_true rfl⟩ rfl hl.1 rfl (Nat.le_of_ble_eq_true rfl) dX4_small_55 ⟨Nat.le_of_ble_eq_true rfl, Nat.le_of_ble_eq_true rfl⟩) (fun r_13 u_14 H locs hr_15 hH => ?_)
        subst hr_15
        have hH : fs_H X A s [(h0, .inr (4, [.ref nt, .ref ns, .ref nb, .ref nu]))] _ _ := hH
        refine W.widen (k := 1) (n := 6) (by decide) (by decide) ?_
        exact vx_ret (fs_iret C hH () rfl (⟨rfl, fs_bi_nz.mp c_4, fs_bi_nz.mp c_8, fun h => absurd c_9 h⟩) dX4_small_58)
      · refine lv_iload_n hx hb dX4_small_30 rfl (lv_at hl 3 rfl) ?_
        refine fs_ci C hH (wr := [(h0, .inr (4, [.ref nt, .ref ns, .ref nb, .ref nu]))]) [] [0] rfl rfl (by decide) (by decide) (fs_rS (rest := []) (As := [.int b]) (n := 1) C hH (wc := []) [] (by decide) rfl (c_X4_isShort l X _ b ) rfl rfl mw_187 mw_185 mw_186 mw_1 (by decide +kernel) ⟨Nat.le_of_ble_eq_true rfl, Nat.le_of_ble_eq_true rfl⟩ rfl hl.1 rfl (Nat.le_of_ble_eq_true rfl) dX4_small_31 ⟨Nat.le_of_ble_eq_true rfl, Nat.le_of_ble_eq_true rfl⟩) (fun r_16 u_17 H locs hr_18 hH => ?_)
        subst hr_18
        have hH : fs_H X A s [(h0, .inr (4, [.ref nt, .ref ns, .ref nb, .ref nu]))] _ _ := hH
        refine lv_if_ne (tgt := 45) hx hb dX4_small_34 (by decide) (fun c_19 => ?_) (fun c_19 => ?_)
        · refine lv_iload_n hx hb dX4_small_45 rfl (lv_at hl 1 rfl) ?_
          refine lv_iload_n hx hb dX4_small_46 rfl (lv_at hl 2 rfl) ?_
          refine lv_i2l hx hb dX4_small_47 rfl ?_
          refine lv_iload_n hx hb dX4_small_48 rfl (lv_at hl 3 rfl) ?_
          refine lv_i2l hx hb dX4_small_49 rfl ?_
          refine lv_bipush (v := 15) hx hb dX4_small_50 (by decide) ?_
          refine fs_cl C hH (wr := [(h0, .inr (4, [.ref nt, .ref ns, .ref nb, .ref nu]))]) [] [0] rfl rfl (by decide) (by decide) (fs_rS (rest := []) (As := [.int way, .long (Int32.toInt64 a), .long (Int32.toInt64 b), .int 15]) (n := 4) C hH (wc := []) [] (by decide) rfl (c_X4_reckoned l X _ way (Int32.toInt64 a) (Int32.toInt64 b) 15 ) rfl rfl mw_168 mw_166 mw_167 mw_1 (by decide +kernel) ⟨Nat.le_of_ble_eq_true rfl, Nat.le_of_ble_eq_true rfl⟩ rfl hl.1 rfl (Nat.le_of_ble_eq_true rfl) dX4_small_52 ⟨Nat.le_of_ble_eq_true rfl, Nat.le_of_ble_eq_true rfl⟩) (fun r_20 u_21 H locs hr_22 hH => ?_)
          subst hr_22
          have hH : fs_H X A s [(h0, .inr (4, [.ref nt, .ref ns, .ref nb, .ref nu]))] _ _ := hH
          refine fs_ci C hH (wr := [(h0, .inr (4, [.ref nt, .ref ns, .ref nb, .ref nu]))]) [] [0] rfl rfl (by decide) (by decide) (fs_rS (rest := []) (As := [.long (fs_reck way (Int32.toInt64 a) (Int32.toInt64 b) 15)]) (n := 1) C hH (wc := []) [] (by decide) rfl (c_X4_satShort l X _ (fs_reck way (Int32.toInt64 a) (Int32.toInt64 b) 15) ) rfl rfl mw_84 mw_82 mw_83 mw_1 (by decide +kernel) ⟨Nat.le_of_ble_eq_true rfl, Nat.le_of_ble_eq_true rfl⟩ rfl hl.1 rfl (Nat.le_of_ble_eq_true rfl) dX4_small_55 ⟨Nat.le_of_ble_eq_true rfl, Nat.le_of_ble_eq_true rfl⟩) (fun r_23 u_24 H locs hr_25 hH => ?_)
          subst hr_25
          have hH : fs_H X A s [(h0, .inr (4, [.ref nt, .ref ns, .ref nb, .ref nu]))] _ _ := hH
          refine W.widen (k := 1) (n := 6) (by decide) (by decide) ?_
          exact vx_ret (fs_iret C hH () rfl (⟨rfl, fs_bi_nz.mp c_4, fs_bi_nz.mp c_8, fun _ => fs_bi_nz.mp c_19⟩) dX4_small_58)
        · exact fs_throw C hl9 ht9 hH hl.1 (fun h => (fs_bi_0.mp c_19) (h.2.2 c_9)) mw_127 mw_10 dX4_small_37 dX4_small_40 dX4_small_41 dX4_small_44 (by decide) (Nat.le_of_ble_eq_true rfl) (by decide) (by decide) (by decide) (by decide)
    · exact fs_throw C hl9 ht9 hH hl.1 (fun h => (fs_bi_0.mp c_8) h.2.1) mw_127 mw_10 dX4_small_17 dX4_small_20 dX4_small_21 dX4_small_24 (by decide) (Nat.le_of_ble_eq_true rfl) (by decide) (by decide) (by decide) (by decide)
set_option maxHeartbeats 4000000 in
set_option maxRecDepth 100000 in
theorem c_X4_narrow (l : Launch) (X : fs_X) (sz : Nat) (h0 : Nat) (nt : Nat) (ns : Nat) (nb : Nat) (nu : Nat) (a : Int32)  : fs_M l X yX4_narrow cX4_narrow 2 (some .int) ({ frames := 2, cells := 0, slots := 0, locals := 38 }) [.ref h0, .int a] [(h0, .inr (4, [.ref nt, .ref ns, .ref nb, .ref nu]))] sz (fs_Qi X (fun r (_ : Unit) => r = (fs_sat (fs_rd (Int32.toInt64 a) 16) 32767)) (fun _ => [(h0, .inr (4, [.ref nt, .ref ns, .ref nb, .ref nu]))])) 0 0 := by
  refine fs_ofW (by decide) (Nat.le_of_ble_eq_true rfl) ?_
  intro p e s m args below meth c A ls C hH hl
  have C : fs_At X A p s m args meth c cX4_narrow 2 (some .int) RX4 "narrow" := C
  have hx := C.1
  have hb := C.2.1
  have hown := C.2.2.2.2.1
  have hts := C.2.2.2.2.2.1
  have hl : lv_has ls 2 [(0, .ref h0), (1, .int a)] := hl
  have hH : fs_H X A s [(h0, .inr (4, [.ref nt, .ref ns, .ref nb, .ref nu]))] s.heap [] := hH
  refine lv_iload_n hx hb dX4_narrow_0 rfl (lv_at hl 1 rfl) ?_
  refine lv_i2l hx hb dX4_narrow_1 rfl ?_
  refine lv_bipush (v := 16) hx hb dX4_narrow_2 (by decide) ?_
  refine fs_cl C hH (wr := [(h0, .inr (4, [.ref nt, .ref ns, .ref nb, .ref nu]))]) [] [0] rfl rfl (by decide) (by decide) (fs_rS (rest := []) (As := [.long (Int32.toInt64 a), .int 16]) (n := 2) C hH (wc := []) [] (by decide) rfl (c_X4_rounded l X _ (Int32.toInt64 a) 16 ) rfl rfl mw_81 mw_79 mw_80 mw_1 (by decide +kernel) ⟨Nat.le_of_ble_eq_true rfl, Nat.le_of_ble_eq_true rfl⟩ rfl hl.1 rfl (Nat.le_of_ble_eq_true rfl) dX4_narrow_4 ⟨Nat.le_of_ble_eq_true rfl, Nat.le_of_ble_eq_true rfl⟩) (fun r_1 u_2 H locs hr_3 hH => ?_)
  subst hr_3
  have hH : fs_H X A s [(h0, .inr (4, [.ref nt, .ref ns, .ref nb, .ref nu]))] _ _ := hH
  refine fs_ci C hH (wr := [(h0, .inr (4, [.ref nt, .ref ns, .ref nb, .ref nu]))]) [] [0] rfl rfl (by decide) (by decide) (fs_rS (rest := []) (As := [.long (fs_rd (Int32.toInt64 a) 16)]) (n := 1) C hH (wc := []) [] (by decide) rfl (c_X4_satShort l X _ (fs_rd (Int32.toInt64 a) 16) ) rfl rfl mw_84 mw_82 mw_83 mw_1 (by decide +kernel) ⟨Nat.le_of_ble_eq_true rfl, Nat.le_of_ble_eq_true rfl⟩ rfl hl.1 rfl (Nat.le_of_ble_eq_true rfl) dX4_narrow_7 ⟨Nat.le_of_ble_eq_true rfl, Nat.le_of_ble_eq_true rfl⟩) (fun r_4 u_5 H locs hr_6 hH => ?_)
  subst hr_6
  have hH : fs_H X A s [(h0, .inr (4, [.ref nt, .ref ns, .ref nb, .ref nu]))] _ _ := hH
  exact fs_iret C hH () rfl rfl dX4_narrow_10
set_option maxHeartbeats 4000000 in
set_option maxRecDepth 100000 in
theorem c_X4_tap (l : Launch) (X : fs_X) (sz : Nat) (h0 : Nat) (nt : Nat) (ns : Nat) (nb : Nat) (nu : Nat) (q1 : Nat) (q2 : Nat) (ff : Nat → Int32) (k : Int32) (v : Int32)  (hl9 : l.stackTraces = false) : fs_MX l X yX4_tap cX4_tap 3 none ({ frames := 6, cells := 1, slots := 6, locals := 81 }) [.ref h0, .int k, .int v] [(h0, .inr (4, [.ref nt, .ref ns, .ref nb, .ref nu])), (nt, .inr (2, [.ref q1, .ref q2])), (q1, fs_ai X 16 ff)] sz (fs_Qv X (fun (_ : Unit) => ((¬ k < 0 ∧ ¬ 16 ≤ k) ∧ fs_short v)) (fun _ => [(h0, .inr (4, [.ref nt, .ref ns, .ref nb, .ref nu])), (nt, .inr (2, [.ref q1, .ref q2])), (q1, fs_ai X 16 (upd ff (Int32.toNatClampNeg k) v))])) (¬ ((¬ k < 0 ∧ ¬ 16 ≤ k) ∧ fs_short v)) 1 6 := by
  refine fs_ofX (by decide) (Nat.le_of_ble_eq_true rfl) ?_
  intro p e s m args below meth c A ls C hH hl ht9
  have C : fs_At X A p s m args meth c cX4_tap 3 none RX4 "tap" := C
  have hx := C.1
  have hb := C.2.1
  have hown := C.2.2.2.2.1
  have hts := C.2.2.2.2.2.1
  have hl : lv_has ls 3 [(0, .ref h0), (1, .int k), (2, .int v)] := hl
  have hH : fs_H X A s [(h0, .inr (4, [.ref nt, .ref ns, .ref nb, .ref nu])), (nt, .inr (2, [.ref q1, .ref q2])), (q1, fs_ai X 16 ff)] s.heap [] := hH
  refine lv_iload_n hx hb dX4_tap_0 rfl (lv_at hl 1 rfl) ?_
  refine lv_bipush (v := 16) hx hb dX4_tap_1 (by decide) ?_
  refine fs_ci C hH (wr := [(h0, .inr (4, [.ref nt, .ref ns, .ref nb, .ref nu])), (nt, .inr (2, [.ref q1, .ref q2])), (q1, fs_ai X 16 ff)]) [] [0, 1, 2] rfl rfl (by decide) (by decide) (fs_rS (rest := []) (As := [.int k, .int 16]) (n := 2) C hH (wc := []) [] (by decide) rfl (c_X4_isWithin l X _ k 16 ) rfl rfl mw_197 mw_195 mw_196 mw_1 (by decide +kernel) ⟨Nat.le_of_ble_eq_true rfl, Nat.le_of_ble_eq_true rfl⟩ rfl hl.1 rfl (Nat.le_of_ble_eq_true rfl) dX4_tap_3 ⟨Nat.le_of_ble_eq_true rfl, Nat.le_of_ble_eq_true rfl⟩) (fun r_1 u_2 H locs hr_3 hH => ?_)
  subst hr_3
  have hH : fs_H X A s [(h0, .inr (4, [.ref nt, .ref ns, .ref nb, .ref nu])), (nt, .inr (2, [.ref q1, .ref q2])), (q1, fs_ai X 16 ff)] _ _ := hH
  refine lv_if_eq (tgt := 16) hx hb dX4_tap_6 (by decide) (fun c_4 => ?_) (fun c_4 => ?_)
  · exact fs_throw C hl9 ht9 hH hl.1 (fun h => (fs_bi_0.mp c_4) h.1) mw_127 mw_10 dX4_tap_16 dX4_tap_19 dX4_tap_20 dX4_tap_23 (by decide) (Nat.le_of_ble_eq_true rfl) (by decide) (by decide) (by decide) (by decide)
  · refine lv_iload_n hx hb dX4_tap_9 rfl (lv_at hl 2 rfl) ?_
    refine fs_ci C hH (wr := [(h0, .inr (4, [.ref nt, .ref ns, .ref nb, .ref nu])), (nt, .inr (2, [.ref q1, .ref q2])), (q1, fs_ai X 16 ff)]) [] [0, 1, 2] rfl rfl (by decide) (by decide) (fs_rS (rest := []) (As := [.int v]) (n := 1) C hH (wc := []) [] (by decide) rfl (c_X4_isShort l X _ v ) rfl rfl mw_187 mw_185 mw_186 mw_1 (by decide +kernel) ⟨Nat.le_of_ble_eq_true rfl, Nat.le_of_ble_eq_true rfl⟩ rfl hl.1 rfl (Nat.le_of_ble_eq_true rfl) dX4_tap_10 ⟨Nat.le_of_ble_eq_true rfl, Nat.le_of_ble_eq_true rfl⟩) (fun r_5 u_6 H locs hr_7 hH => ?_)
    subst hr_7
    have hH : fs_H X A s [(h0, .inr (4, [.ref nt, .ref ns, .ref nb, .ref nu])), (nt, .inr (2, [.ref q1, .ref q2])), (q1, fs_ai X 16 ff)] _ _ := hH
    refine lv_if_ne (tgt := 24) hx hb dX4_tap_13 (by decide) (fun c_8 => ?_) (fun c_8 => ?_)
    · refine lv_aload_n hx hb dX4_tap_24 rfl (lv_at hl 0 rfl) ?_
      refine fs_get C in_4 hH 0 rfl rfl 0 (by decide) mw_67 (v := .ref nt) rfl dX4_tap_25 ?_
      refine fs_getN C in_2 hH 1 rfl rfl 0 (by decide) (List.mem_of_getElem? (i := 0) rfl) (v := .ref q1) rfl dX4_tap_28 ?_
      refine lv_iload_n hx hb dX4_tap_31 rfl (lv_at hl 1 rfl) ?_
      refine lv_iload_n hx hb dX4_tap_32 rfl (lv_at hl 2 rfl) ?_
      refine fs_iast C hH 2 rfl (k := (Int32.toNatClampNeg k)) (fs_ixn (n := 16) (by decide) (fs_bi_nz.mp c_4)).1 (fs_ixn (n := 16) (by decide) (fs_bi_nz.mp c_4)).2 (by decide) (ws' := [(h0, .inr (4, [.ref nt, .ref ns, .ref nb, .ref nu])), (nt, .inr (2, [.ref q1, .ref q2])), (q1, fs_ai X 16 (upd ff (Int32.toNatClampNeg k) v))]) rfl dX4_tap_33 (fun H locs hH => ?_)
      refine W.widen (k := 1) (n := 6) (by decide) (by decide) ?_
      exact vx_ret (fs_vret C hH () rfl (⟨fs_bi_nz.mp c_4, fs_bi_nz.mp c_8⟩) dX4_tap_34)
    · exact fs_throw C hl9 ht9 hH hl.1 (fun h => (fs_bi_0.mp c_8) h.2) mw_127 mw_10 dX4_tap_16 dX4_tap_19 dX4_tap_20 dX4_tap_23 (by decide) (Nat.le_of_ble_eq_true rfl) (by decide) (by decide) (by decide) (by decide)
set_option maxHeartbeats 4000000 in
set_option maxRecDepth 100000 in
theorem c_X4_filter (l : Launch) (X : fs_X) (sz : Nat) (h0 : Nat) (nt : Nat) (ns : Nat) (nb : Nat) (nu : Nat) (q1 : Nat) (q2 : Nat) (ff : Nat → Int32) (gg : Nat → Int32) (x : Int32)  (hl9 : l.stackTraces = false) : fs_MX l X yX4_filter cX4_filter 2 (some .int) ({ frames := 6, cells := 1, slots := 6, locals := 81 }) [.ref h0, .int x] [(h0, .inr (4, [.ref nt, .ref ns, .ref nb, .ref nu])), (nt, .inr (2, [.ref q1, .ref q2])), (q1, fs_ai X 16 ff), (q2, fs_ai X 16 gg)] sz (fs_Qi X (fun r (_ : Unit) => r = (fs_sat (fs_rd (fs_dot ff (fs_shift gg x) 16) 15) 32767) ∧ (fs_short x)) (fun _ => [(h0, .inr (4, [.ref nt, .ref ns, .ref nb, .ref nu])), (nt, .inr (2, [.ref q1, .ref q2])), (q1, fs_ai X 16 ff), (q2, fs_ai X 16 (fs_shift gg x))])) (¬ (fs_short x)) 1 6 := by
  refine fs_ofX (by decide) (Nat.le_of_ble_eq_true rfl) ?_
  intro p e s m args below meth c A ls C hH hl ht9
  have C : fs_At X A p s m args meth c cX4_filter 2 (some .int) RX4 "filter" := C
  have hx := C.1
  have hb := C.2.1
  have hown := C.2.2.2.2.1
  have hts := C.2.2.2.2.2.1
  have hl : lv_has ls 2 [(0, .ref h0), (1, .int x)] := hl
  have hH : fs_H X A s [(h0, .inr (4, [.ref nt, .ref ns, .ref nb, .ref nu])), (nt, .inr (2, [.ref q1, .ref q2])), (q1, fs_ai X 16 ff), (q2, fs_ai X 16 gg)] s.heap [] := hH
  refine lv_iload_n hx hb dX4_filter_0 rfl (lv_at hl 1 rfl) ?_
  refine fs_ci C hH (wr := [(h0, .inr (4, [.ref nt, .ref ns, .ref nb, .ref nu])), (nt, .inr (2, [.ref q1, .ref q2])), (q1, fs_ai X 16 ff), (q2, fs_ai X 16 gg)]) [] [0, 1, 2, 3] rfl rfl (by decide) (by decide) (fs_rS (rest := []) (As := [.int x]) (n := 1) C hH (wc := []) [] (by decide) rfl (c_X4_isShort l X _ x ) rfl rfl mw_187 mw_185 mw_186 mw_1 (by decide +kernel) ⟨Nat.le_of_ble_eq_true rfl, Nat.le_of_ble_eq_true rfl⟩ rfl hl.1 rfl (Nat.le_of_ble_eq_true rfl) dX4_filter_1 ⟨Nat.le_of_ble_eq_true rfl, Nat.le_of_ble_eq_true rfl⟩) (fun r_1 u_2 H locs hr_3 hH => ?_)
  subst hr_3
  have hH : fs_H X A s [(h0, .inr (4, [.ref nt, .ref ns, .ref nb, .ref nu])), (nt, .inr (2, [.ref q1, .ref q2])), (q1, fs_ai X 16 ff), (q2, fs_ai X 16 gg)] _ _ := hH
  refine lv_if_ne (tgt := 15) hx hb dX4_filter_4 (by decide) (fun c_4 => ?_) (fun c_4 => ?_)
  · refine lv_aload_n hx hb dX4_filter_15 rfl (lv_at hl 0 rfl) ?_
    refine fs_get C in_4 hH 0 rfl rfl 0 (by decide) mw_67 (v := .ref nt) rfl dX4_filter_16 ?_
    refine lv_iload_n hx hb dX4_filter_19 rfl (lv_at hl 1 rfl) ?_
    refine fs_ci C hH (wr := [(h0, .inr (4, [.ref nt, .ref ns, .ref nb, .ref nu]))]) [1, 2, 3] [0] rfl rfl (by decide) (by decide) (fs_rVN (rest := []) (As := [.int x]) (n := 1) (q0 := 1) (ci := 2) C hH (wc := [(nt, .inr (2, [.ref q1, .ref q2])), (q1, fs_ai X 16 ff), (q2, fs_ai X 16 gg)]) [1, 2, 3] (by decide) rfl (c_X2_answerTo l X _ nt q1 q2 ff gg x ) rfl rfl rfl rfl mw_206 (List.mem_of_getElem? (i := 8) rfl) mw_205 mw_484 mw_2 (by decide +kernel) ⟨Nat.le_of_ble_eq_true rfl, Nat.le_of_ble_eq_true rfl⟩ rfl hl.1 rfl (Nat.le_of_ble_eq_true rfl) dX4_filter_20 ⟨Nat.le_of_ble_eq_true rfl, Nat.le_of_ble_eq_true rfl⟩) (fun r_5 u_6 H locs hr_7 hH => ?_)
    subst hr_7
    have hH : fs_H X A s [(h0, .inr (4, [.ref nt, .ref ns, .ref nb, .ref nu])), (nt, .inr (2, [.ref q1, .ref q2])), (q1, fs_ai X 16 ff), (q2, fs_ai X 16 (fs_shift gg x))] _ _ := hH
    refine W.widen (k := 1) (n := 6) (by decide) (by decide) ?_
    exact vx_ret (fs_iret C hH () rfl (⟨rfl, fs_bi_nz.mp c_4⟩) dX4_filter_23)
  · exact fs_throw C hl9 ht9 hH hl.1 (fs_bi_0.mp c_4) mw_127 mw_10 dX4_filter_7 dX4_filter_10 dX4_filter_11 dX4_filter_14 (by decide) (Nat.le_of_ble_eq_true rfl) (by decide) (by decide) (by decide) (by decide)
set_option maxHeartbeats 4000000 in
set_option maxRecDepth 100000 in
theorem c_X4_stage (l : Launch) (X : fs_X) (sz : Nat) (h0 : Nat) (nt : Nat) (ns : Nat) (nb : Nat) (nu : Nat) (s0 : Nat) (k0 : Nat) (f0 : Nat → Int32) (a0 : Int32) (b0 : Int32) (c0 : Int32) (d0 : Int32) (s1 : Nat) (k1 : Nat) (f1 : Nat → Int32) (a1 : Int32) (b1 : Int32) (c1 : Int32) (d1 : Int32) (s2 : Nat) (k2 : Nat) (f2 : Nat → Int32) (a2 : Int32) (b2 : Int32) (c2 : Int32) (d2 : Int32) (s3 : Nat) (k3 : Nat) (f3 : Nat → Int32) (a3 : Int32) (b3 : Int32) (c3 : Int32) (d3 : Int32) (a : Int32) (b : Int32) (v : Int32)  (hl9 : l.stackTraces = false) : fs_MX l X yX4_stage cX4_stage 4 none ({ frames := 6, cells := 1, slots := 6, locals := 81 }) [.ref h0, .int a, .int b, .int v] [(h0, .inr (4, [.ref nt, .ref ns, .ref nb, .ref nu])), (ns, fs_aq X 4 (fs_sts s0 s1 s2 s3)), (s0, .inr (1, [.ref k0, .int a0, .int b0, .int c0, .int d0])), (k0, fs_ai X 5 f0), (s1, .inr (1, [.ref k1, .int a1, .int b1, .int c1, .int d1])), (k1, fs_ai X 5 f1), (s2, .inr (1, [.ref k2, .int a2, .int b2, .int c2, .int d2])), (k2, fs_ai X 5 f2), (s3, .inr (1, [.ref k3, .int a3, .int b3, .int c3, .int d3])), (k3, fs_ai X 5 f3)] sz (fs_Qv X (fun (_ : Unit) => ((¬ a < 0 ∧ ¬ 4 ≤ a) ∧ (¬ b < 0 ∧ ¬ 5 ≤ b) ∧ fs_short v)) (fun _ => [(h0, .inr (4, [.ref nt, .ref ns, .ref nb, .ref nu])), (ns, fs_aq X 4 (fs_sts s0 s1 s2 s3)), (s0, .inr (1, [.ref k0, .int a0, .int b0, .int c0, .int d0])), (k0, fs_ai X 5 (fs_cu f0 0 a b v)), (s1, .inr (1, [.ref k1, .int a1, .int b1, .int c1, .int d1])), (k1, fs_ai X 5 (fs_cu f1 1 a b v)), (s2, .inr (1, [.ref k2, .int a2, .int b2, .int c2, .int d2])), (k2, fs_ai X 5 (fs_cu f2 2 a b v)), (s3, .inr (1, [.ref k3, .int a3, .int b3, .int c3, .int d3])), (k3, fs_ai X 5 (fs_cu f3 3 a b v))])) (¬ ((¬ a < 0 ∧ ¬ 4 ≤ a) ∧ (¬ b < 0 ∧ ¬ 5 ≤ b) ∧ fs_short v)) 1 6 := by
  refine fs_ofX (by decide) (Nat.le_of_ble_eq_true rfl) ?_
  intro p e s m args below meth c A ls C hH hl ht9
  have C : fs_At X A p s m args meth c cX4_stage 4 none RX4 "stage" := C
  have hx := C.1
  have hb := C.2.1
  have hown := C.2.2.2.2.1
  have hts := C.2.2.2.2.2.1
  have hl : lv_has ls 4 [(0, .ref h0), (1, .int a), (2, .int b), (3, .int v)] := hl
  have hH : fs_H X A s [(h0, .inr (4, [.ref nt, .ref ns, .ref nb, .ref nu])), (ns, fs_aq X 4 (fs_sts s0 s1 s2 s3)), (s0, .inr (1, [.ref k0, .int a0, .int b0, .int c0, .int d0])), (k0, fs_ai X 5 f0), (s1, .inr (1, [.ref k1, .int a1, .int b1, .int c1, .int d1])), (k1, fs_ai X 5 f1), (s2, .inr (1, [.ref k2, .int a2, .int b2, .int c2, .int d2])), (k2, fs_ai X 5 f2), (s3, .inr (1, [.ref k3, .int a3, .int b3, .int c3, .int d3])), (k3, fs_ai X 5 f3)] s.heap [] := hH
  refine lv_iload_n hx hb dX4_stage_0 rfl (lv_at hl 1 rfl) ?_
  refine lv_iconst (v := 4) hx hb dX4_stage_1 (by decide) ?_
  refine fs_ci C hH (wr := [(h0, .inr (4, [.ref nt, .ref ns, .ref nb, .ref nu])), (ns, fs_aq X 4 (fs_sts s0 s1 s2 s3)), (s0, .inr (1, [.ref k0, .int a0, .int b0, .int c0, .int d0])), (k0, fs_ai X 5 f0), (s1, .inr (1, [.ref k1, .int a1, .int b1, .int c1, .int d1])), (k1, fs_ai X 5 f1), (s2, .inr (1, [.ref k2, .int a2, .int b2, .int c2, .int d2])), (k2, fs_ai X 5 f2), (s3, .inr (1, [.ref k3, .int a3, .int b3, .int c3, .int d3])), (k3, fs_ai X 5 f3)]) [] [0, 1, 2, 3, 4, 5, 6, 7, 8, 9] rfl rfl (by decide) (by decide) (fs_rS (rest := []) (As := [.int a, .int 4]) (n := 2) C hH (wc := []) [] (by decide) rfl (c_X4_isWithin l X _ a 4 ) rfl rfl mw_197 mw_195 mw_196 mw_1 (by decide +kernel) ⟨Nat.le_of_ble_eq_true rfl, Nat.le_of_ble_eq_true rfl⟩ rfl hl.1 rfl (Nat.le_of_ble_eq_true rfl) dX4_stage_2 ⟨Nat.le_of_ble_eq_true rfl, Nat.le_of_ble_eq_true rfl⟩) (fun r_1 u_2 H locs hr_3 hH => ?_)
  subst hr_3
  have hH : fs_H X A s [(h0, .inr (4, [.ref nt, .ref ns, .ref nb, .ref nu])), (ns, fs_aq X 4 (fs_sts s0 s1 s2 s3)), (s0, .inr (1, [.ref k0, .int a0, .int b0, .int c0, .int d0])), (k0, fs_ai X 5 f0), (s1, .inr (1, [.ref k1, .int a1, .int b1, .int c1, .int d1])), (k1, fs_ai X 5 f1), (s2, .inr (1, [.ref k2, .int a2, .int b2, .int c2, .int d2])), (k2, fs_ai X 5 f2), (s3, .inr (1, [.ref k3, .int a3, .int b3, .int c3, .int d3])), (k3, fs_ai X 5 f3)] _ _ := hH
  refine lv_if_eq (tgt := 23) hx hb dX4_stage_5 (by decide) (fun c_4 => ?_) (fun c_4 => ?_)
  · exact fs_throw C hl9 ht9 hH hl.1 (fun h => (fs_bi_0.mp c_4) h.1) mw_127 mw_10 dX4_stage_23 dX4_stage_26 dX4_stage_27 dX4_stage_30 (by decide) (Nat.le_of_ble_eq_true rfl) (by decide) (by decide) (by decide) (by decide)
  · refine lv_iload_n hx hb dX4_stage_8 rfl (lv_at hl 2 rfl) ?_
    refine lv_iconst (v := 5) hx hb dX4_stage_9 (by decide) ?_
    refine fs_ci C hH (wr := [(h0, .inr (4, [.ref nt, .ref ns, .ref nb, .ref nu])), (ns, fs_aq X 4 (fs_sts s0 s1 s2 s3)), (s0, .inr (1, [.ref k0, .int a0, .int b0, .int c0, .int d0])), (k0, fs_ai X 5 f0), (s1, .inr (1, [.ref k1, .int a1, .int b1, .int c1, .int d1])), (k1, fs_ai X 5 f1), (s2, .inr (1, [.ref k2, .int a2, .int b2, .int c2, .int d2])), (k2, fs_ai X 5 f2), (s3, .inr (1, [.ref k3, .int a3, .int b3, .int c3, .int d3])), (k3, fs_ai X 5 f3)]) [] [0, 1, 2, 3, 4, 5, 6, 7, 8, 9] rfl rfl (by decide) (by decide) (fs_rS (rest := []) (As := [.int b, .int 5]) (n := 2) C hH (wc := []) [] (by decide) rfl (c_X4_isWithin l X _ b 5 ) rfl rfl mw_197 mw_195 mw_196 mw_1 (by decide +kernel) ⟨Nat.le_of_ble_eq_true rfl, Nat.le_of_ble_eq_true rfl⟩ rfl hl.1 rfl (Nat.le_of_ble_eq_true rfl) dX4_stage_10 ⟨Nat.le_of_ble_eq_true rfl, Nat.le_of_ble_eq_true rfl⟩) (fun r_5 u_6 H locs hr_7 hH => ?_)
    subst hr_7
    have hH : fs_H X A s [(h0, .inr (4, [.ref nt, .ref ns, .ref nb, .ref nu])), (ns, fs_aq X 4 (fs_sts s0 s1 s2 s3)), (s0, .inr (1, [.ref k0, .int a0, .int b0, .int c0, .int d0])), (k0, fs_ai X 5 f0), (s1, .inr (1, [.ref k1, .int a1, .int b1, .int c1, .int d1])), (k1, fs_ai X 5 f1), (s2, .inr (1, [.ref k2, .int a2, .int b2, .int c2, .int d2])), (k2, fs_ai X 5 f2), (s3, .inr (1, [.ref k3, .int a3, .int b3, .int c3, .int d3])), (k3, fs_ai X 5 f3)] _ _ := hH
    refine lv_if_eq (tgt := 23) hx hb dX4_stage_13 (by decide) (fun c_8 => ?_) (fun c_8 => ?_)
    · exact fs_throw C hl9 ht9 hH hl.1 (fun h => (fs_bi_0.mp c_8) h.2.1) mw_127 mw_10 dX4_stage_23 dX4_stage_26 dX4_stage_27 dX4_stage_30 (by decide) (Nat.le_of_ble_eq_true rfl) (by decide) (by decide) (by decide) (by decide)
    · refine lv_iload_n hx hb dX4_stage_16 rfl (lv_at hl 3 rfl) ?_
      refine fs_ci C hH (wr := [(h0, .inr (4, [.ref nt, .ref ns, .ref nb, .ref nu])), (ns, fs_aq X 4 (fs_sts s0 s1 s2 s3)), (s0, .inr (1, [.ref k0, .int a0, .int b0, .int c0, .int d0])), (k0, fs_ai X 5 f0), (s1, .inr (1, [.ref k1, .int a1, .int b1, .int c1, .int d1])), (k1, fs_ai X 5 f1), (s2, .inr (1, [.ref k2, .int a2, .int b2, .int c2, .int d2])), (k2, fs_ai X 5 f2), (s3, .inr (1, [.ref k3, .int a3, .int b3, .int c3, .int d3])), (k3, fs_ai X 5 f3)]) [] [0, 1, 2, 3, 4, 5, 6, 7, 8, 9] rfl rfl (by decide) (by decide) (fs_rS (rest := []) (As := [.int v]) (n := 1) C hH (wc := []) [] (by decide) rfl (c_X4_isShort l X _ v ) rfl rfl mw_187 mw_185 mw_186 mw_1 (by decide +kernel) ⟨Nat.le_of_ble_eq_true rfl, Nat.le_of_ble_eq_true rfl⟩ rfl hl.1 rfl (Nat.le_of_ble_eq_true rfl) dX4_stage_17 ⟨Nat.le_of_ble_eq_true rfl, Nat.le_of_ble_eq_true rfl⟩) (fun r_9 u_10 H locs hr_11 hH => ?_)
      subst hr_11
      have hH : fs_H X A s [(h0, .inr (4, [.ref nt, .ref ns, .ref nb, .ref nu])), (ns, fs_aq X 4 (fs_sts s0 s1 s2 s3)), (s0, .inr (1, [.ref k0, .int a0, .int b0, .int c0, .int d0])), (k0, fs_ai X 5 f0), (s1, .inr (1, [.ref k1, .int a1, .int b1, .int c1, .int d1])), (k1, fs_ai X 5 f1), (s2, .inr (1, [.ref k2, .int a2, .int b2, .int c2, .int d2])), (k2, fs_ai X 5 f2), (s3, .inr (1, [.ref k3, .int a3, .int b3, .int c3, .int d3])), (k3, fs_ai X 5 f3)] _ _ := hH
      refine lv_if_ne (tgt := 31) hx hb dX4_stage_20 (by decide) (fun c_12 => ?_) (fun c_12 => ?_)
      · obtain ⟨j, hj, rfl⟩ : ∃ j, j < 4 ∧ a = nI j := ⟨_, (fs_ixn (n := 4) (by decide) (fs_bi_nz.mp c_4)).2, (fs_ixn (n := 4) (by decide) (fs_bi_nz.mp c_4)).1⟩
        rcases (show j = 0 ∨ j = 1 ∨ j = 2 ∨ j = 3 by omega) with rfl | rfl | rfl | rfl
        · refine lv_aload_n hx hb dX4_stage_31 rfl (lv_at hl 0 rfl) ?_
          refine fs_get C in_4 hH 0 rfl rfl 1 (by decide) mw_68 (v := .ref ns) rfl dX4_stage_32 ?_
          refine lv_iload_n hx hb dX4_stage_35 rfl (lv_at hl 1 rfl) ?_
          refine fs_aald C hH 1 rfl (k := 0) (b := s0) rfl (by decide) (by decide) rfl dX4_stage_36 ?_
          refine fs_getN C in_1 hH 2 rfl rfl 0 (by decide) (List.mem_of_getElem? (i := 1) rfl) (v := .ref k0) rfl dX4_stage_37 ?_
          refine lv_iload_n hx hb dX4_stage_40 rfl (lv_at hl 2 rfl) ?_
          refine lv_iload_n hx hb dX4_stage_41 rfl (lv_at hl 3 rfl) ?_
          refine fs_iast C hH 3 rfl (k := (Int32.toNatClampNeg b)) (fs_ixn (n := 5) (by decide) (fs_bi_nz.mp c_8)).1 (fs_ixn (n := 5) (by decide) (fs_bi_nz.mp c_8)).2 (by decide) (ws' := [(h0, .inr (4, [.ref nt, .ref ns, .ref nb, .ref nu])), (ns, fs_aq X 4 (fs_sts s0 s1 s2 s3)), (s0, .inr (1, [.ref k0, .int a0, .int b0, .int c0, .int d0])), (k0, fs_ai X 5 (upd f0 (Int32.toNatClampNeg b) v)), (s1, .inr (1, [.ref k1, .int a1, .int b1, .int c1, .int d1])), (k1, fs_ai X 5 f1), (s2, .inr (1, [.ref k2, .int a2, .int b2, .int c2, .int d2])), (k2, fs_ai X 5 f2), (s3, .inr (1, [.ref k3, .int a3, .int b3, .int c3, .int d3])), (k3, fs_ai X 5 f3)]) rfl dX4_stage_42 (fun H locs hH => ?_)
          have hH : fs_H X A s [(h0, .inr (4, [.ref nt, .ref ns, .ref nb, .ref nu])), (ns, fs_aq X 4 (fs_sts s0 s1 s2 s3)), (s0, .inr (1, [.ref k0, .int a0, .int b0, .int c0, .int d0])), (k0, fs_ai X 5 (fs_cu f0 0 (nI 0) b v)), (s1, .inr (1, [.ref k1, .int a1, .int b1, .int c1, .int d1])), (k1, fs_ai X 5 (fs_cu f1 1 (nI 0) b v)), (s2, .inr (1, [.ref k2, .int a2, .int b2, .int c2, .int d2])), (k2, fs_ai X 5 (fs_cu f2 2 (nI 0) b v)), (s3, .inr (1, [.ref k3, .int a3, .int b3, .int c3, .int d3])), (k3, fs_ai X 5 (fs_cu f3 3 (nI 0) b v))] _ _ := hH.to (by rw [fs_cuT f0 0 b v, fs_cuF f1 (j := 1) (i := 0) (by decide) (by decide) (by decide) b v, fs_cuF f2 (j := 2) (i := 0) (by decide) (by decide) (by decide) b v, fs_cuF f3 (j := 3) (i := 0) (by decide) (by decide) (by decide) b v])
          refine W.widen (k := 1) (n := 6) (by decide) (by decide) ?_
          exact vx_ret (fs_vret C hH () rfl (⟨fs_bi_nz.mp c_4, fs_bi_nz.mp c_8, fs_bi_nz.mp c_12⟩) dX4_stage_43)
        · refine lv_aload_n hx hb dX4_stage_31 rfl (lv_at hl 0 rfl) ?_
          refine fs_get C in_4 hH 0 rfl rfl 1 (by decide) mw_68 (v := .ref ns) rfl dX4_stage_32 ?_
          refine lv_iload_n hx hb dX4_stage_35 rfl (lv_at hl 1 rfl) ?_
          refine fs_aald C hH 1 rfl (k := 1) (b := s1) rfl (by decide) (by decide) rfl dX4_stage_36 ?_
          refine fs_getN C in_1 hH 4 rfl rfl 0 (by decide) (List.mem_of_getElem? (i := 1) rfl) (v := .ref k1) rfl dX4_stage_37 ?_
          refine lv_iload_n hx hb dX4_stage_40 rfl (lv_at hl 2 rfl) ?_
          refine lv_iload_n hx hb dX4_stage_41 rfl (lv_at hl 3 rfl) ?_
          refine fs_iast C hH 5 rfl (k := (Int32.toNatClampNeg b)) (fs_ixn (n := 5) (by decide) (fs_bi_nz.mp c_8)).1 (fs_ixn (n := 5) (by decide) (fs_bi_nz.mp c_8)).2 (by decide) (ws' := [(h0, .inr (4, [.ref nt, .ref ns, .ref nb, .ref nu])), (ns, fs_aq X 4 (fs_sts s0 s1 s2 s3)), (s0, .inr (1, [.ref k0, .int a0, .int b0, .int c0, .int d0])), (k0, fs_ai X 5 f0), (s1, .inr (1, [.ref k1, .int a1, .int b1, .int c1, .int d1])), (k1, fs_ai X 5 (upd f1 (Int32.toNatClampNeg b) v)), (s2, .inr (1, [.ref k2, .int a2, .int b2, .int c2, .int d2])), (k2, fs_ai X 5 f2), (s3, .inr (1, [.ref k3, .int a3, .int b3, .int c3, .int d3])), (k3, fs_ai X 5 f3)]) rfl dX4_stage_42 (fun H locs hH => ?_)
          have hH : fs_H X A s [(h0, .inr (4, [.ref nt, .ref ns, .ref nb, .ref nu])), (ns, fs_aq X 4 (fs_sts s0 s1 s2 s3)), (s0, .inr (1, [.ref k0, .int a0, .int b0, .int c0, .int d0])), (k0, fs_ai X 5 (fs_cu f0 0 (nI 1) b v)), (s1, .inr (1, [.ref k1, .int a1, .int b1, .int c1, .int d1])), (k1, fs_ai X 5 (fs_cu f1 1 (nI 1) b v)), (s2, .inr (1, [.ref k2, .int a2, .int b2, .int c2, .int d2])), (k2, fs_ai X 5 (fs_cu f2 2 (nI 1) b v)), (s3, .inr (1, [.ref k3, .int a3, .int b3, .int c3, .int d3])), (k3, fs_ai X 5 (fs_cu f3 3 (nI 1) b v))] _ _ := hH.to (by rw [fs_cuF f0 (j := 0) (i := 1) (by decide) (by decide) (by decide) b v, fs_cuT f1 1 b v, fs_cuF f2 (j := 2) (i := 1) (by decide) (by decide) (by decide) b v, fs_cuF f3 (j := 3) (i := 1) (by decide) (by decide) (by decide) b v])
          refine W.widen (k := 1) (n := 6) (by decide) (by decide) ?_
          exact vx_ret (fs_vret C hH () rfl (⟨fs_bi_nz.mp c_4, fs_bi_nz.mp c_8, fs_bi_nz.mp c_12⟩) dX4_stage_43)
        · refine lv_aload_n hx hb dX4_stage_31 rfl (lv_at hl 0 rfl) ?_
          refine fs_get C in_4 hH 0 rfl rfl 1 (by decide) mw_68 (v := .ref ns) rfl dX4_stage_32 ?_
          refine lv_iload_n hx hb dX4_stage_35 rfl (lv_at hl 1 rfl) ?_
          refine fs_aald C hH 1 rfl (k := 2) (b := s2) rfl (by decide) (by decide) rfl dX4_stage_36 ?_
          refine fs_getN C in_1 hH 6 rfl rfl 0 (by decide) (List.mem_of_getElem? (i := 1) rfl) (v := .ref k2) rfl dX4_stage_37 ?_
          refine lv_iload_n hx hb dX4_stage_40 rfl (lv_at hl 2 rfl) ?_
          refine lv_iload_n hx hb dX4_stage_41 rfl (lv_at hl 3 rfl) ?_
          refine fs_iast C hH 7 rfl (k := (Int32.toNatClampNeg b)) (fs_ixn (n := 5) (by decide) (fs_bi_nz.mp c_8)).1 (fs_ixn (n := 5) (by decide) (fs_bi_nz.mp c_8)).2 (by decide) (ws' := [(h0, .inr (4, [.ref nt, .ref ns, .ref nb, .ref nu])), (ns, fs_aq X 4 (fs_sts s0 s1 s2 s3)), (s0, .inr (1, [.ref k0, .int a0, .int b0, .int c0, .int d0])), (k0, fs_ai X 5 f0), (s1, .inr (1, [.ref k1, .int a1, .int b1, .int c1, .int d1])), (k1, fs_ai X 5 f1), (s2, .inr (1, [.ref k2, .int a2, .int b2, .int c2, .int d2])), (k2, fs_ai X 5 (upd f2 (Int32.toNatClampNeg b) v)), (s3, .inr (1, [.ref k3, .int a3, .int b3, .int c3, .int d3])), (k3, fs_ai X 5 f3)]) rfl dX4_stage_42 (fun H locs hH => ?_)
          have hH : fs_H X A s [(h0, .inr (4, [.ref nt, .ref ns, .ref nb, .ref nu])), (ns, fs_aq X 4 (fs_sts s0 s1 s2 s3)), (s0, .inr (1, [.ref k0, .int a0, .int b0, .int c0, .int d0])), (k0, fs_ai X 5 (fs_cu f0 0 (nI 2) b v)), (s1, .inr (1, [.ref k1, .int a1, .int b1, .int c1, .int d1])), (k1, fs_ai X 5 (fs_cu f1 1 (nI 2) b v)), (s2, .inr (1, [.ref k2, .int a2, .int b2, .int c2, .int d2])), (k2, fs_ai X 5 (fs_cu f2 2 (nI 2) b v)), (s3, .inr (1, [.ref k3, .int a3, .int b3, .int c3, .int d3])), (k3, fs_ai X 5 (fs_cu f3 3 (nI 2) b v))] _ _ := hH.to (by rw [fs_cuF f0 (j := 0) (i := 2) (by decide) (by decide) (by decide) b v, fs_cuF f1 (j := 1) (i := 2) (by decide) (by decide) (by decide) b v, fs_cuT f2 2 b v, fs_cuF f3 (j := 3) (i := 2) (by decide) (by decide) (by decide) b v])
          refine W.widen (k := 1) (n := 6) (by decide) (by decide) ?_
          exact vx_ret (fs_vret C hH () rfl (⟨fs_bi_nz.mp c_4, fs_bi_nz.mp c_8, fs_bi_nz.mp c_12⟩) dX4_stage_43)
        · refine lv_aload_n hx hb dX4_stage_31 rfl (lv_at hl 0 rfl) ?_
          refine fs_get C in_4 hH 0 rfl rfl 1 (by decide) mw_68 (v := .ref ns) rfl dX4_stage_32 ?_
          refine lv_iload_n hx hb dX4_stage_35 rfl (lv_at hl 1 rfl) ?_
          refine fs_aald C hH 1 rfl (k := 3) (b := s3) rfl (by decide) (by decide) rfl dX4_stage_36 ?_
          refine fs_getN C in_1 hH 8 rfl rfl 0 (by decide) (List.mem_of_getElem? (i := 1) rfl) (v := .ref k3) rfl dX4_stage_37 ?_
          refine lv_iload_n hx hb dX4_stage_40 rfl (lv_at hl 2 rfl) ?_
          refine lv_iload_n hx hb dX4_stage_41 rfl (lv_at hl 3 rfl) ?_
          refine fs_iast C hH 9 rfl (k := (Int32.toNatClampNeg b)) (fs_ixn (n := 5) (by decide) (fs_bi_nz.mp c_8)).1 (fs_ixn (n := 5) (by decide) (fs_bi_nz.mp c_8)).2 (by decide) (ws' := [(h0, .inr (4, [.ref nt, .ref ns, .ref nb, .ref nu])), (ns, fs_aq X 4 (fs_sts s0 s1 s2 s3)), (s0, .inr (1, [.ref k0, .int a0, .int b0, .int c0, .int d0])), (k0, fs_ai X 5 f0), (s1, .inr (1, [.ref k1, .int a1, .int b1, .int c1, .int d1])), (k1, fs_ai X 5 f1), (s2, .inr (1, [.ref k2, .int a2, .int b2, .int c2, .int d2])), (k2, fs_ai X 5 f2), (s3, .inr (1, [.ref k3, .int a3, .int b3, .int c3, .int d3])), (k3, fs_ai X 5 (upd f3 (Int32.toNatClampNeg b) v))]) rfl dX4_stage_42 (fun H locs hH => ?_)
          have hH : fs_H X A s [(h0, .inr (4, [.ref nt, .ref ns, .ref nb, .ref nu])), (ns, fs_aq X 4 (fs_sts s0 s1 s2 s3)), (s0, .inr (1, [.ref k0, .int a0, .int b0, .int c0, .int d0])), (k0, fs_ai X 5 (fs_cu f0 0 (nI 3) b v)), (s1, .inr (1, [.ref k1, .int a1, .int b1, .int c1, .int d1])), (k1, fs_ai X 5 (fs_cu f1 1 (nI 3) b v)), (s2, .inr (1, [.ref k2, .int a2, .int b2, .int c2, .int d2])), (k2, fs_ai X 5 (fs_cu f2 2 (nI 3) b v)), (s3, .inr (1, [.ref k3, .int a3, .int b3, .int c3, .int d3])), (k3, fs_ai X 5 (fs_cu f3 3 (nI 3) b v))] _ _ := hH.to (by rw [fs_cuF f0 (j := 0) (i := 3) (by decide) (by decide) (by decide) b v, fs_cuF f1 (j := 1) (i := 3) (by decide) (by decide) (by decide) b v, fs_cuF f2 (j := 2) (i := 3) (by decide) (by decide) (by decide) b v, fs_cuT f3 3 b v])
          refine W.widen (k := 1) (n := 6) (by decide) (by decide) ?_
          exact vx_ret (fs_vret C hH () rfl (⟨fs_bi_nz.mp c_4, fs_bi_nz.mp c_8, fs_bi_nz.mp c_12⟩) dX4_stage_43)
      · exact fs_throw C hl9 ht9 hH hl.1 (fun h => (fs_bi_0.mp c_12) h.2.2) mw_127 mw_10 dX4_stage_23 dX4_stage_26 dX4_stage_27 dX4_stage_30 (by decide) (Nat.le_of_ble_eq_true rfl) (by decide) (by decide) (by decide) (by decide)
set_option maxHeartbeats 4000000 in
set_option maxRecDepth 100000 in
theorem c_X4_chain (l : Launch) (X : fs_X) (sz : Nat) (h0 : Nat) (nt : Nat) (ns : Nat) (nb : Nat) (nu : Nat) (s0 : Nat) (k0 : Nat) (f0 : Nat → Int32) (a0 : Int32) (b0 : Int32) (c0 : Int32) (d0 : Int32) (s1 : Nat) (k1 : Nat) (f1 : Nat → Int32) (a1 : Int32) (b1 : Int32) (c1 : Int32) (d1 : Int32) (s2 : Nat) (k2 : Nat) (f2 : Nat → Int32) (a2 : Int32) (b2 : Int32) (c2 : Int32) (d2 : Int32) (s3 : Nat) (k3 : Nat) (f3 : Nat → Int32) (a3 : Int32) (b3 : Int32) (c3 : Int32) (d3 : Int32) (x : Int32)  (hl9 : l.stackTraces = false) : fs_MX l X yX4_chain cX4_chain 4 (some .int) ({ frames := 6, cells := 1, slots := 6, locals := 81 }) [.ref h0, .int x] [(h0, .inr (4, [.ref nt, .ref ns, .ref nb, .ref nu])), (ns, fs_aq X 4 (fs_sts s0 s1 s2 s3)), (s0, .inr (1, [.ref k0, .int a0, .int b0, .int c0, .int d0])), (k0, fs_ai X 5 f0), (s1, .inr (1, [.ref k1, .int a1, .int b1, .int c1, .int d1])), (k1, fs_ai X 5 f1), (s2, .inr (1, [.ref k2, .int a2, .int b2, .int c2, .int d2])), (k2, fs_ai X 5 f2), (s3, .inr (1, [.ref k3, .int a3, .int b3, .int c3, .int d3])), (k3, fs_ai X 5 f3)] sz (fs_Qi X (fun r (_ : Unit) => r = (fs_st f3 a3 b3 c3 d3 (fs_st f2 a2 b2 c2 d2 (fs_st f1 a1 b1 c1 d1 (fs_st f0 a0 b0 c0 d0 x)))) ∧ (fs_short x)) (fun _ => [(h0, .inr (4, [.ref nt, .ref ns, .ref nb, .ref nu])), (ns, fs_aq X 4 (fs_sts s0 s1 s2 s3)), (s0, .inr (1, [.ref k0, .int x, .int a0, .int (fs_st f0 a0 b0 c0 d0 x), .int c0])), (k0, fs_ai X 5 f0), (s1, .inr (1, [.ref k1, .int (fs_st f0 a0 b0 c0 d0 x), .int a1, .int (fs_st f1 a1 b1 c1 d1 (fs_st f0 a0 b0 c0 d0 x)), .int c1])), (k1, fs_ai X 5 f1), (s2, .inr (1, [.ref k2, .int (fs_st f1 a1 b1 c1 d1 (fs_st f0 a0 b0 c0 d0 x)), .int a2, .int (fs_st f2 a2 b2 c2 d2 (fs_st f1 a1 b1 c1 d1 (fs_st f0 a0 b0 c0 d0 x))), .int c2])), (k2, fs_ai X 5 f2), (s3, .inr (1, [.ref k3, .int (fs_st f2 a2 b2 c2 d2 (fs_st f1 a1 b1 c1 d1 (fs_st f0 a0 b0 c0 d0 x))), .int a3, .int (fs_st f3 a3 b3 c3 d3 (fs_st f2 a2 b2 c2 d2 (fs_st f1 a1 b1 c1 d1 (fs_st f0 a0 b0 c0 d0 x)))), .int c3])), (k3, fs_ai X 5 f3)])) (¬ (fs_short x)) 1 6 := by
  refine fs_ofX (by decide) (Nat.le_of_ble_eq_true rfl) ?_
  intro p e s m args below meth c A ls C hH hl ht9
  have C : fs_At X A p s m args meth c cX4_chain 4 (some .int) RX4 "chain" := C
  have hx := C.1
  have hb := C.2.1
  have hown := C.2.2.2.2.1
  have hts := C.2.2.2.2.2.1
  have hl : lv_has ls 4 [(0, .ref h0), (1, .int x)] := hl
  have hH : fs_H X A s [(h0, .inr (4, [.ref nt, .ref ns, .ref nb, .ref nu])), (ns, fs_aq X 4 (fs_sts s0 s1 s2 s3)), (s0, .inr (1, [.ref k0, .int a0, .int b0, .int c0, .int d0])), (k0, fs_ai X 5 f0), (s1, .inr (1, [.ref k1, .int a1, .int b1, .int c1, .int d1])), (k1, fs_ai X 5 f1), (s2, .inr (1, [.ref k2, .int a2, .int b2, .int c2, .int d2])), (k2, fs_ai X 5 f2), (s3, .inr (1, [.ref k3, .int a3, .int b3, .int c3, .int d3])), (k3, fs_ai X 5 f3)] s.heap [] := hH
  refine lv_iload_n hx hb dX4_chain_0 rfl (lv_at hl 1 rfl) ?_
  refine fs_ci C hH (wr := [(h0, .inr (4, [.ref nt, .ref ns, .ref nb, .ref nu])), (ns, fs_aq X 4 (fs_sts s0 s1 s2 s3)), (s0, .inr (1, [.ref k0, .int a0, .int b0, .int c0, .int d0])), (k0, fs_ai X 5 f0), (s1, .inr (1, [.ref k1, .int a1, .int b1, .int c1, .int d1])), (k1, fs_ai X 5 f1), (s2, .inr (1, [.ref k2, .int a2, .int b2, .int c2, .int d2])), (k2, fs_ai X 5 f2), (s3, .inr (1, [.ref k3, .int a3, .int b3, .int c3, .int d3])), (k3, fs_ai X 5 f3)]) [] [0, 1, 2, 3, 4, 5, 6, 7, 8, 9] rfl rfl (by decide) (by decide) (fs_rS (rest := []) (As := [.int x]) (n := 1) C hH (wc := []) [] (by decide) rfl (c_X4_isShort l X _ x ) rfl rfl mw_187 mw_185 mw_186 mw_1 (by decide +kernel) ⟨Nat.le_of_ble_eq_true rfl, Nat.le_of_ble_eq_true rfl⟩ rfl hl.1 rfl (Nat.le_of_ble_eq_true rfl) dX4_chain_1 ⟨Nat.le_of_ble_eq_true rfl, Nat.le_of_ble_eq_true rfl⟩) (fun r_1 u_2 H locs hr_3 hH => ?_)
  subst hr_3
  have hH : fs_H X A s [(h0, .inr (4, [.ref nt, .ref ns, .ref nb, .ref nu])), (ns, fs_aq X 4 (fs_sts s0 s1 s2 s3)), (s0, .inr (1, [.ref k0, .int a0, .int b0, .int c0, .int d0])), (k0, fs_ai X 5 f0), (s1, .inr (1, [.ref k1, .int a1, .int b1, .int c1, .int d1])), (k1, fs_ai X 5 f1), (s2, .inr (1, [.ref k2, .int a2, .int b2, .int c2, .int d2])), (k2, fs_ai X 5 f2), (s3, .inr (1, [.ref k3, .int a3, .int b3, .int c3, .int d3])), (k3, fs_ai X 5 f3)] _ _ := hH
  refine lv_if_ne (tgt := 15) hx hb dX4_chain_4 (by decide) (fun c_4 => ?_) (fun c_4 => ?_)
  · refine lv_iload_n hx hb dX4_chain_15 rfl (lv_at hl 1 rfl) ?_
    refine lv_istore_n (lv' := [(2, .int x), (0, .ref h0), (1, .int x)]) hx hb dX4_chain_16 rfl hl (by decide) rfl (fun ls hl => ?_)
    refine lv_iconst (v := 0) hx hb dX4_chain_17 (by decide) ?_
    refine lv_istore_n (lv' := [(3, .int 0), (2, .int x), (0, .ref h0), (1, .int x)]) hx hb dX4_chain_18 rfl hl (by decide) rfl (fun ls hl => ?_)
    refine lv_iload_n hx hb dX4_chain_19 rfl (lv_at hl 0 rfl) ?_
    refine lv_iconst (v := 4) hx hb dX4_chain_20 (by decide) ?_
    refine lv_icmp_ge (tgt := 41) hx hb dX4_chain_21 (by decide) (fun c_5 => ?_) (fun c_5 => ?_)
    · exact absurd c_5 (by decide)
    · refine lv_aload_n hx hb dX4_chain_24 rfl (lv_at hl 2 rfl) ?_
      refine fs_get C in_4 hH 0 rfl rfl 1 (by decide) mw_68 (v := .ref ns) rfl dX4_chain_25 ?_
      refine lv_iload_n hx hb dX4_chain_28 rfl (lv_at hl 0 rfl) ?_
      refine fs_aald C hH 1 rfl (k := 0) (b := s0) rfl (by decide) (by decide) rfl dX4_chain_29 ?_
      refine lv_iload_n hx hb dX4_chain_30 rfl (lv_at hl 1 rfl) ?_
      refine fs_ci C hH (wr := [(h0, .inr (4, [.ref nt, .ref ns, .ref nb, .ref nu])), (ns, fs_aq X 4 (fs_sts s0 s1 s2 s3)), (s1, .inr (1, [.ref k1, .int a1, .int b1, .int c1, .int d1])), (k1, fs_ai X 5 f1), (s2, .inr (1, [.ref k2, .int a2, .int b2, .int c2, .int d2])), (k2, fs_ai X 5 f2), (s3, .inr (1, [.ref k3, .int a3, .int b3, .int c3, .int d3])), (k3, fs_ai X 5 f3)]) [2, 3] [0, 1, 4, 5, 6, 7, 8, 9] rfl rfl (by decide) (by decide) (fs_rVN (rest := []) (As := [.int x]) (n := 1) (q0 := 2) (ci := 1) C hH (wc := [(s0, .inr (1, [.ref k0, .int a0, .int b0, .int c0, .int d0])), (k0, fs_ai X 5 f0)]) [2, 3] (by decide) rfl (c_X1_answerTo l X _ s0 k0 f0 a0 b0 c0 d0 x ) rfl rfl rfl rfl mw_225 (List.mem_of_getElem? (i := 11) rfl) mw_224 mw_486 mw_3 (by decide +kernel) ⟨Nat.le_of_ble_eq_true rfl, Nat.le_of_ble_eq_true rfl⟩ rfl hl.1 rfl (Nat.le_of_ble_eq_true rfl) dX4_chain_31 ⟨Nat.le_of_ble_eq_true rfl, Nat.le_of_ble_eq_true rfl⟩) (fun r_6 u_7 H locs hr_8 hH => ?_)
      subst hr_8
      have hH : fs_H X A s [(h0, .inr (4, [.ref nt, .ref ns, .ref nb, .ref nu])), (ns, fs_aq X 4 (fs_sts s0 s1 s2 s3)), (s0, .inr (1, [.ref k0, .int x, .int a0, .int (fs_st f0 a0 b0 c0 d0 x), .int c0])), (k0, fs_ai X 5 f0), (s1, .inr (1, [.ref k1, .int a1, .int b1, .int c1, .int d1])), (k1, fs_ai X 5 f1), (s2, .inr (1, [.ref k2, .int a2, .int b2, .int c2, .int d2])), (k2, fs_ai X 5 f2), (s3, .inr (1, [.ref k3, .int a3, .int b3, .int c3, .int d3])), (k3, fs_ai X 5 f3)] _ _ := hH.sub [0, 1, 8, 9, 2, 3, 4, 5, 6, 7] (by decide) rfl
      refine lv_istore_n (lv' := [(2, .int (fs_st f0 a0 b0 c0 d0 x)), (3, .int 0), (0, .ref h0), (1, .int x)]) hx hb dX4_chain_34 rfl hl (by decide) rfl (fun ls hl => ?_)
      refine lv_iinc (v := 1) (lv' := [(3, .int 1), (2, .int (fs_st f0 a0 b0 c0 d0 x)), (0, .ref h0), (1, .int x)]) hx hb dX4_chain_35 hl (k := 1) rfl (by decide) (by decide) rfl (fun ls hl => ?_)
      refine lv_goto (tgt := 19) hx hb dX4_chain_38 (by decide) ?_
      refine lv_iload_n hx hb dX4_chain_19 rfl (lv_at hl 0 rfl) ?_
      refine lv_iconst (v := 4) hx hb dX4_chain_20 (by decide) ?_
      refine lv_icmp_ge (tgt := 41) hx hb dX4_chain_21 (by decide) (fun c_9 => ?_) (fun c_9 => ?_)
      · exact absurd c_9 (by decide)
      · refine lv_aload_n hx hb dX4_chain_24 rfl (lv_at hl 2 rfl) ?_
        refine fs_get C in_4 hH 0 rfl rfl 1 (by decide) mw_68 (v := .ref ns) rfl dX4_chain_25 ?_
        refine lv_iload_n hx hb dX4_chain_28 rfl (lv_at hl 0 rfl) ?_
        refine fs_aald C hH 1 rfl (k := 1) (b := s1) rfl (by decide) (by decide) rfl dX4_chain_29 ?_
        refine lv_iload_n hx hb dX4_chain_30 rfl (lv_at hl 1 rfl) ?_
        refine fs_ci C hH (wr := [(h0, .inr (4, [.ref nt, .ref ns, .ref nb, .ref nu])), (ns, fs_aq X 4 (fs_sts s0 s1 s2 s3)), (s0, .inr (1, [.ref k0, .int x, .int a0, .int (fs_st f0 a0 b0 c0 d0 x), .int c0])), (k0, fs_ai X 5 f0), (s2, .inr (1, [.ref k2, .int a2, .int b2, .int c2, .int d2])), (k2, fs_ai X 5 f2), (s3, .inr (1, [.ref k3, .int a3, .int b3, .int c3, .int d3])), (k3, fs_ai X 5 f3)]) [4, 5] [0, 1, 2, 3, 6, 7, 8, 9] rfl rfl (by decide) (by decide) (fs_rVN (rest := []) (As := [.int (fs_st f0 a0 b0 c0 d0 x)]) (n := 1) (q0 := 4) (ci := 1) C hH (wc := [(s1, .inr (1, [.ref k1, .int a1, .int b1, .int c1, .int d1])), (k1, fs_ai X 5 f1)]) [4, 5] (by decide) rfl (c_X1_answerTo l X _ s1 k1 f1 a1 b1 c1 d1 (fs_st f0 a0 b0 c0 d0 x) ) rfl rfl rfl rfl mw_225 (List.mem_of_getElem? (i := 11) rfl) mw_224 mw_486 mw_3 (by decide +kernel) ⟨Nat.le_of_ble_eq_true rfl, Nat.le_of_ble_eq_true rfl⟩ rfl hl.1 rfl (Nat.le_of_ble_eq_true rfl) dX4_chain_31 ⟨Nat.le_of_ble_eq_true rfl, Nat.le_of_ble_eq_true rfl⟩) (fun r_10 u_11 H locs hr_12 hH => ?_)
        subst hr_12
        have hH : fs_H X A s [(h0, .inr (4, [.ref nt, .ref ns, .ref nb, .ref nu])), (ns, fs_aq X 4 (fs_sts s0 s1 s2 s3)), (s0, .inr (1, [.ref k0, .int x, .int a0, .int (fs_st f0 a0 b0 c0 d0 x), .int c0])), (k0, fs_ai X 5 f0), (s1, .inr (1, [.ref k1, .int (fs_st f0 a0 b0 c0 d0 x), .int a1, .int (fs_st f1 a1 b1 c1 d1 (fs_st f0 a0 b0 c0 d0 x)), .int c1])), (k1, fs_ai X 5 f1), (s2, .inr (1, [.ref k2, .int a2, .int b2, .int c2, .int d2])), (k2, fs_ai X 5 f2), (s3, .inr (1, [.ref k3, .int a3, .int b3, .int c3, .int d3])), (k3, fs_ai X 5 f3)] _ _ := hH.sub [0, 1, 2, 3, 8, 9, 4, 5, 6, 7] (by decide) rfl
        refine lv_istore_n (lv' := [(2, .int (fs_st f1 a1 b1 c1 d1 (fs_st f0 a0 b0 c0 d0 x))), (3, .int 1), (0, .ref h0), (1, .int x)]) hx hb dX4_chain_34 rfl hl (by decide) rfl (fun ls hl => ?_)
        refine lv_iinc (v := 2) (lv' := [(3, .int 2), (2, .int (fs_st f1 a1 b1 c1 d1 (fs_st f0 a0 b0 c0 d0 x))), (0, .ref h0), (1, .int x)]) hx hb dX4_chain_35 hl (k := 1) rfl (by decide) (by decide) rfl (fun ls hl => ?_)
        refine lv_goto (tgt := 19) hx hb dX4_chain_38 (by decide) ?_
        refine lv_iload_n hx hb dX4_chain_19 rfl (lv_at hl 0 rfl) ?_
        refine lv_iconst (v := 4) hx hb dX4_chain_20 (by decide) ?_
        refine lv_icmp_ge (tgt := 41) hx hb dX4_chain_21 (by decide) (fun c_13 => ?_) (fun c_13 => ?_)
        · exact absurd c_13 (by decide)
        · refine lv_aload_n hx hb dX4_chain_24 rfl (lv_at hl 2 rfl) ?_
          refine fs_get C in_4 hH 0 rfl rfl 1 (by decide) mw_68 (v := .ref ns) rfl dX4_chain_25 ?_
          refine lv_iload_n hx hb dX4_chain_28 rfl (lv_at hl 0 rfl) ?_
          refine fs_aald C hH 1 rfl (k := 2) (b := s2) rfl (by decide) (by decide) rfl dX4_chain_29 ?_
          refine lv_iload_n hx hb dX4_chain_30 rfl (lv_at hl 1 rfl) ?_
          refine fs_ci C hH (wr := [(h0, .inr (4, [.ref nt, .ref ns, .ref nb, .ref nu])), (ns, fs_aq X 4 (fs_sts s0 s1 s2 s3)), (s0, .inr (1, [.ref k0, .int x, .int a0, .int (fs_st f0 a0 b0 c0 d0 x), .int c0])), (k0, fs_ai X 5 f0), (s1, .inr (1, [.ref k1, .int (fs_st f0 a0 b0 c0 d0 x), .int a1, .int (fs_st f1 a1 b1 c1 d1 (fs_st f0 a0 b0 c0 d0 x)), .int c1])), (k1, fs_ai X 5 f1), (s3, .inr (1, [.ref k3, .int a3, .int b3, .int c3, .int d3])), (k3, fs_ai X 5 f3)]) [6, 7] [0, 1, 2, 3, 4, 5, 8, 9] rfl rfl (by decide) (by decide) (fs_rVN (rest := []) (As := [.int (fs_st f1 a1 b1 c1 d1 (fs_st f0 a0 b0 c0 d0 x))]) (n := 1) (q0 := 6) (ci := 1) C hH (wc := [(s2, .inr (1, [.ref k2, .int a2, .int b2, .int c2, .int d2])), (k2, fs_ai X 5 f2)]) [6, 7] (by decide) rfl (c_X1_answerTo l X _ s2 k2 f2 a2 b2 c2 d2 (fs_st f1 a1 b1 c1 d1 (fs_st f0 a0 b0 c0 d0 x)) ) rfl rfl rfl rfl mw_225 (List.mem_of_getElem? (i := 11) rfl) mw_224 mw_486 mw_3 (by decide +kernel) ⟨Nat.le_of_ble_eq_true rfl, Nat.le_of_ble_eq_true rfl⟩ rfl hl.1 rfl (Nat.le_of_ble_eq_true rfl) dX4_chain_31 ⟨Nat.le_of_ble_eq_true rfl, Nat.le_of_ble_eq_true rfl⟩) (fun r_14 u_15 H locs hr_16 hH => ?_)
          subst hr_16
          have hH : fs_H X A s [(h0, .inr (4, [.ref nt, .ref ns, .ref nb, .ref nu])), (ns, fs_aq X 4 (fs_sts s0 s1 s2 s3)), (s0, .inr (1, [.ref k0, .int x, .int a0, .int (fs_st f0 a0 b0 c0 d0 x), .int c0])), (k0, fs_ai X 5 f0), (s1, .inr (1, [.ref k1, .int (fs_st f0 a0 b0 c0 d0 x), .int a1, .int (fs_st f1 a1 b1 c1 d1 (fs_st f0 a0 b0 c0 d0 x)), .int c1])), (k1, fs_ai X 5 f1), (s2, .inr (1, [.ref k2, .int (fs_st f1 a1 b1 c1 d1 (fs_st f0 a0 b0 c0 d0 x)), .int a2, .int (fs_st f2 a2 b2 c2 d2 (fs_st f1 a1 b1 c1 d1 (fs_st f0 a0 b0 c0 d0 x))), .int c2])), (k2, fs_ai X 5 f2), (s3, .inr (1, [.ref k3, .int a3, .int b3, .int c3, .int d3])), (k3, fs_ai X 5 f3)] _ _ := hH.sub [0, 1, 2, 3, 4, 5, 8, 9, 6, 7] (by decide) rfl
          refine lv_istore_n (lv' := [(2, .int (fs_st f2 a2 b2 c2 d2 (fs_st f1 a1 b1 c1 d1 (fs_st f0 a0 b0 c0 d0 x)))), (3, .int 2), (0, .ref h0), (1, .int x)]) hx hb dX4_chain_34 rfl hl (by decide) rfl (fun ls hl => ?_)
          refine lv_iinc (v := 3) (lv' := [(3, .int 3), (2, .int (fs_st f2 a2 b2 c2 d2 (fs_st f1 a1 b1 c1 d1 (fs_st f0 a0 b0 c0 d0 x)))), (0, .ref h0), (1, .int x)]) hx hb dX4_chain_35 hl (k := 1) rfl (by decide) (by decide) rfl (fun ls hl => ?_)
          refine lv_goto (tgt := 19) hx hb dX4_chain_38 (by decide) ?_
          refine lv_iload_n hx hb dX4_chain_19 rfl (lv_at hl 0 rfl) ?_
          refine lv_iconst (v := 4) hx hb dX4_chain_20 (by decide) ?_
          refine lv_icmp_ge (tgt := 41) hx hb dX4_chain_21 (by decide) (fun c_17 => ?_) (fun c_17 => ?_)
          · exact absurd c_17 (by decide)
          · refine lv_aload_n hx hb dX4_chain_24 rfl (lv_at hl 2 rfl) ?_
            refine fs_get C in_4 hH 0 rfl rfl 1 (by decide) mw_68 (v := .ref ns) rfl dX4_chain_25 ?_
            refine lv_iload_n hx hb dX4_chain_28 rfl (lv_at hl 0 rfl) ?_
            refine fs_aald C hH 1 rfl (k := 3) (b := s3) rfl (by decide) (by decide) rfl dX4_chain_29 ?_
            refine lv_iload_n hx hb dX4_chain_30 rfl (lv_at hl 1 rfl) ?_
            refine fs_ci C hH (wr := [(h0, .inr (4, [.ref nt, .ref ns, .ref nb, .ref nu])), (ns, fs_aq X 4 (fs_sts s0 s1 s2 s3)), (s0, .inr (1, [.ref k0, .int x, .int a0, .int (fs_st f0 a0 b0 c0 d0 x), .int c0])), (k0, fs_ai X 5 f0), (s1, .inr (1, [.ref k1, .int (fs_st f0 a0 b0 c0 d0 x), .int a1, .int (fs_st f1 a1 b1 c1 d1 (fs_st f0 a0 b0 c0 d0 x)), .int c1])), (k1, fs_ai X 5 f1), (s2, .inr (1, [.ref k2, .int (fs_st f1 a1 b1 c1 d1 (fs_st f0 a0 b0 c0 d0 x)), .int a2, .int (fs_st f2 a2 b2 c2 d2 (fs_st f1 a1 b1 c1 d1 (fs_st f0 a0 b0 c0 d0 x))), .int c2])), (k2, fs_ai X 5 f2)]) [8, 9] [0, 1, 2, 3, 4, 5, 6, 7] rfl rfl (by decide) (by decide) (fs_rVN (rest := []) (As := [.int (fs_st f2 a2 b2 c2 d2 (fs_st f1 a1 b1 c1 d1 (fs_st f0 a0 b0 c0 d0 x)))]) (n := 1) (q0 := 8) (ci := 1) C hH (wc := [(s3, .inr (1, [.ref k3, .int a3, .int b3, .int c3, .int d3])), (k3, fs_ai X 5 f3)]) [8, 9] (by decide) rfl (c_X1_answerTo l X _ s3 k3 f3 a3 b3 c3 d3 (fs_st f2 a2 b2 c2 d2 (fs_st f1 a1 b1 c1 d1 (fs_st f0 a0 b0 c0 d0 x))) ) rfl rfl rfl rfl mw_225 (List.mem_of_getElem? (i := 11) rfl) mw_224 mw_486 mw_3 (by decide +kernel) ⟨Nat.le_of_ble_eq_true rfl, Nat.le_of_ble_eq_true rfl⟩ rfl hl.1 rfl (Nat.le_of_ble_eq_true rfl) dX4_chain_31 ⟨Nat.le_of_ble_eq_true rfl, Nat.le_of_ble_eq_true rfl⟩) (fun r_18 u_19 H locs hr_20 hH => ?_)
            subst hr_20
            have hH : fs_H X A s [(h0, .inr (4, [.ref nt, .ref ns, .ref nb, .ref nu])), (ns, fs_aq X 4 (fs_sts s0 s1 s2 s3)), (s0, .inr (1, [.ref k0, .int x, .int a0, .int (fs_st f0 a0 b0 c0 d0 x), .int c0])), (k0, fs_ai X 5 f0), (s1, .inr (1, [.ref k1, .int (fs_st f0 a0 b0 c0 d0 x), .int a1, .int (fs_st f1 a1 b1 c1 d1 (fs_st f0 a0 b0 c0 d0 x)), .int c1])), (k1, fs_ai X 5 f1), (s2, .inr (1, [.ref k2, .int (fs_st f1 a1 b1 c1 d1 (fs_st f0 a0 b0 c0 d0 x)), .int a2, .int (fs_st f2 a2 b2 c2 d2 (fs_st f1 a1 b1 c1 d1 (fs_st f0 a0 b0 c0 d0 x))), .int c2])), (k2, fs_ai X 5 f2), (s3, .inr (1, [.ref k3, .int (fs_st f2 a2 b2 c2 d2 (fs_st f1 a1 b1 c1 d1 (fs_st f0 a0 b0 c0 d0 x))), .int a3, .int (fs_st f3 a3 b3 c3 d3 (fs_st f2 a2 b2 c2 d2 (fs_st f1 a1 b1 c1 d1 (fs_st f0 a0 b0 c0 d0 x)))), .int c3])), (k3, fs_ai X 5 f3)] _ _ := hH
            refine lv_istore_n (lv' := [(2, .int (fs_st f3 a3 b3 c3 d3 (fs_st f2 a2 b2 c2 d2 (fs_st f1 a1 b1 c1 d1 (fs_st f0 a0 b0 c0 d0 x))))), (3, .int 3), (0, .ref h0), (1, .int x)]) hx hb dX4_chain_34 rfl hl (by decide) rfl (fun ls hl => ?_)
            refine lv_iinc (v := 4) (lv' := [(3, .int 4), (2, .int (fs_st f3 a3 b3 c3 d3 (fs_st f2 a2 b2 c2 d2 (fs_st f1 a1 b1 c1 d1 (fs_st f0 a0 b0 c0 d0 x))))), (0, .ref h0), (1, .int x)]) hx hb dX4_chain_35 hl (k := 1) rfl (by decide) (by decide) rfl (fun ls hl => ?_)
            refine lv_goto (tgt := 19) hx hb dX4_chain_38 (by decide) ?_
            refine lv_iload_n hx hb dX4_chain_19 rfl (lv_at hl 0 rfl) ?_
            refine lv_iconst (v := 4) hx hb dX4_chain_20 (by decide) ?_
            refine lv_icmp_ge (tgt := 41) hx hb dX4_chain_21 (by decide) (fun c_21 => ?_) (fun c_21 => ?_)
            · refine lv_iload_n hx hb dX4_chain_41 rfl (lv_at hl 1 rfl) ?_
              refine W.widen (k := 1) (n := 6) (by decide) (by decide) ?_
              exact vx_ret (fs_iret C hH () rfl (⟨rfl, fs_bi_nz.mp c_4⟩) dX4_chain_42)
            · exact absurd c_21 (by decide)
  · exact fs_throw C hl9 ht9 hH hl.1 (fs_bi_0.mp c_4) mw_127 mw_10 dX4_chain_7 dX4_chain_10 dX4_chain_11 dX4_chain_14 (by decide) (Nat.le_of_ble_eq_true rfl) (by decide) (by decide) (by decide) (by decide)
set_option maxHeartbeats 4000000 in
set_option maxRecDepth 100000 in
theorem c_X4_calm (l : Launch) (X : fs_X) (sz : Nat) (h0 : Nat) (nt : Nat) (ns : Nat) (nb : Nat) (nu : Nat) (q1 : Nat) (q2 : Nat) (gg : Nat → Int32) (s0 : Nat) (k0 : Nat) (a0 : Int32) (b0 : Int32) (c0 : Int32) (d0 : Int32) (s1 : Nat) (k1 : Nat) (a1 : Int32) (b1 : Int32) (c1 : Int32) (d1 : Int32) (s2 : Nat) (k2 : Nat) (a2 : Int32) (b2 : Int32) (c2 : Int32) (d2 : Int32) (s3 : Nat) (k3 : Nat) (a3 : Int32) (b3 : Int32) (c3 : Int32) (d3 : Int32)  : fs_M l X yX4_calm cX4_calm 2 none ({ frames := 1, cells := 0, slots := 0, locals := 21 }) [.ref h0] [(h0, .inr (4, [.ref nt, .ref ns, .ref nb, .ref nu])), (nt, .inr (2, [.ref q1, .ref q2])), (q2, fs_ai X 16 gg), (ns, fs_aq X 4 (fs_sts s0 s1 s2 s3)), (s0, .inr (1, [.ref k0, .int a0, .int b0, .int c0, .int d0])), (s1, .inr (1, [.ref k1, .int a1, .int b1, .int c1, .int d1])), (s2, .inr (1, [.ref k2, .int a2, .int b2, .int c2, .int d2])), (s3, .inr (1, [.ref k3, .int a3, .int b3, .int c3, .int d3]))] sz (fs_Qv X (fun (_ : Unit) => True) (fun _ => [(h0, .inr (4, [.ref nt, .ref ns, .ref nb, .ref nu])), (nt, .inr (2, [.ref q1, .ref q2])), (q2, fs_ai X 16 (fs_zero gg 16)), (ns, fs_aq X 4 (fs_sts s0 s1 s2 s3)), (s0, .inr (1, [.ref k0, .int 0, .int 0, .int 0, .int 0])), (s1, .inr (1, [.ref k1, .int 0, .int 0, .int 0, .int 0])), (s2, .inr (1, [.ref k2, .int 0, .int 0, .int 0, .int 0])), (s3, .inr (1, [.ref k3, .int 0, .int 0, .int 0, .int 0]))])) 0 0 := by
  refine fs_ofW (by decide) (Nat.le_of_ble_eq_true rfl) ?_
  intro p e s m args below meth c A ls C hH hl
  have C : fs_At X A p s m args meth c cX4_calm 2 none RX4 "calm" := C
  have hx := C.1
  have hb := C.2.1
  have hown := C.2.2.2.2.1
  have hts := C.2.2.2.2.2.1
  have hl : lv_has ls 2 [(0, .ref h0)] := hl
  have hH : fs_H X A s [(h0, .inr (4, [.ref nt, .ref ns, .ref nb, .ref nu])), (nt, .inr (2, [.ref q1, .ref q2])), (q2, fs_ai X 16 gg), (ns, fs_aq X 4 (fs_sts s0 s1 s2 s3)), (s0, .inr (1, [.ref k0, .int a0, .int b0, .int c0, .int d0])), (s1, .inr (1, [.ref k1, .int a1, .int b1, .int c1, .int d1])), (s2, .inr (1, [.ref k2, .int a2, .int b2, .int c2, .int d2])), (s3, .inr (1, [.ref k3, .int a3, .int b3, .int c3, .int d3]))] s.heap [] := hH
  refine lv_aload_n hx hb dX4_calm_0 rfl (lv_at hl 0 rfl) ?_
  refine fs_get C in_4 hH 0 rfl rfl 0 (by decide) mw_67 (v := .ref nt) rfl dX4_calm_1 ?_
  refine fs_cv C hH (wr := [(h0, .inr (4, [.ref nt, .ref ns, .ref nb, .ref nu])), (ns, fs_aq X 4 (fs_sts s0 s1 s2 s3)), (s0, .inr (1, [.ref k0, .int a0, .int b0, .int c0, .int d0])), (s1, .inr (1, [.ref k1, .int a1, .int b1, .int c1, .int d1])), (s2, .inr (1, [.ref k2, .int a2, .int b2, .int c2, .int d2])), (s3, .inr (1, [.ref k3, .int a3, .int b3, .int c3, .int d3]))]) [1, 2] [0, 3, 4, 5, 6, 7] rfl rfl (by decide) (by decide) (fs_rVN (rest := []) (As := []) (n := 0) (q0 := 1) (ci := 2) C hH (wc := [(nt, .inr (2, [.ref q1, .ref q2])), (q2, fs_ai X 16 gg)]) [1, 2] (by decide) rfl (c_X2_forget l X _ nt q1 q2 gg ) rfl rfl rfl rfl mw_98 (List.mem_of_getElem? (i := 4) rfl) mw_97 mw_480 mw_2 (by decide +kernel) ⟨Nat.le_of_ble_eq_true rfl, Nat.le_of_ble_eq_true rfl⟩ rfl hl.1 rfl (Nat.le_of_ble_eq_true rfl) dX4_calm_4 ⟨Nat.le_of_ble_eq_true rfl, Nat.le_of_ble_eq_true rfl⟩) (fun u_2 H locs hr_3 hH => ?_)
  have hH : fs_H X A s [(h0, .inr (4, [.ref nt, .ref ns, .ref nb, .ref nu])), (nt, .inr (2, [.ref q1, .ref q2])), (q2, fs_ai X 16 (fs_zero gg 16)), (ns, fs_aq X 4 (fs_sts s0 s1 s2 s3)), (s0, .inr (1, [.ref k0, .int a0, .int b0, .int c0, .int d0])), (s1, .inr (1, [.ref k1, .int a1, .int b1, .int c1, .int d1])), (s2, .inr (1, [.ref k2, .int a2, .int b2, .int c2, .int d2])), (s3, .inr (1, [.ref k3, .int a3, .int b3, .int c3, .int d3]))] _ _ := hH.sub [0, 6, 7, 1, 2, 3, 4, 5] (by decide) rfl
  refine lv_iconst (v := 0) hx hb dX4_calm_7 (by decide) ?_
  refine lv_istore_n (lv' := [(1, .int 0), (0, .ref h0)]) hx hb dX4_calm_8 rfl hl (by decide) rfl (fun ls hl => ?_)
  refine lv_iload_n hx hb dX4_calm_9 rfl (lv_at hl 0 rfl) ?_
  refine lv_iconst (v := 4) hx hb dX4_calm_10 (by decide) ?_
  refine lv_icmp_ge (tgt := 29) hx hb dX4_calm_11 (by decide) (fun c_4 => ?_) (fun c_4 => ?_)
  · exact absurd c_4 (by decide)
  · refine lv_aload_n hx hb dX4_calm_14 rfl (lv_at hl 1 rfl) ?_
    refine fs_get C in_4 hH 0 rfl rfl 1 (by decide) mw_68 (v := .ref ns) rfl dX4_calm_15 ?_
    refine lv_iload_n hx hb dX4_calm_18 rfl (lv_at hl 0 rfl) ?_
    refine fs_aald C hH 3 rfl (k := 0) (b := s0) rfl (by decide) (by decide) rfl dX4_calm_19 ?_
    refine fs_cv C hH (wr := [(h0, .inr (4, [.ref nt, .ref ns, .ref nb, .ref nu])), (nt, .inr (2, [.ref q1, .ref q2])), (q2, fs_ai X 16 (fs_zero gg 16)), (ns, fs_aq X 4 (fs_sts s0 s1 s2 s3)), (s1, .inr (1, [.ref k1, .int a1, .int b1, .int c1, .int d1])), (s2, .inr (1, [.ref k2, .int a2, .int b2, .int c2, .int d2])), (s3, .inr (1, [.ref k3, .int a3, .int b3, .int c3, .int d3]))]) [4] [0, 1, 2, 3, 5, 6, 7] rfl rfl (by decide) (by decide) (fs_rVN (rest := []) (As := []) (n := 0) (q0 := 4) (ci := 1) C hH (wc := [(s0, .inr (1, [.ref k0, .int a0, .int b0, .int c0, .int d0]))]) [4] (by decide) rfl (c_X1_forget l X _ s0 k0 a0 b0 c0 d0 ) rfl rfl rfl rfl mw_100 (List.mem_of_getElem? (i := 5) rfl) mw_99 mw_481 mw_3 (by decide +kernel) ⟨Nat.le_of_ble_eq_true rfl, Nat.le_of_ble_eq_true rfl⟩ rfl hl.1 rfl (Nat.le_of_ble_eq_true rfl) dX4_calm_20 ⟨Nat.le_of_ble_eq_true rfl, Nat.le_of_ble_eq_true rfl⟩) (fun u_6 H locs hr_7 hH => ?_)
    have hH : fs_H X A s [(h0, .inr (4, [.ref nt, .ref ns, .ref nb, .ref nu])), (nt, .inr (2, [.ref q1, .ref q2])), (q2, fs_ai X 16 (fs_zero gg 16)), (ns, fs_aq X 4 (fs_sts s0 s1 s2 s3)), (s0, .inr (1, [.ref k0, .int 0, .int 0, .int 0, .int 0])), (s1, .inr (1, [.ref k1, .int a1, .int b1, .int c1, .int d1])), (s2, .inr (1, [.ref k2, .int a2, .int b2, .int c2, .int d2])), (s3, .inr (1, [.ref k3, .int a3, .int b3, .int c3, .int d3]))] _ _ := hH.sub [0, 1, 2, 3, 7, 4, 5, 6] (by decide) rfl
    refine lv_iinc (v := 1) (lv' := [(1, .int 1), (0, .ref h0)]) hx hb dX4_calm_23 hl (k := 0) rfl (by decide) (by decide) rfl (fun ls hl => ?_)
    refine lv_goto (tgt := 9) hx hb dX4_calm_26 (by decide) ?_
    refine lv_iload_n hx hb dX4_calm_9 rfl (lv_at hl 0 rfl) ?_
    refine lv_iconst (v := 4) hx hb dX4_calm_10 (by decide) ?_
    refine lv_icmp_ge (tgt := 29) hx hb dX4_calm_11 (by decide) (fun c_8 => ?_) (fun c_8 => ?_)
    · exact absurd c_8 (by decide)
    · refine lv_aload_n hx hb dX4_calm_14 rfl (lv_at hl 1 rfl) ?_
      refine fs_get C in_4 hH 0 rfl rfl 1 (by decide) mw_68 (v := .ref ns) rfl dX4_calm_15 ?_
      refine lv_iload_n hx hb dX4_calm_18 rfl (lv_at hl 0 rfl) ?_
      refine fs_aald C hH 3 rfl (k := 1) (b := s1) rfl (by decide) (by decide) rfl dX4_calm_19 ?_
      refine fs_cv C hH (wr := [(h0, .inr (4, [.ref nt, .ref ns, .ref nb, .ref nu])), (nt, .inr (2, [.ref q1, .ref q2])), (q2, fs_ai X 16 (fs_zero gg 16)), (ns, fs_aq X 4 (fs_sts s0 s1 s2 s3)), (s0, .inr (1, [.ref k0, .int 0, .int 0, .int 0, .int 0])), (s2, .inr (1, [.ref k2, .int a2, .int b2, .int c2, .int d2])), (s3, .inr (1, [.ref k3, .int a3, .int b3, .int c3, .int d3]))]) [5] [0, 1, 2, 3, 4, 6, 7] rfl rfl (by decide) (by decide) (fs_rVN (rest := []) (As := []) (n := 0) (q0 := 5) (ci := 1) C hH (wc := [(s1, .inr (1, [.ref k1, .int a1, .int b1, .int c1, .int d1]))]) [5] (by decide) rfl (c_X1_forget l X _ s1 k1 a1 b1 c1 d1 ) rfl rfl rfl rfl mw_100 (List.mem_of_getElem? (i := 5) rfl) mw_99 mw_481 mw_3 (by decide +kernel) ⟨Nat.le_of_ble_eq_true rfl, Nat.le_of_ble_eq_true rfl⟩ rfl hl.1 rfl (Nat.le_of_ble_eq_true rfl) dX4_calm_20 ⟨Nat.le_of_ble_eq_true rfl, Nat.le_of_ble_eq_true rfl⟩) (fun u_10 H locs hr_11 hH => ?_)
      have hH : fs_H X A s [(h0, .inr (4, [.ref nt, .ref ns, .ref nb, .ref nu])), (nt, .inr (2, [.ref q1, .ref q2])), (q2, fs_ai X 16 (fs_zero gg 16)), (ns, fs_aq X 4 (fs_sts s0 s1 s2 s3)), (s0, .inr (1, [.ref k0, .int 0, .int 0, .int 0, .int 0])), (s1, .inr (1, [.ref k1, .int 0, .int 0, .int 0, .int 0])), (s2, .inr (1, [.ref k2, .int a2, .int b2, .int c2, .int d2])), (s3, .inr (1, [.ref k3, .int a3, .int b3, .int c3, .int d3]))] _ _ := hH.sub [0, 1, 2, 3, 4, 7, 5, 6] (by decide) rfl
      refine lv_iinc (v := 2) (lv' := [(1, .int 2), (0, .ref h0)]) hx hb dX4_calm_23 hl (k := 0) rfl (by decide) (by decide) rfl (fun ls hl => ?_)
      refine lv_goto (tgt := 9) hx hb dX4_calm_26 (by decide) ?_
      refine lv_iload_n hx hb dX4_calm_9 rfl (lv_at hl 0 rfl) ?_
      refine lv_iconst (v := 4) hx hb dX4_calm_10 (by decide) ?_
      refine lv_icmp_ge (tgt := 29) hx hb dX4_calm_11 (by decide) (fun c_12 => ?_) (fun c_12 => ?_)
      · exact absurd c_12 (by decide)
      · refine lv_aload_n hx hb dX4_calm_14 rfl (lv_at hl 1 rfl) ?_
        refine fs_get C in_4 hH 0 rfl rfl 1 (by decide) mw_68 (v := .ref ns) rfl dX4_calm_15 ?_
        refine lv_iload_n hx hb dX4_calm_18 rfl (lv_at hl 0 rfl) ?_
        refine fs_aald C hH 3 rfl (k := 2) (b := s2) rfl (by decide) (by decide) rfl dX4_calm_19 ?_
        refine fs_cv C hH (wr := [(h0, .inr (4, [.ref nt, .ref ns, .ref nb, .ref nu])), (nt, .inr (2, [.ref q1, .ref q2])), (q2, fs_ai X 16 (fs_zero gg 16)), (ns, fs_aq X 4 (fs_sts s0 s1 s2 s3)), (s0, .inr (1, [.ref k0, .int 0, .int 0, .int 0, .int 0])), (s1, .inr (1, [.ref k1, .int 0, .int 0, .int 0, .int 0])), (s3, .inr (1, [.ref k3, .int a3, .int b3, .int c3, .int d3]))]) [6] [0, 1, 2, 3, 4, 5, 7] rfl rfl (by decide) (by decide) (fs_rVN (rest := []) (As := []) (n := 0) (q0 := 6) (ci := 1) C hH (wc := [(s2, .inr (1, [.ref k2, .int a2, .int b2, .int c2, .int d2]))]) [6] (by decide) rfl (c_X1_forget l X _ s2 k2 a2 b2 c2 d2 ) rfl rfl rfl rfl mw_100 (List.mem_of_getElem? (i := 5) rfl) mw_99 mw_481 mw_3 (by decide +kernel) ⟨Nat.le_of_ble_eq_true rfl, Nat.le_of_ble_eq_true rfl⟩ rfl hl.1 rfl (Nat.le_of_ble_eq_true rfl) dX4_calm_20 ⟨Nat.le_of_ble_eq_true rfl, Nat.le_of_ble_eq_true rfl⟩) (fun u_14 H locs hr_15 hH => ?_)
        have hH : fs_H X A s [(h0, .inr (4, [.ref nt, .ref ns, .ref nb, .ref nu])), (nt, .inr (2, [.ref q1, .ref q2])), (q2, fs_ai X 16 (fs_zero gg 16)), (ns, fs_aq X 4 (fs_sts s0 s1 s2 s3)), (s0, .inr (1, [.ref k0, .int 0, .int 0, .int 0, .int 0])), (s1, .inr (1, [.ref k1, .int 0, .int 0, .int 0, .int 0])), (s2, .inr (1, [.ref k2, .int 0, .int 0, .int 0, .int 0])), (s3, .inr (1, [.ref k3, .int a3, .int b3, .int c3, .int d3]))] _ _ := hH.sub [0, 1, 2, 3, 4, 5, 7, 6] (by decide) rfl
        refine lv_iinc (v := 3) (lv' := [(1, .int 3), (0, .ref h0)]) hx hb dX4_calm_23 hl (k := 0) rfl (by decide) (by decide) rfl (fun ls hl => ?_)
        refine lv_goto (tgt := 9) hx hb dX4_calm_26 (by decide) ?_
        refine lv_iload_n hx hb dX4_calm_9 rfl (lv_at hl 0 rfl) ?_
        refine lv_iconst (v := 4) hx hb dX4_calm_10 (by decide) ?_
        refine lv_icmp_ge (tgt := 29) hx hb dX4_calm_11 (by decide) (fun c_16 => ?_) (fun c_16 => ?_)
        · exact absurd c_16 (by decide)
        · refine lv_aload_n hx hb dX4_calm_14 rfl (lv_at hl 1 rfl) ?_
          refine fs_get C in_4 hH 0 rfl rfl 1 (by decide) mw_68 (v := .ref ns) rfl dX4_calm_15 ?_
          refine lv_iload_n hx hb dX4_calm_18 rfl (lv_at hl 0 rfl) ?_
          refine fs_aald C hH 3 rfl (k := 3) (b := s3) rfl (by decide) (by decide) rfl dX4_calm_19 ?_
          refine fs_cv C hH (wr := [(h0, .inr (4, [.ref nt, .ref ns, .ref nb, .ref nu])), (nt, .inr (2, [.ref q1, .ref q2])), (q2, fs_ai X 16 (fs_zero gg 16)), (ns, fs_aq X 4 (fs_sts s0 s1 s2 s3)), (s0, .inr (1, [.ref k0, .int 0, .int 0, .int 0, .int 0])), (s1, .inr (1, [.ref k1, .int 0, .int 0, .int 0, .int 0])), (s2, .inr (1, [.ref k2, .int 0, .int 0, .int 0, .int 0]))]) [7] [0, 1, 2, 3, 4, 5, 6] rfl rfl (by decide) (by decide) (fs_rVN (rest := []) (As := []) (n := 0) (q0 := 7) (ci := 1) C hH (wc := [(s3, .inr (1, [.ref k3, .int a3, .int b3, .int c3, .int d3]))]) [7] (by decide) rfl (c_X1_forget l X _ s3 k3 a3 b3 c3 d3 ) rfl rfl rfl rfl mw_100 (List.mem_of_getElem? (i := 5) rfl) mw_99 mw_481 mw_3 (by decide +kernel) ⟨Nat.le_of_ble_eq_true rfl, Nat.le_of_ble_eq_true rfl⟩ rfl hl.1 rfl (Nat.le_of_ble_eq_true rfl) dX4_calm_20 ⟨Nat.le_of_ble_eq_true rfl, Nat.le_of_ble_eq_true rfl⟩) (fun u_18 H locs hr_19 hH => ?_)
          have hH : fs_H X A s [(h0, .inr (4, [.ref nt, .ref ns, .ref nb, .ref nu])), (nt, .inr (2, [.ref q1, .ref q2])), (q2, fs_ai X 16 (fs_zero gg 16)), (ns, fs_aq X 4 (fs_sts s0 s1 s2 s3)), (s0, .inr (1, [.ref k0, .int 0, .int 0, .int 0, .int 0])), (s1, .inr (1, [.ref k1, .int 0, .int 0, .int 0, .int 0])), (s2, .inr (1, [.ref k2, .int 0, .int 0, .int 0, .int 0])), (s3, .inr (1, [.ref k3, .int 0, .int 0, .int 0, .int 0]))] _ _ := hH
          refine lv_iinc (v := 4) (lv' := [(1, .int 4), (0, .ref h0)]) hx hb dX4_calm_23 hl (k := 0) rfl (by decide) (by decide) rfl (fun ls hl => ?_)
          refine lv_goto (tgt := 9) hx hb dX4_calm_26 (by decide) ?_
          refine lv_iload_n hx hb dX4_calm_9 rfl (lv_at hl 0 rfl) ?_
          refine lv_iconst (v := 4) hx hb dX4_calm_10 (by decide) ?_
          refine lv_icmp_ge (tgt := 29) hx hb dX4_calm_11 (by decide) (fun c_20 => ?_) (fun c_20 => ?_)
          · exact fs_vret C hH () rfl trivial dX4_calm_29
          · exact absurd c_20 (by decide)
set_option maxHeartbeats 4000000 in
set_option maxRecDepth 100000 in
theorem c_X4_put (l : Launch) (X : fs_X) (sz : Nat) (h0 : Nat) (nt : Nat) (ns : Nat) (nb : Nat) (nu : Nat) (qr : Nat) (qi : Nat) (S : fs_K) (p0 : Int32) (rv : Int32) (iv : Int32)  (hl9 : l.stackTraces = false) : fs_MX l X yX4_put cX4_put 4 none ({ frames := 6, cells := 1, slots := 6, locals := 81 }) [.ref h0, .int p0, .int rv, .int iv] [(h0, .inr (4, [.ref nt, .ref ns, .ref nb, .ref nu])), (nb, .inr (0, [.ref qr, .ref qi, .int S.2.2])), (qr, fs_ai X 32 S.1), (qi, fs_ai X 32 S.2.1)] sz (fs_Qv X (fun (_ : Unit) => (¬ p0 < 0 ∧ ¬ 32 ≤ p0)) (fun _ => [(h0, .inr (4, [.ref nt, .ref ns, .ref nb, .ref nu])), (nb, .inr (0, [.ref qr, .ref qi, .int 0])), (qr, fs_ai X 32 (upd S.1 (Int32.toNatClampNeg p0) rv)), (qi, fs_ai X 32 (upd S.2.1 (Int32.toNatClampNeg p0) iv))])) (¬ (¬ p0 < 0 ∧ ¬ 32 ≤ p0)) 1 6 := by
  refine fs_ofX (by decide) (Nat.le_of_ble_eq_true rfl) ?_
  intro p e s m args below meth c A ls C hH hl ht9
  have C : fs_At X A p s m args meth c cX4_put 4 none RX4 "put" := C
  have hx := C.1
  have hb := C.2.1
  have hown := C.2.2.2.2.1
  have hts := C.2.2.2.2.2.1
  have hl : lv_has ls 4 [(0, .ref h0), (1, .int p0), (2, .int rv), (3, .int iv)] := hl
  have hH : fs_H X A s [(h0, .inr (4, [.ref nt, .ref ns, .ref nb, .ref nu])), (nb, .inr (0, [.ref qr, .ref qi, .int S.2.2])), (qr, fs_ai X 32 S.1), (qi, fs_ai X 32 S.2.1)] s.heap [] := hH
  refine lv_iload_n hx hb dX4_put_0 rfl (lv_at hl 1 rfl) ?_
  refine lv_bipush (v := 32) hx hb dX4_put_1 (by decide) ?_
  refine fs_ci C hH (wr := [(h0, .inr (4, [.ref nt, .ref ns, .ref nb, .ref nu])), (nb, .inr (0, [.ref qr, .ref qi, .int S.2.2])), (qr, fs_ai X 32 S.1), (qi, fs_ai X 32 S.2.1)]) [] [0, 1, 2, 3] rfl rfl (by decide) (by decide) (fs_rS (rest := []) (As := [.int p0, .int 32]) (n := 2) C hH (wc := []) [] (by decide) rfl (c_X4_isWithin l X _ p0 32 ) rfl rfl mw_197 mw_195 mw_196 mw_1 (by decide +kernel) ⟨Nat.le_of_ble_eq_true rfl, Nat.le_of_ble_eq_true rfl⟩ rfl hl.1 rfl (Nat.le_of_ble_eq_true rfl) dX4_put_3 ⟨Nat.le_of_ble_eq_true rfl, Nat.le_of_ble_eq_true rfl⟩) (fun r_1 u_2 H locs hr_3 hH => ?_)
  subst hr_3
  have hH : fs_H X A s [(h0, .inr (4, [.ref nt, .ref ns, .ref nb, .ref nu])), (nb, .inr (0, [.ref qr, .ref qi, .int S.2.2])), (qr, fs_ai X 32 S.1), (qi, fs_ai X 32 S.2.1)] _ _ := hH
  refine lv_if_ne (tgt := 17) hx hb dX4_put_6 (by decide) (fun c_4 => ?_) (fun c_4 => ?_)
  · refine lv_aload_n hx hb dX4_put_17 rfl (lv_at hl 0 rfl) ?_
    refine fs_get C in_4 hH 0 rfl rfl 2 (by decide) mw_69 (v := .ref nb) rfl dX4_put_18 ?_
    refine fs_getN C in_0 hH 1 rfl rfl 0 (by decide) (List.mem_of_getElem? (i := 2) rfl) (v := .ref qr) rfl dX4_put_21 ?_
    refine lv_iload_n hx hb dX4_put_24 rfl (lv_at hl 1 rfl) ?_
    refine lv_iload_n hx hb dX4_put_25 rfl (lv_at hl 2 rfl) ?_
    refine fs_iast C hH 2 rfl (k := (Int32.toNatClampNeg p0)) (fs_ixn (n := 32) (by decide) (fs_bi_nz.mp c_4)).1 (fs_ixn (n := 32) (by decide) (fs_bi_nz.mp c_4)).2 (by decide) (ws' := [(h0, .inr (4, [.ref nt, .ref ns, .ref nb, .ref nu])), (nb, .inr (0, [.ref qr, .ref qi, .int S.2.2])), (qr, fs_ai X 32 (upd S.1 (Int32.toNatClampNeg p0) rv)), (qi, fs_ai X 32 S.2.1)]) rfl dX4_put_26 (fun H locs hH => ?_)
    refine lv_aload_n hx hb dX4_put_27 rfl (lv_at hl 0 rfl) ?_
    refine fs_get C in_4 hH 0 rfl rfl 2 (by decide) mw_69 (v := .ref nb) rfl dX4_put_28 ?_
    refine fs_getN C in_0 hH 1 rfl rfl 1 (by decide) (List.mem_of_getElem? (i := 3) rfl) (v := .ref qi) rfl dX4_put_31 ?_
    refine lv_iload_n hx hb dX4_put_34 rfl (lv_at hl 1 rfl) ?_
    refine lv_iload_n hx hb dX4_put_35 rfl (lv_at hl 3 rfl) ?_
    refine fs_iast C hH 3 rfl (k := (Int32.toNatClampNeg p0)) (fs_ixn (n := 32) (by decide) (fs_bi_nz.mp c_4)).1 (fs_ixn (n := 32) (by decide) (fs_bi_nz.mp c_4)).2 (by decide) (ws' := [(h0, .inr (4, [.ref nt, .ref ns, .ref nb, .ref nu])), (nb, .inr (0, [.ref qr, .ref qi, .int S.2.2])), (qr, fs_ai X 32 (upd S.1 (Int32.toNatClampNeg p0) rv)), (qi, fs_ai X 32 (upd S.2.1 (Int32.toNatClampNeg p0) iv))]) rfl dX4_put_36 (fun H locs hH => ?_)
    refine lv_aload_n hx hb dX4_put_37 rfl (lv_at hl 0 rfl) ?_
    refine fs_get C in_4 hH 0 rfl rfl 2 (by decide) mw_69 (v := .ref nb) rfl dX4_put_38 ?_
    refine lv_iconst (v := 0) hx hb dX4_put_41 (by decide) ?_
    refine fs_putN C in_0 tyX0 tyX0_ok nmX0 hH 1 rfl rfl 2 (by decide) (List.mem_of_getElem? (i := 4) rfl) rfl rfl rfl (Nat.le_of_ble_eq_true rfl) (ws' := [(h0, .inr (4, [.ref nt, .ref ns, .ref nb, .ref nu])), (nb, .inr (0, [.ref qr, .ref qi, .int 0])), (qr, fs_ai X 32 (upd S.1 (Int32.toNatClampNeg p0) rv)), (qi, fs_ai X 32 (upd S.2.1 (Int32.toNatClampNeg p0) iv))]) rfl dX4_put_42 (fun H locs hH => ?_)
    refine W.widen (k := 1) (n := 6) (by decide) (by decide) ?_
    exact vx_ret (fs_vret C hH () rfl (fs_bi_nz.mp c_4) dX4_put_45)
  · exact fs_throw C hl9 ht9 hH hl.1 (fs_bi_0.mp c_4) mw_127 mw_10 dX4_put_9 dX4_put_12 dX4_put_13 dX4_put_16 (by decide) (Nat.le_of_ble_eq_true rfl) (by decide) (by decide) (by decide) (by decide)
set_option maxHeartbeats 4000000 in
set_option maxRecDepth 100000 in
theorem c_X4_get (l : Launch) (X : fs_X) (sz : Nat) (h0 : Nat) (nt : Nat) (ns : Nat) (nb : Nat) (nu : Nat) (qr : Nat) (qi : Nat) (S : fs_K) (p0 : Int32) (sec : Int32)  (hl9 : l.stackTraces = false) : fs_MX l X yX4_get cX4_get 3 (some .int) ({ frames := 6, cells := 1, slots := 6, locals := 81 }) [.ref h0, .int p0, .int sec] [(h0, .inr (4, [.ref nt, .ref ns, .ref nb, .ref nu])), (nb, .inr (0, [.ref qr, .ref qi, .int S.2.2])), (qr, fs_ai X 32 S.1), (qi, fs_ai X 32 S.2.1)] sz (fs_Qi X (fun r (_ : Unit) => r = (if sec = 0 then S.1 (Int32.toNatClampNeg p0) else S.2.1 (Int32.toNatClampNeg p0)) ∧ (¬ p0 < 0 ∧ ¬ 32 ≤ p0)) (fun _ => [(h0, .inr (4, [.ref nt, .ref ns, .ref nb, .ref nu])), (nb, .inr (0, [.ref qr, .ref qi, .int S.2.2])), (qr, fs_ai X 32 S.1), (qi, fs_ai X 32 S.2.1)])) (¬ (¬ p0 < 0 ∧ ¬ 32 ≤ p0)) 1 6 := by
  refine fs_ofX (by decide) (Nat.le_of_ble_eq_true rfl) ?_
  intro p e s m args below meth c A ls C hH hl ht9
  have C : fs_At X A p s m args meth c cX4_get 3 (some .int) RX4 "get" := C
  have hx := C.1
  have hb := C.2.1
  have hown := C.2.2.2.2.1
  have hts := C.2.2.2.2.2.1
  have hl : lv_has ls 3 [(0, .ref h0), (1, .int p0), (2, .int sec)] := hl
  have hH : fs_H X A s [(h0, .inr (4, [.ref nt, .ref ns, .ref nb, .ref nu])), (nb, .inr (0, [.ref qr, .ref qi, .int S.2.2])), (qr, fs_ai X 32 S.1), (qi, fs_ai X 32 S.2.1)] s.heap [] := hH
  refine lv_iload_n hx hb dX4_get_0 rfl (lv_at hl 1 rfl) ?_
  refine lv_bipush (v := 32) hx hb dX4_get_1 (by decide) ?_
  refine fs_ci C hH (wr := [(h0, .inr (4, [.ref nt, .ref ns, .ref nb, .ref nu])), (nb, .inr (0, [.ref qr, .ref qi, .int S.2.2])), (qr, fs_ai X 32 S.1), (qi, fs_ai X 32 S.2.1)]) [] [0, 1, 2, 3] rfl rfl (by decide) (by decide) (fs_rS (rest := []) (As := [.int p0, .int 32]) (n := 2) C hH (wc := []) [] (by decide) rfl (c_X4_isWithin l X _ p0 32 ) rfl rfl mw_197 mw_195 mw_196 mw_1 (by decide +kernel) ⟨Nat.le_of_ble_eq_true rfl, Nat.le_of_ble_eq_true rfl⟩ rfl hl.1 rfl (Nat.le_of_ble_eq_true rfl) dX4_get_3 ⟨Nat.le_of_ble_eq_true rfl, Nat.le_of_ble_eq_true rfl⟩) (fun r_1 u_2 H locs hr_3 hH => ?_)
  subst hr_3
  have hH : fs_H X A s [(h0, .inr (4, [.ref nt, .ref ns, .ref nb, .ref nu])), (nb, .inr (0, [.ref qr, .ref qi, .int S.2.2])), (qr, fs_ai X 32 S.1), (qi, fs_ai X 32 S.2.1)] _ _ := hH
  refine lv_if_ne (tgt := 17) hx hb dX4_get_6 (by decide) (fun c_4 => ?_) (fun c_4 => ?_)
  · refine lv_iload_n hx hb dX4_get_17 rfl (lv_at hl 2 rfl) ?_
    refine lv_if_eq (tgt := 33) hx hb dX4_get_18 (by decide) (fun c_5 => ?_) (fun c_5 => ?_)
    · refine lv_aload_n hx hb dX4_get_33 rfl (lv_at hl 0 rfl) ?_
      refine fs_get C in_4 hH 0 rfl rfl 2 (by decide) mw_69 (v := .ref nb) rfl dX4_get_34 ?_
      refine fs_getN C in_0 hH 1 rfl rfl 0 (by decide) (List.mem_of_getElem? (i := 2) rfl) (v := .ref qr) rfl dX4_get_37 ?_
      refine lv_iload_n hx hb dX4_get_40 rfl (lv_at hl 1 rfl) ?_
      refine fs_iald C hH 2 rfl (k := (Int32.toNatClampNeg p0)) (fs_ixn (n := 32) (by decide) (fs_bi_nz.mp c_4)).1 (fs_ixn (n := 32) (by decide) (fs_bi_nz.mp c_4)).2 (by decide) dX4_get_41 ?_
      refine W.widen (k := 1) (n := 6) (by decide) (by decide) ?_
      exact vx_ret (fs_iret C hH () rfl (⟨by simp [c_5], fs_bi_nz.mp c_4⟩) dX4_get_42)
    · refine lv_aload_n hx hb dX4_get_21 rfl (lv_at hl 0 rfl) ?_
      refine fs_get C in_4 hH 0 rfl rfl 2 (by decide) mw_69 (v := .ref nb) rfl dX4_get_22 ?_
      refine fs_getN C in_0 hH 1 rfl rfl 1 (by decide) (List.mem_of_getElem? (i := 3) rfl) (v := .ref qi) rfl dX4_get_25 ?_
      refine lv_iload_n hx hb dX4_get_28 rfl (lv_at hl 1 rfl) ?_
      refine fs_iald C hH 3 rfl (k := (Int32.toNatClampNeg p0)) (fs_ixn (n := 32) (by decide) (fs_bi_nz.mp c_4)).1 (fs_ixn (n := 32) (by decide) (fs_bi_nz.mp c_4)).2 (by decide) dX4_get_29 ?_
      refine lv_goto (tgt := 42) hx hb dX4_get_30 (by decide) ?_
      refine W.widen (k := 1) (n := 6) (by decide) (by decide) ?_
      exact vx_ret (fs_iret C hH () rfl (⟨by simp [c_5], fs_bi_nz.mp c_4⟩) dX4_get_42)
  · exact fs_throw C hl9 ht9 hH hl.1 (fs_bi_0.mp c_4) mw_127 mw_10 dX4_get_9 dX4_get_12 dX4_get_13 dX4_get_16 (by decide) (Nat.le_of_ble_eq_true rfl) (by decide) (by decide) (by decide) (by decide)
set_option maxHeartbeats 4000000 in
set_option maxRecDepth 100000 in
theorem c_X4_transform (l : Launch) (X : fs_X) (sz : Nat) (h0 : Nat) (nt : Nat) (ns : Nat) (nb : Nat) (nu : Nat) (qr : Nat) (qi : Nat) (S : fs_K) (m0 : Int32) (back : Int32)  (hl9 : l.stackTraces = false) : fs_MX l X yX4_transform cX4_transform 3 (some .int) ({ frames := 6, cells := 1, slots := 6, locals := 100 }) [.ref h0, .int m0, .int back] [(h0, .inr (4, [.ref nt, .ref ns, .ref nb, .ref nu])), (nb, .inr (0, [.ref qr, .ref qi, .int S.2.2])), (qr, fs_ai X 32 S.1), (qi, fs_ai X 32 S.2.1)] sz (fs_Qi X (fun r (_ : Unit) => r = ((fs_tr (Int32.toNatClampNeg m0) back S (Int32.toNatClampNeg m0)).2.2) ∧ (¬ m0 < 0 ∧ m0 ≤ 5)) (fun _ => [(h0, .inr (4, [.ref nt, .ref ns, .ref nb, .ref nu])), (nb, .inr (0, [.ref qr, .ref qi, .int ((fs_tr (Int32.toNatClampNeg m0) back S (Int32.toNatClampNeg m0)).2.2)])), (qr, fs_ai X 32 ((fs_tr (Int32.toNatClampNeg m0) back S (Int32.toNatClampNeg m0)).1)), (qi, fs_ai X 32 ((fs_tr (Int32.toNatClampNeg m0) back S (Int32.toNatClampNeg m0)).2.1))])) (¬ (¬ m0 < 0 ∧ m0 ≤ 5)) 1 6 := by
  refine fs_ofX (by decide) (Nat.le_of_ble_eq_true rfl) ?_
  intro p e s m args below meth c A ls C hH hl ht9
  have C : fs_At X A p s m args meth c cX4_transform 3 (some .int) RX4 "transform" := C
  have hx := C.1
  have hb := C.2.1
  have hown := C.2.2.2.2.1
  have hts := C.2.2.2.2.2.1
  have hl : lv_has ls 3 [(0, .ref h0), (1, .int m0), (2, .int back)] := hl
  have hH : fs_H X A s [(h0, .inr (4, [.ref nt, .ref ns, .ref nb, .ref nu])), (nb, .inr (0, [.ref qr, .ref qi, .int S.2.2])), (qr, fs_ai X 32 S.1), (qi, fs_ai X 32 S.2.1)] s.heap [] := hH
  refine lv_iload_n hx hb dX4_transform_0 rfl (lv_at hl 1 rfl) ?_
  refine lv_if_lt (tgt := 9) hx hb dX4_transform_1 (by decide) (fun c_1 => ?_) (fun c_1 => ?_)
  · exact fs_throw C hl9 ht9 hH hl.1 (fun h => h.1 c_1) mw_127 mw_10 dX4_transform_9 dX4_transform_12 dX4_transform_13 dX4_transform_16 (by decide) (Nat.le_of_ble_eq_true rfl) (by decide) (by decide) (by decide) (by decide)
  · refine lv_iload_n hx hb dX4_transform_4 rfl (lv_at hl 1 rfl) ?_
    refine lv_iconst (v := 5) hx hb dX4_transform_5 (by decide) ?_
    refine lv_icmp_le (tgt := 17) hx hb dX4_transform_6 (by decide) (fun c_2 => ?_) (fun c_2 => ?_)
    · obtain ⟨mm, hmm, rfl⟩ := fs_ix6 c_1 c_2
      refine lv_aload_n hx hb dX4_transform_17 rfl (lv_at hl 0 rfl) ?_
      refine fs_get C in_4 hH 0 rfl rfl 2 (by decide) mw_69 (v := .ref nb) rfl dX4_transform_18 ?_
      refine lv_iload_n hx hb dX4_transform_21 rfl (lv_at hl 1 rfl) ?_
      refine lv_iload_n hx hb dX4_transform_22 rfl (lv_at hl 2 rfl) ?_
      refine fs_cv C hH (wr := [(h0, .inr (4, [.ref nt, .ref ns, .ref nb, .ref nu]))]) [1, 2, 3] [0] rfl rfl (by decide) (by decide) (fs_rVN (rest := []) (As := [.int (nI mm), .int back]) (n := 2) (q0 := 1) (ci := 0) C hH (wc := [(nb, .inr (0, [.ref qr, .ref qi, .int S.2.2])), (qr, fs_ai X 32 S.1), (qi, fs_ai X 32 S.2.1)]) [1, 2, 3] (by decide) rfl (c_X0_intoWaves l X _ nb qr qi S mm back (by omega)) rfl rfl rfl rfl mw_241 (List.mem_of_getElem? (i := 14) rfl) mw_240 mw_487 mw_4 (by decide +kernel) ⟨Nat.le_of_ble_eq_true rfl, Nat.le_of_ble_eq_true rfl⟩ rfl hl.1 rfl (Nat.le_of_ble_eq_true rfl) dX4_transform_23 ⟨Nat.le_of_ble_eq_true rfl, Nat.le_of_ble_eq_true rfl⟩) (fun u_4 H locs hr_5 hH => ?_)
      have hH : fs_H X A s [(h0, .inr (4, [.ref nt, .ref ns, .ref nb, .ref nu])), (nb, .inr (0, [.ref qr, .ref qi, .int ((fs_tr mm back S mm).2.2)])), (qr, fs_ai X 32 ((fs_tr mm back S mm).1)), (qi, fs_ai X 32 ((fs_tr mm back S mm).2.1))] _ _ := hH
      refine lv_aload_n hx hb dX4_transform_26 rfl (lv_at hl 0 rfl) ?_
      refine fs_get C in_4 hH 0 rfl rfl 2 (by decide) mw_69 (v := .ref nb) rfl dX4_transform_27 ?_
      refine fs_getN C in_0 hH 1 rfl rfl 2 (by decide) (List.mem_of_getElem? (i := 4) rfl) (v := .int ((fs_tr mm back S mm).2.2)) rfl dX4_transform_30 ?_
      have hH : fs_H X A s [(h0, .inr (4, [.ref nt, .ref ns, .ref nb, .ref nu])), (nb, .inr (0, [.ref qr, .ref qi, .int ((fs_tr (Int32.toNatClampNeg (nI mm)) back S (Int32.toNatClampNeg (nI mm))).2.2)])), (qr, fs_ai X 32 ((fs_tr (Int32.toNatClampNeg (nI mm)) back S (Int32.toNatClampNeg (nI mm))).1)), (qi, fs_ai X 32 ((fs_tr (Int32.toNatClampNeg (nI mm)) back S (Int32.toNatClampNeg (nI mm))).2.1))] _ _ := hH.to (by rw [nI_clamp (by omega)])
      refine fs_topi (y := (fs_tr (Int32.toNatClampNeg (nI mm)) back S (Int32.toNatClampNeg (nI mm))).2.2) (by rw [nI_clamp (by omega)]) ?_
      refine W.widen (k := 1) (n := 6) (by decide) (by decide) ?_
      exact vx_ret (fs_iret C hH () rfl (⟨rfl, c_1, c_2⟩) dX4_transform_33)
    · exact fs_throw C hl9 ht9 hH hl.1 (fun h => c_2 h.2) mw_127 mw_10 dX4_transform_9 dX4_transform_12 dX4_transform_13 dX4_transform_16 (by decide) (Nat.le_of_ble_eq_true rfl) (by decide) (by decide) (by decide) (by decide)
set_option maxHeartbeats 4000000 in
set_option maxRecDepth 100000 in
theorem c_X4_wave (l : Launch) (X : fs_X) (sz : Nat) (h0 : Nat) (nt : Nat) (ns : Nat) (nb : Nat) (nu : Nat) (t : fs_T) (a : Int32) (cs : Int32)  : fs_M l X yX4_wave cX4_wave 3 (some .int) ({ frames := 2, cells := 0, slots := 0, locals := 50 }) [.ref h0, .int a, .int cs] [(h0, .inr (4, [.ref nt, .ref ns, .ref nb, .ref nu])), (nu, .inr (3, [.long t.1, .long t.2.1, .long t.2.2]))] sz (fs_Qi X (fun r (_ : fs_T) => r = fs_wvi a cs) (fun u => [(h0, .inr (4, [.ref nt, .ref ns, .ref nb, .ref nu])), (nu, .inr (3, [.long u.1, .long u.2.1, .long u.2.2]))])) 0 0 := by
  refine fs_ofW (by decide) (Nat.le_of_ble_eq_true rfl) ?_
  intro p e s m args below meth c A ls C hH hl
  have C : fs_At X A p s m args meth c cX4_wave 3 (some .int) RX4 "wave" := C
  have hx := C.1
  have hb := C.2.1
  have hown := C.2.2.2.2.1
  have hts := C.2.2.2.2.2.1
  have hl : lv_has ls 3 [(0, .ref h0), (1, .int a), (2, .int cs)] := hl
  have hH : fs_H X A s [(h0, .inr (4, [.ref nt, .ref ns, .ref nb, .ref nu])), (nu, .inr (3, [.long t.1, .long t.2.1, .long t.2.2]))] s.heap [] := hH
  refine lv_aload_n hx hb dX4_wave_0 rfl (lv_at hl 0 rfl) ?_
  refine fs_get C in_4 hH 0 rfl rfl 3 (by decide) mw_70 (v := .ref nu) rfl dX4_wave_1 ?_
  refine lv_iload_n hx hb dX4_wave_4 rfl (lv_at hl 1 rfl) ?_
  refine lv_i2l hx hb dX4_wave_5 rfl ?_
  refine fs_cv C hH (wr := [(h0, .inr (4, [.ref nt, .ref ns, .ref nb, .ref nu]))]) [1] [0] rfl rfl (by decide) (by decide) (fs_rVN (rest := []) (As := [.long (Int32.toInt64 a)]) (n := 1) (q0 := 1) (ci := 3) C hH (wc := [(nu, .inr (3, [.long t.1, .long t.2.1, .long t.2.2]))]) [1] (by decide) rfl (c_X3_turnByAngle l X _ nu t (Int32.toInt64 a) ) rfl rfl rfl rfl mw_106 (List.mem_of_getElem? (i := 6) rfl) mw_105 mw_482 mw_5 (by decide +kernel) ⟨Nat.le_of_ble_eq_true rfl, Nat.le_of_ble_eq_true rfl⟩ rfl hl.1 rfl (Nat.le_of_ble_eq_true rfl) dX4_wave_6 ⟨Nat.le_of_ble_eq_true rfl, Nat.le_of_ble_eq_true rfl⟩) (fun u_2 H locs hr_3 hH => ?_)
  have hH : fs_H X A s [(h0, .inr (4, [.ref nt, .ref ns, .ref nb, .ref nu])), (nu, .inr (3, [.long ((fs_wave (Int32.toInt64 a)).1), .long ((fs_wave (Int32.toInt64 a)).2.1), .long ((fs_wave (Int32.toInt64 a)).2.2)]))] _ _ := hH
  refine lv_iload_n hx hb dX4_wave_9 rfl (lv_at hl 2 rfl) ?_
  refine lv_if_eq (tgt := 23) hx hb dX4_wave_10 (by decide) (fun c_4 => ?_) (fun c_4 => ?_)
  · refine lv_aload_n hx hb dX4_wave_23 rfl (lv_at hl 0 rfl) ?_
    refine fs_get C in_4 hH 0 rfl rfl 3 (by decide) mw_70 (v := .ref nu) rfl dX4_wave_24 ?_
    refine fs_getN C in_3 hH 1 rfl rfl 1 (by decide) (List.mem_of_getElem? (i := 6) rfl) (v := .long ((fs_wave (Int32.toInt64 a)).2.1)) rfl dX4_wave_27 ?_
    refine lv_l2i hx hb dX4_wave_30 rfl ?_
    exact fs_iret C hH (fs_wave (Int32.toInt64 a)) rfl (by simp [fs_wvi, c_4]) dX4_wave_31
  · refine lv_aload_n hx hb dX4_wave_13 rfl (lv_at hl 0 rfl) ?_
    refine fs_get C in_4 hH 0 rfl rfl 3 (by decide) mw_70 (v := .ref nu) rfl dX4_wave_14 ?_
    refine fs_getN C in_3 hH 1 rfl rfl 0 (by decide) (List.mem_of_getElem? (i := 5) rfl) (v := .long ((fs_wave (Int32.toInt64 a)).1)) rfl dX4_wave_17 ?_
    refine lv_goto (tgt := 30) hx hb dX4_wave_20 (by decide) ?_
    refine lv_l2i hx hb dX4_wave_30 rfl ?_
    exact fs_iret C hH (fs_wave (Int32.toInt64 a)) rfl (by simp [fs_wvi, c_4]) dX4_wave_31
set_option maxHeartbeats 4000000 in
set_option maxRecDepth 100000 in
theorem c_X4_angle (l : Launch) (X : fs_X) (sz : Nat) (h0 : Nat) (nt : Nat) (ns : Nat) (nb : Nat) (nu : Nat) (t : fs_T) (x : Int32) (y : Int32)  (hl9 : l.stackTraces = false) : fs_MX l X yX4_angle cX4_angle 3 (some .int) ({ frames := 6, cells := 1, slots := 6, locals := 81 }) [.ref h0, .int x, .int y] [(h0, .inr (4, [.ref nt, .ref ns, .ref nb, .ref nu])), (nu, .inr (3, [.long t.1, .long t.2.1, .long t.2.2]))] sz (fs_Qi X (fun r (_ : fs_T) => r = fs_ang x y ∧ (fs_near x ∧ fs_near y)) (fun u => [(h0, .inr (4, [.ref nt, .ref ns, .ref nb, .ref nu])), (nu, .inr (3, [.long u.1, .long u.2.1, .long u.2.2]))])) (¬ (fs_near x ∧ fs_near y)) 1 6 := by
  refine fs_ofX (by decide) (Nat.le_of_ble_eq_true rfl) ?_
  intro p e s m args below meth c A ls C hH hl ht9
  have C : fs_At X A p s m args meth c cX4_angle 3 (some .int) RX4 "angle" := C
  have hx := C.1
  have hb := C.2.1
  have hown := C.2.2.2.2.1
  have hts := C.2.2.2.2.2.1
  have hl : lv_has ls 3 [(0, .ref h0), (1, .int x), (2, .int y)] := hl
  have hH : fs_H X A s [(h0, .inr (4, [.ref nt, .ref ns, .ref nb, .ref nu])), (nu, .inr (3, [.long t.1, .long t.2.1, .long t.2.2]))] s.heap [] := hH
  refine lv_iload_n hx hb dX4_angle_0 rfl (lv_at hl 1 rfl) ?_
  refine lv_iload_n hx hb dX4_angle_1 rfl (lv_at hl 2 rfl) ?_
  refine fs_ci C hH (wr := [(h0, .inr (4, [.ref nt, .ref ns, .ref nb, .ref nu])), (nu, .inr (3, [.long t.1, .long t.2.1, .long t.2.2]))]) [] [0, 1] rfl rfl (by decide) (by decide) (fs_rS (rest := []) (As := [.int x, .int y]) (n := 2) C hH (wc := []) [] (by decide) rfl (c_X4_isPoint l X _ x y ) rfl rfl mw_284 mw_282 mw_283 mw_1 (by decide +kernel) ⟨Nat.le_of_ble_eq_true rfl, Nat.le_of_ble_eq_true rfl⟩ rfl hl.1 rfl (Nat.le_of_ble_eq_true rfl) dX4_angle_2 ⟨Nat.le_of_ble_eq_true rfl, Nat.le_of_ble_eq_true rfl⟩) (fun r_1 u_2 H locs hr_3 hH => ?_)
  subst hr_3
  have hH : fs_H X A s [(h0, .inr (4, [.ref nt, .ref ns, .ref nb, .ref nu])), (nu, .inr (3, [.long t.1, .long t.2.1, .long t.2.2]))] _ _ := hH
  refine lv_if_ne (tgt := 16) hx hb dX4_angle_5 (by decide) (fun c_4 => ?_) (fun c_4 => ?_)
  · refine lv_iload_n hx hb dX4_angle_16 rfl (lv_at hl 1 rfl) ?_
    refine lv_if_ne (tgt := 26) hx hb dX4_angle_17 (by decide) (fun c_5 => ?_) (fun c_5 => ?_)
    · refine lv_aload_n hx hb dX4_angle_26 rfl (lv_at hl 0 rfl) ?_
      refine fs_get C in_4 hH 0 rfl rfl 3 (by decide) mw_70 (v := .ref nu) rfl dX4_angle_27 ?_
      refine lv_iload_n hx hb dX4_angle_30 rfl (lv_at hl 1 rfl) ?_
      refine lv_i2l hx hb dX4_angle_31 rfl ?_
      refine lv_iload_n hx hb dX4_angle_32 rfl (lv_at hl 2 rfl) ?_
      refine lv_i2l hx hb dX4_angle_33 rfl ?_
      refine fs_cv C hH (wr := [(h0, .inr (4, [.ref nt, .ref ns, .ref nb, .ref nu]))]) [1] [0] rfl rfl (by decide) (by decide) (fs_rVN (rest := []) (As := [.long (Int32.toInt64 x), .long (Int32.toInt64 y)]) (n := 2) (q0 := 1) (ci := 3) C hH (wc := [(nu, .inr (3, [.long t.1, .long t.2.1, .long t.2.2]))]) [1] (by decide) rfl (c_X3_turnToAxis l X _ nu t (Int32.toInt64 x) (Int32.toInt64 y) ) rfl rfl rfl rfl mw_291 (List.mem_of_getElem? (i := 18) rfl) mw_290 mw_492 mw_5 (by decide +kernel) ⟨Nat.le_of_ble_eq_true rfl, Nat.le_of_ble_eq_true rfl⟩ rfl hl.1 rfl (Nat.le_of_ble_eq_true rfl) dX4_angle_34 ⟨Nat.le_of_ble_eq_true rfl, Nat.le_of_ble_eq_true rfl⟩) (fun u_7 H locs hr_8 hH => ?_)
      have hH : fs_H X A s [(h0, .inr (4, [.ref nt, .ref ns, .ref nb, .ref nu])), (nu, .inr (3, [.long ((fs_axis (Int32.toInt64 x) (Int32.toInt64 y)).1), .long ((fs_axis (Int32.toInt64 x) (Int32.toInt64 y)).2.1), .long ((fs_axis (Int32.toInt64 x) (Int32.toInt64 y)).2.2)]))] _ _ := hH
      refine lv_aload_n hx hb dX4_angle_37 rfl (lv_at hl 0 rfl) ?_
      refine fs_get C in_4 hH 0 rfl rfl 3 (by decide) mw_70 (v := .ref nu) rfl dX4_angle_38 ?_
      refine fs_getN C in_3 hH 1 rfl rfl 2 (by decide) (List.mem_of_getElem? (i := 7) rfl) (v := .long ((fs_axis (Int32.toInt64 x) (Int32.toInt64 y)).2.2)) rfl dX4_angle_41 ?_
      refine lv_l2i hx hb dX4_angle_44 rfl ?_
      refine W.widen (k := 1) (n := 6) (by decide) (by decide) ?_
      exact vx_ret (fs_iret C hH (fs_axis (Int32.toInt64 x) (Int32.toInt64 y)) rfl (⟨by simp [fs_ang, c_5], fs_bi_nz.mp c_4⟩) dX4_angle_45)
    · refine lv_iload_n hx hb dX4_angle_20 rfl (lv_at hl 2 rfl) ?_
      refine lv_if_ne (tgt := 26) hx hb dX4_angle_21 (by decide) (fun c_9 => ?_) (fun c_9 => ?_)
      · refine lv_aload_n hx hb dX4_angle_26 rfl (lv_at hl 0 rfl) ?_
        refine fs_get C in_4 hH 0 rfl rfl 3 (by decide) mw_70 (v := .ref nu) rfl dX4_angle_27 ?_
        refine lv_iload_n hx hb dX4_angle_30 rfl (lv_at hl 1 rfl) ?_
        refine lv_i2l hx hb dX4_angle_31 rfl ?_
        refine lv_iload_n hx hb dX4_angle_32 rfl (lv_at hl 2 rfl) ?_
        refine lv_i2l hx hb dX4_angle_33 rfl ?_
        refine fs_cv C hH (wr := [(h0, .inr (4, [.ref nt, .ref ns, .ref nb, .ref nu]))]) [1] [0] rfl rfl (by decide) (by decide) (fs_rVN (rest := []) (As := [.long (Int32.toInt64 x), .long (Int32.toInt64 y)]) (n := 2) (q0 := 1) (ci := 3) C hH (wc := [(nu, .inr (3, [.long t.1, .long t.2.1, .long t.2.2]))]) [1] (by decide) rfl (c_X3_turnToAxis l X _ nu t (Int32.toInt64 x) (Int32.toInt64 y) ) rfl rfl rfl rfl mw_291 (List.mem_of_getElem? (i := 18) rfl) mw_290 mw_492 mw_5 (by decide +kernel) ⟨Nat.le_of_ble_eq_true rfl, Nat.le_of_ble_eq_true rfl⟩ rfl hl.1 rfl (Nat.le_of_ble_eq_true rfl) dX4_angle_34 ⟨Nat.le_of_ble_eq_true rfl, Nat.le_of_ble_eq_true rfl⟩) (fun u_11 H locs hr_12 hH => ?_)
        have hH : fs_H X A s [(h0, .inr (4, [.ref nt, .ref ns, .ref nb, .ref nu])), (nu, .inr (3, [.long ((fs_axis (Int32.toInt64 x) (Int32.toInt64 y)).1), .long ((fs_axis (Int32.toInt64 x) (Int32.toInt64 y)).2.1), .long ((fs_axis (Int32.toInt64 x) (Int32.toInt64 y)).2.2)]))] _ _ := hH
        refine lv_aload_n hx hb dX4_angle_37 rfl (lv_at hl 0 rfl) ?_
        refine fs_get C in_4 hH 0 rfl rfl 3 (by decide) mw_70 (v := .ref nu) rfl dX4_angle_38 ?_
        refine fs_getN C in_3 hH 1 rfl rfl 2 (by decide) (List.mem_of_getElem? (i := 7) rfl) (v := .long ((fs_axis (Int32.toInt64 x) (Int32.toInt64 y)).2.2)) rfl dX4_angle_41 ?_
        refine lv_l2i hx hb dX4_angle_44 rfl ?_
        refine W.widen (k := 1) (n := 6) (by decide) (by decide) ?_
        exact vx_ret (fs_iret C hH (fs_axis (Int32.toInt64 x) (Int32.toInt64 y)) rfl (⟨by simp [fs_ang, c_5, c_9], fs_bi_nz.mp c_4⟩) dX4_angle_45)
      · refine lv_iconst (v := 0) hx hb dX4_angle_24 (by decide) ?_
        refine W.widen (k := 1) (n := 6) (by decide) (by decide) ?_
        exact vx_ret (fs_iret C hH t rfl (⟨by simp [fs_ang, c_5, c_9], fs_bi_nz.mp c_4⟩) dX4_angle_25)
  · exact fs_throw C hl9 ht9 hH hl.1 (fs_bi_0.mp c_4) mw_127 mw_10 dX4_angle_8 dX4_angle_11 dX4_angle_12 dX4_angle_15 (by decide) (Nat.le_of_ble_eq_true rfl) (by decide) (by decide) (by decide) (by decide)
set_option maxHeartbeats 4000000 in
set_option maxRecDepth 100000 in
theorem c_X4_length (l : Launch) (X : fs_X) (sz : Nat) (h0 : Nat) (nt : Nat) (ns : Nat) (nb : Nat) (nu : Nat) (t : fs_T) (x : Int32) (y : Int32)  (hl9 : l.stackTraces = false) : fs_MX l X yX4_length cX4_length 3 (some .int) ({ frames := 6, cells := 1, slots := 6, locals := 81 }) [.ref h0, .int x, .int y] [(h0, .inr (4, [.ref nt, .ref ns, .ref nb, .ref nu])), (nu, .inr (3, [.long t.1, .long t.2.1, .long t.2.2]))] sz (fs_Qi X (fun r (_ : fs_T) => r = fs_len x y ∧ (fs_near x ∧ fs_near y)) (fun u => [(h0, .inr (4, [.ref nt, .ref ns, .ref nb, .ref nu])), (nu, .inr (3, [.long u.1, .long u.2.1, .long u.2.2]))])) (¬ (fs_near x ∧ fs_near y)) 1 6 := by
  refine fs_ofX (by decide) (Nat.le_of_ble_eq_true rfl) ?_
  intro p e s m args below meth c A ls C hH hl ht9
  have C : fs_At X A p s m args meth c cX4_length 3 (some .int) RX4 "length" := C
  have hx := C.1
  have hb := C.2.1
  have hown := C.2.2.2.2.1
  have hts := C.2.2.2.2.2.1
  have hl : lv_has ls 3 [(0, .ref h0), (1, .int x), (2, .int y)] := hl
  have hH : fs_H X A s [(h0, .inr (4, [.ref nt, .ref ns, .ref nb, .ref nu])), (nu, .inr (3, [.long t.1, .long t.2.1, .long t.2.2]))] s.heap [] := hH
  refine lv_iload_n hx hb dX4_length_0 rfl (lv_at hl 1 rfl) ?_
  refine lv_iload_n hx hb dX4_length_1 rfl (lv_at hl 2 rfl) ?_
  refine fs_ci C hH (wr := [(h0, .inr (4, [.ref nt, .ref ns, .ref nb, .ref nu])), (nu, .inr (3, [.long t.1, .long t.2.1, .long t.2.2]))]) [] [0, 1] rfl rfl (by decide) (by decide) (fs_rS (rest := []) (As := [.int x, .int y]) (n := 2) C hH (wc := []) [] (by decide) rfl (c_X4_isPoint l X _ x y ) rfl rfl mw_284 mw_282 mw_283 mw_1 (by decide +kernel) ⟨Nat.le_of_ble_eq_true rfl, Nat.le_of_ble_eq_true rfl⟩ rfl hl.1 rfl (Nat.le_of_ble_eq_true rfl) dX4_length_2 ⟨Nat.le_of_ble_eq_true rfl, Nat.le_of_ble_eq_true rfl⟩) (fun r_1 u_2 H locs hr_3 hH => ?_)
  subst hr_3
  have hH : fs_H X A s [(h0, .inr (4, [.ref nt, .ref ns, .ref nb, .ref nu])), (nu, .inr (3, [.long t.1, .long t.2.1, .long t.2.2]))] _ _ := hH
  refine lv_if_ne (tgt := 16) hx hb dX4_length_5 (by decide) (fun c_4 => ?_) (fun c_4 => ?_)
  · refine lv_aload_n hx hb dX4_length_16 rfl (lv_at hl 0 rfl) ?_
    refine fs_get C in_4 hH 0 rfl rfl 3 (by decide) mw_70 (v := .ref nu) rfl dX4_length_17 ?_
    refine lv_iload_n hx hb dX4_length_20 rfl (lv_at hl 1 rfl) ?_
    refine lv_i2l hx hb dX4_length_21 rfl ?_
    refine lv_iload_n hx hb dX4_length_22 rfl (lv_at hl 2 rfl) ?_
    refine lv_i2l hx hb dX4_length_23 rfl ?_
    refine fs_cv C hH (wr := [(h0, .inr (4, [.ref nt, .ref ns, .ref nb, .ref nu]))]) [1] [0] rfl rfl (by decide) (by decide) (fs_rVN (rest := []) (As := [.long (Int32.toInt64 x), .long (Int32.toInt64 y)]) (n := 2) (q0 := 1) (ci := 3) C hH (wc := [(nu, .inr (3, [.long t.1, .long t.2.1, .long t.2.2]))]) [1] (by decide) rfl (c_X3_turnToAxis l X _ nu t (Int32.toInt64 x) (Int32.toInt64 y) ) rfl rfl rfl rfl mw_291 (List.mem_of_getElem? (i := 18) rfl) mw_290 mw_492 mw_5 (by decide +kernel) ⟨Nat.le_of_ble_eq_true rfl, Nat.le_of_ble_eq_true rfl⟩ rfl hl.1 rfl (Nat.le_of_ble_eq_true rfl) dX4_length_24 ⟨Nat.le_of_ble_eq_true rfl, Nat.le_of_ble_eq_true rfl⟩) (fun u_6 H locs hr_7 hH => ?_)
    have hH : fs_H X A s [(h0, .inr (4, [.ref nt, .ref ns, .ref nb, .ref nu])), (nu, .inr (3, [.long ((fs_axis (Int32.toInt64 x) (Int32.toInt64 y)).1), .long ((fs_axis (Int32.toInt64 x) (Int32.toInt64 y)).2.1), .long ((fs_axis (Int32.toInt64 x) (Int32.toInt64 y)).2.2)]))] _ _ := hH
    refine lv_aload_n hx hb dX4_length_27 rfl (lv_at hl 0 rfl) ?_
    refine fs_get C in_4 hH 0 rfl rfl 3 (by decide) mw_70 (v := .ref nu) rfl dX4_length_28 ?_
    refine fs_getN C in_3 hH 1 rfl rfl 0 (by decide) (List.mem_of_getElem? (i := 5) rfl) (v := .long ((fs_axis (Int32.toInt64 x) (Int32.toInt64 y)).1)) rfl dX4_length_31 ?_
    refine lv_ldc2 (v := 652032874) hx hb hown (hts _ mw_300) dX4_length_34 ?_
    refine lv_lmul hx hb dX4_length_37 ?_
    refine lv_bipush (v := 30) hx hb dX4_length_38 (by decide) ?_
    refine fs_cl C hH (wr := [(h0, .inr (4, [.ref nt, .ref ns, .ref nb, .ref nu])), (nu, .inr (3, [.long ((fs_axis (Int32.toInt64 x) (Int32.toInt64 y)).1), .long ((fs_axis (Int32.toInt64 x) (Int32.toInt64 y)).2.1), .long ((fs_axis (Int32.toInt64 x) (Int32.toInt64 y)).2.2)]))]) [] [0, 1] rfl rfl (by decide) (by decide) (fs_rS (rest := []) (As := [.long (((fs_axis (Int32.toInt64 x) (Int32.toInt64 y)).1) * 652032874), .int 30]) (n := 2) C hH (wc := []) [] (by decide) rfl (c_X4_rounded l X _ (((fs_axis (Int32.toInt64 x) (Int32.toInt64 y)).1) * 652032874) 30 ) rfl rfl mw_81 mw_79 mw_80 mw_1 (by decide +kernel) ⟨Nat.le_of_ble_eq_true rfl, Nat.le_of_ble_eq_true rfl⟩ rfl hl.1 rfl (Nat.le_of_ble_eq_true rfl) dX4_length_40 ⟨Nat.le_of_ble_eq_true rfl, Nat.le_of_ble_eq_true rfl⟩) (fun r_8 u_9 H locs hr_10 hH => ?_)
    subst hr_10
    have hH : fs_H X A s [(h0, .inr (4, [.ref nt, .ref ns, .ref nb, .ref nu])), (nu, .inr (3, [.long ((fs_axis (Int32.toInt64 x) (Int32.toInt64 y)).1), .long ((fs_axis (Int32.toInt64 x) (Int32.toInt64 y)).2.1), .long ((fs_axis (Int32.toInt64 x) (Int32.toInt64 y)).2.2)]))] _ _ := hH
    refine lv_l2i hx hb dX4_length_43 rfl ?_
    refine W.widen (k := 1) (n := 6) (by decide) (by decide) ?_
    exact vx_ret (fs_iret C hH (fs_axis (Int32.toInt64 x) (Int32.toInt64 y)) rfl (⟨rfl, fs_bi_nz.mp c_4⟩) dX4_length_44)
  · exact fs_throw C hl9 ht9 hH hl.1 (fs_bi_0.mp c_4) mw_127 mw_10 dX4_length_8 dX4_length_11 dX4_length_12 dX4_length_15 (by decide) (Nat.le_of_ble_eq_true rfl) (by decide) (by decide) (by decide) (by decide)
set_option maxHeartbeats 4000000 in
set_option maxRecDepth 100000 in
theorem c_X4_init (l : Launch) (X : fs_X) (sz : Nat) (h0 : Nat)  : fs_M l X yX4_init cX4_init 2 none ({ frames := 2, cells := 16, slots := 148, locals := 32 }) [.ref h0] [(h0, .inr (4, [.null, .null, .null, .null]))] sz (fs_Qv X (fun (_ : Nat × Nat × Nat × Nat × Nat × Nat × Nat × Nat × Nat × Nat × Nat × Nat × Nat × Nat × Nat × Nat) => True) (fun u => [(h0, .inr (4, [.ref u.1, .ref u.2.2.2.1, .ref u.2.2.2.2.2.2.2.2.2.2.2.2.1, .ref u.2.2.2.2.2.2.2.2.2.2.2.2.2.2.2])), (u.1, .inr (2, [.ref u.2.1, .ref u.2.2.1])), (u.2.1, fs_ai X 16 (fun _ => 0)), (u.2.2.1, fs_ai X 16 (fun _ => 0)), (u.2.2.2.1, fs_aq X 4 (fs_sts (u.2.2.2.2.1) (u.2.2.2.2.2.2.1) (u.2.2.2.2.2.2.2.2.1) (u.2.2.2.2.2.2.2.2.2.2.1))), (u.2.2.2.2.1, .inr (1, [.ref u.2.2.2.2.2.1, .int 0, .int 0, .int 0, .int 0])), (u.2.2.2.2.2.1, fs_ai X 5 (upd (fun _ => 0) 0 16384)), (u.2.2.2.2.2.2.1, .inr (1, [.ref u.2.2.2.2.2.2.2.1, .int 0, .int 0, .int 0, .int 0])), (u.2.2.2.2.2.2.2.1, fs_ai X 5 (upd (fun _ => 0) 0 16384)), (u.2.2.2.2.2.2.2.2.1, .inr (1, [.ref u.2.2.2.2.2.2.2.2.2.1, .int 0, .int 0, .int 0, .int 0])), (u.2.2.2.2.2.2.2.2.2.1, fs_ai X 5 (upd (fun _ => 0) 0 16384)), (u.2.2.2.2.2.2.2.2.2.2.1, .inr (1, [.ref u.2.2.2.2.2.2.2.2.2.2.2.1, .int 0, .int 0, .int 0, .int 0])), (u.2.2.2.2.2.2.2.2.2.2.2.1, fs_ai X 5 (upd (fun _ => 0) 0 16384)), (u.2.2.2.2.2.2.2.2.2.2.2.2.1, .inr (0, [.ref u.2.2.2.2.2.2.2.2.2.2.2.2.2.1, .ref u.2.2.2.2.2.2.2.2.2.2.2.2.2.2.1, .int 0])), (u.2.2.2.2.2.2.2.2.2.2.2.2.2.1, fs_ai X 32 (fun _ => 0)), (u.2.2.2.2.2.2.2.2.2.2.2.2.2.2.1, fs_ai X 32 (fun _ => 0)), (u.2.2.2.2.2.2.2.2.2.2.2.2.2.2.2, .inr (3, [.long 0, .long 0, .long 0]))])) 16 148 := by
  refine fs_ofW (by decide) (Nat.le_of_ble_eq_true rfl) ?_
  intro p e s m args below meth c A ls C hH hl
  have C : fs_At X A p s m args meth c cX4_init 2 none RX4 "<init>" := C
  have hx := C.1
  have hb := C.2.1
  have hown := C.2.2.2.2.1
  have hts := C.2.2.2.2.2.1
  have hl : lv_has ls 2 [(0, .ref h0)] := hl
  have hH : fs_H X A s [(h0, .inr (4, [.null, .null, .null, .null]))] s.heap [] := hH
  refine lv_aload_n hx hb dX4_init_0 rfl (lv_at hl 0 rfl) ?_
  refine W.objInit hx hb hown (hts _ mw_17) (hts _ mw_18) (hts _ mw_19) rfl (by rw [C.2.2.2.1]; exact hl.1) rfl dX4_init_1 (Nat.le_of_ble_eq_true rfl) (Nat.le_of_ble_eq_true rfl) ?_
  refine W.eq (g2 := F0 m 4 ls []) rfl ?_
  refine lv_aload_n hx hb dX4_init_4 rfl (lv_at hl 0 rfl) ?_
  refine fs_new (ci := 2) C hH in_2 tyX2 tyX2_ok mw_20 mw_21 mw_2 rfl [.null, .null] (by decide) (Nat.le_of_ble_eq_true rfl) (Nat.le_of_ble_eq_true rfl) dX4_init_5 (fun q_1 H hH => ?_)
  have hH : fs_H X A s [(h0, .inr (4, [.null, .null, .null, .null])), (q_1, .inr (2, [.null, .null]))] _ _ := hH
  refine lv_dup hx hb dX4_init_8 rfl ?_
  refine fs_cv C hH (wr := [(h0, .inr (4, [.null, .null, .null, .null]))]) [1] [0] rfl rfl (by decide) (by decide) (fs_rIN (rest := [.ref q_1, .ref h0]) (As := []) (n := 0) C hH (wc := [(q_1, .inr (2, [.null, .null]))]) [1] (by decide) rfl (c_X2_init l X _ q_1 ) rfl rfl mw_23 (List.mem_of_getElem? (i := 0) rfl) mw_22 rfl mw_2 (by decide +kernel) ⟨Nat.le_of_ble_eq_true rfl, Nat.le_of_ble_eq_true rfl⟩ rfl hl.1 rfl (Nat.le_of_ble_eq_true rfl) dX4_init_9 ⟨Nat.le_of_ble_eq_true rfl, Nat.le_of_ble_eq_true rfl⟩) (fun u_3 H locs hr_4 hH => ?_)
  obtain ⟨u_3_1, u_3_2⟩ := u_3
  have hH : fs_H X A s [(h0, .inr (4, [.null, .null, .null, .null])), (q_1, .inr (2, [.ref u_3_1, .ref u_3_2])), (u_3_1, fs_ai X 16 (fun _ => 0)), (u_3_2, fs_ai X 16 (fun _ => 0))] _ _ := hH
  refine fs_putF C in_4 tyX4 tyX4_ok nmX4 hH 0 rfl rfl 0 (by decide) mw_67 rfl rfl rfl rfl (Nat.le_of_ble_eq_true rfl) (ws' := [(h0, .inr (4, [.ref q_1, .null, .null, .null])), (q_1, .inr (2, [.ref u_3_1, .ref u_3_2])), (u_3_1, fs_ai X 16 (fun _ => 0)), (u_3_2, fs_ai X 16 (fun _ => 0))]) rfl dX4_init_12 (fun H locs hH => ?_)
  refine lv_aload_n hx hb dX4_init_15 rfl (lv_at hl 0 rfl) ?_
  refine lv_iconst (v := 4) hx hb dX4_init_16 (by decide) ?_
  refine fs_newq C hH (N := 4) rfl (by decide) (Nat.le_of_ble_eq_true rfl) (Nat.le_of_ble_eq_true rfl) mw_30 dX4_init_17 (fun q_5 H hH => ?_)
  have hH : fs_H X A s [(h0, .inr (4, [.ref q_1, .null, .null, .null])), (q_1, .inr (2, [.ref u_3_1, .ref u_3_2])), (u_3_1, fs_ai X 16 (fun _ => 0)), (u_3_2, fs_ai X 16 (fun _ => 0)), (q_5, fs_aq X 4 (fun _ => none))] _ _ := hH
  refine fs_putF C in_4 tyX4 tyX4_ok nmX4 hH 0 rfl rfl 1 (by decide) mw_68 rfl rfl rfl rfl (Nat.le_of_ble_eq_true rfl) (ws' := [(h0, .inr (4, [.ref q_1, .ref q_5, .null, .null])), (q_1, .inr (2, [.ref u_3_1, .ref u_3_2])), (u_3_1, fs_ai X 16 (fun _ => 0)), (u_3_2, fs_ai X 16 (fun _ => 0)), (q_5, fs_aq X 4 (fun _ => none))]) rfl dX4_init_20 (fun H locs hH => ?_)
  refine lv_iconst (v := 0) hx hb dX4_init_23 (by decide) ?_
  refine lv_istore_n (lv' := [(1, .int 0), (0, .ref h0)]) hx hb dX4_init_24 rfl hl (by decide) rfl (fun ls hl => ?_)
  refine lv_iload_n hx hb dX4_init_25 rfl (lv_at hl 0 rfl) ?_
  refine lv_iconst (v := 4) hx hb dX4_init_26 (by decide) ?_
  refine lv_icmp_ge (tgt := 49) hx hb dX4_init_27 (by decide) (fun c_6 => ?_) (fun c_6 => ?_)
  · exact absurd c_6 (by decide)
  · refine lv_aload_n hx hb dX4_init_30 rfl (lv_at hl 1 rfl) ?_
    refine fs_get C in_4 hH 0 rfl rfl 1 (by decide) mw_68 (v := .ref q_5) rfl dX4_init_31 ?_
    refine lv_iload_n hx hb dX4_init_34 rfl (lv_at hl 0 rfl) ?_
    refine fs_new (ci := 1) C hH in_1 tyX1 tyX1_ok mw_30 mw_31 mw_3 rfl [.null, .int 0, .int 0, .int 0, .int 0] (by decide) (Nat.le_of_ble_eq_true rfl) (Nat.le_of_ble_eq_true rfl) dX4_init_35 (fun q_7 H hH => ?_)
    have hH : fs_H X A s [(h0, .inr (4, [.ref q_1, .ref q_5, .null, .null])), (q_1, .inr (2, [.ref u_3_1, .ref u_3_2])), (u_3_1, fs_ai X 16 (fun _ => 0)), (u_3_2, fs_ai X 16 (fun _ => 0)), (q_5, fs_aq X 4 (fun _ => none)), (q_7, .inr (1, [.null, .int 0, .int 0, .int 0, .int 0]))] _ _ := hH
    refine lv_dup hx hb dX4_init_38 rfl ?_
    refine fs_cv C hH (wr := [(h0, .inr (4, [.ref q_1, .ref q_5, .null, .null])), (q_1, .inr (2, [.ref u_3_1, .ref u_3_2])), (u_3_1, fs_ai X 16 (fun _ => 0)), (u_3_2, fs_ai X 16 (fun _ => 0)), (q_5, fs_aq X 4 (fun _ => none))]) [5] [0, 1, 2, 3, 4] rfl rfl (by decide) (by decide) (fs_rIN (rest := [.ref q_7, .int 0, .ref q_5]) (As := []) (n := 0) C hH (wc := [(q_7, .inr (1, [.null, .int 0, .int 0, .int 0, .int 0]))]) [5] (by decide) rfl (c_X1_init l X _ q_7 ) rfl rfl mw_33 (List.mem_of_getElem? (i := 1) rfl) mw_32 rfl mw_3 (by decide +kernel) ⟨Nat.le_of_ble_eq_true rfl, Nat.le_of_ble_eq_true rfl⟩ rfl hl.1 rfl (Nat.le_of_ble_eq_true rfl) dX4_init_39 ⟨Nat.le_of_ble_eq_true rfl, Nat.le_of_ble_eq_true rfl⟩) (fun u_9 H locs hr_10 hH => ?_)
    have hH : fs_H X A s [(h0, .inr (4, [.ref q_1, .ref q_5, .null, .null])), (q_1, .inr (2, [.ref u_3_1, .ref u_3_2])), (u_3_1, fs_ai X 16 (fun _ => 0)), (u_3_2, fs_ai X 16 (fun _ => 0)), (q_5, fs_aq X 4 (fun _ => none)), (q_7, .inr (1, [.ref u_9, .int 0, .int 0, .int 0, .int 0])), (u_9, fs_ai X 5 (upd (fun _ => 0) 0 16384))] _ _ := hH
    refine fs_aast C hH 4 5 rfl rfl (k := 0) rfl (by decide) (by decide) (ws' := [(h0, .inr (4, [.ref q_1, .ref q_5, .null, .null])), (q_1, .inr (2, [.ref u_3_1, .ref u_3_2])), (u_3_1, fs_ai X 16 (fun _ => 0)), (u_3_2, fs_ai X 16 (fun _ => 0)), (q_5, fs_aq X 4 (va_up (fun _ => none) 0 (some q_7))), (q_7, .inr (1, [.ref u_9, .int 0, .int 0, .int 0, .int 0])), (u_9, fs_ai X 5 (upd (fun _ => 0) 0 16384))]) rfl dX4_init_42 (fun H locs hH => ?_)
    refine lv_iinc (v := 1) (lv' := [(1, .int 1), (0, .ref h0)]) hx hb dX4_init_43 hl (k := 0) rfl (by decide) (by decide) rfl (fun ls hl => ?_)
    refine lv_goto (tgt := 25) hx hb dX4_init_46 (by decide) ?_
    refine lv_iload_n hx hb dX4_init_25 rfl (lv_at hl 0 rfl) ?_
    refine lv_iconst (v := 4) hx hb dX4_init_26 (by decide) ?_
    refine lv_icmp_ge (tgt := 49) hx hb dX4_init_27 (by decide) (fun c_11 => ?_) (fun c_11 => ?_)
    · exact absurd c_11 (by decide)
    · refine lv_aload_n hx hb dX4_init_30 rfl (lv_at hl 1 rfl) ?_
      refine fs_get C in_4 hH 0 rfl rfl 1 (by decide) mw_68 (v := .ref q_5) rfl dX4_init_31 ?_
      refine lv_iload_n hx hb dX4_init_34 rfl (lv_at hl 0 rfl) ?_
      refine fs_new (ci := 1) C hH in_1 tyX1 tyX1_ok mw_30 mw_31 mw_3 rfl [.null, .int 0, .int 0, .int 0, .int 0] (by decide) (Nat.le_of_ble_eq_true rfl) (Nat.le_of_ble_eq_true rfl) dX4_init_35 (fun q_12 H hH => ?_)
      have hH : fs_H X A s [(h0, .inr (4, [.ref q_1, .ref q_5, .null, .null])), (q_1, .inr (2, [.ref u_3_1, .ref u_3_2])), (u_3_1, fs_ai X 16 (fun _ => 0)), (u_3_2, fs_ai X 16 (fun _ => 0)), (q_5, fs_aq X 4 (va_up (fun _ => none) 0 (some q_7))), (q_7, .inr (1, [.ref u_9, .int 0, .int 0, .int 0, .int 0])), (u_9, fs_ai X 5 (upd (fun _ => 0) 0 16384)), (q_12, .inr (1, [.null, .int 0, .int 0, .int 0, .int 0]))] _ _ := hH
      refine lv_dup hx hb dX4_init_38 rfl ?_
      refine fs_cv C hH (wr := [(h0, .inr (4, [.ref q_1, .ref q_5, .null, .null])), (q_1, .inr (2, [.ref u_3_1, .ref u_3_2])), (u_3_1, fs_ai X 16 (fun _ => 0)), (u_3_2, fs_ai X 16 (fun _ => 0)), (q_5, fs_aq X 4 (va_up (fun _ => none) 0 (some q_7))), (q_7, .inr (1, [.ref u_9, .int 0, .int 0, .int 0, .int 0])), (u_9, fs_ai X 5 (upd (fun _ => 0) 0 16384))]) [7] [0, 1, 2, 3, 4, 5, 6] rfl rfl (by decide) (by decide) (fs_rIN (rest := [.ref q_12, .int 1, .ref q_5]) (As := []) (n := 0) C hH (wc := [(q_12, .inr (1, [.null, .int 0, .int 0, .int 0, .int 0]))]) [7] (by decide) rfl (c_X1_init l X _ q_12 ) rfl rfl mw_33 (List.mem_of_getElem? (i := 1) rfl) mw_32 rfl mw_3 (by decide +kernel) ⟨Nat.le_of_ble_eq_true rfl, Nat.le_of_ble_eq_true rfl⟩ rfl hl.1 rfl (Nat.le_of_ble_eq_true rfl) dX4_init_39 ⟨Nat.le_of_ble_eq_true rfl, Nat.le_of_ble_eq_true rfl⟩) (fun u_14 H locs hr_15 hH => ?_)
      have hH : fs_H X A s [(h0, .inr (4, [.ref q_1, .ref q_5, .null, .null])), (q_1, .inr (2, [.ref u_3_1, .ref u_3_2])), (u_3_1, fs_ai X 16 (fun _ => 0)), (u_3_2, fs_ai X 16 (fun _ => 0)), (q_5, fs_aq X 4 (va_up (fun _ => none) 0 (some q_7))), (q_7, .inr (1, [.ref u_9, .int 0, .int 0, .int 0, .int 0])), (u_9, fs_ai X 5 (upd (fun _ => 0) 0 16384)), (q_12, .inr (1, [.ref u_14, .int 0, .int 0, .int 0, .int 0])), (u_14, fs_ai X 5 (upd (fun _ => 0) 0 16384))] _ _ := hH
      refine fs_aast C hH 4 7 rfl rfl (k := 1) rfl (by decide) (by decide) (ws' := [(h0, .inr (4, [.ref q_1, .ref q_5, .null, .null])), (q_1, .inr (2, [.ref u_3_1, .ref u_3_2])), (u_3_1, fs_ai X 16 (fun _ => 0)), (u_3_2, fs_ai X 16 (fun _ => 0)), (q_5, fs_aq X 4 (va_up (va_up (fun _ => none) 0 (some q_7)) 1 (some q_12))), (q_7, .inr (1, [.ref u_9, .int 0, .int 0, .int 0, .int 0])), (u_9, fs_ai X 5 (upd (fun _ => 0) 0 16384)), (q_12, .inr (1, [.ref u_14, .int 0, .int 0, .int 0, .int 0])), (u_14, fs_ai X 5 (upd (fun _ => 0) 0 16384))]) rfl dX4_init_42 (fun H locs hH => ?_)
      refine lv_iinc (v := 2) (lv' := [(1, .int 2), (0, .ref h0)]) hx hb dX4_init_43 hl (k := 0) rfl (by decide) (by decide) rfl (fun ls hl => ?_)
      refine lv_goto (tgt := 25) hx hb dX4_init_46 (by decide) ?_
      refine lv_iload_n hx hb dX4_init_25 rfl (lv_at hl 0 rfl) ?_
      refine lv_iconst (v := 4) hx hb dX4_init_26 (by decide) ?_
      refine lv_icmp_ge (tgt := 49) hx hb dX4_init_27 (by decide) (fun c_16 => ?_) (fun c_16 => ?_)
      · exact absurd c_16 (by decide)
      · refine lv_aload_n hx hb dX4_init_30 rfl (lv_at hl 1 rfl) ?_
        refine fs_get C in_4 hH 0 rfl rfl 1 (by decide) mw_68 (v := .ref q_5) rfl dX4_init_31 ?_
        refine lv_iload_n hx hb dX4_init_34 rfl (lv_at hl 0 rfl) ?_
        refine fs_new (ci := 1) C hH in_1 tyX1 tyX1_ok mw_30 mw_31 mw_3 rfl [.null, .int 0, .int 0, .int 0, .int 0] (by decide) (Nat.le_of_ble_eq_true rfl) (Nat.le_of_ble_eq_true rfl) dX4_init_35 (fun q_17 H hH => ?_)
        have hH : fs_H X A s [(h0, .inr (4, [.ref q_1, .ref q_5, .null, .null])), (q_1, .inr (2, [.ref u_3_1, .ref u_3_2])), (u_3_1, fs_ai X 16 (fun _ => 0)), (u_3_2, fs_ai X 16 (fun _ => 0)), (q_5, fs_aq X 4 (va_up (va_up (fun _ => none) 0 (some q_7)) 1 (some q_12))), (q_7, .inr (1, [.ref u_9, .int 0, .int 0, .int 0, .int 0])), (u_9, fs_ai X 5 (upd (fun _ => 0) 0 16384)), (q_12, .inr (1, [.ref u_14, .int 0, .int 0, .int 0, .int 0])), (u_14, fs_ai X 5 (upd (fun _ => 0) 0 16384)), (q_17, .inr (1, [.null, .int 0, .int 0, .int 0, .int 0]))] _ _ := hH
        refine lv_dup hx hb dX4_init_38 rfl ?_
        refine fs_cv C hH (wr := [(h0, .inr (4, [.ref q_1, .ref q_5, .null, .null])), (q_1, .inr (2, [.ref u_3_1, .ref u_3_2])), (u_3_1, fs_ai X 16 (fun _ => 0)), (u_3_2, fs_ai X 16 (fun _ => 0)), (q_5, fs_aq X 4 (va_up (va_up (fun _ => none) 0 (some q_7)) 1 (some q_12))), (q_7, .inr (1, [.ref u_9, .int 0, .int 0, .int 0, .int 0])), (u_9, fs_ai X 5 (upd (fun _ => 0) 0 16384)), (q_12, .inr (1, [.ref u_14, .int 0, .int 0, .int 0, .int 0])), (u_14, fs_ai X 5 (upd (fun _ => 0) 0 16384))]) [9] [0, 1, 2, 3, 4, 5, 6, 7, 8] rfl rfl (by decide) (by decide) (fs_rIN (rest := [.ref q_17, .int 2, .ref q_5]) (As := []) (n := 0) C hH (wc := [(q_17, .inr (1, [.null, .int 0, .int 0, .int 0, .int 0]))]) [9] (by decide) rfl (c_X1_init l X _ q_17 ) rfl rfl mw_33 (List.mem_of_getElem? (i := 1) rfl) mw_32 rfl mw_3 (by decide +kernel) ⟨Nat.le_of_ble_eq_true rfl, Nat.le_of_ble_eq_true rfl⟩ rfl hl.1 rfl (Nat.le_of_ble_eq_true rfl) dX4_init_39 ⟨Nat.le_of_ble_eq_true rfl, Nat.le_of_ble_eq_true rfl⟩) (fun u_19 H locs hr_20 hH => ?_)
        have hH : fs_H X A s [(h0, .inr (4, [.ref q_1, .ref q_5, .null, .null])), (q_1, .inr (2, [.ref u_3_1, .ref u_3_2])), (u_3_1, fs_ai X 16 (fun _ => 0)), (u_3_2, fs_ai X 16 (fun _ => 0)), (q_5, fs_aq X 4 (va_up (va_up (fun _ => none) 0 (some q_7)) 1 (some q_12))), (q_7, .inr (1, [.ref u_9, .int 0, .int 0, .int 0, .int 0])), (u_9, fs_ai X 5 (upd (fun _ => 0) 0 16384)), (q_12, .inr (1, [.ref u_14, .int 0, .int 0, .int 0, .int 0])), (u_14, fs_ai X 5 (upd (fun _ => 0) 0 16384)), (q_17, .inr (1, [.ref u_19, .int 0, .int 0, .int 0, .int 0])), (u_19, fs_ai X 5 (upd (fun _ => 0) 0 16384))] _ _ := hH
        refine fs_aast C hH 4 9 rfl rfl (k := 2) rfl (by decide) (by decide) (ws' := [(h0, .inr (4, [.ref q_1, .ref q_5, .null, .null])), (q_1, .inr (2, [.ref u_3_1, .ref u_3_2])), (u_3_1, fs_ai X 16 (fun _ => 0)), (u_3_2, fs_ai X 16 (fun _ => 0)), (q_5, fs_aq X 4 (va_up (va_up (va_up (fun _ => none) 0 (some q_7)) 1 (some q_12)) 2 (some q_17))), (q_7, .inr (1, [.ref u_9, .int 0, .int 0, .int 0, .int 0])), (u_9, fs_ai X 5 (upd (fun _ => 0) 0 16384)), (q_12, .inr (1, [.ref u_14, .int 0, .int 0, .int 0, .int 0])), (u_14, fs_ai X 5 (upd (fun _ => 0) 0 16384)), (q_17, .inr (1, [.ref u_19, .int 0, .int 0, .int 0, .int 0])), (u_19, fs_ai X 5 (upd (fun _ => 0) 0 16384))]) rfl dX4_init_42 (fun H locs hH => ?_)
        refine lv_iinc (v := 3) (lv' := [(1, .int 3), (0, .ref h0)]) hx hb dX4_init_43 hl (k := 0) rfl (by decide) (by decide) rfl (fun ls hl => ?_)
        refine lv_goto (tgt := 25) hx hb dX4_init_46 (by decide) ?_
        refine lv_iload_n hx hb dX4_init_25 rfl (lv_at hl 0 rfl) ?_
        refine lv_iconst (v := 4) hx hb dX4_init_26 (by decide) ?_
        refine lv_icmp_ge (tgt := 49) hx hb dX4_init_27 (by decide) (fun c_21 => ?_) (fun c_21 => ?_)
        · exact absurd c_21 (by decide)
        · refine lv_aload_n hx hb dX4_init_30 rfl (lv_at hl 1 rfl) ?_
          refine fs_get C in_4 hH 0 rfl rfl 1 (by decide) mw_68 (v := .ref q_5) rfl dX4_init_31 ?_
          refine lv_iload_n hx hb dX4_init_34 rfl (lv_at hl 0 rfl) ?_
          refine fs_new (ci := 1) C hH in_1 tyX1 tyX1_ok mw_30 mw_31 mw_3 rfl [.null, .int 0, .int 0, .int 0, .int 0] (by decide) (Nat.le_of_ble_eq_true rfl) (Nat.le_of_ble_eq_true rfl) dX4_init_35 (fun q_22 H hH => ?_)
          have hH : fs_H X A s [(h0, .inr (4, [.ref q_1, .ref q_5, .null, .null])), (q_1, .inr (2, [.ref u_3_1, .ref u_3_2])), (u_3_1, fs_ai X 16 (fun _ => 0)), (u_3_2, fs_ai X 16 (fun _ => 0)), (q_5, fs_aq X 4 (va_up (va_up (va_up (fun _ => none) 0 (some q_7)) 1 (some q_12)) 2 (some q_17))), (q_7, .inr (1, [.ref u_9, .int 0, .int 0, .int 0, .int 0])), (u_9, fs_ai X 5 (upd (fun _ => 0) 0 16384)), (q_12, .inr (1, [.ref u_14, .int 0, .int 0, .int 0, .int 0])), (u_14, fs_ai X 5 (upd (fun _ => 0) 0 16384)), (q_17, .inr (1, [.ref u_19, .int 0, .int 0, .int 0, .int 0])), (u_19, fs_ai X 5 (upd (fun _ => 0) 0 16384)), (q_22, .inr (1, [.null, .int 0, .int 0, .int 0, .int 0]))] _ _ := hH
          refine lv_dup hx hb dX4_init_38 rfl ?_
          refine fs_cv C hH (wr := [(h0, .inr (4, [.ref q_1, .ref q_5, .null, .null])), (q_1, .inr (2, [.ref u_3_1, .ref u_3_2])), (u_3_1, fs_ai X 16 (fun _ => 0)), (u_3_2, fs_ai X 16 (fun _ => 0)), (q_5, fs_aq X 4 (va_up (va_up (va_up (fun _ => none) 0 (some q_7)) 1 (some q_12)) 2 (some q_17))), (q_7, .inr (1, [.ref u_9, .int 0, .int 0, .int 0, .int 0])), (u_9, fs_ai X 5 (upd (fun _ => 0) 0 16384)), (q_12, .inr (1, [.ref u_14, .int 0, .int 0, .int 0, .int 0])), (u_14, fs_ai X 5 (upd (fun _ => 0) 0 16384)), (q_17, .inr (1, [.ref u_19, .int 0, .int 0, .int 0, .int 0])), (u_19, fs_ai X 5 (upd (fun _ => 0) 0 16384))]) [11] [0, 1, 2, 3, 4, 5, 6, 7, 8, 9, 10] rfl rfl (by decide) (by decide) (fs_rIN (rest := [.ref q_22, .int 3, .ref q_5]) (As := []) (n := 0) C hH (wc := [(q_22, .inr (1, [.null, .int 0, .int 0, .int 0, .int 0]))]) [11] (by decide) rfl (c_X1_init l X _ q_22 ) rfl rfl mw_33 (List.mem_of_getElem? (i := 1) rfl) mw_32 rfl mw_3 (by decide +kernel) ⟨Nat.le_of_ble_eq_true rfl, Nat.le_of_ble_eq_true rfl⟩ rfl hl.1 rfl (Nat.le_of_ble_eq_true rfl) dX4_init_39 ⟨Nat.le_of_ble_eq_true rfl, Nat.le_of_ble_eq_true rfl⟩) (fun u_24 H locs hr_25 hH => ?_)
          have hH : fs_H X A s [(h0, .inr (4, [.ref q_1, .ref q_5, .null, .null])), (q_1, .inr (2, [.ref u_3_1, .ref u_3_2])), (u_3_1, fs_ai X 16 (fun _ => 0)), (u_3_2, fs_ai X 16 (fun _ => 0)), (q_5, fs_aq X 4 (va_up (va_up (va_up (fun _ => none) 0 (some q_7)) 1 (some q_12)) 2 (some q_17))), (q_7, .inr (1, [.ref u_9, .int 0, .int 0, .int 0, .int 0])), (u_9, fs_ai X 5 (upd (fun _ => 0) 0 16384)), (q_12, .inr (1, [.ref u_14, .int 0, .int 0, .int 0, .int 0])), (u_14, fs_ai X 5 (upd (fun _ => 0) 0 16384)), (q_17, .inr (1, [.ref u_19, .int 0, .int 0, .int 0, .int 0])), (u_19, fs_ai X 5 (upd (fun _ => 0) 0 16384)), (q_22, .inr (1, [.ref u_24, .int 0, .int 0, .int 0, .int 0])), (u_24, fs_ai X 5 (upd (fun _ => 0) 0 16384))] _ _ := hH
          refine fs_aast C hH 4 11 rfl rfl (k := 3) rfl (by decide) (by decide) (ws' := [(h0, .inr (4, [.ref q_1, .ref q_5, .null, .null])), (q_1, .inr (2, [.ref u_3_1, .ref u_3_2])), (u_3_1, fs_ai X 16 (fun _ => 0)), (u_3_2, fs_ai X 16 (fun _ => 0)), (q_5, fs_aq X 4 (va_up (va_up (va_up (va_up (fun _ => none) 0 (some q_7)) 1 (some q_12)) 2 (some q_17)) 3 (some q_22))), (q_7, .inr (1, [.ref u_9, .int 0, .int 0, .int 0, .int 0])), (u_9, fs_ai X 5 (upd (fun _ => 0) 0 16384)), (q_12, .inr (1, [.ref u_14, .int 0, .int 0, .int 0, .int 0])), (u_14, fs_ai X 5 (upd (fun _ => 0) 0 16384)), (q_17, .inr (1, [.ref u_19, .int 0, .int 0, .int 0, .int 0])), (u_19, fs_ai X 5 (upd (fun _ => 0) 0 16384)), (q_22, .inr (1, [.ref u_24, .int 0, .int 0, .int 0, .int 0])), (u_24, fs_ai X 5 (upd (fun _ => 0) 0 16384))]) rfl dX4_init_42 (fun H locs hH => ?_)
          refine lv_iinc (v := 4) (lv' := [(1, .int 4), (0, .ref h0)]) hx hb dX4_init_43 hl (k := 0) rfl (by decide) (by decide) rfl (fun ls hl => ?_)
          refine lv_goto (tgt := 25) hx hb dX4_init_46 (by decide) ?_
          refine lv_iload_n hx hb dX4_init_25 rfl (lv_at hl 0 rfl) ?_
          refine lv_iconst (v := 4) hx hb dX4_init_26 (by decide) ?_
          refine lv_icmp_ge (tgt := 49) hx hb dX4_init_27 (by decide) (fun c_26 => ?_) (fun c_26 => ?_)
          · refine lv_aload_n hx hb dX4_init_49 rfl (lv_at hl 1 rfl) ?_
            refine fs_new (ci := 0) C hH in_0 tyX0 tyX0_ok mw_45 mw_46 mw_4 rfl [.null, .null, .int 0] (by decide) (Nat.le_of_ble_eq_true rfl) (Nat.le_of_ble_eq_true rfl) dX4_init_50 (fun q_27 H hH => ?_)
            have hH : fs_H X A s [(h0, .inr (4, [.ref q_1, .ref q_5, .null, .null])), (q_1, .inr (2, [.ref u_3_1, .ref u_3_2])), (u_3_1, fs_ai X 16 (fun _ => 0)), (u_3_2, fs_ai X 16 (fun _ => 0)), (q_5, fs_aq X 4 (va_up (va_up (va_up (va_up (fun _ => none) 0 (some q_7)) 1 (some q_12)) 2 (some q_17)) 3 (some q_22))), (q_7, .inr (1, [.ref u_9, .int 0, .int 0, .int 0, .int 0])), (u_9, fs_ai X 5 (upd (fun _ => 0) 0 16384)), (q_12, .inr (1, [.ref u_14, .int 0, .int 0, .int 0, .int 0])), (u_14, fs_ai X 5 (upd (fun _ => 0) 0 16384)), (q_17, .inr (1, [.ref u_19, .int 0, .int 0, .int 0, .int 0])), (u_19, fs_ai X 5 (upd (fun _ => 0) 0 16384)), (q_22, .inr (1, [.ref u_24, .int 0, .int 0, .int 0, .int 0])), (u_24, fs_ai X 5 (upd (fun _ => 0) 0 16384)), (q_27, .inr (0, [.null, .null, .int 0]))] _ _ := hH
            refine lv_dup hx hb dX4_init_53 rfl ?_
            refine fs_cv C hH (wr := [(h0, .inr (4, [.ref q_1, .ref q_5, .null, .null])), (q_1, .inr (2, [.ref u_3_1, .ref u_3_2])), (u_3_1, fs_ai X 16 (fun _ => 0)), (u_3_2, fs_ai X 16 (fun _ => 0)), (q_5, fs_aq X 4 (va_up (va_up (va_up (va_up (fun _ => none) 0 (some q_7)) 1 (some q_12)) 2 (some q_17)) 3 (some q_22))), (q_7, .inr (1, [.ref u_9, .int 0, .int 0, .int 0, .int 0])), (u_9, fs_ai X 5 (upd (fun _ => 0) 0 16384)), (q_12, .inr (1, [.ref u_14, .int 0, .int 0, .int 0, .int 0])), (u_14, fs_ai X 5 (upd (fun _ => 0) 0 16384)), (q_17, .inr (1, [.ref u_19, .int 0, .int 0, .int 0, .int 0])), (u_19, fs_ai X 5 (upd (fun _ => 0) 0 16384)), (q_22, .inr (1, [.ref u_24, .int 0, .int 0, .int 0, .int 0])), (u_24, fs_ai X 5 (upd (fun _ => 0) 0 16384))]) [13] [0, 1, 2, 3, 4, 5, 6, 7, 8, 9, 10, 11, 12] rfl rfl (by decide) (by decide) (fs_rIN (rest := [.ref q_27, .ref h0]) (As := []) (n := 0) C hH (wc := [(q_27, .inr (0, [.null, .null, .int 0]))]) [13] (by decide) rfl (c_X0_init l X _ q_27 ) rfl rfl mw_48 (List.mem_of_getElem? (i := 2) rfl) mw_47 rfl mw_4 (by decide +kernel) ⟨Nat.le_of_ble_eq_true rfl, Nat.le_of_ble_eq_true rfl⟩ rfl hl.1 rfl (Nat.le_of_ble_eq_true rfl) dX4_init_54 ⟨Nat.le_of_ble_eq_true rfl, Nat.le_of_ble_eq_true rfl⟩) (fun u_29 H locs hr_30 hH => ?_)
            obtain ⟨u_29_1, u_29_2⟩ := u_29
            have hH : fs_H X A s [(h0, .inr (4, [.ref q_1, .ref q_5, .null, .null])), (q_1, .inr (2, [.ref u_3_1, .ref u_3_2])), (u_3_1, fs_ai X 16 (fun _ => 0)), (u_3_2, fs_ai X 16 (fun _ => 0)), (q_5, fs_aq X 4 (va_up (va_up (va_up (va_up (fun _ => none) 0 (some q_7)) 1 (some q_12)) 2 (some q_17)) 3 (some q_22))), (q_7, .inr (1, [.ref u_9, .int 0, .int 0, .int 0, .int 0])), (u_9, fs_ai X 5 (upd (fun _ => 0) 0 16384)), (q_12, .inr (1, [.ref u_14, .int 0, .int 0, .int 0, .int 0])), (u_14, fs_ai X 5 (upd (fun _ => 0) 0 16384)), (q_17, .inr (1, [.ref u_19, .int 0, .int 0, .int 0, .int 0])), (u_19, fs_ai X 5 (upd (fun _ => 0) 0 16384)), (q_22, .inr (1, [.ref u_24, .int 0, .int 0, .int 0, .int 0])), (u_24, fs_ai X 5 (upd (fun _ => 0) 0 16384)), (q_27, .inr (0, [.ref u_29_1, .ref u_29_2, .int 0])), (u_29_1, fs_ai X 32 (fun _ => 0)), (u_29_2, fs_ai X 32 (fun _ => 0))] _ _ := hH
            refine fs_putF C in_4 tyX4 tyX4_ok nmX4 hH 0 rfl rfl 2 (by decide) mw_69 rfl rfl rfl rfl (Nat.le_of_ble_eq_true rfl) (ws' := [(h0, .inr (4, [.ref q_1, .ref q_5, .ref q_27, .null])), (q_1, .inr (2, [.ref u_3_1, .ref u_3_2])), (u_3_1, fs_ai X 16 (fun _ => 0)), (u_3_2, fs_ai X 16 (fun _ => 0)), (q_5, fs_aq X 4 (va_up (va_up (va_up (va_up (fun _ => none) 0 (some q_7)) 1 (some q_12)) 2 (some q_17)) 3 (some q_22))), (q_7, .inr (1, [.ref u_9, .int 0, .int 0, .int 0, .int 0])), (u_9, fs_ai X 5 (upd (fun _ => 0) 0 16384)), (q_12, .inr (1, [.ref u_14, .int 0, .int 0, .int 0, .int 0])), (u_14, fs_ai X 5 (upd (fun _ => 0) 0 16384)), (q_17, .inr (1, [.ref u_19, .int 0, .int 0, .int 0, .int 0])), (u_19, fs_ai X 5 (upd (fun _ => 0) 0 16384)), (q_22, .inr (1, [.ref u_24, .int 0, .int 0, .int 0, .int 0])), (u_24, fs_ai X 5 (upd (fun _ => 0) 0 16384)), (q_27, .inr (0, [.ref u_29_1, .ref u_29_2, .int 0])), (u_29_1, fs_ai X 32 (fun _ => 0)), (u_29_2, fs_ai X 32 (fun _ => 0))]) rfl dX4_init_57 (fun H locs hH => ?_)
            refine lv_aload_n hx hb dX4_init_60 rfl (lv_at hl 1 rfl) ?_
            refine fs_new (ci := 3) C hH in_3 tyX3 tyX3_ok mw_56 mw_57 mw_5 rfl [.long 0, .long 0, .long 0] (by decide) (Nat.le_of_ble_eq_true rfl) (Nat.le_of_ble_eq_true rfl) dX4_init_61 (fun q_31 H hH => ?_)
            have hH : fs_H X A s [(h0, .inr (4, [.ref q_1, .ref q_5, .ref q_27, .null])), (q_1, .inr (2, [.ref u_3_1, .ref u_3_2])), (u_3_1, fs_ai X 16 (fun _ => 0)), (u_3_2, fs_ai X 16 (fun _ => 0)), (q_5, fs_aq X 4 (va_up (va_up (va_up (va_up (fun _ => none) 0 (some q_7)) 1 (some q_12)) 2 (some q_17)) 3 (some q_22))), (q_7, .inr (1, [.ref u_9, .int 0, .int 0, .int 0, .int 0])), (u_9, fs_ai X 5 (upd (fun _ => 0) 0 16384)), (q_12, .inr (1, [.ref u_14, .int 0, .int 0, .int 0, .int 0])), (u_14, fs_ai X 5 (upd (fun _ => 0) 0 16384)), (q_17, .inr (1, [.ref u_19, .int 0, .int 0, .int 0, .int 0])), (u_19, fs_ai X 5 (upd (fun _ => 0) 0 16384)), (q_22, .inr (1, [.ref u_24, .int 0, .int 0, .int 0, .int 0])), (u_24, fs_ai X 5 (upd (fun _ => 0) 0 16384)), (q_27, .inr (0, [.ref u_29_1, .ref u_29_2, .int 0])), (u_29_1, fs_ai X 32 (fun _ => 0)), (u_29_2, fs_ai X 32 (fun _ => 0)), (q_31, .inr (3, [.long 0, .long 0, .long 0]))] _ _ := hH
            refine lv_dup hx hb dX4_init_64 rfl ?_
            refine fs_cv C hH (wr := [(h0, .inr (4, [.ref q_1, .ref q_5, .ref q_27, .null])), (q_1, .inr (2, [.ref u_3_1, .ref u_3_2])), (u_3_1, fs_ai X 16 (fun _ => 0)), (u_3_2, fs_ai X 16 (fun _ => 0)), (q_5, fs_aq X 4 (va_up (va_up (va_up (va_up (fun _ => none) 0 (some q_7)) 1 (some q_12)) 2 (some q_17)) 3 (some q_22))), (q_7, .inr (1, [.ref u_9, .int 0, .int 0, .int 0, .int 0])), (u_9, fs_ai X 5 (upd (fun _ => 0) 0 16384)), (q_12, .inr (1, [.ref u_14, .int 0, .int 0, .int 0, .int 0])), (u_14, fs_ai X 5 (upd (fun _ => 0) 0 16384)), (q_17, .inr (1, [.ref u_19, .int 0, .int 0, .int 0, .int 0])), (u_19, fs_ai X 5 (upd (fun _ => 0) 0 16384)), (q_22, .inr (1, [.ref u_24, .int 0, .int 0, .int 0, .int 0])), (u_24, fs_ai X 5 (upd (fun _ => 0) 0 16384)), (q_27, .inr (0, [.ref u_29_1, .ref u_29_2, .int 0])), (u_29_1, fs_ai X 32 (fun _ => 0)), (u_29_2, fs_ai X 32 (fun _ => 0))]) [16] [0, 1, 2, 3, 4, 5, 6, 7, 8, 9, 10, 11, 12, 13, 14, 15] rfl rfl (by decide) (by decide) (fs_rIN (rest := [.ref q_31, .ref h0]) (As := []) (n := 0) C hH (wc := [(q_31, .inr (3, [.long 0, .long 0, .long 0]))]) [16] (by decide) rfl (c_X3_init l X _ q_31 (0, 0, 0) ) rfl rfl mw_59 (List.mem_of_getElem? (i := 3) rfl) mw_58 rfl mw_5 (by decide +kernel) ⟨Nat.le_of_ble_eq_true rfl, Nat.le_of_ble_eq_true rfl⟩ rfl hl.1 rfl (Nat.le_of_ble_eq_true rfl) dX4_init_65 ⟨Nat.le_of_ble_eq_true rfl, Nat.le_of_ble_eq_true rfl⟩) (fun u_33 H locs hr_34 hH => ?_)
            have hH : fs_H X A s [(h0, .inr (4, [.ref q_1, .ref q_5, .ref q_27, .null])), (q_1, .inr (2, [.ref u_3_1, .ref u_3_2])), (u_3_1, fs_ai X 16 (fun _ => 0)), (u_3_2, fs_ai X 16 (fun _ => 0)), (q_5, fs_aq X 4 (va_up (va_up (va_up (va_up (fun _ => none) 0 (some q_7)) 1 (some q_12)) 2 (some q_17)) 3 (some q_22))), (q_7, .inr (1, [.ref u_9, .int 0, .int 0, .int 0, .int 0])), (u_9, fs_ai X 5 (upd (fun _ => 0) 0 16384)), (q_12, .inr (1, [.ref u_14, .int 0, .int 0, .int 0, .int 0])), (u_14, fs_ai X 5 (upd (fun _ => 0) 0 16384)), (q_17, .inr (1, [.ref u_19, .int 0, .int 0, .int 0, .int 0])), (u_19, fs_ai X 5 (upd (fun _ => 0) 0 16384)), (q_22, .inr (1, [.ref u_24, .int 0, .int 0, .int 0, .int 0])), (u_24, fs_ai X 5 (upd (fun _ => 0) 0 16384)), (q_27, .inr (0, [.ref u_29_1, .ref u_29_2, .int 0])), (u_29_1, fs_ai X 32 (fun _ => 0)), (u_29_2, fs_ai X 32 (fun _ => 0)), (q_31, .inr (3, [.long 0, .long 0, .long 0]))] _ _ := hH
            refine fs_putF C in_4 tyX4 tyX4_ok nmX4 hH 0 rfl rfl 3 (by decide) mw_70 rfl rfl rfl rfl (Nat.le_of_ble_eq_true rfl) (ws' := [(h0, .inr (4, [.ref q_1, .ref q_5, .ref q_27, .ref q_31])), (q_1, .inr (2, [.ref u_3_1, .ref u_3_2])), (u_3_1, fs_ai X 16 (fun _ => 0)), (u_3_2, fs_ai X 16 (fun _ => 0)), (q_5, fs_aq X 4 (va_up (va_up (va_up (va_up (fun _ => none) 0 (some q_7)) 1 (some q_12)) 2 (some q_17)) 3 (some q_22))), (q_7, .inr (1, [.ref u_9, .int 0, .int 0, .int 0, .int 0])), (u_9, fs_ai X 5 (upd (fun _ => 0) 0 16384)), (q_12, .inr (1, [.ref u_14, .int 0, .int 0, .int 0, .int 0])), (u_14, fs_ai X 5 (upd (fun _ => 0) 0 16384)), (q_17, .inr (1, [.ref u_19, .int 0, .int 0, .int 0, .int 0])), (u_19, fs_ai X 5 (upd (fun _ => 0) 0 16384)), (q_22, .inr (1, [.ref u_24, .int 0, .int 0, .int 0, .int 0])), (u_24, fs_ai X 5 (upd (fun _ => 0) 0 16384)), (q_27, .inr (0, [.ref u_29_1, .ref u_29_2, .int 0])), (u_29_1, fs_ai X 32 (fun _ => 0)), (u_29_2, fs_ai X 32 (fun _ => 0)), (q_31, .inr (3, [.long 0, .long 0, .long 0]))]) rfl dX4_init_68 (fun H locs hH => ?_)
            exact fs_vret C (hH.sub [0, 1, 2, 3, 4, 5, 6, 7, 8, 9, 10, 11, 12, 13, 14, 15, 16] (by decide) rfl) (q_1, u_3_1, u_3_2, q_5, q_7, u_9, q_12, u_14, q_17, u_19, q_22, u_24, q_27, u_29_1, u_29_2, q_31) rfl trivial dX4_init_71
          · exact absurd c_26 (by decide)
