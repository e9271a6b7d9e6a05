set_option maxHeartbeats 4000000 in
set_option maxRecDepth 100000 in
theorem c_X5_reckoned (l : Launch) (X : fs_X) (sz : Nat) (way : Int32) (a : Int64) (b : Int32) (bits : Int32) (m0 : Int64) (hbits : ¬ bits = 0) : fs_M l X yX5_reckoned cX5_reckoned 7 (some .int) ({ frames := 1, cells := 0, slots := 0, locals := 23 }) [.int way, .long a, .int b, .int bits, .long m0] [] sz (fs_Qi X (fun r (_ : Unit) => r = fs_sat (fs_reck way a (Int32.toInt64 b) bits) m0) (fun _ => [])) 0 0 := by
  refine fs_ofW (by decide) (Nat.le_of_ble_eq_true rfl) ?_
  intro p e s m args below meth c A ls C hH hl
  have C : fs_At X A p s m args meth c cX5_reckoned 7 (some .int) RX5 "reckoned" := C
  have hx := C.1
  have hb := C.2.1
  have hown := C.2.2.2.2.1
  have hts := C.2.2.2.2.2.1
  have hl : lv_has ls 7 [(0, .int way), (1, .long a), (3, .int b), (4, .int bits), (5, .long m0)] := hl
  have hH : fs_H X A s [] s.heap [] := hH
  refine lv_iload_n hx hb dX5_reckoned_0 rfl (lv_at hl 0 rfl) ?_
  by_cases sw0 : way = 0
  · refine lv_tableIn (off := 35) (tgt := 36) hx hb dX5_reckoned_1 (by rw [sw0]; decide) (by rw [sw0]; decide) (by rw [sw0]; decide) (by decide) ?_
    refine lv_lload_n hx hb dX5_reckoned_36 rfl (lv_at hl 1 rfl) ?_
    refine lv_iload_n hx hb dX5_reckoned_37 rfl (lv_at hl 2 rfl) ?_
    refine lv_i2l hx hb dX5_reckoned_38 rfl ?_
    refine lv_ladd hx hb dX5_reckoned_39 ?_
    refine lv_lload hx hb dX5_reckoned_40 (lv_at hl 4 rfl) ?_
    refine fs_ci C hH (wr := []) [] [] rfl rfl (by decide) (by decide) (fs_rS (rest := []) (As := [.long (a + (Int32.toInt64 b)), .long m0]) (n := 2) C hH (wc := []) [] (by decide) rfl (c_X5_within l X _ (a + (Int32.toInt64 b)) m0 ) rfl rfl mw_348 mw_346 mw_347 mw_6 (by decide +kernel) ⟨Nat.le_of_ble_eq_true rfl, Nat.le_of_ble_eq_true rfl⟩ rfl hl.1 rfl (Nat.le_of_ble_eq_true rfl) dX5_reckoned_42 ⟨Nat.le_of_ble_eq_true rfl, Nat.le_of_ble_eq_true rfl⟩) (fun r_1 u_2 H locs hr_3 hH => ?_)
    subst hr_3
    have hH : fs_H X A s [] _ _ := hH
    exact fs_iret C hH () rfl (by simp [fs_reck, fs_mv, fs_sz, hbits, sw0]) dX5_reckoned_45
  by_cases sw1 : way = 1
  · refine lv_tableIn (off := 45) (tgt := 46) hx hb dX5_reckoned_1 (by rw [sw1]; decide) (by rw [sw1]; decide) (by rw [sw1]; decide) (by decide) ?_
    refine lv_lload_n hx hb dX5_reckoned_46 rfl (lv_at hl 1 rfl) ?_
    refine lv_iload_n hx hb dX5_reckoned_47 rfl (lv_at hl 2 rfl) ?_
    refine lv_i2l hx hb dX5_reckoned_48 rfl ?_
    refine lv_lsub hx hb dX5_reckoned_49 ?_
    refine lv_lload hx hb dX5_reckoned_50 (lv_at hl 4 rfl) ?_
    refine fs_ci C hH (wr := []) [] [] rfl rfl (by decide) (by decide) (fs_rS (rest := []) (As := [.long (a - (Int32.toInt64 b)), .long m0]) (n := 2) C hH (wc := []) [] (by decide) rfl (c_X5_within l X _ (a - (Int32.toInt64 b)) m0 ) rfl rfl mw_348 mw_346 mw_347 mw_6 (by decide +kernel) ⟨Nat.le_of_ble_eq_true rfl, Nat.le_of_ble_eq_true rfl⟩ rfl hl.1 rfl (Nat.le_of_ble_eq_true rfl) dX5_reckoned_52 ⟨Nat.le_of_ble_eq_true rfl, Nat.le_of_ble_eq_true rfl⟩) (fun r_4 u_5 H locs hr_6 hH => ?_)
    subst hr_6
    have hH : fs_H X A s [] _ _ := hH
    exact fs_iret C hH () rfl (by simp [fs_reck, fs_mv, fs_sz, hbits, sw0, sw1]) dX5_reckoned_55
  by_cases sw2 : way = 2
  · refine lv_tableIn (off := 55) (tgt := 56) hx hb dX5_reckoned_1 (by rw [sw2]; decide) (by rw [sw2]; decide) (by rw [sw2]; decide) (by decide) ?_
    refine lv_lload_n hx hb dX5_reckoned_56 rfl (lv_at hl 1 rfl) ?_
    refine lv_iload_n hx hb dX5_reckoned_57 rfl (lv_at hl 2 rfl) ?_
    refine lv_i2l hx hb dX5_reckoned_58 rfl ?_
    refine lv_lmul hx hb dX5_reckoned_59 ?_
    refine lv_iload hx hb dX5_reckoned_60 (lv_at hl 3 rfl) ?_
    refine fs_cl C hH (wr := []) [] [] rfl rfl (by decide) (by decide) (fs_rS (rest := []) (As := [.long (a * (Int32.toInt64 b)), .int bits]) (n := 2) C hH (wc := []) [] (by decide) rfl (c_X5_rounded l X _ (a * (Int32.toInt64 b)) bits ) rfl rfl mw_351 mw_349 mw_350 mw_6 (by decide +kernel) ⟨Nat.le_of_ble_eq_true rfl, Nat.le_of_ble_eq_true rfl⟩ rfl hl.1 rfl (Nat.le_of_ble_eq_true rfl) dX5_reckoned_62 ⟨Nat.le_of_ble_eq_true rfl, Nat.le_of_ble_eq_true rfl⟩) (fun r_7 u_8 H locs hr_9 hH => ?_)
    subst hr_9
    have hH : fs_H X A s [] _ _ := hH
    refine lv_lload hx hb dX5_reckoned_65 (lv_at hl 4 rfl) ?_
    refine fs_ci C hH (wr := []) [] [] rfl rfl (by decide) (by decide) (fs_rS (rest := []) (As := [.long (if bits = 0 then (a * (Int32.toInt64 b)) else fs_rd (a * (Int32.toInt64 b)) bits), .long m0]) (n := 2) C hH (wc := []) [] (by decide) rfl (c_X5_within l X _ (if bits = 0 then (a * (Int32.toInt64 b)) else fs_rd (a * (Int32.toInt64 b)) bits) m0 ) rfl rfl mw_348 mw_346 mw_347 mw_6 (by decide +kernel) ⟨Nat.le_of_ble_eq_true rfl, Nat.le_of_ble_eq_true rfl⟩ rfl hl.1 rfl (Nat.le_of_ble_eq_true rfl) dX5_reckoned_67 ⟨Nat.le_of_ble_eq_true rfl, Nat.le_of_ble_eq_true rfl⟩) (fun r_10 u_11 H locs hr_12 hH => ?_)
    subst hr_12
    have hH : fs_H X A s [] _ _ := hH
    exact fs_iret C hH () rfl (by simp [fs_reck, fs_mv, fs_sz, hbits, sw0, sw1, sw2]) dX5_reckoned_70
  by_cases sw3 : way = 3
  · refine lv_tableIn (off := 70) (tgt := 71) hx hb dX5_reckoned_1 (by rw [sw3]; decide) (by rw [sw3]; decide) (by rw [sw3]; decide) (by decide) ?_
    refine lv_iload_n hx hb dX5_reckoned_71 rfl (lv_at hl 2 rfl) ?_
    refine lv_if_lt (tgt := 81) hx hb dX5_reckoned_72 (by decide) (fun c_13 => ?_) (fun c_13 => ?_)
    · refine lv_lload_n hx hb dX5_reckoned_81 rfl (lv_at hl 1 rfl) ?_
      refine lv_iload_n hx hb dX5_reckoned_82 rfl (lv_at hl 2 rfl) ?_
      refine lv_ineg hx hb dX5_reckoned_83 ?_
      refine fs_cl C hH (wr := []) [] [] rfl rfl (by decide) (by decide) (fs_rS (rest := []) (As := [.long a, .int (-b)]) (n := 2) C hH (wc := []) [] (by decide) rfl (c_X5_rounded l X _ a (-b) ) rfl rfl mw_351 mw_349 mw_350 mw_6 (by decide +kernel) ⟨Nat.le_of_ble_eq_true rfl, Nat.le_of_ble_eq_true rfl⟩ rfl hl.1 rfl (Nat.le_of_ble_eq_true rfl) dX5_reckoned_84 ⟨Nat.le_of_ble_eq_true rfl, Nat.le_of_ble_eq_true rfl⟩) (fun r_14 u_15 H locs hr_16 hH => ?_)
      subst hr_16
      have hH : fs_H X A s [] _ _ := hH
      refine lv_lload hx hb dX5_reckoned_87 (lv_at hl 4 rfl) ?_
      refine fs_ci C hH (wr := []) [] [] rfl rfl (by decide) (by decide) (fs_rS (rest := []) (As := [.long (if (-b) = 0 then a else fs_rd a (-b)), .long m0]) (n := 2) C hH (wc := []) [] (by decide) rfl (c_X5_within l X _ (if (-b) = 0 then a else fs_rd a (-b)) m0 ) rfl rfl mw_348 mw_346 mw_347 mw_6 (by decide +kernel) ⟨Nat.le_of_ble_eq_true rfl, Nat.le_of_ble_eq_true rfl⟩ rfl hl.1 rfl (Nat.le_of_ble_eq_true rfl) dX5_reckoned_89 ⟨Nat.le_of_ble_eq_true rfl, Nat.le_of_ble_eq_true rfl⟩) (fun r_17 u_18 H locs hr_19 hH => ?_)
      subst hr_19
      have hH : fs_H X A s [] _ _ := hH
      exact fs_iret C hH () rfl (by simp [fs_reck, fs_mv, fs_sz, hbits, sw0, sw1, sw2, sw3, c_13, fs_negz c_13]) dX5_reckoned_92
    · refine lv_lload_n hx hb dX5_reckoned_75 rfl (lv_at hl 1 rfl) ?_
      refine lv_iload_n hx hb dX5_reckoned_76 rfl (lv_at hl 2 rfl) ?_
      refine lv_lshl hx hb dX5_reckoned_77 rfl ?_
      refine lv_goto (tgt := 87) hx hb dX5_reckoned_78 (by decide) ?_
      refine lv_lload hx hb dX5_reckoned_87 (lv_at hl 4 rfl) ?_
      refine fs_ci C hH (wr := []) [] [] rfl rfl (by decide) (by decide) (fs_rS (rest := []) (As := [.long (a <<< (Int32.toInt64 b &&& 63)), .long m0]) (n := 2) C hH (wc := []) [] (by decide) rfl (c_X5_within l X _ (a <<< (Int32.toInt64 b &&& 63)) m0 ) rfl rfl mw_348 mw_346 mw_347 mw_6 (by decide +kernel) ⟨Nat.le_of_ble_eq_true rfl, Nat.le_of_ble_eq_true rfl⟩ rfl hl.1 rfl (Nat.le_of_ble_eq_true rfl) dX5_reckoned_89 ⟨Nat.le_of_ble_eq_true rfl, Nat.le_of_ble_eq_true rfl⟩) (fun r_20 u_21 H locs hr_22 hH => ?_)
      subst hr_22
      have hH : fs_H X A s [] _ _ := hH
      exact fs_iret C hH () rfl (by simp [fs_reck, fs_mv, fs_sz, hbits, sw0, sw1, sw2, sw3, c_13]) dX5_reckoned_92
  by_cases sw4 : way = 4
  · refine lv_tableIn (off := 92) (tgt := 93) hx hb dX5_reckoned_1 (by rw [sw4]; decide) (by rw [sw4]; decide) (by rw [sw4]; decide) (by decide) ?_
    refine lv_lload_n hx hb dX5_reckoned_93 rfl (lv_at hl 1 rfl) ?_
    refine lv_lneg hx hb dX5_reckoned_94 ?_
    refine lv_lload hx hb dX5_reckoned_95 (lv_at hl 4 rfl) ?_
    refine fs_ci C hH (wr := []) [] [] rfl rfl (by decide) (by decide) (fs_rS (rest := []) (As := [.long (-a), .long m0]) (n := 2) C hH (wc := []) [] (by decide) rfl (c_X5_within l X _ (-a) m0 ) rfl rfl mw_348 mw_346 mw_347 mw_6 (by decide +kernel) ⟨Nat.le_of_ble_eq_true rfl, Nat.le_of_ble_eq_true rfl⟩ rfl hl.1 rfl (Nat.le_of_ble_eq_true rfl) dX5_reckoned_97 ⟨Nat.le_of_ble_eq_true rfl, Nat.le_of_ble_eq_true rfl⟩) (fun r_23 u_24 H locs hr_25 hH => ?_)
    subst hr_25
    have hH : fs_H X A s [] _ _ := hH
    exact fs_iret C hH () rfl (by simp [fs_reck, fs_mv, fs_sz, hbits, sw0, sw1, sw2, sw3, sw4]) dX5_reckoned_100
  refine lv_tableOut (tgt := 101) hx hb dX5_reckoned_1 (fs_sw5 sw0 sw1 sw2 sw3 sw4) (by decide) ?_
  refine lv_lload_n hx hb dX5_reckoned_101 rfl (lv_at hl 1 rfl) ?_
  refine lv_lconst (v := 0) hx hb dX5_reckoned_102 (by decide) ?_
  refine fs_lge (tgt := 112) hx hb dX5_reckoned_103 dX5_reckoned_104 (by decide) (fun c_26 => ?_) (fun c_26 => ?_)
  · refine lv_lload_n hx hb dX5_reckoned_112 rfl (lv_at hl 1 rfl) ?_
    refine lv_lload hx hb dX5_reckoned_113 (lv_at hl 4 rfl) ?_
    refine fs_ci C hH (wr := []) [] [] rfl rfl (by decide) (by decide) (fs_rS (rest := []) (As := [.long a, .long m0]) (n := 2) C hH (wc := []) [] (by decide) rfl (c_X5_within l X _ a m0 ) rfl rfl mw_348 mw_346 mw_347 mw_6 (by decide +kernel) ⟨Nat.le_of_ble_eq_true rfl, Nat.le_of_ble_eq_true rfl⟩ rfl hl.1 rfl (Nat.le_of_ble_eq_true rfl) dX5_reckoned_115 ⟨Nat.le_of_ble_eq_true rfl, Nat.le_of_ble_eq_true rfl⟩) (fun r_27 u_28 H locs hr_29 hH => ?_)
    subst hr_29
    have hH : fs_H X A s [] _ _ := hH
    exact fs_iret C hH () rfl (by simp [fs_reck, fs_mv, fs_sz, hbits, sw0, sw1, sw2, sw3, sw4, c_26]) dX5_reckoned_118
  · refine lv_lload_n hx hb dX5_reckoned_107 rfl (lv_at hl 1 rfl) ?_
    refine lv_lneg hx hb dX5_reckoned_108 ?_
    refine lv_goto (tgt := 113) hx hb dX5_reckoned_109 (by decide) ?_
    refine lv_lload hx hb dX5_reckoned_113 (lv_at hl 4 rfl) ?_
    refine fs_ci C hH (wr := []) [] [] rfl rfl (by decide) (by decide) (fs_rS (rest := []) (As := [.long (-a), .long m0]) (n := 2) C hH (wc := []) [] (by decide) rfl (c_X5_within l X _ (-a) m0 ) rfl rfl mw_348 mw_346 mw_347 mw_6 (by decide +kernel) ⟨Nat.le_of_ble_eq_true rfl, Nat.le_of_ble_eq_true rfl⟩ rfl hl.1 rfl (Nat.le_of_ble_eq_true rfl) dX5_reckoned_115 ⟨Nat.le_of_ble_eq_true rfl, Nat.le_of_ble_eq_true rfl⟩) (fun r_30 u_31 H locs hr_32 hH => ?_)
    subst hr_32
    have hH : fs_H X A s [] _ _ := hH
    exact fs_iret C hH () rfl (by simp [fs_reck, fs_mv, fs_sz, hbits, sw0, sw1, sw2, sw3, sw4, c_26]) dX5_reckoned_118
set_option maxHeartbeats 4000000 in
set_option maxRecDepth 100000 in
theorem c_X5_eighth (l : Launch) (X : fs_X) (sz : Nat) (k : Nat) (hk : k < 9) : fs_M l X yX5_eighth cX5_eighth 1 (some .long) ({ frames := 0, cells := 0, slots := 0, locals := 0 }) [.int (nI k)] [] sz (fs_Ql X (fun r (_ : Unit) => r = Int32.toInt64 (fs_C k)) (fun _ => [])) 0 0 := by
  refine fs_ofW (by decide) (Nat.le_of_ble_eq_true rfl) ?_
  intro p e s m args below meth c A ls C hH hl
  have C : fs_At X A p s m args meth c cX5_eighth 1 (some .long) RX5 "eighth" := C
  have hx := C.1
  have hb := C.2.1
  have hown := C.2.2.2.2.1
  have hts := C.2.2.2.2.2.1
  have hl : lv_has ls 1 [(0, .int (nI k))] := hl
  have hH : fs_H X A s [] s.heap [] := hH
  refine lv_iload_n hx hb dX5_eighth_0 rfl (lv_at hl 0 rfl) ?_
  match k, hk, hl with
  | 0, _, hl =>
    refine lv_tableIn (off := 47) (tgt := 48) hx hb dX5_eighth_1 (by decide) (by decide) (by decide) (by decide) ?_
    refine lv_lconst (v := 0) hx hb dX5_eighth_48 (by decide) ?_
    exact fs_lret C hH () rfl (by decide) dX5_eighth_49
  | 1, _, hl =>
    refine lv_tableIn (off := 49) (tgt := 50) hx hb dX5_eighth_1 (by decide) (by decide) (by decide) (by decide) ?_
    refine lv_ldc2 (v := 418953276) hx hb hown (hts _ mw_409) dX5_eighth_50 ?_
    exact fs_lret C hH () rfl (by decide) dX5_eighth_53
  | 2, _, hl =>
    refine lv_tableIn (off := 53) (tgt := 54) hx hb dX5_eighth_1 (by decide) (by decide) (by decide) (by decide) ?_
    refine lv_ldc2 (v := 821806413) hx hb hown (hts _ mw_410) dX5_eighth_54 ?_
    exact fs_lret C hH () rfl (by decide) dX5_eighth_57
  | 3, _, hl =>
    refine lv_tableIn (off := 57) (tgt := 58) hx hb dX5_eighth_1 (by decide) (by decide) (by decide) (by decide) ?_
    refine lv_ldc2 (v := 1193077991) hx hb hown (hts _ mw_411) dX5_eighth_58 ?_
    exact fs_lret C hH () rfl (by decide) dX5_eighth_61
  | 4, _, hl =>
    refine lv_tableIn (off := 61) (tgt := 62) hx hb dX5_eighth_1 (by decide) (by decide) (by decide) (by decide) ?_
    refine lv_ldc2 (v := 1518500250) hx hb hown (hts _ mw_412) dX5_eighth_62 ?_
    exact fs_lret C hH () rfl (by decide) dX5_eighth_65
  | 5, _, hl =>
    refine lv_tableIn (off := 65) (tgt := 66) hx hb dX5_eighth_1 (by decide) (by decide) (by decide) (by decide) ?_
    refine lv_ldc2 (v := 1785567396) hx hb hown (hts _ mw_413) dX5_eighth_66 ?_
    exact fs_lret C hH () rfl (by decide) dX5_eighth_69
  | 6, _, hl =>
    refine lv_tableIn (off := 69) (tgt := 70) hx hb dX5_eighth_1 (by decide) (by decide) (by decide) (by decide) ?_
    refine lv_ldc2 (v := 1984016189) hx hb hown (hts _ mw_414) dX5_eighth_70 ?_
    exact fs_lret C hH () rfl (by decide) dX5_eighth_73
  | 7, _, hl =>
    refine lv_tableIn (off := 73) (tgt := 74) hx hb dX5_eighth_1 (by decide) (by decide) (by decide) (by decide) ?_
    refine lv_ldc2 (v := 2106220352) hx hb hown (hts _ mw_415) dX5_eighth_74 ?_
    exact fs_lret C hH () rfl (by decide) dX5_eighth_77
  | 8, _, hl =>
    refine lv_tableOut (tgt := 78) hx hb dX5_eighth_1 (by decide) (by decide) ?_
    refine lv_ldc2 (v := 2147483647) hx hb hown (hts _ mw_342) dX5_eighth_78 ?_
    exact fs_lret C hH () rfl (by decide) dX5_eighth_81
  | k9 + 9, h9, _ => exact absurd h9 (by omega)
set_option maxHeartbeats 4000000 in
set_option maxRecDepth 100000 in
theorem c_X5_smaller (l : Launch) (X : fs_X) (sz : Nat) (j : Nat) (hj : j < 15) : fs_M l X yX5_smaller cX5_smaller 1 (some .long) ({ frames := 0, cells := 0, slots := 0, locals := 0 }) [.int (nI (15 + j))] [] sz (fs_Ql X (fun r (_ : Unit) => r = Int32.toInt64 (fs_arc (15 + j))) (fun _ => [])) 0 0 := by
  refine fs_ofW (by decide) (Nat.le_of_ble_eq_true rfl) ?_
  intro p e s m args below meth c A ls C hH hl
  have C : fs_At X A p s m args meth c cX5_smaller 1 (some .long) RX5 "smaller" := C
  have hx := C.1
  have hb := C.2.1
  have hown := C.2.2.2.2.1
  have hts := C.2.2.2.2.2.1
  have hl : lv_has ls 1 [(0, .int (nI (15 + j)))] := hl
  have hH : fs_H X A s [] s.heap [] := hH
  refine lv_iload_n hx hb dX5_smaller_0 rfl (lv_at hl 0 rfl) ?_
  match j, hj, hl with
  | 0, _, hl =>
    refine lv_tableIn (off := 71) (tgt := 72) hx hb dX5_smaller_1 (by decide) (by decide) (by decide) (by decide) ?_
    refine lv_ldc2 (v := 20861) hx hb hown (hts _ mw_449) dX5_smaller_72 ?_
    exact fs_lret C hH () rfl (by decide) dX5_smaller_75
  | 1, _, hl =>
    refine lv_tableIn (off := 75) (tgt := 76) hx hb dX5_smaller_1 (by decide) (by decide) (by decide) (by decide) ?_
    refine lv_ldc2 (v := 10430) hx hb hown (hts _ mw_450) dX5_smaller_76 ?_
    exact fs_lret C hH () rfl (by decide) dX5_smaller_79
  | 2, _, hl =>
    refine lv_tableIn (off := 79) (tgt := 80) hx hb dX5_smaller_1 (by decide) (by decide) (by decide) (by decide) ?_
    refine lv_ldc2 (v := 5215) hx hb hown (hts _ mw_451) dX5_smaller_80 ?_
    exact fs_lret C hH () rfl (by decide) dX5_smaller_83
  | 3, _, hl =>
    refine lv_tableIn (off := 83) (tgt := 84) hx hb dX5_smaller_1 (by decide) (by decide) (by decide) (by decide) ?_
    refine lv_ldc2 (v := 2608) hx hb hown (hts _ mw_452) dX5_smaller_84 ?_
    exact fs_lret C hH () rfl (by decide) dX5_smaller_87
  | 4, _, hl =>
    refine lv_tableIn (off := 87) (tgt := 88) hx hb dX5_smaller_1 (by decide) (by decide) (by decide) (by decide) ?_
    refine lv_ldc2 (v := 1304) hx hb hown (hts _ mw_453) dX5_smaller_88 ?_
    exact fs_lret C hH () rfl (by decide) dX5_smaller_91
  | 5, _, hl =>
    refine lv_tableIn (off := 91) (tgt := 92) hx hb dX5_smaller_1 (by decide) (by decide) (by decide) (by decide) ?_
    refine lv_ldc2 (v := 652) hx hb hown (hts _ mw_454) dX5_smaller_92 ?_
    exact fs_lret C hH () rfl (by decide) dX5_smaller_95
  | 6, _, hl =>
    refine lv_tableIn (off := 95) (tgt := 96) hx hb dX5_smaller_1 (by decide) (by decide) (by decide) (by decide) ?_
    refine lv_ldc2 (v := 326) hx hb hown (hts _ mw_455) dX5_smaller_96 ?_
    exact fs_lret C hH () rfl (by decide) dX5_smaller_99
  | 7, _, hl =>
    refine lv_tableIn (off := 99) (tgt := 100) hx hb dX5_smaller_1 (by decide) (by decide) (by decide) (by decide) ?_
    refine lv_ldc2 (v := 163) hx hb hown (hts _ mw_456) dX5_smaller_100 ?_
    exact fs_lret C hH () rfl (by decide) dX5_smaller_103
  | 8, _, hl =>
    refine lv_tableIn (off := 103) (tgt := 104) hx hb dX5_smaller_1 (by decide) (by decide) (by decide) (by decide) ?_
    refine lv_ldc2 (v := 81) hx hb hown (hts _ mw_457) dX5_smaller_104 ?_
    exact fs_lret C hH () rfl (by decide) dX5_smaller_107
  | 9, _, hl =>
    refine lv_tableIn (off := 107) (tgt := 108) hx hb dX5_smaller_1 (by decide) (by decide) (by decide) (by decide) ?_
    refine lv_ldc2 (v := 41) hx hb hown (hts _ mw_458) dX5_smaller_108 ?_
    exact fs_lret C hH () rfl (by decide) dX5_smaller_111
  | 10, _, hl =>
    refine lv_tableIn (off := 111) (tgt := 112) hx hb dX5_smaller_1 (by decide) (by decide) (by decide) (by decide) ?_
    refine lv_ldc2 (v := 20) hx hb hown (hts _ mw_459) dX5_smaller_112 ?_
    exact fs_lret C hH () rfl (by decide) dX5_smaller_115
  | 11, _, hl =>
    refine lv_tableIn (off := 115) (tgt := 116) hx hb dX5_smaller_1 (by decide) (by decide) (by decide) (by decide) ?_
    refine lv_ldc2 (v := 10) hx hb hown (hts _ mw_460) dX5_smaller_116 ?_
    exact fs_lret C hH () rfl (by decide) dX5_smaller_119
  | 12, _, hl =>
    refine lv_tableIn (off := 119) (tgt := 120) hx hb dX5_smaller_1 (by decide) (by decide) (by decide) (by decide) ?_
    refine lv_ldc2 (v := 5) hx hb hown (hts _ mw_461) dX5_smaller_120 ?_
    exact fs_lret C hH () rfl (by decide) dX5_smaller_123
  | 13, _, hl =>
    refine lv_tableIn (off := 123) (tgt := 124) hx hb dX5_smaller_1 (by decide) (by decide) (by decide) (by decide) ?_
    refine lv_ldc2 (v := 3) hx hb hown (hts _ mw_462) dX5_smaller_124 ?_
    exact fs_lret C hH () rfl (by decide) dX5_smaller_127
  | 14, _, hl =>
    refine lv_tableOut (tgt := 128) hx hb dX5_smaller_1 (by decide) (by decide) ?_
    refine lv_lconst (v := 1) hx hb dX5_smaller_128 (by decide) ?_
    exact fs_lret C hH () rfl (by decide) dX5_smaller_129
  | k9 + 15, h9, _ => exact absurd h9 (by omega)
set_option maxHeartbeats 4000000 in
set_option maxRecDepth 100000 in
theorem c_X5_arc (l : Launch) (X : fs_X) (sz : Nat) (k : Nat) (hk : k < 30) : fs_M l X yX5_arc cX5_arc 1 (some .long) ({ frames := 1, cells := 0, slots := 0, locals := 20 }) [.int (nI k)] [] sz (fs_Ql X (fun r (_ : Unit) => r = Int32.toInt64 (fs_arc k)) (fun _ => [])) 0 0 := by
  refine fs_ofW (by decide) (Nat.le_of_ble_eq_true rfl) ?_
  intro p e s m args below meth c A ls C hH hl
  have C : fs_At X A p s m args meth c cX5_arc 1 (some .long) RX5 "arc" := C
  have hx := C.1
  have hb := C.2.1
  have hown := C.2.2.2.2.1
  have hts := C.2.2.2.2.2.1
  have hl : lv_has ls 1 [(0, .int (nI k))] := hl
  have hH : fs_H X A s [] s.heap [] := hH
  refine lv_iload_n hx hb dX5_arc_0 rfl (lv_at hl 0 rfl) ?_
  match k, hk, hl with
  | 0, _, hl =>
    refine lv_tableIn (off := 75) (tgt := 76) hx hb dX5_arc_1 (by decide) (by decide) (by decide) (by decide) ?_
    refine lv_ldc2 (v := 536870912) hx hb hown (hts _ mw_401) dX5_arc_76 ?_
    exact fs_lret C hH () rfl (by decide) dX5_arc_79
  | 1, _, hl =>
    refine lv_tableIn (off := 79) (tgt := 80) hx hb dX5_arc_1 (by decide) (by decide) (by decide) (by decide) ?_
    refine lv_ldc2 (v := 316933406) hx hb hown (hts _ mw_432) dX5_arc_80 ?_
    exact fs_lret C hH () rfl (by decide) dX5_arc_83
  | 2, _, hl =>
    refine lv_tableIn (off := 83) (tgt := 84) hx hb dX5_arc_1 (by decide) (by decide) (by decide) (by decide) ?_
    refine lv_ldc2 (v := 167458907) hx hb hown (hts _ mw_433) dX5_arc_84 ?_
    exact fs_lret C hH () rfl (by decide) dX5_arc_87
  | 3, _, hl =>
    refine lv_tableIn (off := 87) (tgt := 88) hx hb dX5_arc_1 (by decide) (by decide) (by decide) (by decide) ?_
    refine lv_ldc2 (v := 85004756) hx hb hown (hts _ mw_434) dX5_arc_88 ?_
    exact fs_lret C hH () rfl (by decide) dX5_arc_91
  | 4, _, hl =>
    refine lv_tableIn (off := 91) (tgt := 92) hx hb dX5_arc_1 (by decide) (by decide) (by decide) (by decide) ?_
    refine lv_ldc2 (v := 42667331) hx hb hown (hts _ mw_435) dX5_arc_92 ?_
    exact fs_lret C hH () rfl (by decide) dX5_arc_95
  | 5, _, hl =>
    refine lv_tableIn (off := 95) (tgt := 96) hx hb dX5_arc_1 (by decide) (by decide) (by decide) (by decide) ?_
    refine lv_ldc2 (v := 21354465) hx hb hown (hts _ mw_436) dX5_arc_96 ?_
    exact fs_lret C hH () rfl (by decide) dX5_arc_99
  | 6, _, hl =>
    refine lv_tableIn (off := 99) (tgt := 100) hx hb dX5_arc_1 (by decide) (by decide) (by decide) (by decide) ?_
    refine lv_ldc2 (v := 10679838) hx hb hown (hts _ mw_437) dX5_arc_100 ?_
    exact fs_lret C hH () rfl (by decide) dX5_arc_103
  | 7, _, hl =>
    refine lv_tableIn (off := 103) (tgt := 104) hx hb dX5_arc_1 (by decide) (by decide) (by decide) (by decide) ?_
    refine lv_ldc2 (v := 5340245) hx hb hown (hts _ mw_438) dX5_arc_104 ?_
    exact fs_lret C hH () rfl (by decide) dX5_arc_107
  | 8, _, hl =>
    refine lv_tableIn (off := 107) (tgt := 108) hx hb dX5_arc_1 (by decide) (by decide) (by decide) (by decide) ?_
    refine lv_ldc2 (v := 2670163) hx hb hown (hts _ mw_439) dX5_arc_108 ?_
    exact fs_lret C hH () rfl (by decide) dX5_arc_111
  | 9, _, hl =>
    refine lv_tableIn (off := 111) (tgt := 112) hx hb dX5_arc_1 (by decide) (by decide) (by decide) (by decide) ?_
    refine lv_ldc2 (v := 1335087) hx hb hown (hts _ mw_440) dX5_arc_112 ?_
    exact fs_lret C hH () rfl (by decide) dX5_arc_115
  | 10, _, hl =>
    refine lv_tableIn (off := 115) (tgt := 116) hx hb dX5_arc_1 (by decide) (by decide) (by decide) (by decide) ?_
    refine lv_ldc2 (v := 667544) hx hb hown (hts _ mw_441) dX5_arc_116 ?_
    exact fs_lret C hH () rfl (by decide) dX5_arc_119
  | 11, _, hl =>
    refine lv_tableIn (off := 119) (tgt := 120) hx hb dX5_arc_1 (by decide) (by decide) (by decide) (by decide) ?_
    refine lv_ldc2 (v := 333772) hx hb hown (hts _ mw_442) dX5_arc_120 ?_
    exact fs_lret C hH () rfl (by decide) dX5_arc_123
  | 12, _, hl =>
    refine lv_tableIn (off := 123) (tgt := 124) hx hb dX5_arc_1 (by decide) (by decide) (by decide) (by decide) ?_
    refine lv_ldc2 (v := 166886) hx hb hown (hts _ mw_443) dX5_arc_124 ?_
    exact fs_lret C hH () rfl (by decide) dX5_arc_127
  | 13, _, hl =>
    refine lv_tableIn (off := 127) (tgt := 128) hx hb dX5_arc_1 (by decide) (by decide) (by decide) (by decide) ?_
    refine lv_ldc2 (v := 83443) hx hb hown (hts _ mw_444) dX5_arc_128 ?_
    exact fs_lret C hH () rfl (by decide) dX5_arc_131
  | 14, _, hl =>
    refine lv_tableIn (off := 131) (tgt := 132) hx hb dX5_arc_1 (by decide) (by decide) (by decide) (by decide) ?_
    refine lv_ldc2 (v := 41722) hx hb hown (hts _ mw_445) dX5_arc_132 ?_
    exact fs_lret C hH () rfl (by decide) dX5_arc_135
  | 15, _, hl =>
    refine lv_tableOut (tgt := 136) hx hb dX5_arc_1 (by decide) (by decide) ?_
    refine lv_iload_n hx hb dX5_arc_136 rfl (lv_at hl 0 rfl) ?_
    refine fs_cl C hH (wr := []) [] [] rfl rfl (by decide) (by decide) (fs_rS (rest := []) (As := [.int (nI 15)]) (n := 1) C hH (wc := []) [] (by decide) rfl (c_X5_smaller l X _ 0 (by omega)) rfl rfl mw_448 mw_446 mw_447 mw_6 (by decide +kernel) ⟨Nat.le_of_ble_eq_true rfl, Nat.le_of_ble_eq_true rfl⟩ rfl hl.1 rfl (Nat.le_of_ble_eq_true rfl) dX5_arc_137 ⟨Nat.le_of_ble_eq_true rfl, Nat.le_of_ble_eq_true rfl⟩) (fun r_1 u_2 H locs hr_3 hH => ?_)
    subst hr_3
    have hH : fs_H X A s [] _ _ := hH
    exact fs_lret C hH () rfl rfl dX5_arc_140
  | 16, _, hl =>
    refine lv_tableOut (tgt := 136) hx hb dX5_arc_1 (by decide) (by decide) ?_
    refine lv_iload_n hx hb dX5_arc_136 rfl (lv_at hl 0 rfl) ?_
    refine fs_cl C hH (wr := []) [] [] rfl rfl (by decide) (by decide) (fs_rS (rest := []) (As := [.int (nI 16)]) (n := 1) C hH (wc := []) [] (by decide) rfl (c_X5_smaller l X _ 1 (by omega)) rfl rfl mw_448 mw_446 mw_447 mw_6 (by decide +kernel) ⟨Nat.le_of_ble_eq_true rfl, Nat.le_of_ble_eq_true rfl⟩ rfl hl.1 rfl (Nat.le_of_ble_eq_true rfl) dX5_arc_137 ⟨Nat.le_of_ble_eq_true rfl, Nat.le_of_ble_eq_true rfl⟩) (fun r_4 u_5 H locs hr_6 hH => ?_)
    subst hr_6
    have hH : fs_H X A s [] _ _ := hH
    exact fs_lret C hH () rfl rfl dX5_arc_140
  | 17, _, hl =>
    refine lv_tableOut (tgt := 136) hx hb dX5_arc_1 (by decide) (by decide) ?_
    refine lv_iload_n hx hb dX5_arc_136 rfl (lv_at hl 0 rfl) ?_
    refine fs_cl C hH (wr := []) [] [] rfl rfl (by decide) (by decide) (fs_rS (rest := []) (As := [.int (nI 17)]) (n := 1) C hH (wc := []) [] (by decide) rfl (c_X5_smaller l X _ 2 (by omega)) rfl rfl mw_448 mw_446 mw_447 mw_6 (by decide +kernel) ⟨Nat.le_of_ble_eq_true rfl, Nat.le_of_ble_eq_true rfl⟩ rfl hl.1 rfl (Nat.le_of_ble_eq_true rfl) dX5_arc_137 ⟨Nat.le_of_ble_eq_true rfl, Nat.le_of_ble_eq_true rfl⟩) (fun r_7 u_8 H locs hr_9 hH => ?_)
    subst hr_9
    have hH : fs_H X A s [] _ _ := hH
    exact fs_lret C hH () rfl rfl dX5_arc_140
  | 18, _, hl =>
    refine lv_tableOut (tgt := 136) hx hb dX5_arc_1 (by decide) (by decide) ?_
    refine lv_iload_n hx hb dX5_arc_136 rfl (lv_at hl 0 rfl) ?_
    refine fs_cl C hH (wr := []) [] [] rfl rfl (by decide) (by decide) (fs_rS (rest := []) (As := [.int (nI 18)]) (n := 1) C hH (wc := []) [] (by decide) rfl (c_X5_smaller l X _ 3 (by omega)) rfl rfl mw_448 mw_446 mw_447 mw_6 (by decide +kernel) ⟨Nat.le_of_ble_eq_true rfl, Nat.le_of_ble_eq_true rfl⟩ rfl hl.1 rfl (Nat.le_of_ble_eq_true rfl) dX5_arc_137 ⟨Nat.le_of_ble_eq_true rfl, Nat.le_of_ble_eq_true rfl⟩) (fun r_10 u_11 H locs hr_12 hH => ?_)
    subst hr_12
    have hH : fs_H X A s [] _ _ := hH
    exact fs_lret C hH () rfl rfl dX5_arc_140
  | 19, _, hl =>
    refine lv_tableOut (tgt := 136) hx hb dX5_arc_1 (by decide) (by decide) ?_
    refine lv_iload_n hx hb dX5_arc_136 rfl (lv_at hl 0 rfl) ?_
    refine fs_cl C hH (wr := []) [] [] rfl rfl (by decide) (by decide) (fs_rS (rest := []) (As := [.int (nI 19)]) (n := 1) C hH (wc := []) [] (by decide) rfl (c_X5_smaller l X _ 4 (by omega)) rfl rfl mw_448 mw_446 mw_447 mw_6 (by decide +kernel) ⟨Nat.le_of_ble_eq_true rfl, Nat.le_of_ble_eq_true rfl⟩ rfl hl.1 rfl (Nat.le_of_ble_eq_true rfl) dX5_arc_137 ⟨Nat.le_of_ble_eq_true rfl, Nat.le_of_ble_eq_true rfl⟩) (fun r_13 u_14 H locs hr_15 hH => ?_)
    subst hr_15
    have hH : fs_H X A s [] _ _ := hH
    exact fs_lret C hH () rfl rfl dX5_arc_140
  | 20, _, hl =>
    refine lv_tableOut (tgt := 136) hx hb dX5_arc_1 (by decide) (by decide) ?_
    refine lv_iload_n hx hb dX5_arc_136 rfl (lv_at hl 0 rfl) ?_
    refine fs_cl C hH (wr := []) [] [] rfl rfl (by decide) (by decide) (fs_rS (rest := []) (As := [.int (nI 20)]) (n := 1) C hH (wc := []) [] (by decide) rfl (c_X5_smaller l X _ 5 (by omega)) rfl rfl mw_448 mw_446 mw_447 mw_6 (by decide +kernel) ⟨Nat.le_of_ble_eq_true rfl, Nat.le_of_ble_eq_true rfl⟩ rfl hl.1 rfl (Nat.le_of_ble_eq_true rfl) dX5_arc_137 ⟨Nat.le_of_ble_eq_true rfl, Nat.le_of_ble_eq_true rfl⟩) (fun r_16 u_17 H locs hr_18 hH => ?_)
    subst hr_18
    have hH : fs_H X A s [] _ _ := hH
    exact fs_lret C hH () rfl rfl dX5_arc_140
  | 21, _, hl =>
    refine lv_tableOut (tgt := 136) hx hb dX5_arc_1 (by decide) (by decide) ?_
    refine lv_iload_n hx hb dX5_arc_136 rfl (lv_at hl 0 rfl) ?_
    refine fs_cl C hH (wr := []) [] [] rfl rfl (by decide) (by decide) (fs_rS (rest := []) (As := [.int (nI 21)]) (n := 1) C hH (wc := []) [] (by decide) rfl (c_X5_smaller l X _ 6 (by omega)) rfl rfl mw_448 mw_446 mw_447 mw_6 (by decide +kernel) ⟨Nat.le_of_ble_eq_true rfl, Nat.le_of_ble_eq_true rfl⟩ rfl hl.1 rfl (Nat.le_of_ble_eq_true rfl) dX5_arc_137 ⟨Nat.le_of_ble_eq_true rfl, Nat.le_of_ble_eq_true rfl⟩) (fun r_19 u_20 H locs hr_21 hH => ?_)
    subst hr_21
    have hH : fs_H X A s [] _ _ := hH
    exact fs_lret C hH () rfl rfl dX5_arc_140
  | 22, _, hl =>
    refine lv_tableOut (tgt := 136) hx hb dX5_arc_1 (by decide) (by decide) ?_
    refine lv_iload_n hx hb dX5_arc_136 rfl (lv_at hl 0 rfl) ?_
    refine fs_cl C hH (wr := []) [] [] rfl rfl (by decide) (by decide) (fs_rS (rest := []) (As := [.int (nI 22)]) (n := 1) C hH (wc := []) [] (by decide) rfl (c_X5_smaller l X _ 7 (by omega)) rfl rfl mw_448 mw_446 mw_447 mw_6 (by decide +kernel) ⟨Nat.le_of_ble_eq_true rfl, Nat.le_of_ble_eq_true rfl⟩ rfl hl.1 rfl (Nat.le_of_ble_eq_true rfl) dX5_arc_137 ⟨Nat.le_of_ble_eq_true rfl, Nat.le_of_ble_eq_true rfl⟩) (fun r_22 u_23 H locs hr_24 hH => ?_)
    subst hr_24
    have hH : fs_H X A s [] _ _ := hH
    exact fs_lret C hH () rfl rfl dX5_arc_140
  | 23, _, hl =>
    refine lv_tableOut (tgt := 136) hx hb dX5_arc_1 (by decide) (by decide) ?_
    refine lv_iload_n hx hb dX5_arc_136 rfl (lv_at hl 0 rfl) ?_
    refine fs_cl C hH (wr := []) [] [] rfl rfl (by decide) (by decide) (fs_rS (rest := []) (As := [.int (nI 23)]) (n := 1) C hH (wc := []) [] (by decide) rfl (c_X5_smaller l X _ 8 (by omega)) rfl rfl mw_448 mw_446 mw_447 mw_6 (by decide +kernel) ⟨Nat.le_of_ble_eq_true rfl, Nat.le_of_ble_eq_true rfl⟩ rfl hl.1 rfl (Nat.le_of_ble_eq_true rfl) dX5_arc_137 ⟨Nat.le_of_ble_eq_true rfl, Nat.le_of_ble_eq_true rfl⟩) (fun r_25 u_26 H locs hr_27 hH => ?_)
    subst hr_27
    have hH : fs_H X A s [] _ _ := hH
    exact fs_lret C hH () rfl rfl dX5_arc_140
  | 24, _, hl =>
    refine lv_tableOut (tgt := 136) hx hb dX5_arc_1 (by decide) (by decide) ?_
    refine lv_iload_n hx hb dX5_arc_136 rfl (lv_at hl 0 rfl) ?_
    refine fs_cl C hH (wr := []) [] [] rfl rfl (by decide) (by decide) (fs_rS (rest := []) (As := [.int (nI 24)]) (n := 1) C hH (wc := []) [] (by decide) rfl (c_X5_smaller l X _ 9 (by omega)) rfl rfl mw_448 mw_446 mw_447 mw_6 (by decide +kernel) ⟨Nat.le_of_ble_eq_true rfl, Nat.le_of_ble_eq_true rfl⟩ rfl hl.1 rfl (Nat.le_of_ble_eq_true rfl) dX5_arc_137 ⟨Nat.le_of_ble_eq_true rfl, Nat.le_of_ble_eq_true rfl⟩) (fun r_28 u_29 H locs hr_30 hH => ?_)
    subst hr_30
    have hH : fs_H X A s [] _ _ := hH
    exact fs_lret C hH () rfl rfl dX5_arc_140
  | 25, _, hl =>
    refine lv_tableOut (tgt := 136) hx hb dX5_arc_1 (by decide) (by decide) ?_
    refine lv_iload_n hx hb dX5_arc_136 rfl (lv_at hl 0 rfl) ?_
    refine fs_cl C hH (wr := []) [] [] rfl rfl (by decide) (by decide) (fs_rS (rest := []) (As := [.int (nI 25)]) (n := 1) C hH (wc := []) [] (by decide) rfl (c_X5_smaller l X _ 10 (by omega)) rfl rfl mw_448 mw_446 mw_447 mw_6 (by decide +kernel) ⟨Nat.le_of_ble_eq_true rfl, Nat.le_of_ble_eq_true rfl⟩ rfl hl.1 rfl (Nat.le_of_ble_eq_true rfl) dX5_arc_137 ⟨Nat.le_of_ble_eq_true rfl, Nat.le_of_ble_eq_true rfl⟩) (fun r_31 u_32 H locs hr_33 hH => ?_)
    subst hr_33
    have hH : fs_H X A s [] _ _ := hH
    exact fs_lret C hH () rfl rfl dX5_arc_140
  | 26, _, hl =>
    refine lv_tableOut (tgt := 136) hx hb dX5_arc_1 (by decide) (by decide) ?_
    refine lv_iload_n hx hb dX5_arc_136 rfl (lv_at hl 0 rfl) ?_
    refine fs_cl C hH (wr := []) [] [] rfl rfl (by decide) (by decide) (fs_rS (rest := []) (As := [.int (nI 26)]) (n := 1) C hH (wc := []) [] (by decide) rfl (c_X5_smaller l X _ 11 (by omega)) rfl rfl mw_448 mw_446 mw_447 mw_6 (by decide +kernel) ⟨Nat.le_of_ble_eq_true rfl, Nat.le_of_ble_eq_true rfl⟩ rfl hl.1 rfl (Nat.le_of_ble_eq_true rfl) dX5_arc_137 ⟨Nat.le_of_ble_eq_true rfl, Nat.le_of_ble_eq_true rfl⟩) (fun r_34 u_35 H locs hr_36 hH => ?_)
    subst hr_36
    have hH : fs_H X A s [] _ _ := hH
    exact fs_lret C hH () rfl rfl dX5_arc_140
  | 27, _, hl =>
    refine lv_tableOut (tgt := 136) hx hb dX5_arc_1 (by decide) (by decide) ?_
    refine lv_iload_n hx hb dX5_arc_136 rfl (lv_at hl 0 rfl) ?_
    refine fs_cl C hH (wr := []) [] [] rfl rfl (by decide) (by decide) (fs_rS (rest := []) (As := [.int (nI 27)]) (n := 1) C hH (wc := []) [] (by decide) rfl (c_X5_smaller l X _ 12 (by omega)) rfl rfl mw_448 mw_446 mw_447 mw_6 (by decide +kernel) ⟨Nat.le_of_ble_eq_true rfl, Nat.le_of_ble_eq_true rfl⟩ rfl hl.1 rfl (Nat.le_of_ble_eq_true rfl) dX5_arc_137 ⟨Nat.le_of_ble_eq_true rfl, Nat.le_of_ble_eq_true rfl⟩) (fun r_37 u_38 H locs hr_39 hH => ?_)
    subst hr_39
    have hH : fs_H X A s [] _ _ := hH
    exact fs_lret C hH () rfl rfl dX5_arc_140
  | 28, _, hl =>
    refine lv_tableOut (tgt := 136) hx hb dX5_arc_1 (by decide) (by decide) ?_
    refine lv_iload_n hx hb dX5_arc_136 rfl (lv_at hl 0 rfl) ?_
    refine fs_cl C hH (wr := []) [] [] rfl rfl (by decide) (by decide) (fs_rS (rest := []) (As := [.int (nI 28)]) (n := 1) C hH (wc := []) [] (by decide) rfl (c_X5_smaller l X _ 13 (by omega)) rfl rfl mw_448 mw_446 mw_447 mw_6 (by decide +kernel) ⟨Nat.le_of_ble_eq_true rfl, Nat.le_of_ble_eq_true rfl⟩ rfl hl.1 rfl (Nat.le_of_ble_eq_true rfl) dX5_arc_137 ⟨Nat.le_of_ble_eq_true rfl, Nat.le_of_ble_eq_true rfl⟩) (fun r_40 u_41 H locs hr_42 hH => ?_)
    subst hr_42
    have hH : fs_H X A s [] _ _ := hH
    exact fs_lret C hH () rfl rfl dX5_arc_140
  | 29, _, hl =>
    refine lv_tableOut (tgt := 136) hx hb dX5_arc_1 (by decide) (by decide) ?_
    refine lv_iload_n hx hb dX5_arc_136 rfl (lv_at hl 0 rfl) ?_
    refine fs_cl C hH (wr := []) [] [] rfl rfl (by decide) (by decide) (fs_rS (rest := []) (As := [.int (nI 29)]) (n := 1) C hH (wc := []) [] (by decide) rfl (c_X5_smaller l X _ 14 (by omega)) rfl rfl mw_448 mw_446 mw_447 mw_6 (by decide +kernel) ⟨Nat.le_of_ble_eq_true rfl, Nat.le_of_ble_eq_true rfl⟩ rfl hl.1 rfl (Nat.le_of_ble_eq_true rfl) dX5_arc_137 ⟨Nat.le_of_ble_eq_true rfl, Nat.le_of_ble_eq_true rfl⟩) (fun r_43 u_44 H locs hr_45 hH => ?_)
    subst hr_45
    have hH : fs_H X A s [] _ _ := hH
    exact fs_lret C hH () rfl rfl dX5_arc_140
  | k9 + 30, h9, _ => exact absurd h9 (by omega)
set_option maxHeartbeats 4000000 in
set_option maxRecDepth 100000 in
theorem c_X5_mirrored (l : Launch) (X : fs_X) (sz : Nat) (v : Int32) (mm : Nat) (hmm : mm < 32) : fs_M l X yX5_mirrored cX5_mirrored 4 (some .int) ({ frames := 0, cells := 0, slots := 0, locals := 0 }) [.int v, .int (nI mm)] [] sz (fs_Qi X (fun r (_ : Unit) => r = fs_rev v mm) (fun _ => [])) 0 0 := by
  refine fs_ofW (by decide) (Nat.le_of_ble_eq_true rfl) ?_
  intro p e s m args below meth c A ls C hH hl
  have C : fs_At X A p s m args meth c cX5_mirrored 4 (some .int) RX5 "mirrored" := C
  have hx := C.1
  have hb := C.2.1
  have hown := C.2.2.2.2.1
  have hts := C.2.2.2.2.2.1
  have hl : lv_has ls 4 [(0, .int v), (1, .int (nI mm))] := hl
  have K_4 : ∀ (n : Nat) (k : Nat), (k ≤ mm) → (mm < k + n) → ∀ (H : Heap) (locs : List Loc), fs_H X A s [] H locs → ∀ (ls : Array Slot), lv_has ls 4 [(0, .int v), (1, .int (nI mm)), (2, .int (fs_rev v k)), (3, .int (nI k))] → W p l e ({ frames := 0, cells := 0, slots := 0, locals := 0 }) s m args below meth c H locs 0 0 (MQ below (fs_Qi X (fun r (_ : Unit) => r = fs_rev v mm) (fun _ => []) A) args s 0 0 A) (F0 m 4 ls []) := by
    intro n
    induction n with
    | zero => intro k hk hfu; exact absurd hfu (by omega)
    | succ n ih_4 =>
      intro k hk hfu H locs hH ls hl
      refine lv_iload_n hx hb dX5_mirrored_4 rfl (lv_at hl 3 rfl) ?_
      refine lv_iload_n hx hb dX5_mirrored_5 rfl (lv_at hl 1 rfl) ?_
      refine lv_icmp_ge (tgt := 25) hx hb dX5_mirrored_6 (by decide) (fun c_1 => ?_) (fun c_1 => ?_)
      · have hge := fs_geT (a := k) (b := mm) (by omega) (by omega) c_1
        refine lv_iload_n hx hb dX5_mirrored_25 rfl (lv_at hl 2 rfl) ?_
        exact fs_iret C hH () rfl (by rw [show mm = k from by omega]) dX5_mirrored_26
      · have hlt := fs_geF (a := k) (b := mm) (by omega) (by omega) c_1
        refine lv_iconst (v := 2) hx hb dX5_mirrored_9 (by decide) ?_
        refine lv_iload_n hx hb dX5_mirrored_10 rfl (lv_at hl 2 rfl) ?_
        refine lv_imul hx hb dX5_mirrored_11 ?_
        refine lv_iload_n hx hb dX5_mirrored_12 rfl (lv_at hl 0 rfl) ?_
        refine lv_iload_n hx hb dX5_mirrored_13 rfl (lv_at hl 3 rfl) ?_
        refine lv_ishr hx hb dX5_mirrored_14 ?_
        refine lv_iconst (v := 1) hx hb dX5_mirrored_15 (by decide) ?_
        refine lv_iand hx hb dX5_mirrored_16 ?_
        refine lv_iadd hx hb dX5_mirrored_17 ?_
        refine lv_istore_n (lv' := [(2, .int ((2 * (fs_rev v k)) + ((v >>> ((nI k) &&& 31)) &&& 1))), (0, .int v), (1, .int (nI mm)), (3, .int (nI k))]) hx hb dX5_mirrored_18 rfl hl (by decide) rfl (fun ls hl => ?_)
        refine lv_iinc (v := (nI (k + 1))) (lv' := [(3, .int (nI (k + 1))), (2, .int ((2 * (fs_rev v k)) + ((v >>> ((nI k) &&& 31)) &&& 1))), (0, .int v), (1, .int (nI mm))]) hx hb dX5_mirrored_19 hl (k := 3) rfl (nI_1 k) (by decide) rfl (fun ls hl => ?_)
        refine lv_goto (tgt := 4) hx hb dX5_mirrored_22 (by decide) ?_
        exact ih_4 (k + 1) (by omega) (by omega) _ _ hH ls (lv_sub hl [2, 3, 1, 0] rfl)
  have hH : fs_H X A s [] s.heap [] := hH
  refine lv_iconst (v := 0) hx hb dX5_mirrored_0 (by decide) ?_
  refine lv_istore_n (lv' := [(2, .int 0), (0, .int v), (1, .int (nI mm))]) hx hb dX5_mirrored_1 rfl hl (by decide) rfl (fun ls hl => ?_)
  refine lv_iconst (v := 0) hx hb dX5_mirrored_2 (by decide) ?_
  refine lv_istore_n (lv' := [(3, .int 0), (2, .int 0), (0, .int v), (1, .int (nI mm))]) hx hb dX5_mirrored_3 rfl hl (by decide) rfl (fun ls hl => ?_)
  exact K_4 (mm + 1) 0 (by omega) (by omega) _ _ hH ls (lv_sub hl [2, 3, 1, 0] rfl)
set_option maxHeartbeats 4000000 in
set_option maxRecDepth 100000 in
theorem c_X0_bitsTurnedRound (l : Launch) (X : fs_X) (sz : Nat) (v : Int32) (mm : Nat) (hmm : mm < 32) : fs_M l X yX0_bitsTurnedRound cX0_bitsTurnedRound 4 (some .int) ({ frames := 0, cells := 0, slots := 0, locals := 0 }) [.int v, .int (nI mm)] [] sz (fs_Qi X (fun r (_ : Unit) => r = fs_rev v mm) (fun _ => [])) 0 0 := by
  refine fs_ofW (by decide) (Nat.le_of_ble_eq_true rfl) ?_
  intro p e s m args below meth c A ls C hH hl
  have C : fs_At X A p s m args meth c cX0_bitsTurnedRound 4 (some .int) RX0 "bitsTurnedRound" := C
  have hx := C.1
  have hb := C.2.1
  have hown := C.2.2.2.2.1
  have hts := C.2.2.2.2.2.1
  have hl : lv_has ls 4 [(0, .int v), (1, .int (nI mm))] := hl
  have K_4 : ∀ (n : Nat) (k : Nat), (k ≤ mm) → (mm < k + n) → ∀ (H : Heap) (locs : List Loc), fs_H X A s [] H locs → ∀ (ls : Array Slot), lv_has ls 4 [(0, .int v), (1, .int (nI mm)), (2, .int (fs_rev v k)), (3, .int (nI k))] → W p l e ({ frames := 0, cells := 0, slots := 0, locals := 0 }) s m args below meth c H locs 0 0 (MQ below (fs_Qi X (fun r (_ : Unit) => r = fs_rev v mm) (fun _ => []) A) args s 0 0 A) (F0 m 4 ls []) := by
    intro n
    induction n with
    | zero => intro k hk hfu; exact absurd hfu (by omega)
    | succ n ih_4 =>
      intro k hk hfu H locs hH ls hl
      refine lv_iload_n hx hb dX0_bitsTurnedRound_4 rfl (lv_at hl 3 rfl) ?_
      refine lv_iload_n hx hb dX0_bitsTurnedRound_5 rfl (lv_at hl 1 rfl) ?_
      refine lv_icmp_ge (tgt := 25) hx hb dX0_bitsTurnedRound_6 (by decide) (fun c_1 => ?_) (fun c_1 => ?_)
      · have hge := fs_geT (a := k) (b := mm) (by omega) (by omega) c_1
        refine lv_iload_n hx hb dX0_bitsTurnedRound_25 rfl (lv_at hl 2 rfl) ?_
        exact fs_iret C hH () rfl (by rw [show mm = k from by omega]) dX0_bitsTurnedRound_26
      · have hlt := fs_geF (a := k) (b := mm) (by omega) (by omega) c_1
        refine lv_iload_n hx hb dX0_bitsTurnedRound_9 rfl (lv_at hl 2 rfl) ?_
        refine lv_iconst (v := 2) hx hb dX0_bitsTurnedRound_10 (by decide) ?_
        refine lv_imul hx hb dX0_bitsTurnedRound_11 ?_
        refine lv_iload_n hx hb dX0_bitsTurnedRound_12 rfl (lv_at hl 0 rfl) ?_
        refine lv_iload_n hx hb dX0_bitsTurnedRound_13 rfl (lv_at hl 3 rfl) ?_
        refine lv_ishr hx hb dX0_bitsTurnedRound_14 ?_
        refine lv_iconst (v := 1) hx hb dX0_bitsTurnedRound_15 (by decide) ?_
        refine lv_iand hx hb dX0_bitsTurnedRound_16 ?_
        refine lv_iadd hx hb dX0_bitsTurnedRound_17 ?_
        refine fs_topi (y := 2 * fs_rev v k + (v >>> (nI k &&& 31) &&& 1)) (by rw [Int32.mul_comm]) ?_
        refine lv_istore_n (lv' := [(2, .int (2 * fs_rev v k + (v >>> (nI k &&& 31) &&& 1))), (0, .int v), (1, .int (nI mm)), (3, .int (nI k))]) hx hb dX0_bitsTurnedRound_18 rfl hl (by decide) rfl (fun ls hl => ?_)
        refine lv_iinc (v := (nI (k + 1))) (lv' := [(3, .int (nI (k + 1))), (2, .int (2 * fs_rev v k + (v >>> (nI k &&& 31) &&& 1))), (0, .int v), (1, .int (nI mm))]) hx hb dX0_bitsTurnedRound_19 hl (k := 3) rfl (nI_1 k) (by decide) rfl (fun ls hl => ?_)
        refine lv_goto (tgt := 4) hx hb dX0_bitsTurnedRound_22 (by decide) ?_
        exact ih_4 (k + 1) (by omega) (by omega) _ _ hH ls (lv_sub hl [2, 3, 1, 0] rfl)
  have hH : fs_H X A s [] s.heap [] := hH
  refine lv_iconst (v := 0) hx hb dX0_bitsTurnedRound_0 (by decide) ?_
  refine lv_istore_n (lv' := [(2, .int 0), (0, .int v), (1, .int (nI mm))]) hx hb dX0_bitsTurnedRound_1 rfl hl (by decide) rfl (fun ls hl => ?_)
  refine lv_iconst (v := 0) hx hb dX0_bitsTurnedRound_2 (by decide) ?_
  refine lv_istore_n (lv' := [(3, .int 0), (2, .int 0), (0, .int v), (1, .int (nI mm))]) hx hb dX0_bitsTurnedRound_3 rfl hl (by decide) rfl (fun ls hl => ?_)
  exact K_4 (mm + 1) 0 (by omega) (by omega) _ _ hH ls (lv_sub hl [2, 3, 1, 0] rfl)
set_option maxHeartbeats 4000000 in
set_option maxRecDepth 100000 in
theorem c_X0_cosineOf (l : Launch) (X : fs_X) (sz : Nat) (k : Nat) (hk : k < 16) : fs_M l X yX0_cosineOf cX0_cosineOf 1 (some .long) ({ frames := 0, cells := 0, slots := 0, locals := 0 }) [.int (nI k)] [] sz (fs_Ql X (fun r (_ : Unit) => r = fs_cos k) (fun _ => [])) 0 0 := by
  refine fs_ofW (by decide) (Nat.le_of_ble_eq_true rfl) ?_
  intro p e s m args below meth c A ls C hH hl
  have C : fs_At X A p s m args meth c cX0_cosineOf 1 (some .long) RX0 "cosineOf" := C
  have hx := C.1
  have hb := C.2.1
  have hown := C.2.2.2.2.1
  have hts := C.2.2.2.2.2.1
  have hl : lv_has ls 1 [(0, .int (nI k))] := hl
  have hH : fs_H X A s [] s.heap [] := hH
  match k, hk, hl with
  | 0, _, hl =>
    refine lv_iload_n hx hb dX0_cosineOf_0 rfl (lv_at hl 0 rfl) ?_
    refine lv_bipush (v := 8) hx hb dX0_cosineOf_1 (by decide) ?_
    refine lv_icmp_gt (tgt := 18) hx hb dX0_cosineOf_3 (by decide) (fun c_1 => ?_) (fun c_1 => ?_)
    · exact absurd c_1 (by decide)
    · refine fs_getQ C hH mw_264 dX0_cosineOf_6 ?_
      refine lv_bipush (v := 8) hx hb dX0_cosineOf_9 (by decide) ?_
      refine lv_iload_n hx hb dX0_cosineOf_11 rfl (lv_at hl 0 rfl) ?_
      refine lv_isub hx hb dX0_cosineOf_12 ?_
      refine fs_tabQ C hH (k := 8) (by decide) (by decide) dX0_cosineOf_13 ?_
      refine lv_i2l hx hb dX0_cosineOf_14 rfl ?_
      refine lv_goto (tgt := 28) hx hb dX0_cosineOf_15 (by decide) ?_
      exact fs_lret C hH () rfl (by decide) dX0_cosineOf_28
  | 1, _, hl =>
    refine lv_iload_n hx hb dX0_cosineOf_0 rfl (lv_at hl 0 rfl) ?_
    refine lv_bipush (v := 8) hx hb dX0_cosineOf_1 (by decide) ?_
    refine lv_icmp_gt (tgt := 18) hx hb dX0_cosineOf_3 (by decide) (fun c_2 => ?_) (fun c_2 => ?_)
    · exact absurd c_2 (by decide)
    · refine fs_getQ C hH mw_264 dX0_cosineOf_6 ?_
      refine lv_bipush (v := 8) hx hb dX0_cosineOf_9 (by decide) ?_
      refine lv_iload_n hx hb dX0_cosineOf_11 rfl (lv_at hl 0 rfl) ?_
      refine lv_isub hx hb dX0_cosineOf_12 ?_
      refine fs_tabQ C hH (k := 7) (by decide) (by decide) dX0_cosineOf_13 ?_
      refine lv_i2l hx hb dX0_cosineOf_14 rfl ?_
      refine lv_goto (tgt := 28) hx hb dX0_cosineOf_15 (by decide) ?_
      exact fs_lret C hH () rfl (by decide) dX0_cosineOf_28
  | 2, _, hl =>
    refine lv_iload_n hx hb dX0_cosineOf_0 rfl (lv_at hl 0 rfl) ?_
    refine lv_bipush (v := 8) hx hb dX0_cosineOf_1 (by decide) ?_
    refine lv_icmp_gt (tgt := 18) hx hb dX0_cosineOf_3 (by decide) (fun c_3 => ?_) (fun c_3 => ?_)
    · exact absurd c_3 (by decide)
    · refine fs_getQ C hH mw_264 dX0_cosineOf_6 ?_
      refine lv_bipush (v := 8) hx hb dX0_cosineOf_9 (by decide) ?_
      refine lv_iload_n hx hb dX0_cosineOf_11 rfl (lv_at hl 0 rfl) ?_
      refine lv_isub hx hb dX0_cosineOf_12 ?_
      refine fs_tabQ C hH (k := 6) (by decide) (by decide) dX0_cosineOf_13 ?_
      refine lv_i2l hx hb dX0_cosineOf_14 rfl ?_
      refine lv_goto (tgt := 28) hx hb dX0_cosineOf_15 (by decide) ?_
      exact fs_lret C hH () rfl (by decide) dX0_cosineOf_28
  | 3, _, hl =>
    refine lv_iload_n hx hb dX0_cosineOf_0 rfl (lv_at hl 0 rfl) ?_
    refine lv_bipush (v := 8) hx hb dX0_cosineOf_1 (by decide) ?_
    refine lv_icmp_gt (tgt := 18) hx hb dX0_cosineOf_3 (by decide) (fun c_4 => ?_) (fun c_4 => ?_)
    · exact absurd c_4 (by decide)
    · refine fs_getQ C hH mw_264 dX0_cosineOf_6 ?_
      refine lv_bipush (v := 8) hx hb dX0_cosineOf_9 (by decide) ?_
      refine lv_iload_n hx hb dX0_cosineOf_11 rfl (lv_at hl 0 rfl) ?_
      refine lv_isub hx hb dX0_cosineOf_12 ?_
      refine fs_tabQ C hH (k := 5) (by decide) (by decide) dX0_cosineOf_13 ?_
      refine lv_i2l hx hb dX0_cosineOf_14 rfl ?_
      refine lv_goto (tgt := 28) hx hb dX0_cosineOf_15 (by decide) ?_
      exact fs_lret C hH () rfl (by decide) dX0_cosineOf_28
  | 4, _, hl =>
    refine lv_iload_n hx hb dX0_cosineOf_0 rfl (lv_at hl 0 rfl) ?_
    refine lv_bipush (v := 8) hx hb dX0_cosineOf_1 (by decide) ?_
    refine lv_icmp_gt (tgt := 18) hx hb dX0_cosineOf_3 (by decide) (fun c_5 => ?_) (fun c_5 => ?_)
    · exact absurd c_5 (by decide)
    · refine fs_getQ C hH mw_264 dX0_cosineOf_6 ?_
      refine lv_bipush (v := 8) hx hb dX0_cosineOf_9 (by decide) ?_
      refine lv_iload_n hx hb dX0_cosineOf_11 rfl (lv_at hl 0 rfl) ?_
      refine lv_isub hx hb dX0_cosineOf_12 ?_
      refine fs_tabQ C hH (k := 4) (by decide) (by decide) dX0_cosineOf_13 ?_
      refine lv_i2l hx hb dX0_cosineOf_14 rfl ?_
      refine lv_goto (tgt := 28) hx hb dX0_cosineOf_15 (by decide) ?_
      exact fs_lret C hH () rfl (by decide) dX0_cosineOf_28
  | 5, _, hl =>
    refine lv_iload_n hx hb dX0_cosineOf_0 rfl (lv_at hl 0 rfl) ?_
    refine lv_bipush (v := 8) hx hb dX0_cosineOf_1 (by decide) ?_
    refine lv_icmp_gt (tgt := 18) hx hb dX0_cosineOf_3 (by decide) (fun c_6 => ?_) (fun c_6 => ?_)
    · exact absurd c_6 (by decide)
    · refine fs_getQ C hH mw_264 dX0_cosineOf_6 ?_
      refine lv_bipush (v := 8) hx hb dX0_cosineOf_9 (by decide) ?_
      refine lv_iload_n hx hb dX0_cosineOf_11 rfl (lv_at hl 0 rfl) ?_
      refine lv_isub hx hb dX0_cosineOf_12 ?_
      refine fs_tabQ C hH (k := 3) (by decide) (by decide) dX0_cosineOf_13 ?_
      refine lv_i2l hx hb dX0_cosineOf_14 rfl ?_
      refine lv_goto (tgt := 28) hx hb dX0_cosineOf_15 (by decide) ?_
      exact fs_lret C hH () rfl (by decide) dX0_cosineOf_28
  | 6, _, hl =>
    refine lv_iload_n hx hb dX0_cosineOf_0 rfl (lv_at hl 0 rfl) ?_
    refine lv_bipush (v := 8) hx hb dX0_cosineOf_1 (by decide) ?_
    refine lv_icmp_gt (tgt := 18) hx hb dX0_cosineOf_3 (by decide) (fun c_7 => ?_) (fun c_7 => ?_)
    · exact absurd c_7 (by decide)
    · refine fs_getQ C hH mw_264 dX0_cosineOf_6 ?_
      refine lv_bipush (v := 8) hx hb dX0_cosineOf_9 (by decide) ?_
      refine lv_iload_n hx hb dX0_cosineOf_11 rfl (lv_at hl 0 rfl) ?_
      refine lv_isub hx hb dX0_cosineOf_12 ?_
      refine fs_tabQ C hH (k := 2) (by decide) (by decide) dX0_cosineOf_13 ?_
      refine lv_i2l hx hb dX0_cosineOf_14 rfl ?_
      refine lv_goto (tgt := 28) hx hb dX0_cosineOf_15 (by decide) ?_
      exact fs_lret C hH () rfl (by decide) dX0_cosineOf_28
  | 7, _, hl =>
    refine lv_iload_n hx hb dX0_cosineOf_0 rfl (lv_at hl 0 rfl) ?_
    refine lv_bipush (v := 8) hx hb dX0_cosineOf_1 (by decide) ?_
    refine lv_icmp_gt (tgt := 18) hx hb dX0_cosineOf_3 (by decide) (fun c_8 => ?_) (fun c_8 => ?_)
    · exact absurd c_8 (by decide)
    · refine fs_getQ C hH mw_264 dX0_cosineOf_6 ?_
      refine lv_bipush (v := 8) hx hb dX0_cosineOf_9 (by decide) ?_
      refine lv_iload_n hx hb dX0_cosineOf_11 rfl (lv_at hl 0 rfl) ?_
      refine lv_isub hx hb dX0_cosineOf_12 ?_
      refine fs_tabQ C hH (k := 1) (by decide) (by decide) dX0_cosineOf_13 ?_
      refine lv_i2l hx hb dX0_cosineOf_14 rfl ?_
      refine lv_goto (tgt := 28) hx hb dX0_cosineOf_15 (by decide) ?_
      exact fs_lret C hH () rfl (by decide) dX0_cosineOf_28
  | 8, _, hl =>
    refine lv_iload_n hx hb dX0_cosineOf_0 rfl (lv_at hl 0 rfl) ?_
    refine lv_bipush (v := 8) hx hb dX0_cosineOf_1 (by decide) ?_
    refine lv_icmp_gt (tgt := 18) hx hb dX0_cosineOf_3 (by decide) (fun c_9 => ?_) (fun c_9 => ?_)
    · exact absurd c_9 (by decide)
    · refine fs_getQ C hH mw_264 dX0_cosineOf_6 ?_
      refine lv_bipush (v := 8) hx hb dX0_cosineOf_9 (by decide) ?_
      refine lv_iload_n hx hb dX0_cosineOf_11 rfl (lv_at hl 0 rfl) ?_
      refine lv_isub hx hb dX0_cosineOf_12 ?_
      refine fs_tabQ C hH (k := 0) (by decide) (by decide) dX0_cosineOf_13 ?_
      refine lv_i2l hx hb dX0_cosineOf_14 rfl ?_
      refine lv_goto (tgt := 28) hx hb dX0_cosineOf_15 (by decide) ?_
      exact fs_lret C hH () rfl (by decide) dX0_cosineOf_28
  | 9, _, hl =>
    refine lv_iload_n hx hb dX0_cosineOf_0 rfl (lv_at hl 0 rfl) ?_
    refine lv_bipush (v := 8) hx hb dX0_cosineOf_1 (by decide) ?_
    refine lv_icmp_gt (tgt := 18) hx hb dX0_cosineOf_3 (by decide) (fun c_10 => ?_) (fun c_10 => ?_)
    · refine fs_getQ C hH mw_264 dX0_cosineOf_18 ?_
      refine lv_iload_n hx hb dX0_cosineOf_21 rfl (lv_at hl 0 rfl) ?_
      refine lv_bipush (v := 8) hx hb dX0_cosineOf_22 (by decide) ?_
      refine lv_isub hx hb dX0_cosineOf_24 ?_
      refine fs_tabQ C hH (k := 1) (by decide) (by decide) dX0_cosineOf_25 ?_
      refine lv_ineg hx hb dX0_cosineOf_26 ?_
      refine lv_i2l hx hb dX0_cosineOf_27 rfl ?_
      exact fs_lret C hH () rfl (by decide) dX0_cosineOf_28
    · exact absurd c_10 (by decide)
  | 10, _, hl =>
    refine lv_iload_n hx hb dX0_cosineOf_0 rfl (lv_at hl 0 rfl) ?_
    refine lv_bipush (v := 8) hx hb dX0_cosineOf_1 (by decide) ?_
    refine lv_icmp_gt (tgt := 18) hx hb dX0_cosineOf_3 (by decide) (fun c_11 => ?_) (fun c_11 => ?_)
    · refine fs_getQ C hH mw_264 dX0_cosineOf_18 ?_
      refine lv_iload_n hx hb dX0_cosineOf_21 rfl (lv_at hl 0 rfl) ?_
      refine lv_bipush (v := 8) hx hb dX0_cosineOf_22 (by decide) ?_
      refine lv_isub hx hb dX0_cosineOf_24 ?_
      refine fs_tabQ C hH (k := 2) (by decide) (by decide) dX0_cosineOf_25 ?_
      refine lv_ineg hx hb dX0_cosineOf_26 ?_
      refine lv_i2l hx hb dX0_cosineOf_27 rfl ?_
      exact fs_lret C hH () rfl (by decide) dX0_cosineOf_28
    · exact absurd c_11 (by decide)
  | 11, _, hl =>
    refine lv_iload_n hx hb dX0_cosineOf_0 rfl (lv_at hl 0 rfl) ?_
    refine lv_bipush (v := 8) hx hb dX0_cosineOf_1 (by decide) ?_
    refine lv_icmp_gt (tgt := 18) hx hb dX0_cosineOf_3 (by decide) (fun c_12 => ?_) (fun c_12 => ?_)
    · refine fs_getQ C hH mw_264 dX0_cosineOf_18 ?_
      refine lv_iload_n hx hb dX0_cosineOf_21 rfl (lv_at hl 0 rfl) ?_
      refine lv_bipush (v := 8) hx hb dX0_cosineOf_22 (by decide) ?_
      refine lv_isub hx hb dX0_cosineOf_24 ?_
      refine fs_tabQ C hH (k := 3) (by decide) (by decide) dX0_cosineOf_25 ?_
      refine lv_ineg hx hb dX0_cosineOf_26 ?_
      refine lv_i2l hx hb dX0_cosineOf_27 rfl ?_
      exact fs_lret C hH () rfl (by decide) dX0_cosineOf_28
    · exact absurd c_12 (by decide)
  | 12, _, hl =>
    refine lv_iload_n hx hb dX0_cosineOf_0 rfl (lv_at hl 0 rfl) ?_
    refine lv_bipush (v := 8) hx hb dX0_cosineOf_1 (by decide) ?_
    refine lv_icmp_gt (tgt := 18) hx hb dX0_cosineOf_3 (by decide) (fun c_13 => ?_) (fun c_13 => ?_)
    · refine fs_getQ C hH mw_264 dX0_cosineOf_18 ?_
      refine lv_iload_n hx hb dX0_cosineOf_21 rfl (lv_at hl 0 rfl) ?_
      refine lv_bipush (v := 8) hx hb dX0_cosineOf_22 (by decide) ?_
      refine lv_isub hx hb dX0_cosineOf_24 ?_
      refine fs_tabQ C hH (k := 4) (by decide) (by decide) dX0_cosineOf_25 ?_
      refine lv_ineg hx hb dX0_cosineOf_26 ?_
      refine lv_i2l hx hb dX0_cosineOf_27 rfl ?_
      exact fs_lret C hH () rfl (by decide) dX0_cosineOf_28
    · exact absurd c_13 (by decide)
  | 13, _, hl =>
    refine lv_iload_n hx hb dX0_cosineOf_0 rfl (lv_at hl 0 rfl) ?_
    refine lv_bipush (v := 8) hx hb dX0_cosineOf_1 (by decide) ?_
    refine lv_icmp_gt (tgt := 18) hx hb dX0_cosineOf_3 (by decide) (fun c_14 => ?_) (fun c_14 => ?_)
    · refine fs_getQ C hH mw_264 dX0_cosineOf_18 ?_
      refine lv_iload_n hx hb dX0_cosineOf_21 rfl (lv_at hl 0 rfl) ?_
      refine lv_bipush (v := 8) hx hb dX0_cosineOf_22 (by decide) ?_
      refine lv_isub hx hb dX0_cosineOf_24 ?_
      refine fs_tabQ C hH (k := 5) (by decide) (by decide) dX0_cosineOf_25 ?_
      refine lv_ineg hx hb dX0_cosineOf_26 ?_
      refine lv_i2l hx hb dX0_cosineOf_27 rfl ?_
      exact fs_lret C hH () rfl (by decide) dX0_cosineOf_28
    · exact absurd c_14 (by decide)
  | 14, _, hl =>
    refine lv_iload_n hx hb dX0_cosineOf_0 rfl (lv_at hl 0 rfl) ?_
    refine lv_bipush (v := 8) hx hb dX0_cosineOf_1 (by decide) ?_
    refine lv_icmp_gt (tgt := 18) hx hb dX0_cosineOf_3 (by decide) (fun c_15 => ?_) (fun c_15 => ?_)
    · refine fs_getQ C hH mw_264 dX0_cosineOf_18 ?_
      refine lv_iload_n hx hb dX0_cosineOf_21 rfl (lv_at hl 0 rfl) ?_
      refine lv_bipush (v := 8) hx hb dX0_cosineOf_22 (by decide) ?_
      refine lv_isub hx hb dX0_cosineOf_24 ?_
      refine fs_tabQ C hH (k := 6) (by decide) (by decide) dX0_cosineOf_25 ?_
      refine lv_ineg hx hb dX0_cosineOf_26 ?_
      refine lv_i2l hx hb dX0_cosineOf_27 rfl ?_
      exact fs_lret C hH () rfl (by decide) dX0_cosineOf_28
    · exact absurd c_15 (by decide)
  | 15, _, hl =>
    refine lv_iload_n hx hb dX0_cosineOf_0 rfl (lv_at hl 0 rfl) ?_
    refine lv_bipush (v := 8) hx hb dX0_cosineOf_1 (by decide) ?_
    refine lv_icmp_gt (tgt := 18) hx hb dX0_cosineOf_3 (by decide) (fun c_16 => ?_) (fun c_16 => ?_)
    · refine fs_getQ C hH mw_264 dX0_cosineOf_18 ?_
      refine lv_iload_n hx hb dX0_cosineOf_21 rfl (lv_at hl 0 rfl) ?_
      refine lv_bipush (v := 8) hx hb dX0_cosineOf_22 (by decide) ?_
      refine lv_isub hx hb dX0_cosineOf_24 ?_
      refine fs_tabQ C hH (k := 7) (by decide) (by decide) dX0_cosineOf_25 ?_
      refine lv_ineg hx hb dX0_cosineOf_26 ?_
      refine lv_i2l hx hb dX0_cosineOf_27 rfl ?_
      exact fs_lret C hH () rfl (by decide) dX0_cosineOf_28
    · exact absurd c_16 (by decide)
  | k9 + 16, h9, _ => exact absurd h9 (by omega)
set_option maxHeartbeats 4000000 in
set_option maxRecDepth 100000 in
theorem c_X0_sineOf (l : Launch) (X : fs_X) (sz : Nat) (k : Nat) (hk : k < 16) : fs_M l X yX0_sineOf cX0_sineOf 1 (some .long) ({ frames := 0, cells := 0, slots := 0, locals := 0 }) [.int (nI k)] [] sz (fs_Ql X (fun r (_ : Unit) => r = fs_sin k) (fun _ => [])) 0 0 := by
  refine fs_ofW (by decide) (Nat.le_of_ble_eq_true rfl) ?_
  intro p e s m args below meth c A ls C hH hl
  have C : fs_At X A p s m args meth c cX0_sineOf 1 (some .long) RX0 "sineOf" := C
  have hx := C.1
  have hb := C.2.1
  have hown := C.2.2.2.2.1
  have hts := C.2.2.2.2.2.1
  have hl : lv_has ls 1 [(0, .int (nI k))] := hl
  have hH : fs_H X A s [] s.heap [] := hH
  match k, hk, hl with
  | 0, _, hl =>
    refine lv_iload_n hx hb dX0_sineOf_0 rfl (lv_at hl 0 rfl) ?_
    refine lv_bipush (v := 8) hx hb dX0_sineOf_1 (by decide) ?_
    refine lv_icmp_gt (tgt := 15) hx hb dX0_sineOf_3 (by decide) (fun c_1 => ?_) (fun c_1 => ?_)
    · exact absurd c_1 (by decide)
    · refine fs_getQ C hH mw_264 dX0_sineOf_6 ?_
      refine lv_iload_n hx hb dX0_sineOf_9 rfl (lv_at hl 0 rfl) ?_
      refine fs_tabQ C hH (k := 0) (by decide) (by decide) dX0_sineOf_10 ?_
      refine lv_i2l hx hb dX0_sineOf_11 rfl ?_
      refine lv_goto (tgt := 24) hx hb dX0_sineOf_12 (by decide) ?_
      exact fs_lret C hH () rfl (by decide) dX0_sineOf_24
  | 1, _, hl =>
    refine lv_iload_n hx hb dX0_sineOf_0 rfl (lv_at hl 0 rfl) ?_
    refine lv_bipush (v := 8) hx hb dX0_sineOf_1 (by decide) ?_
    refine lv_icmp_gt (tgt := 15) hx hb dX0_sineOf_3 (by decide) (fun c_2 => ?_) (fun c_2 => ?_)
    · exact absurd c_2 (by decide)
    · refine fs_getQ C hH mw_264 dX0_sineOf_6 ?_
      refine lv_iload_n hx hb dX0_sineOf_9 rfl (lv_at hl 0 rfl) ?_
      refine fs_tabQ C hH (k := 1) (by decide) (by decide) dX0_sineOf_10 ?_
      refine lv_i2l hx hb dX0_sineOf_11 rfl ?_
      refine lv_goto (tgt := 24) hx hb dX0_sineOf_12 (by decide) ?_
      exact fs_lret C hH () rfl (by decide) dX0_sineOf_24
  | 2, _, hl =>
    refine lv_iload_n hx hb dX0_sineOf_0 rfl (lv_at hl 0 rfl) ?_
    refine lv_bipush (v := 8) hx hb dX0_sineOf_1 (by decide) ?_
    refine lv_icmp_gt (tgt := 15) hx hb dX0_sineOf_3 (by decide) (fun c_3 => ?_) (fun c_3 => ?_)
    · exact absurd c_3 (by decide)
    · refine fs_getQ C hH mw_264 dX0_sineOf_6 ?_
      refine lv_iload_n hx hb dX0_sineOf_9 rfl (lv_at hl 0 rfl) ?_
      refine fs_tabQ C hH (k := 2) (by decide) (by decide) dX0_sineOf_10 ?_
      refine lv_i2l hx hb dX0_sineOf_11 rfl ?_
      refine lv_goto (tgt := 24) hx hb dX0_sineOf_12 (by decide) ?_
      exact fs_lret C hH () rfl (by decide) dX0_sineOf_24
  | 3, _, hl =>
    refine lv_iload_n hx hb dX0_sineOf_0 rfl (lv_at hl 0 rfl) ?_
    refine lv_bipush (v := 8) hx hb dX0_sineOf_1 (by decide) ?_
    refine lv_icmp_gt (tgt := 15) hx hb dX0_sineOf_3 (by decide) (fun c_4 => ?_) (fun c_4 => ?_)
    · exact absurd c_4 (by decide)
    · refine fs_getQ C hH mw_264 dX0_sineOf_6 ?_
      refine lv_iload_n hx hb dX0_sineOf_9 rfl (lv_at hl 0 rfl) ?_
      refine fs_tabQ C hH (k := 3) (by decide) (by decide) dX0_sineOf_10 ?_
      refine lv_i2l hx hb dX0_sineOf_11 rfl ?_
      refine lv_goto (tgt := 24) hx hb dX0_sineOf_12 (by decide) ?_
      exact fs_lret C hH () rfl (by decide) dX0_sineOf_24
  | 4, _, hl =>
    refine lv_iload_n hx hb dX0_sineOf_0 rfl (lv_at hl 0 rfl) ?_
    refine lv_bipush (v := 8) hx hb dX0_sineOf_1 (by decide) ?_
    refine lv_icmp_gt (tgt := 15) hx hb dX0_sineOf_3 (by decide) (fun c_5 => ?_) (fun c_5 => ?_)
    · exact absurd c_5 (by decide)
    · refine fs_getQ C hH mw_264 dX0_sineOf_6 ?_
      refine lv_iload_n hx hb dX0_sineOf_9 rfl (lv_at hl 0 rfl) ?_
      refine fs_tabQ C hH (k := 4) (by decide) (by decide) dX0_sineOf_10 ?_
      refine lv_i2l hx hb dX0_sineOf_11 rfl ?_
      refine lv_goto (tgt := 24) hx hb dX0_sineOf_12 (by decide) ?_
      exact fs_lret C hH () rfl (by decide) dX0_sineOf_24
  | 5, _, hl =>
    refine lv_iload_n hx hb dX0_sineOf_0 rfl (lv_at hl 0 rfl) ?_
    refine lv_bipush (v := 8) hx hb dX0_sineOf_1 (by decide) ?_
    refine lv_icmp_gt (tgt := 15) hx hb dX0_sineOf_3 (by decide) (fun c_6 => ?_) (fun c_6 => ?_)
    · exact absurd c_6 (by decide)
    · refine fs_getQ C hH mw_264 dX0_sineOf_6 ?_
      refine lv_iload_n hx hb dX0_sineOf_9 rfl (lv_at hl 0 rfl) ?_
      refine fs_tabQ C hH (k := 5) (by decide) (by decide) dX0_sineOf_10 ?_
      refine lv_i2l hx hb dX0_sineOf_11 rfl ?_
      refine lv_goto (tgt := 24) hx hb dX0_sineOf_12 (by decide) ?_
      exact fs_lret C hH () rfl (by decide) dX0_sineOf_24
  | 6, _, hl =>
    refine lv_iload_n hx hb dX0_sineOf_0 rfl (lv_at hl 0 rfl) ?_
    refine lv_bipush (v := 8) hx hb dX0_sineOf_1 (by decide) ?_
    refine lv_icmp_gt (tgt := 15) hx hb dX0_sineOf_3 (by decide) (fun c_7 => ?_) (fun c_7 => ?_)
    · exact absurd c_7 (by decide)
    · refine fs_getQ C hH mw_264 dX0_sineOf_6 ?_
      refine lv_iload_n hx hb dX0_sineOf_9 rfl (lv_at hl 0 rfl) ?_
      refine fs_tabQ C hH (k := 6) (by decide) (by decide) dX0_sineOf_10 ?_
      refine lv_i2l hx hb dX0_sineOf_11 rfl ?_
      refine lv_goto (tgt := 24) hx hb dX0_sineOf_12 (by decide) ?_
      exact fs_lret C hH () rfl (by decide) dX0_sineOf_24
  | 7, _, hl =>
    refine lv_iload_n hx hb dX0_sineOf_0 rfl (lv_at hl 0 rfl) ?_
    refine lv_bipush (v := 8) hx hb dX0_sineOf_1 (by decide) ?_
    refine lv_icmp_gt (tgt := 15) hx hb dX0_sineOf_3 (by decide) (fun c_8 => ?_) (fun c_8 => ?_)
    · exact absurd c_8 (by decide)
    · refine fs_getQ C hH mw_264 dX0_sineOf_6 ?_
      refine lv_iload_n hx hb dX0_sineOf_9 rfl (lv_at hl 0 rfl) ?_
      refine fs_tabQ C hH (k := 7) (by decide) (by decide) dX0_sineOf_10 ?_
      refine lv_i2l hx hb dX0_sineOf_11 rfl ?_
      refine lv_goto (tgt := 24) hx hb dX0_sineOf_12 (by decide) ?_
      exact fs_lret C hH () rfl (by decide) dX0_sineOf_24
  | 8, _, hl =>
    refine lv_iload_n hx hb dX0_sineOf_0 rfl (lv_at hl 0 rfl) ?_
    refine lv_bipush (v := 8) hx hb dX0_sineOf_1 (by decide) ?_
    refine lv_icmp_gt (tgt := 15) hx hb dX0_sineOf_3 (by decide) (fun c_9 => ?_) (fun c_9 => ?_)
    · exact absurd c_9 (by decide)
    · refine fs_getQ C hH mw_264 dX0_sineOf_6 ?_
      refine lv_iload_n hx hb dX0_sineOf_9 rfl (lv_at hl 0 rfl) ?_
      refine fs_tabQ C hH (k := 8) (by decide) (by decide) dX0_sineOf_10 ?_
      refine lv_i2l hx hb dX0_sineOf_11 rfl ?_
      refine lv_goto (tgt := 24) hx hb dX0_sineOf_12 (by decide) ?_
      exact fs_lret C hH () rfl (by decide) dX0_sineOf_24
  | 9, _, hl =>
    refine lv_iload_n hx hb dX0_sineOf_0 rfl (lv_at hl 0 rfl) ?_
    refine lv_bipush (v := 8) hx hb dX0_sineOf_1 (by decide) ?_
    refine lv_icmp_gt (tgt := 15) hx hb dX0_sineOf_3 (by decide) (fun c_10 => ?_) (fun c_10 => ?_)
    · refine fs_getQ C hH mw_264 dX0_sineOf_15 ?_
      refine lv_bipush (v := 16) hx hb dX0_sineOf_18 (by decide) ?_
      refine lv_iload_n hx hb dX0_sineOf_20 rfl (lv_at hl 0 rfl) ?_
      refine lv_isub hx hb dX0_sineOf_21 ?_
      refine fs_tabQ C hH (k := 7) (by decide) (by decide) dX0_sineOf_22 ?_
      refine lv_i2l hx hb dX0_sineOf_23 rfl ?_
      exact fs_lret C hH () rfl (by decide) dX0_sineOf_24
    · exact absurd c_10 (by decide)
  | 10, _, hl =>
    refine lv_iload_n hx hb dX0_sineOf_0 rfl (lv_at hl 0 rfl) ?_
    refine lv_bipush (v := 8) hx hb dX0_sineOf_1 (by decide) ?_
    refine lv_icmp_gt (tgt := 15) hx hb dX0_sineOf_3 (by decide) (fun c_11 => ?_) (fun c_11 => ?_)
    · refine fs_getQ C hH mw_264 dX0_sineOf_15 ?_
      refine lv_bipush (v := 16) hx hb dX0_sineOf_18 (by decide) ?_
      refine lv_iload_n hx hb dX0_sineOf_20 rfl (lv_at hl 0 rfl) ?_
      refine lv_isub hx hb dX0_sineOf_21 ?_
      refine fs_tabQ C hH (k := 6) (by decide) (by decide) dX0_sineOf_22 ?_
      refine lv_i2l hx hb dX0_sineOf_23 rfl ?_
      exact fs_lret C hH () rfl (by decide) dX0_sineOf_24
    · exact absurd c_11 (by decide)
  | 11, _, hl =>
    refine lv_iload_n hx hb dX0_sineOf_0 rfl (lv_at hl 0 rfl) ?_
    refine lv_bipush (v := 8) hx hb dX0_sineOf_1 (by decide) ?_
    refine lv_icmp_gt (tgt := 15) hx hb dX0_sineOf_3 (by decide) (fun c_12 => ?_) (fun c_12 => ?_)
    · refine fs_getQ C hH mw_264 dX0_sineOf_15 ?_
      refine lv_bipush (v := 16) hx hb dX0_sineOf_18 (by decide) ?_
      refine lv_iload_n hx hb dX0_sineOf_20 rfl (lv_at hl 0 rfl) ?_
      refine lv_isub hx hb dX0_sineOf_21 ?_
      refine fs_tabQ C hH (k := 5) (by decide) (by decide) dX0_sineOf_22 ?_
      refine lv_i2l hx hb dX0_sineOf_23 rfl ?_
      exact fs_lret C hH () rfl (by decide) dX0_sineOf_24
    · exact absurd c_12 (by decide)
  | 12, _, hl =>
    refine lv_iload_n hx hb dX0_sineOf_0 rfl (lv_at hl 0 rfl) ?_
    refine lv_bipush (v := 8) hx hb dX0_sineOf_1 (by decide) ?_
    refine lv_icmp_gt (tgt := 15) hx hb dX0_sineOf_3 (by decide) (fun c_13 => ?_) (fun c_13 => ?_)
    · refine fs_getQ C hH mw_264 dX0_sineOf_15 ?_
      refine lv_bipush (v := 16) hx hb dX0_sineOf_18 (by decide) ?_
      refine lv_iload_n hx hb dX0_sineOf_20 rfl (lv_at hl 0 rfl) ?_
      refine lv_isub hx hb dX0_sineOf_21 ?_
      refine fs_tabQ C hH (k := 4) (by decide) (by decide) dX0_sineOf_22 ?_
      refine lv_i2l hx hb dX0_sineOf_23 rfl ?_
      exact fs_lret C hH () rfl (by decide) dX0_sineOf_24
    · exact absurd c_13 (by decide)
  | 13, _, hl =>
    refine lv_iload_n hx hb dX0_sineOf_0 rfl (lv_at hl 0 rfl) ?_
    refine lv_bipush (v := 8) hx hb dX0_sineOf_1 (by decide) ?_
    refine lv_icmp_gt (tgt := 15) hx hb dX0_sineOf_3 (by decide) (fun c_14 => ?_) (fun c_14 => ?_)
    · refine fs_getQ C hH mw_264 dX0_sineOf_15 ?_
      refine lv_bipush (v := 16) hx hb dX0_sineOf_18 (by decide) ?_
      refine lv_iload_n hx hb dX0_sineOf_20 rfl (lv_at hl 0 rfl) ?_
      refine lv_isub hx hb dX0_sineOf_21 ?_
      refine fs_tabQ C hH (k := 3) (by decide) (by decide) dX0_sineOf_22 ?_
      refine lv_i2l hx hb dX0_sineOf_23 rfl ?_
      exact fs_lret C hH () rfl (by decide) dX0_sineOf_24
    · exact absurd c_14 (by decide)
  | 14, _, hl =>
    refine lv_iload_n hx hb dX0_sineOf_0 rfl (lv_at hl 0 rfl) ?_
    refine lv_bipush (v := 8) hx hb dX0_sineOf_1 (by decide) ?_
    refine lv_icmp_gt (tgt := 15) hx hb dX0_sineOf_3 (by decide) (fun c_15 => ?_) (fun c_15 => ?_)
    · refine fs_getQ C hH mw_264 dX0_sineOf_15 ?_
      refine lv_bipush (v := 16) hx hb dX0_sineOf_18 (by decide) ?_
      refine lv_iload_n hx hb dX0_sineOf_20 rfl (lv_at hl 0 rfl) ?_
      refine lv_isub hx hb dX0_sineOf_21 ?_
      refine fs_tabQ C hH (k := 2) (by decide) (by decide) dX0_sineOf_22 ?_
      refine lv_i2l hx hb dX0_sineOf_23 rfl ?_
      exact fs_lret C hH () rfl (by decide) dX0_sineOf_24
    · exact absurd c_15 (by decide)
  | 15, _, hl =>
    refine lv_iload_n hx hb dX0_sineOf_0 rfl (lv_at hl 0 rfl) ?_
    refine lv_bipush (v := 8) hx hb dX0_sineOf_1 (by decide) ?_
    refine lv_icmp_gt (tgt := 15) hx hb dX0_sineOf_3 (by decide) (fun c_16 => ?_) (fun c_16 => ?_)
    · refine fs_getQ C hH mw_264 dX0_sineOf_15 ?_
      refine lv_bipush (v := 16) hx hb dX0_sineOf_18 (by decide) ?_
      refine lv_iload_n hx hb dX0_sineOf_20 rfl (lv_at hl 0 rfl) ?_
      refine lv_isub hx hb dX0_sineOf_21 ?_
      refine fs_tabQ C hH (k := 1) (by decide) (by decide) dX0_sineOf_22 ?_
      refine lv_i2l hx hb dX0_sineOf_23 rfl ?_
      exact fs_lret C hH () rfl (by decide) dX0_sineOf_24
    · exact absurd c_16 (by decide)
  | k9 + 16, h9, _ => exact absurd h9 (by omega)
set_option maxHeartbeats 4000000 in
set_option maxRecDepth 100000 in
theorem c_X0_swap (l : Launch) (X : fs_X) (sz : Nat) (a : Nat) (f : Nat → Int32) (i : Nat) (j : Nat) (hi : i < 32) (hj : j < 32) : fs_M l X yX0_swap cX0_swap 4 none ({ frames := 0, cells := 0, slots := 0, locals := 0 }) [.ref a, .int (nI i), .int (nI j)] [(a, fs_ai X 32 f)] sz (fs_Qv X (fun (_ : Unit) => True) (fun _ => [(a, fs_ai X 32 (upd (upd f i (f j)) j (f i)))])) 0 0 := by
  refine fs_ofW (by decide) (Nat.le_of_ble_eq_true rfl) ?_
  intro p e s m args below meth c A ls C hH hl
  have C : fs_At X A p s m args meth c cX0_swap 4 none RX0 "swap" := C
  have hx := C.1
  have hb := C.2.1
  have hown := C.2.2.2.2.1
  have hts := C.2.2.2.2.2.1
  have hl : lv_has ls 4 [(0, .ref a), (1, .int (nI i)), (2, .int (nI j))] := hl
  have hH : fs_H X A s [(a, fs_ai X 32 f)] s.heap [] := hH
  refine lv_aload_n hx hb dX0_swap_0 rfl (lv_at hl 0 rfl) ?_
  refine lv_iload_n hx hb dX0_swap_1 rfl (lv_at hl 1 rfl) ?_
  refine fs_iald C hH 0 rfl (k := i) rfl (by omega) (by decide) dX0_swap_2 ?_
  refine lv_istore_n (lv' := [(3, .int (f i)), (0, .ref a), (1, .int (nI i)), (2, .int (nI j))]) hx hb dX0_swap_3 rfl hl (by decide) rfl (fun ls hl => ?_)
  refine lv_aload_n hx hb dX0_swap_4 rfl (lv_at hl 1 rfl) ?_
  refine lv_iload_n hx hb dX0_swap_5 rfl (lv_at hl 2 rfl) ?_
  refine lv_aload_n hx hb dX0_swap_6 rfl (lv_at hl 1 rfl) ?_
  refine lv_iload_n hx hb dX0_swap_7 rfl (lv_at hl 3 rfl) ?_
  refine fs_iald C hH 0 rfl (k := j) rfl (by omega) (by decide) dX0_swap_8 ?_
  refine fs_iast C hH 0 rfl (k := i) rfl (by omega) (by decide) (ws' := [(a, fs_ai X 32 (upd f i (f j)))]) rfl dX0_swap_9 (fun H locs hH => ?_)
  refine lv_aload_n hx hb dX0_swap_10 rfl (lv_at hl 1 rfl) ?_
  refine lv_iload_n hx hb dX0_swap_11 rfl (lv_at hl 3 rfl) ?_
  refine lv_iload_n hx hb dX0_swap_12 rfl (lv_at hl 0 rfl) ?_
  refine fs_iast C hH 0 rfl (k := j) rfl (by omega) (by decide) (ws' := [(a, fs_ai X 32 (upd (upd f i (f j)) j (f i)))]) rfl dX0_swap_13 (fun H locs hH => ?_)
  exact fs_vret C hH () rfl trivial dX0_swap_14
