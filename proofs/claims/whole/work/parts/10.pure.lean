set_option maxHeartbeats 4000000 in
set_option maxRecDepth 100000 in
theorem c_X4_rounded (l : Launch) (X : fs_X) (sz : Nat) (v : Int64) (k : Int32)  : fs_M l X yX4_rounded cX4_rounded 3 (some .long) ({ frames := 0, cells := 0, slots := 0, locals := 0 }) [.long v, .int k] [] sz (fs_Ql X (fun r (_ : Unit) => r = fs_rd v k) (fun _ => [])) 0 0 := by
  refine fs_ofW (by decide) (Nat.le_of_ble_eq_true rfl) ?_
  intro p e s m args below meth c A ls C hH hl
  have C : fs_At X A p s m args meth c cX4_rounded 3 (some .long) RX4 "rounded" := C
  have hx := C.1
  have hb := C.2.1
  have hown := C.2.2.2.2.1
  have hts := C.2.2.2.2.2.1
  have hl : lv_has ls 3 [(0, .long v), (2, .int k)] := hl
  have hH : fs_H X A s [] s.heap [] := hH
  refine lv_lload_n hx hb dX4_rounded_0 rfl (lv_at hl 0 rfl) ?_
  refine lv_lconst (v := 1) hx hb dX4_rounded_1 (by decide) ?_
  refine lv_iload_n hx hb dX4_rounded_2 rfl (lv_at hl 1 rfl) ?_
  refine lv_iconst (v := 1) hx hb dX4_rounded_3 (by decide) ?_
  refine lv_isub hx hb dX4_rounded_4 ?_
  refine lv_lshl hx hb dX4_rounded_5 rfl ?_
  refine lv_ladd hx hb dX4_rounded_6 ?_
  refine lv_iload_n hx hb dX4_rounded_7 rfl (lv_at hl 1 rfl) ?_
  refine lv_lshr hx hb dX4_rounded_8 rfl ?_
  exact fs_lret C hH () rfl rfl dX4_rounded_9
set_option maxHeartbeats 4000000 in
set_option maxRecDepth 100000 in
theorem c_X4_sizeOf (l : Launch) (X : fs_X) (sz : Nat) (v : Int64)  : fs_M l X yX4_sizeOf cX4_sizeOf 2 (some .long) ({ frames := 0, cells := 0, slots := 0, locals := 0 }) [.long v] [] sz (fs_Ql X (fun r (_ : Unit) => r = fs_sz v) (fun _ => [])) 0 0 := by
  refine fs_ofW (by decide) (Nat.le_of_ble_eq_true rfl) ?_
  intro p e s m args below meth c A ls C hH hl
  have C : fs_At X A p s m args meth c cX4_sizeOf 2 (some .long) RX4 "sizeOf" := C
  have hx := C.1
  have hb := C.2.1
  have hown := C.2.2.2.2.1
  have hts := C.2.2.2.2.2.1
  have hl : lv_has ls 2 [(0, .long v)] := hl
  have hH : fs_H X A s [] s.heap [] := hH
  refine lv_lload_n hx hb dX4_sizeOf_0 rfl (lv_at hl 0 rfl) ?_
  refine lv_lconst (v := 0) hx hb dX4_sizeOf_1 (by decide) ?_
  refine fs_lge (tgt := 11) hx hb dX4_sizeOf_2 dX4_sizeOf_3 (by decide) (fun c_1 => ?_) (fun c_1 => ?_)
  · refine lv_lload_n hx hb dX4_sizeOf_11 rfl (lv_at hl 0 rfl) ?_
    exact fs_lret C hH () rfl (by simp [fs_sz, c_1]) dX4_sizeOf_12
  · refine lv_lload_n hx hb dX4_sizeOf_6 rfl (lv_at hl 0 rfl) ?_
    refine lv_lneg hx hb dX4_sizeOf_7 ?_
    refine lv_goto (tgt := 12) hx hb dX4_sizeOf_8 (by decide) ?_
    exact fs_lret C hH () rfl (by simp [fs_sz, c_1]) dX4_sizeOf_12
set_option maxHeartbeats 4000000 in
set_option maxRecDepth 100000 in
theorem c_X4_moved (l : Launch) (X : fs_X) (sz : Nat) (v : Int64) (k : Int32)  : fs_M l X yX4_moved cX4_moved 3 (some .long) ({ frames := 1, cells := 0, slots := 0, locals := 22 }) [.long v, .int k] [] sz (fs_Ql X (fun r (_ : Unit) => r = fs_mv v k) (fun _ => [])) 0 0 := by
  refine fs_ofW (by decide) (Nat.le_of_ble_eq_true rfl) ?_
  intro p e s m args below meth c A ls C hH hl
  have C : fs_At X A p s m args meth c cX4_moved 3 (some .long) RX4 "moved" := C
  have hx := C.1
  have hb := C.2.1
  have hown := C.2.2.2.2.1
  have hts := C.2.2.2.2.2.1
  have hl : lv_has ls 3 [(0, .long v), (2, .int k)] := hl
  have hH : fs_H X A s [] s.heap [] := hH
  refine lv_iload_n hx hb dX4_moved_0 rfl (lv_at hl 1 rfl) ?_
  refine lv_if_lt (tgt := 10) hx hb dX4_moved_1 (by decide) (fun c_1 => ?_) (fun c_1 => ?_)
  · refine lv_lload_n hx hb dX4_moved_10 rfl (lv_at hl 0 rfl) ?_
    refine lv_iload_n hx hb dX4_moved_11 rfl (lv_at hl 1 rfl) ?_
    refine lv_ineg hx hb dX4_moved_12 ?_
    refine fs_cl C hH (wr := []) [] [] rfl rfl (by decide) (by decide) (fs_rS (rest := []) (As := [.long v, .int (-k)]) (n := 2) C hH (wc := []) [] (by decide) rfl (c_X4_rounded l X _ v (-k) ) rfl rfl mw_81 mw_79 mw_80 mw_1 (by decide +kernel) ⟨Nat.le_of_ble_eq_true rfl, Nat.le_of_ble_eq_true rfl⟩ rfl hl.1 rfl (Nat.le_of_ble_eq_true rfl) dX4_moved_13 ⟨Nat.le_of_ble_eq_true rfl, Nat.le_of_ble_eq_true rfl⟩) (fun r_2 u_3 H locs hr_4 hH => ?_)
    subst hr_4
    have hH : fs_H X A s [] _ _ := hH
    exact fs_lret C hH () rfl (by simp [fs_mv, c_1]) dX4_moved_16
  · refine lv_lload_n hx hb dX4_moved_4 rfl (lv_at hl 0 rfl) ?_
    refine lv_iload_n hx hb dX4_moved_5 rfl (lv_at hl 1 rfl) ?_
    refine lv_lshl hx hb dX4_moved_6 rfl ?_
    refine lv_goto (tgt := 16) hx hb dX4_moved_7 (by decide) ?_
    exact fs_lret C hH () rfl (by simp [fs_mv, c_1]) dX4_moved_16
set_option maxHeartbeats 4000000 in
set_option maxRecDepth 100000 in
theorem c_X4_satLong (l : Launch) (X : fs_X) (sz : Nat) (v : Int64)  : fs_M l X yX4_satLong cX4_satLong 2 (some .int) ({ frames := 1, cells := 0, slots := 0, locals := 17 }) [.long v] [] sz (fs_Qi X (fun r (_ : Unit) => r = fs_sat v 2147483647) (fun _ => [])) 0 0 := by
  refine fs_ofW (by decide) (Nat.le_of_ble_eq_true rfl) ?_
  intro p e s m args below meth c A ls C hH hl
  have C : fs_At X A p s m args meth c cX4_satLong 2 (some .int) RX4 "satLong" := C
  have hx := C.1
  have hb := C.2.1
  have hown := C.2.2.2.2.1
  have hts := C.2.2.2.2.2.1
  have hl : lv_has ls 2 [(0, .long v)] := hl
  have hH : fs_H X A s [] s.heap [] := hH
  refine lv_ldc2 (v := (-2147483648)) hx hb hown (hts _ mw_176) dX4_satLong_0 ?_
  refine lv_ldc2 (v := 2147483647) hx hb hown (hts _ mw_177) dX4_satLong_3 ?_
  refine lv_lload_n hx hb dX4_satLong_6 rfl (lv_at hl 0 rfl) ?_
  refine va_mmin_long hx hb (by rw [C.2.2.2.1]; exact hl.1.symm) hown (hts _ mw_87) (hts _ mw_88) (hts _ mw_11) (hts _ mw_89) (Nat.le_of_ble_eq_true rfl) (Nat.le_of_ble_eq_true rfl) (Nat.zero_le _) (Nat.zero_le _) dX4_satLong_7 ?_
  refine va_mmax_long hx hb (by rw [C.2.2.2.1]; exact hl.1.symm) hown (hts _ mw_90) (hts _ mw_91) (hts _ mw_11) (hts _ mw_92) (Nat.le_of_ble_eq_true rfl) (Nat.le_of_ble_eq_true rfl) (Nat.zero_le _) (Nat.zero_le _) dX4_satLong_10 ?_
  refine lv_l2i hx hb dX4_satLong_13 rfl ?_
  exact fs_iret C hH () rfl (fs_sat31 v) dX4_satLong_14
set_option maxHeartbeats 4000000 in
set_option maxRecDepth 100000 in
theorem c_X4_satShort (l : Launch) (X : fs_X) (sz : Nat) (v : Int64)  : fs_M l X yX4_satShort cX4_satShort 2 (some .int) ({ frames := 1, cells := 0, slots := 0, locals := 17 }) [.long v] [] sz (fs_Qi X (fun r (_ : Unit) => r = fs_sat v 32767) (fun _ => [])) 0 0 := by
  refine fs_ofW (by decide) (Nat.le_of_ble_eq_true rfl) ?_
  intro p e s m args below meth c A ls C hH hl
  have C : fs_At X A p s m args meth c cX4_satShort 2 (some .int) RX4 "satShort" := C
  have hx := C.1
  have hb := C.2.1
  have hown := C.2.2.2.2.1
  have hts := C.2.2.2.2.2.1
  have hl : lv_has ls 2 [(0, .long v)] := hl
  have hH : fs_H X A s [] s.heap [] := hH
  refine lv_ldc2 (v := (-32768)) hx hb hown (hts _ mw_85) dX4_satShort_0 ?_
  refine lv_ldc2 (v := 32767) hx hb hown (hts _ mw_86) dX4_satShort_3 ?_
  refine lv_lload_n hx hb dX4_satShort_6 rfl (lv_at hl 0 rfl) ?_
  refine va_mmin_long hx hb (by rw [C.2.2.2.1]; exact hl.1.symm) hown (hts _ mw_87) (hts _ mw_88) (hts _ mw_11) (hts _ mw_89) (Nat.le_of_ble_eq_true rfl) (Nat.le_of_ble_eq_true rfl) (Nat.zero_le _) (Nat.zero_le _) dX4_satShort_7 ?_
  refine va_mmax_long hx hb (by rw [C.2.2.2.1]; exact hl.1.symm) hown (hts _ mw_90) (hts _ mw_91) (hts _ mw_11) (hts _ mw_92) (Nat.le_of_ble_eq_true rfl) (Nat.le_of_ble_eq_true rfl) (Nat.zero_le _) (Nat.zero_le _) dX4_satShort_10 ?_
  refine lv_l2i hx hb dX4_satShort_13 rfl ?_
  exact fs_iret C hH () rfl (fs_sat15 v) dX4_satShort_14
set_option maxHeartbeats 4000000 in
set_option maxRecDepth 100000 in
theorem c_X4_isShort (l : Launch) (X : fs_X) (sz : Nat) (v : Int32)  : fs_M l X yX4_isShort cX4_isShort 1 (some .boolean) ({ frames := 0, cells := 0, slots := 0, locals := 0 }) [.int v] [] sz (fs_Qi X (fun r (_ : Unit) => r = fs_bi (fs_short v)) (fun _ => [])) 0 0 := by
  refine fs_ofW (by decide) (Nat.le_of_ble_eq_true rfl) ?_
  intro p e s m args below meth c A ls C hH hl
  have C : fs_At X A p s m args meth c cX4_isShort 1 (some .boolean) RX4 "isShort" := C
  have hx := C.1
  have hb := C.2.1
  have hown := C.2.2.2.2.1
  have hts := C.2.2.2.2.2.1
  have hl : lv_has ls 1 [(0, .int v)] := hl
  have hH : fs_H X A s [] s.heap [] := hH
  refine lv_iload_n hx hb dX4_isShort_0 rfl (lv_at hl 0 rfl) ?_
  refine lv_sipush (v := (-32768)) hx hb dX4_isShort_1 (by decide) ?_
  refine lv_icmp_lt (tgt := 18) hx hb dX4_isShort_4 (by decide) (fun c_1 => ?_) (fun c_1 => ?_)
  · refine lv_iconst (v := 0) hx hb dX4_isShort_18 (by decide) ?_
    exact fs_zret C hH rfl () rfl (by simp [fs_bi, fs_short, fs_way, fs_near, c_1]) dX4_isShort_19
  · refine lv_iload_n hx hb dX4_isShort_7 rfl (lv_at hl 0 rfl) ?_
    refine lv_sipush (v := 32767) hx hb dX4_isShort_8 (by decide) ?_
    refine lv_icmp_gt (tgt := 18) hx hb dX4_isShort_11 (by decide) (fun c_2 => ?_) (fun c_2 => ?_)
    · refine lv_iconst (v := 0) hx hb dX4_isShort_18 (by decide) ?_
      exact fs_zret C hH rfl () rfl (by simp [fs_bi, fs_short, fs_way, fs_near, c_1, c_2]) dX4_isShort_19
    · refine lv_iconst (v := 1) hx hb dX4_isShort_14 (by decide) ?_
      refine lv_goto (tgt := 19) hx hb dX4_isShort_15 (by decide) ?_
      exact fs_zret C hH rfl () rfl (by simp [fs_bi, fs_short, fs_way, fs_near, c_1, c_2]) dX4_isShort_19
set_option maxHeartbeats 4000000 in
set_option maxRecDepth 100000 in
theorem c_X4_isWithin (l : Launch) (X : fs_X) (sz : Nat) (i : Int32) (n : Int32)  : fs_M l X yX4_isWithin cX4_isWithin 2 (some .boolean) ({ frames := 0, cells := 0, slots := 0, locals := 0 }) [.int i, .int n] [] sz (fs_Qi X (fun r (_ : Unit) => r = fs_bi (¬ i < 0 ∧ ¬ n ≤ i)) (fun _ => [])) 0 0 := by
  refine fs_ofW (by decide) (Nat.le_of_ble_eq_true rfl) ?_
  intro p e s m args below meth c A ls C hH hl
  have C : fs_At X A p s m args meth c cX4_isWithin 2 (some .boolean) RX4 "isWithin" := C
  have hx := C.1
  have hb := C.2.1
  have hown := C.2.2.2.2.1
  have hts := C.2.2.2.2.2.1
  have hl : lv_has ls 2 [(0, .int i), (1, .int n)] := hl
  have hH : fs_H X A s [] s.heap [] := hH
  refine lv_iload_n hx hb dX4_isWithin_0 rfl (lv_at hl 0 rfl) ?_
  refine lv_if_lt (tgt := 13) hx hb dX4_isWithin_1 (by decide) (fun c_1 => ?_) (fun c_1 => ?_)
  · refine lv_iconst (v := 0) hx hb dX4_isWithin_13 (by decide) ?_
    exact fs_zret C hH rfl () rfl (by simp [fs_bi, fs_short, fs_way, fs_near, c_1]) dX4_isWithin_14
  · refine lv_iload_n hx hb dX4_isWithin_4 rfl (lv_at hl 0 rfl) ?_
    refine lv_iload_n hx hb dX4_isWithin_5 rfl (lv_at hl 1 rfl) ?_
    refine lv_icmp_ge (tgt := 13) hx hb dX4_isWithin_6 (by decide) (fun c_2 => ?_) (fun c_2 => ?_)
    · refine lv_iconst (v := 0) hx hb dX4_isWithin_13 (by decide) ?_
      exact fs_zret C hH rfl () rfl (by simp [fs_bi, fs_short, fs_way, fs_near, c_1, c_2]) dX4_isWithin_14
    · refine lv_iconst (v := 1) hx hb dX4_isWithin_9 (by decide) ?_
      refine lv_goto (tgt := 14) hx hb dX4_isWithin_10 (by decide) ?_
      exact fs_zret C hH rfl () rfl (by simp [fs_bi, fs_short, fs_way, fs_near, c_1, c_2]) dX4_isWithin_14
set_option maxHeartbeats 4000000 in
set_option maxRecDepth 100000 in
theorem c_X4_isWay (l : Launch) (X : fs_X) (sz : Nat) (way : Int32) (b : Int32) (most : Int32)  : fs_M l X yX4_isWay cX4_isWay 3 (some .boolean) ({ frames := 0, cells := 0, slots := 0, locals := 0 }) [.int way, .int b, .int most] [] sz (fs_Qi X (fun r (_ : Unit) => r = fs_bi (fs_way way b most)) (fun _ => [])) 0 0 := by
  refine fs_ofW (by decide) (Nat.le_of_ble_eq_true rfl) ?_
  intro p e s m args below meth c A ls C hH hl
  have C : fs_At X A p s m args meth c cX4_isWay 3 (some .boolean) RX4 "isWay" := C
  have hx := C.1
  have hb := C.2.1
  have hown := C.2.2.2.2.1
  have hts := C.2.2.2.2.2.1
  have hl : lv_has ls 3 [(0, .int way), (1, .int b), (2, .int most)] := hl
  have hH : fs_H X A s [] s.heap [] := hH
  refine lv_iload_n hx hb dX4_isWay_0 rfl (lv_at hl 0 rfl) ?_
  refine lv_iconst (v := 3) hx hb dX4_isWay_1 (by decide) ?_
  refine lv_icmp_ne (tgt := 22) hx hb dX4_isWay_2 (by decide) (fun c_1 => ?_) (fun c_1 => ?_)
  · refine lv_iload_n hx hb dX4_isWay_22 rfl (lv_at hl 0 rfl) ?_
    refine lv_if_lt (tgt := 35) hx hb dX4_isWay_23 (by decide) (fun c_2 => ?_) (fun c_2 => ?_)
    · refine lv_iconst (v := 0) hx hb dX4_isWay_35 (by decide) ?_
      exact fs_zret C hH rfl () rfl (by simp [fs_bi, fs_short, fs_way, fs_near, c_1, c_2]) dX4_isWay_36
    · refine lv_iload_n hx hb dX4_isWay_26 rfl (lv_at hl 0 rfl) ?_
      refine lv_iconst (v := 5) hx hb dX4_isWay_27 (by decide) ?_
      refine lv_icmp_gt (tgt := 35) hx hb dX4_isWay_28 (by decide) (fun c_3 => ?_) (fun c_3 => ?_)
      · refine lv_iconst (v := 0) hx hb dX4_isWay_35 (by decide) ?_
        exact fs_zret C hH rfl () rfl (by simp [fs_bi, fs_short, fs_way, fs_near, c_1, c_2, c_3]) dX4_isWay_36
      · refine lv_iconst (v := 1) hx hb dX4_isWay_31 (by decide) ?_
        refine lv_goto (tgt := 36) hx hb dX4_isWay_32 (by decide) ?_
        exact fs_zret C hH rfl () rfl (by simp [fs_bi, fs_short, fs_way, fs_near, c_1, c_2, c_3]) dX4_isWay_36
  · refine lv_iload_n hx hb dX4_isWay_5 rfl (lv_at hl 1 rfl) ?_
    refine lv_iload_n hx hb dX4_isWay_6 rfl (lv_at hl 2 rfl) ?_
    refine lv_ineg hx hb dX4_isWay_7 ?_
    refine lv_icmp_lt (tgt := 20) hx hb dX4_isWay_8 (by decide) (fun c_4 => ?_) (fun c_4 => ?_)
    · refine lv_iconst (v := 0) hx hb dX4_isWay_20 (by decide) ?_
      exact fs_zret C hH rfl () rfl (by simp [fs_bi, fs_short, fs_way, fs_near, c_1, c_4]) dX4_isWay_21
    · refine lv_iload_n hx hb dX4_isWay_11 rfl (lv_at hl 1 rfl) ?_
      refine lv_iload_n hx hb dX4_isWay_12 rfl (lv_at hl 2 rfl) ?_
      refine lv_icmp_gt (tgt := 20) hx hb dX4_isWay_13 (by decide) (fun c_5 => ?_) (fun c_5 => ?_)
      · refine lv_iconst (v := 0) hx hb dX4_isWay_20 (by decide) ?_
        exact fs_zret C hH rfl () rfl (by simp [fs_bi, fs_short, fs_way, fs_near, c_1, c_4, c_5]) dX4_isWay_21
      · refine lv_iconst (v := 1) hx hb dX4_isWay_16 (by decide) ?_
        refine lv_goto (tgt := 21) hx hb dX4_isWay_17 (by decide) ?_
        exact fs_zret C hH rfl () rfl (by simp [fs_bi, fs_short, fs_way, fs_near, c_1, c_4, c_5]) dX4_isWay_21
set_option maxHeartbeats 4000000 in
set_option maxRecDepth 100000 in
theorem c_X4_isCoordinate (l : Launch) (X : fs_X) (sz : Nat) (v : Int32)  : fs_M l X yX4_isCoordinate cX4_isCoordinate 1 (some .boolean) ({ frames := 0, cells := 0, slots := 0, locals := 0 }) [.int v] [] sz (fs_Qi X (fun r (_ : Unit) => r = fs_bi (fs_near v)) (fun _ => [])) 0 0 := by
  refine fs_ofW (by decide) (Nat.le_of_ble_eq_true rfl) ?_
  intro p e s m args below meth c A ls C hH hl
  have C : fs_At X A p s m args meth c cX4_isCoordinate 1 (some .boolean) RX4 "isCoordinate" := C
  have hx := C.1
  have hb := C.2.1
  have hown := C.2.2.2.2.1
  have hts := C.2.2.2.2.2.1
  have hl : lv_has ls 1 [(0, .int v)] := hl
  have hH : fs_H X A s [] s.heap [] := hH
  refine lv_iload_n hx hb dX4_isCoordinate_0 rfl (lv_at hl 0 rfl) ?_
  refine lv_ldc (v := (-536870912)) hx hb hown (hts _ mw_288) dX4_isCoordinate_1 ?_
  refine lv_icmp_lt (tgt := 16) hx hb dX4_isCoordinate_3 (by decide) (fun c_1 => ?_) (fun c_1 => ?_)
  · refine lv_iconst (v := 0) hx hb dX4_isCoordinate_16 (by decide) ?_
    exact fs_zret C hH rfl () rfl (by simp [fs_bi, fs_short, fs_way, fs_near, c_1]) dX4_isCoordinate_17
  · refine lv_iload_n hx hb dX4_isCoordinate_6 rfl (lv_at hl 0 rfl) ?_
    refine lv_ldc (v := 536870912) hx hb hown (hts _ mw_289) dX4_isCoordinate_7 ?_
    refine lv_icmp_gt (tgt := 16) hx hb dX4_isCoordinate_9 (by decide) (fun c_2 => ?_) (fun c_2 => ?_)
    · refine lv_iconst (v := 0) hx hb dX4_isCoordinate_16 (by decide) ?_
      exact fs_zret C hH rfl () rfl (by simp [fs_bi, fs_short, fs_way, fs_near, c_1, c_2]) dX4_isCoordinate_17
    · refine lv_iconst (v := 1) hx hb dX4_isCoordinate_12 (by decide) ?_
      refine lv_goto (tgt := 17) hx hb dX4_isCoordinate_13 (by decide) ?_
      exact fs_zret C hH rfl () rfl (by simp [fs_bi, fs_short, fs_way, fs_near, c_1, c_2]) dX4_isCoordinate_17
set_option maxHeartbeats 4000000 in
set_option maxRecDepth 100000 in
theorem c_X4_isPoint (l : Launch) (X : fs_X) (sz : Nat) (x : Int32) (y : Int32)  : fs_M l X yX4_isPoint cX4_isPoint 2 (some .boolean) ({ frames := 1, cells := 0, slots := 0, locals := 20 }) [.int x, .int y] [] sz (fs_Qi X (fun r (_ : Unit) => r = fs_bi (fs_near x ∧ fs_near y)) (fun _ => [])) 0 0 := by
  refine fs_ofW (by decide) (Nat.le_of_ble_eq_true rfl) ?_
  intro p e s m args below meth c A ls C hH hl
  have C : fs_At X A p s m args meth c cX4_isPoint 2 (some .boolean) RX4 "isPoint" := C
  have hx := C.1
  have hb := C.2.1
  have hown := C.2.2.2.2.1
  have hts := C.2.2.2.2.2.1
  have hl : lv_has ls 2 [(0, .int x), (1, .int y)] := hl
  have hH : fs_H X A s [] s.heap [] := hH
  refine lv_iload_n hx hb dX4_isPoint_0 rfl (lv_at hl 0 rfl) ?_
  refine fs_ci C hH (wr := []) [] [] rfl rfl (by decide) (by decide) (fs_rS (rest := []) (As := [.int x]) (n := 1) C hH (wc := []) [] (by decide) rfl (c_X4_isCoordinate l X _ x ) rfl rfl mw_287 mw_285 mw_286 mw_1 (by decide +kernel) ⟨Nat.le_of_ble_eq_true rfl, Nat.le_of_ble_eq_true rfl⟩ rfl hl.1 rfl (Nat.le_of_ble_eq_true rfl) dX4_isPoint_1 ⟨Nat.le_of_ble_eq_true rfl, Nat.le_of_ble_eq_true rfl⟩) (fun r_1 u_2 H locs hr_3 hH => ?_)
  subst hr_3
  have hH : fs_H X A s [] _ _ := hH
  refine lv_if_eq (tgt := 18) hx hb dX4_isPoint_4 (by decide) (fun c_4 => ?_) (fun c_4 => ?_)
  · refine lv_iconst (v := 0) hx hb dX4_isPoint_18 (by decide) ?_
    exact fs_zret C hH rfl () rfl (by simp only [fs_bi_0, fs_bi_nz, Decidable.not_not] at *; simp [fs_bi, *]) dX4_isPoint_19
  · refine lv_iload_n hx hb dX4_isPoint_7 rfl (lv_at hl 1 rfl) ?_
    refine fs_ci C hH (wr := []) [] [] rfl rfl (by decide) (by decide) (fs_rS (rest := []) (As := [.int y]) (n := 1) C hH (wc := []) [] (by decide) rfl (c_X4_isCoordinate l X _ y ) rfl rfl mw_287 mw_285 mw_286 mw_1 (by decide +kernel) ⟨Nat.le_of_ble_eq_true rfl, Nat.le_of_ble_eq_true rfl⟩ rfl hl.1 rfl (Nat.le_of_ble_eq_true rfl) dX4_isPoint_8 ⟨Nat.le_of_ble_eq_true rfl, Nat.le_of_ble_eq_true rfl⟩) (fun r_5 u_6 H locs hr_7 hH => ?_)
    subst hr_7
    have hH : fs_H X A s [] _ _ := hH
    refine lv_if_eq (tgt := 18) hx hb dX4_isPoint_11 (by decide) (fun c_8 => ?_) (fun c_8 => ?_)
    · refine lv_iconst (v := 0) hx hb dX4_isPoint_18 (by decide) ?_
      exact fs_zret C hH rfl () rfl (by simp only [fs_bi_0, fs_bi_nz, Decidable.not_not] at *; simp [fs_bi, *]) dX4_isPoint_19
    · refine lv_iconst (v := 1) hx hb dX4_isPoint_14 (by decide) ?_
      refine lv_goto (tgt := 19) hx hb dX4_isPoint_15 (by decide) ?_
      exact fs_zret C hH rfl () rfl (by simp only [fs_bi_0, fs_bi_nz, Decidable.not_not] at *; simp [fs_bi, *]) dX4_isPoint_19
set_option maxHeartbeats 4000000 in
set_option maxRecDepth 100000 in
theorem c_X4_reckoned (l : Launch) (X : fs_X) (sz : Nat) (way : Int32) (a : Int64) (b : Int64) (bits : Int32)  : fs_M l X yX4_reckoned cX4_reckoned 6 (some .long) ({ frames := 2, cells := 0, slots := 0, locals := 44 }) [.int way, .long a, .long b, .int bits] [] sz (fs_Ql X (fun r (_ : Unit) => r = fs_reck way a b bits) (fun _ => [])) 0 0 := by
  refine fs_ofW (by decide) (Nat.le_of_ble_eq_true rfl) ?_
  intro p e s m args below meth c A ls C hH hl
  have C : fs_At X A p s m args meth c cX4_reckoned 6 (some .long) RX4 "reckoned" := C
  have hx := C.1
  have hb := C.2.1
  have hown := C.2.2.2.2.1
  have hts := C.2.2.2.2.2.1
  have hl : lv_has ls 6 [(0, .int way), (1, .long a), (3, .long b), (5, .int bits)] := hl
  have hH : fs_H X A s [] s.heap [] := hH
  refine lv_iload_n hx hb dX4_reckoned_0 rfl (lv_at hl 0 rfl) ?_
  by_cases sw0 : way = 0
  · refine lv_tableIn (off := 35) (tgt := 36) hx hb dX4_reckoned_1 (by rw [sw0]; decide) (by rw [sw0]; decide) (by rw [sw0]; decide) (by decide) ?_
    refine lv_lload_n hx hb dX4_reckoned_36 rfl (lv_at hl 1 rfl) ?_
    refine lv_lload_n hx hb dX4_reckoned_37 rfl (lv_at hl 2 rfl) ?_
    refine lv_ladd hx hb dX4_reckoned_38 ?_
    exact fs_lret C hH () rfl (by simp [fs_reck, sw0]) dX4_reckoned_39
  by_cases sw1 : way = 1
  · refine lv_tableIn (off := 39) (tgt := 40) hx hb dX4_reckoned_1 (by rw [sw1]; decide) (by rw [sw1]; decide) (by rw [sw1]; decide) (by decide) ?_
    refine lv_lload_n hx hb dX4_reckoned_40 rfl (lv_at hl 1 rfl) ?_
    refine lv_lload_n hx hb dX4_reckoned_41 rfl (lv_at hl 2 rfl) ?_
    refine lv_lsub hx hb dX4_reckoned_42 ?_
    exact fs_lret C hH () rfl (by simp [fs_reck, sw0, sw1]) dX4_reckoned_43
  by_cases sw2 : way = 2
  · refine lv_tableIn (off := 43) (tgt := 44) hx hb dX4_reckoned_1 (by rw [sw2]; decide) (by rw [sw2]; decide) (by rw [sw2]; decide) (by decide) ?_
    refine lv_lload_n hx hb dX4_reckoned_44 rfl (lv_at hl 1 rfl) ?_
    refine lv_lload_n hx hb dX4_reckoned_45 rfl (lv_at hl 2 rfl) ?_
    refine lv_lmul hx hb dX4_reckoned_46 ?_
    refine lv_iload hx hb dX4_reckoned_47 (lv_at hl 3 rfl) ?_
    refine fs_cl C hH (wr := []) [] [] rfl rfl (by decide) (by decide) (fs_rS (rest := []) (As := [.long (a * b), .int bits]) (n := 2) C hH (wc := []) [] (by decide) rfl (c_X4_rounded l X _ (a * b) bits ) rfl rfl mw_81 mw_79 mw_80 mw_1 (by decide +kernel) ⟨Nat.le_of_ble_eq_true rfl, Nat.le_of_ble_eq_true rfl⟩ rfl hl.1 rfl (Nat.le_of_ble_eq_true rfl) dX4_reckoned_49 ⟨Nat.le_of_ble_eq_true rfl, Nat.le_of_ble_eq_true rfl⟩) (fun r_1 u_2 H locs hr_3 hH => ?_)
    subst hr_3
    have hH : fs_H X A s [] _ _ := hH
    exact fs_lret C hH () rfl (by simp [fs_reck, sw0, sw1, sw2]) dX4_reckoned_52
  by_cases sw3 : way = 3
  · refine lv_tableIn (off := 52) (tgt := 53) hx hb dX4_reckoned_1 (by rw [sw3]; decide) (by rw [sw3]; decide) (by rw [sw3]; decide) (by decide) ?_
    refine lv_lload_n hx hb dX4_reckoned_53 rfl (lv_at hl 1 rfl) ?_
    refine lv_lload_n hx hb dX4_reckoned_54 rfl (lv_at hl 2 rfl) ?_
    refine lv_l2i hx hb dX4_reckoned_55 rfl ?_
    refine fs_cl C hH (wr := []) [] [] rfl rfl (by decide) (by decide) (fs_rS (rest := []) (As := [.long a, .int (Int64.toInt32 b)]) (n := 2) C hH (wc := []) [] (by decide) rfl (c_X4_moved l X _ a (Int64.toInt32 b) ) rfl rfl mw_171 mw_169 mw_170 mw_1 (by decide +kernel) ⟨Nat.le_of_ble_eq_true rfl, Nat.le_of_ble_eq_true rfl⟩ rfl hl.1 rfl (Nat.le_of_ble_eq_true rfl) dX4_reckoned_56 ⟨Nat.le_of_ble_eq_true rfl, Nat.le_of_ble_eq_true rfl⟩) (fun r_4 u_5 H locs hr_6 hH => ?_)
    subst hr_6
    have hH : fs_H X A s [] _ _ := hH
    exact fs_lret C hH () rfl (by simp [fs_reck, sw0, sw1, sw2, sw3]) dX4_reckoned_59
  by_cases sw4 : way = 4
  · refine lv_tableIn (off := 59) (tgt := 60) hx hb dX4_reckoned_1 (by rw [sw4]; decide) (by rw [sw4]; decide) (by rw [sw4]; decide) (by decide) ?_
    refine lv_lload_n hx hb dX4_reckoned_60 rfl (lv_at hl 1 rfl) ?_
    refine lv_lneg hx hb dX4_reckoned_61 ?_
    exact fs_lret C hH () rfl (by simp [fs_reck, sw0, sw1, sw2, sw3, sw4]) dX4_reckoned_62
  refine lv_tableOut (tgt := 63) hx hb dX4_reckoned_1 (fs_sw5 sw0 sw1 sw2 sw3 sw4) (by decide) ?_
  refine lv_lload_n hx hb dX4_reckoned_63 rfl (lv_at hl 1 rfl) ?_
  refine fs_cl C hH (wr := []) [] [] rfl rfl (by decide) (by decide) (fs_rS (rest := []) (As := [.long a]) (n := 1) C hH (wc := []) [] (by decide) rfl (c_X4_sizeOf l X _ a ) rfl rfl mw_108 mw_172 mw_107 mw_1 (by decide +kernel) ⟨Nat.le_of_ble_eq_true rfl, Nat.le_of_ble_eq_true rfl⟩ rfl hl.1 rfl (Nat.le_of_ble_eq_true rfl) dX4_reckoned_64 ⟨Nat.le_of_ble_eq_true rfl, Nat.le_of_ble_eq_true rfl⟩) (fun r_7 u_8 H locs hr_9 hH => ?_)
  subst hr_9
  have hH : fs_H X A s [] _ _ := hH
  exact fs_lret C hH () rfl (by simp [fs_reck, sw0, sw1, sw2, sw3, sw4]) dX4_reckoned_67
set_option maxHeartbeats 4000000 in
set_option maxRecDepth 100000 in
theorem c_X5_isIn (l : Launch) (X : fs_X) (sz : Nat) (v : Int32) (lo : Int32) (hi : Int32)  : fs_M l X yX5_isIn cX5_isIn 3 (some .boolean) ({ frames := 0, cells := 0, slots := 0, locals := 0 }) [.int v, .int lo, .int hi] [] sz (fs_Qi X (fun r (_ : Unit) => r = fs_bi (¬ v < lo ∧ ¬ hi < v)) (fun _ => [])) 0 0 := by
  refine fs_ofW (by decide) (Nat.le_of_ble_eq_true rfl) ?_
  intro p e s m args below meth c A ls C hH hl
  have C : fs_At X A p s m args meth c cX5_isIn 3 (some .boolean) RX5 "isIn" := C
  have hx := C.1
  have hb := C.2.1
  have hown := C.2.2.2.2.1
  have hts := C.2.2.2.2.2.1
  have hl : lv_has ls 3 [(0, .int v), (1, .int lo), (2, .int hi)] := hl
  have hH : fs_H X A s [] s.heap [] := hH
  refine lv_iload_n hx hb dX5_isIn_0 rfl (lv_at hl 0 rfl) ?_
  refine lv_iload_n hx hb dX5_isIn_1 rfl (lv_at hl 1 rfl) ?_
  refine lv_icmp_lt (tgt := 14) hx hb dX5_isIn_2 (by decide) (fun c_1 => ?_) (fun c_1 => ?_)
  · refine lv_iconst (v := 0) hx hb dX5_isIn_14 (by decide) ?_
    exact fs_zret C hH rfl () rfl (by simp [fs_bi, fs_short, fs_way, fs_near, c_1]) dX5_isIn_15
  · refine lv_iload_n hx hb dX5_isIn_5 rfl (lv_at hl 0 rfl) ?_
    refine lv_iload_n hx hb dX5_isIn_6 rfl (lv_at hl 2 rfl) ?_
    refine lv_icmp_gt (tgt := 14) hx hb dX5_isIn_7 (by decide) (fun c_2 => ?_) (fun c_2 => ?_)
    · refine lv_iconst (v := 0) hx hb dX5_isIn_14 (by decide) ?_
      exact fs_zret C hH rfl () rfl (by simp [fs_bi, fs_short, fs_way, fs_near, c_1, c_2]) dX5_isIn_15
    · refine lv_iconst (v := 1) hx hb dX5_isIn_10 (by decide) ?_
      refine lv_goto (tgt := 15) hx hb dX5_isIn_11 (by decide) ?_
      exact fs_zret C hH rfl () rfl (by simp [fs_bi, fs_short, fs_way, fs_near, c_1, c_2]) dX5_isIn_15
set_option maxHeartbeats 4000000 in
set_option maxRecDepth 100000 in
theorem c_X5_isShort (l : Launch) (X : fs_X) (sz : Nat) (v : Int32)  : fs_M l X yX5_isShort cX5_isShort 1 (some .boolean) ({ frames := 0, cells := 0, slots := 0, locals := 0 }) [.int v] [] sz (fs_Qi X (fun r (_ : Unit) => r = fs_bi (fs_short v)) (fun _ => [])) 0 0 := by
  refine fs_ofW (by decide) (Nat.le_of_ble_eq_true rfl) ?_
  intro p e s m args below meth c A ls C hH hl
  have C : fs_At X A p s m args meth c cX5_isShort 1 (some .boolean) RX5 "isShort" := C
  have hx := C.1
  have hb := C.2.1
  have hown := C.2.2.2.2.1
  have hts := C.2.2.2.2.2.1
  have hl : lv_has ls 1 [(0, .int v)] := hl
  have hH : fs_H X A s [] s.heap [] := hH
  refine lv_iload_n hx hb dX5_isShort_0 rfl (lv_at hl 0 rfl) ?_
  refine lv_sipush (v := (-32768)) hx hb dX5_isShort_1 (by decide) ?_
  refine lv_icmp_lt (tgt := 18) hx hb dX5_isShort_4 (by decide) (fun c_1 => ?_) (fun c_1 => ?_)
  · refine lv_iconst (v := 0) hx hb dX5_isShort_18 (by decide) ?_
    exact fs_zret C hH rfl () rfl (by simp [fs_bi, fs_short, fs_way, fs_near, c_1]) dX5_isShort_19
  · refine lv_iload_n hx hb dX5_isShort_7 rfl (lv_at hl 0 rfl) ?_
    refine lv_sipush (v := 32767) hx hb dX5_isShort_8 (by decide) ?_
    refine lv_icmp_gt (tgt := 18) hx hb dX5_isShort_11 (by decide) (fun c_2 => ?_) (fun c_2 => ?_)
    · refine lv_iconst (v := 0) hx hb dX5_isShort_18 (by decide) ?_
      exact fs_zret C hH rfl () rfl (by simp [fs_bi, fs_short, fs_way, fs_near, c_1, c_2]) dX5_isShort_19
    · refine lv_iconst (v := 1) hx hb dX5_isShort_14 (by decide) ?_
      refine lv_goto (tgt := 19) hx hb dX5_isShort_15 (by decide) ?_
      exact fs_zret C hH rfl () rfl (by simp [fs_bi, fs_short, fs_way, fs_near, c_1, c_2]) dX5_isShort_19
set_option maxHeartbeats 4000000 in
set_option maxRecDepth 100000 in
theorem c_X5_isNear (l : Launch) (X : fs_X) (sz : Nat) (v : Int32)  : fs_M l X yX5_isNear cX5_isNear 1 (some .boolean) ({ frames := 0, cells := 0, slots := 0, locals := 0 }) [.int v] [] sz (fs_Qi X (fun r (_ : Unit) => r = fs_bi (fs_near v)) (fun _ => [])) 0 0 := by
  refine fs_ofW (by decide) (Nat.le_of_ble_eq_true rfl) ?_
  intro p e s m args below meth c A ls C hH hl
  have C : fs_At X A p s m args meth c cX5_isNear 1 (some .boolean) RX5 "isNear" := C
  have hx := C.1
  have hb := C.2.1
  have hown := C.2.2.2.2.1
  have hts := C.2.2.2.2.2.1
  have hl : lv_has ls 1 [(0, .int v)] := hl
  have hH : fs_H X A s [] s.heap [] := hH
  refine lv_iload_n hx hb dX5_isNear_0 rfl (lv_at hl 0 rfl) ?_
  refine lv_ldc (v := (-536870912)) hx hb hown (hts _ mw_470) dX5_isNear_1 ?_
  refine lv_icmp_lt (tgt := 16) hx hb dX5_isNear_3 (by decide) (fun c_1 => ?_) (fun c_1 => ?_)
  · refine lv_iconst (v := 0) hx hb dX5_isNear_16 (by decide) ?_
    exact fs_zret C hH rfl () rfl (by simp [fs_bi, fs_short, fs_way, fs_near, c_1]) dX5_isNear_17
  · refine lv_iload_n hx hb dX5_isNear_6 rfl (lv_at hl 0 rfl) ?_
    refine lv_ldc (v := 536870912) hx hb hown (hts _ mw_471) dX5_isNear_7 ?_
    refine lv_icmp_gt (tgt := 16) hx hb dX5_isNear_9 (by decide) (fun c_2 => ?_) (fun c_2 => ?_)
    · refine lv_iconst (v := 0) hx hb dX5_isNear_16 (by decide) ?_
      exact fs_zret C hH rfl () rfl (by simp [fs_bi, fs_short, fs_way, fs_near, c_1, c_2]) dX5_isNear_17
    · refine lv_iconst (v := 1) hx hb dX5_isNear_12 (by decide) ?_
      refine lv_goto (tgt := 17) hx hb dX5_isNear_13 (by decide) ?_
      exact fs_zret C hH rfl () rfl (by simp [fs_bi, fs_short, fs_way, fs_near, c_1, c_2]) dX5_isNear_17
set_option maxHeartbeats 4000000 in
set_option maxRecDepth 100000 in
theorem c_X5_rounded (l : Launch) (X : fs_X) (sz : Nat) (v : Int64) (k : Int32)  : fs_M l X yX5_rounded cX5_rounded 3 (some .long) ({ frames := 0, cells := 0, slots := 0, locals := 0 }) [.long v, .int k] [] sz (fs_Ql X (fun r (_ : Unit) => r = if k = 0 then v else fs_rd v k) (fun _ => [])) 0 0 := by
  refine fs_ofW (by decide) (Nat.le_of_ble_eq_true rfl) ?_
  intro p e s m args below meth c A ls C hH hl
  have C : fs_At X A p s m args meth c cX5_rounded 3 (some .long) RX5 "rounded" := C
  have hx := C.1
  have hb := C.2.1
  have hown := C.2.2.2.2.1
  have hts := C.2.2.2.2.2.1
  have hl : lv_has ls 3 [(0, .long v), (2, .int k)] := hl
  have hH : fs_H X A s [] s.heap [] := hH
  refine lv_iload_n hx hb dX5_rounded_0 rfl (lv_at hl 1 rfl) ?_
  refine lv_if_ne (tgt := 8) hx hb dX5_rounded_1 (by decide) (fun c_1 => ?_) (fun c_1 => ?_)
  · refine lv_lload_n hx hb dX5_rounded_8 rfl (lv_at hl 0 rfl) ?_
    refine lv_lconst (v := 1) hx hb dX5_rounded_9 (by decide) ?_
    refine lv_iload_n hx hb dX5_rounded_10 rfl (lv_at hl 1 rfl) ?_
    refine lv_iconst (v := 1) hx hb dX5_rounded_11 (by decide) ?_
    refine lv_isub hx hb dX5_rounded_12 ?_
    refine lv_lshl hx hb dX5_rounded_13 rfl ?_
    refine lv_ladd hx hb dX5_rounded_14 ?_
    refine lv_iload_n hx hb dX5_rounded_15 rfl (lv_at hl 1 rfl) ?_
    refine lv_lshr hx hb dX5_rounded_16 rfl ?_
    exact fs_lret C hH () rfl (by simp [fs_rd, c_1]) dX5_rounded_17
  · refine lv_lload_n hx hb dX5_rounded_4 rfl (lv_at hl 0 rfl) ?_
    refine lv_goto (tgt := 17) hx hb dX5_rounded_5 (by decide) ?_
    exact fs_lret C hH () rfl (by simp [fs_rd, c_1]) dX5_rounded_17
set_option maxHeartbeats 4000000 in
set_option maxRecDepth 100000 in
theorem c_X5_within (l : Launch) (X : fs_X) (sz : Nat) (v : Int64) (m0 : Int64)  : fs_M l X yX5_within cX5_within 4 (some .int) ({ frames := 0, cells := 0, slots := 0, locals := 0 }) [.long v, .long m0] [] sz (fs_Qi X (fun r (_ : Unit) => r = fs_sat v m0) (fun _ => [])) 0 0 := by
  refine fs_ofW (by decide) (Nat.le_of_ble_eq_true rfl) ?_
  intro p e s m args below meth c A ls C hH hl
  have C : fs_At X A p s m args meth c cX5_within 4 (some .int) RX5 "within" := C
  have hx := C.1
  have hb := C.2.1
  have hown := C.2.2.2.2.1
  have hts := C.2.2.2.2.2.1
  have hl : lv_has ls 4 [(0, .long v), (2, .long m0)] := hl
  have hH : fs_H X A s [] s.heap [] := hH
  refine lv_lload_n hx hb dX5_within_0 rfl (lv_at hl 0 rfl) ?_
  refine lv_lload_n hx hb dX5_within_1 rfl (lv_at hl 1 rfl) ?_
  refine fs_lle (tgt := 10) hx hb dX5_within_2 dX5_within_3 (by decide) (fun c_1 => ?_) (fun c_1 => ?_)
  · refine lv_lload_n hx hb dX5_within_10 rfl (lv_at hl 0 rfl) ?_
    refine lv_lload_n hx hb dX5_within_11 rfl (lv_at hl 1 rfl) ?_
    refine lv_lneg hx hb dX5_within_12 ?_
    refine lv_lconst (v := 1) hx hb dX5_within_13 (by decide) ?_
    refine lv_lsub hx hb dX5_within_14 ?_
    refine fs_lge (tgt := 26) hx hb dX5_within_15 dX5_within_16 (by decide) (fun c_2 => ?_) (fun c_2 => ?_)
    · refine lv_lload_n hx hb dX5_within_26 rfl (lv_at hl 0 rfl) ?_
      refine lv_l2i hx hb dX5_within_27 rfl ?_
      exact fs_iret C hH () rfl (by simp [fs_sat, c_1, c_2]) dX5_within_28
    · refine lv_lload_n hx hb dX5_within_19 rfl (lv_at hl 1 rfl) ?_
      refine lv_lneg hx hb dX5_within_20 ?_
      refine lv_lconst (v := 1) hx hb dX5_within_21 (by decide) ?_
      refine lv_lsub hx hb dX5_within_22 ?_
      refine lv_goto (tgt := 27) hx hb dX5_within_23 (by decide) ?_
      refine lv_l2i hx hb dX5_within_27 rfl ?_
      exact fs_iret C hH () rfl (by simp [fs_sat, c_1, c_2]) dX5_within_28
  · refine lv_lload_n hx hb dX5_within_6 rfl (lv_at hl 1 rfl) ?_
    refine lv_goto (tgt := 27) hx hb dX5_within_7 (by decide) ?_
    refine lv_l2i hx hb dX5_within_27 rfl ?_
    exact fs_iret C hH () rfl (by simp [fs_sat, c_1]) dX5_within_28
