set_option maxHeartbeats 4000000 in
set_option maxRecDepth 100000 in
theorem c_L_work (l : Launch) (X : fs_X) (sz : Nat) (h0 : Nat) (nt : Nat) (ns : Nat) (nb : Nat) (nu : Nat) (way : Int32) (a : Int32) (b : Int32) (qo : Nat) (fo : Nat → Int64)  (hl9 : l.stackTraces = false) : fs_ML l X yL_work cL_work 6 (some .int) [(0, 12, 15, 13)] ({ frames := 7, cells := 1, slots := 6, locals := 104 }) [.ref h0, .int way, .int a, .int b, .ref qo] [(h0, .inr (4, [.ref nt, .ref ns, .ref nb, .ref nu])), (qo, fs_al X 1 fo)] sz (fs_Qi X (fun r (u : Bool) => (u = true → r = 0 ∧ ((fs_way way b 31))) ∧ (u = false → r = 1 ∧ ¬ ((fs_way way b 31)))) (fun u => match u with | true => [(h0, .inr (4, [.ref nt, .ref ns, .ref nb, .ref nu])), (qo, fs_al X 1 (vp_updL fo 0 (Int32.toInt64 (fs_sat (fs_reck way (Int32.toInt64 a) (Int32.toInt64 b) 31) 2147483647))))] | false => [(h0, .inr (4, [.ref nt, .ref ns, .ref nb, .ref nu])), (qo, fs_al X 1 fo)])) 1 6 := by
  refine fs_ofL (by decide) (Nat.le_of_ble_eq_true rfl) ?_
  intro p e s m args below meth c A ls C hH hl ht9
  have C : fs_At X A p s m args meth c cL_work 6 (some .int) RL "work" := C
  have hx := C.1
  have hb := C.2.1
  have hown := C.2.2.2.2.1
  have hts := C.2.2.2.2.2.1
  have hl : lv_has ls 6 [(0, .ref h0), (1, .int way), (2, .int a), (3, .int b), (4, .ref qo)] := hl
  have hH : fs_H X A s [(h0, .inr (4, [.ref nt, .ref ns, .ref nb, .ref nu])), (qo, fs_al X 1 fo)] s.heap [] := hH
  refine lv_aload hx hb dL_work_0 (lv_at hl 4 rfl) ?_
  refine lv_iconst (v := 0) hx hb dL_work_2 (by decide) ?_
  refine lv_aload_n hx hb dL_work_3 rfl (lv_at hl 0 rfl) ?_
  refine lv_iload_n hx hb dL_work_4 rfl (lv_at hl 1 rfl) ?_
  refine lv_iload_n hx hb dL_work_5 rfl (lv_at hl 2 rfl) ?_
  refine lv_iload_n hx hb dL_work_6 rfl (lv_at hl 3 rfl) ?_
  refine fs_xci C hH (wr := [(qo, fs_al X 1 fo)]) [0] [1] rfl rfl (by decide) (by decide) (by decide) ⟨0, 12, 15, 13⟩ ht9 (by decide) (by decide) mw_119 (fs_rVX (rest := [.int 0, .ref qo]) (As := [.int way, .int a, .int b]) (n := 3) (q0 := 0) (ci := 4) C hH (wc := [(h0, .inr (4, [.ref nt, .ref ns, .ref nb, .ref nu]))]) [0] (by decide) rfl (c_X4_work l X _ h0 nt ns nb nu way a b  hl9) rfl rfl rfl rfl mw_123 mw_120 mw_121 mw_122 mw_1 (by decide +kernel) ⟨Nat.le_of_ble_eq_true rfl, Nat.le_of_ble_eq_true rfl⟩ rfl hl.1 rfl (Nat.le_of_ble_eq_true rfl) dL_work_7 ⟨Nat.le_of_ble_eq_true rfl, Nat.le_of_ble_eq_true rfl⟩) (fun q9_5 H locs hbad_4 hH => ?_) (fun r_1 u_2 H locs hr_3 hH => ?_)
  · have hH : fs_H X A s [(h0, .inr (4, [.ref nt, .ref ns, .ref nb, .ref nu])), (qo, fs_al X 1 fo)] _ _ := hH.sub [1, 0] (by decide) rfl
    refine lv_astore (lv' := [(5, .ref q9_5), (0, .ref h0), (1, .int way), (2, .int a), (3, .int b), (4, .ref qo)]) hx hb dL_work_15 hl (by decide) rfl (fun ls hl => ?_)
    refine lv_iconst (v := 1) hx hb dL_work_17 (by decide) ?_
    exact fs_iret C hH false rfl (⟨fun h => (by cases h), fun _ => ⟨rfl, hbad_4⟩⟩) dL_work_18
  obtain ⟨hr_3, hok_6⟩ := hr_3
  subst hr_3
  have hH : fs_H X A s [(h0, .inr (4, [.ref nt, .ref ns, .ref nb, .ref nu])), (qo, fs_al X 1 fo)] _ _ := hH.sub [1, 0] (by decide) rfl
  refine lv_i2l hx hb dL_work_10 rfl ?_
  refine fs_last C hH 1 rfl (k := 0) rfl (by decide) (by decide) (ws' := [(h0, .inr (4, [.ref nt, .ref ns, .ref nb, .ref nu])), (qo, fs_al X 1 (vp_updL fo 0 (Int32.toInt64 (fs_sat (fs_reck way (Int32.toInt64 a) (Int32.toInt64 b) 31) 2147483647))))]) rfl dL_work_11 (fun H locs hH => ?_)
  refine lv_goto (tgt := 19) hx hb dL_work_12 (by decide) ?_
  refine lv_iconst (v := 0) hx hb dL_work_19 (by decide) ?_
  exact fs_iret C hH true rfl (⟨fun _ => ⟨rfl, hok_6⟩, fun h => (by cases h)⟩) dL_work_20
set_option maxHeartbeats 4000000 in
set_option maxRecDepth 100000 in
theorem c_L_small (l : Launch) (X : fs_X) (sz : Nat) (h0 : Nat) (nt : Nat) (ns : Nat) (nb : Nat) (nu : Nat) (way : Int32) (a : Int32) (b : Int32) (qo : Nat) (fo : Nat → Int64)  (hl9 : l.stackTraces = false) : fs_ML l X yL_small cL_small 6 (some .int) [(0, 12, 15, 13)] ({ frames := 7, cells := 1, slots := 6, locals := 104 }) [.ref h0, .int way, .int a, .int b, .ref qo] [(h0, .inr (4, [.ref nt, .ref ns, .ref nb, .ref nu])), (qo, fs_al X 1 fo)] sz (fs_Qi X (fun r (u : Bool) => (u = true → r = 0 ∧ ((fs_way way b 15 ∧ fs_short a ∧ (¬ 2 < way → fs_short b)))) ∧ (u = false → r = 1 ∧ ¬ ((fs_way way b 15 ∧ fs_short a ∧ (¬ 2 < way → fs_short b))))) (fun u => match u with | true => [(h0, .inr (4, [.ref nt, .ref ns, .ref nb, .ref nu])), (qo, fs_al X 1 (vp_updL fo 0 (Int32.toInt64 (fs_sat (fs_reck way (Int32.toInt64 a) (Int32.toInt64 b) 15) 32767))))] | false => [(h0, .inr (4, [.ref nt, .ref ns, .ref nb, .ref nu])), (qo, fs_al X 1 fo)])) 1 6 := by
  refine fs_ofL (by decide) (Nat.le_of_ble_eq_true rfl) ?_
  intro p e s m args below meth c A ls C hH hl ht9
  have C : fs_At X A p s m args meth c cL_small 6 (some .int) RL "small" := C
  have hx := C.1
  have hb := C.2.1
  have hown := C.2.2.2.2.1
  have hts := C.2.2.2.2.2.1
  have hl : lv_has ls 6 [(0, .ref h0), (1, .int way), (2, .int a), (3, .int b), (4, .ref qo)] := hl
  have hH : fs_H X A s [(h0, .inr (4, [.ref nt, .ref ns, .ref nb, .ref nu])), (qo, fs_al X 1 fo)] s.heap [] := hH
  refine lv_aload hx hb dL_small_0 (lv_at hl 4 rfl) ?_
  refine lv_iconst (v := 0) hx hb dL_small_2 (by decide) ?_
  refine lv_aload_n hx hb dL_small_3 rfl (lv_at hl 0 rfl) ?_
  refine lv_iload_n hx hb dL_small_4 rfl (lv_at hl 1 rfl) ?_
  refine lv_iload_n hx hb dL_small_5 rfl (lv_at hl 2 rfl) ?_
  refine lv_iload_n hx hb dL_small_6 rfl (lv_at hl 3 rfl) ?_
  refine fs_xci C hH (wr := [(qo, fs_al X 1 fo)]) [0] [1] rfl rfl (by decide) (by decide) (by decide) ⟨0, 12, 15, 13⟩ ht9 (by decide) (by decide) mw_119 (fs_rVX (rest := [.int 0, .ref qo]) (As := [.int way, .int a, .int b]) (n := 3) (q0 := 0) (ci := 4) C hH (wc := [(h0, .inr (4, [.ref nt, .ref ns, .ref nb, .ref nu]))]) [0] (by decide) rfl (c_X4_small l X _ h0 nt ns nb nu way a b  hl9) rfl rfl rfl rfl mw_184 mw_181 mw_182 mw_183 mw_1 (by decide +kernel) ⟨Nat.le_of_ble_eq_true rfl, Nat.le_of_ble_eq_true rfl⟩ rfl hl.1 rfl (Nat.le_of_ble_eq_true rfl) dL_small_7 ⟨Nat.le_of_ble_eq_true rfl, Nat.le_of_ble_eq_true rfl⟩) (fun q9_5 H locs hbad_4 hH => ?_) (fun r_1 u_2 H locs hr_3 hH => ?_)
  · have hH : fs_H X A s [(h0, .inr (4, [.ref nt, .ref ns, .ref nb, .ref nu])), (qo, fs_al X 1 fo)] _ _ := hH.sub [1, 0] (by decide) rfl
    refine lv_astore (lv' := [(5, .ref q9_5), (0, .ref h0), (1, .int way), (2, .int a), (3, .int b), (4, .ref qo)]) hx hb dL_small_15 hl (by decide) rfl (fun ls hl => ?_)
    refine lv_iconst (v := 1) hx hb dL_small_17 (by decide) ?_
    exact fs_iret C hH false rfl (⟨fun h => (by cases h), fun _ => ⟨rfl, hbad_4⟩⟩) dL_small_18
  obtain ⟨hr_3, hok_6⟩ := hr_3
  subst hr_3
  have hH : fs_H X A s [(h0, .inr (4, [.ref nt, .ref ns, .ref nb, .ref nu])), (qo, fs_al X 1 fo)] _ _ := hH.sub [1, 0] (by decide) rfl
  refine lv_i2l hx hb dL_small_10 rfl ?_
  refine fs_last C hH 1 rfl (k := 0) rfl (by decide) (by decide) (ws' := [(h0, .inr (4, [.ref nt, .ref ns, .ref nb, .ref nu])), (qo, fs_al X 1 (vp_updL fo 0 (Int32.toInt64 (fs_sat (fs_reck way (Int32.toInt64 a) (Int32.toInt64 b) 15) 32767))))]) rfl dL_small_11 (fun H locs hH => ?_)
  refine lv_goto (tgt := 19) hx hb dL_small_12 (by decide) ?_
  refine lv_iconst (v := 0) hx hb dL_small_19 (by decide) ?_
  exact fs_iret C hH true rfl (⟨fun _ => ⟨rfl, hok_6⟩, fun h => (by cases h)⟩) dL_small_20
set_option maxHeartbeats 4000000 in
set_option maxRecDepth 100000 in
theorem c_L_filter (l : Launch) (X : fs_X) (sz : Nat) (h0 : Nat) (nt : Nat) (ns : Nat) (nb : Nat) (nu : Nat) (q1 : Nat) (q2 : Nat) (ff : Nat → Int32) (gg : Nat → Int32) (x : Int32) (qo : Nat) (fo : Nat → Int64)  (hl9 : l.stackTraces = false) : fs_ML l X yL_filter cL_filter 4 (some .int) [(0, 9, 12, 13)] ({ frames := 7, cells := 1, slots := 6, locals := 102 }) [.ref h0, .int x, .ref qo] [(h0, .inr (4, [.ref nt, .ref ns, .ref nb, .ref nu])), (nt, .inr (2, [.ref q1, .ref q2])), (q1, fs_ai X 16 ff), (q2, fs_ai X 16 gg), (qo, fs_al X 1 fo)] sz (fs_Qi X (fun r (u : Bool) => (u = true → r = 0 ∧ ((fs_short x))) ∧ (u = false → r = 1 ∧ ¬ ((fs_short x)))) (fun u => match u with | true => [(h0, .inr (4, [.ref nt, .ref ns, .ref nb, .ref nu])), (nt, .inr (2, [.ref q1, .ref q2])), (q1, fs_ai X 16 ff), (q2, fs_ai X 16 (fs_shift gg x)), (qo, fs_al X 1 (vp_updL fo 0 (Int32.toInt64 (fs_sat (fs_rd (fs_dot ff (fs_shift gg x) 16) 15) 32767))))] | false => [(h0, .inr (4, [.ref nt, .ref ns, .ref nb, .ref nu])), (nt, .inr (2, [.ref q1, .ref q2])), (q1, fs_ai X 16 ff), (q2, fs_ai X 16 gg), (qo, fs_al X 1 fo)])) 1 6 := by
  refine fs_ofL (by decide) (Nat.le_of_ble_eq_true rfl) ?_
  intro p e s m args below meth c A ls C hH hl ht9
  have C : fs_At X A p s m args meth c cL_filter 4 (some .int) RL "filter" := C
  have hx := C.1
  have hb := C.2.1
  have hown := C.2.2.2.2.1
  have hts := C.2.2.2.2.2.1
  have hl : lv_has ls 4 [(0, .ref h0), (1, .int x), (2, .ref qo)] := hl
  have hH : fs_H X A s [(h0, .inr (4, [.ref nt, .ref ns, .ref nb, .ref nu])), (nt, .inr (2, [.ref q1, .ref q2])), (q1, fs_ai X 16 ff), (q2, fs_ai X 16 gg), (qo, fs_al X 1 fo)] s.heap [] := hH
  refine lv_aload_n hx hb dL_filter_0 rfl (lv_at hl 2 rfl) ?_
  refine lv_iconst (v := 0) hx hb dL_filter_1 (by decide) ?_
  refine lv_aload_n hx hb dL_filter_2 rfl (lv_at hl 0 rfl) ?_
  refine lv_iload_n hx hb dL_filter_3 rfl (lv_at hl 1 rfl) ?_
  refine fs_xci C hH (wr := [(qo, fs_al X 1 fo)]) [0, 1, 2, 3] [4] rfl rfl (by decide) (by decide) (by decide) ⟨0, 9, 12, 13⟩ ht9 (by decide) (by decide) mw_119 (fs_rVX (rest := [.int 0, .ref qo]) (As := [.int x]) (n := 1) (q0 := 0) (ci := 4) C hH (wc := [(h0, .inr (4, [.ref nt, .ref ns, .ref nb, .ref nu])), (nt, .inr (2, [.ref q1, .ref q2])), (q1, fs_ai X 16 ff), (q2, fs_ai X 16 gg)]) [0, 1, 2, 3] (by decide) rfl (c_X4_filter l X _ h0 nt ns nb nu q1 q2 ff gg x  hl9) rfl rfl rfl rfl mw_204 mw_201 mw_202 mw_203 mw_1 (by decide +kernel) ⟨Nat.le_of_ble_eq_true rfl, Nat.le_of_ble_eq_true rfl⟩ rfl hl.1 rfl (Nat.le_of_ble_eq_true rfl) dL_filter_4 ⟨Nat.le_of_ble_eq_true rfl, Nat.le_of_ble_eq_true rfl⟩) (fun q9_5 H locs hbad_4 hH => ?_) (fun r_1 u_2 H locs hr_3 hH => ?_)
  · have hH : fs_H X A s [(h0, .inr (4, [.ref nt, .ref ns, .ref nb, .ref nu])), (nt, .inr (2, [.ref q1, .ref q2])), (q1, fs_ai X 16 ff), (q2, fs_ai X 16 gg), (qo, fs_al X 1 fo)] _ _ := hH.sub [1, 2, 3, 4, 0] (by decide) rfl
    refine lv_astore_n (lv' := [(3, .ref q9_5), (0, .ref h0), (1, .int x), (2, .ref qo)]) hx hb dL_filter_12 rfl hl (by decide) rfl (fun ls hl => ?_)
    refine lv_iconst (v := 1) hx hb dL_filter_13 (by decide) ?_
    exact fs_iret C hH false rfl (⟨fun h => (by cases h), fun _ => ⟨rfl, hbad_4⟩⟩) dL_filter_14
  obtain ⟨hr_3, hok_6⟩ := hr_3
  subst hr_3
  have hH : fs_H X A s [(h0, .inr (4, [.ref nt, .ref ns, .ref nb, .ref nu])), (nt, .inr (2, [.ref q1, .ref q2])), (q1, fs_ai X 16 ff), (q2, fs_ai X 16 (fs_shift gg x)), (qo, fs_al X 1 fo)] _ _ := hH.sub [1, 2, 3, 4, 0] (by decide) rfl
  refine lv_i2l hx hb dL_filter_7 rfl ?_
  refine fs_last C hH 4 rfl (k := 0) rfl (by decide) (by decide) (ws' := [(h0, .inr (4, [.ref nt, .ref ns, .ref nb, .ref nu])), (nt, .inr (2, [.ref q1, .ref q2])), (q1, fs_ai X 16 ff), (q2, fs_ai X 16 (fs_shift gg x)), (qo, fs_al X 1 (vp_updL fo 0 (Int32.toInt64 (fs_sat (fs_rd (fs_dot ff (fs_shift gg x) 16) 15) 32767))))]) rfl dL_filter_8 (fun H locs hH => ?_)
  refine lv_goto (tgt := 15) hx hb dL_filter_9 (by decide) ?_
  refine lv_iconst (v := 0) hx hb dL_filter_15 (by decide) ?_
  exact fs_iret C hH true rfl (⟨fun _ => ⟨rfl, hok_6⟩, fun h => (by cases h)⟩) dL_filter_16
set_option maxHeartbeats 4000000 in
set_option maxRecDepth 100000 in
theorem c_L_chain (l : Launch) (X : fs_X) (sz : Nat) (h0 : Nat) (nt : Nat) (ns : Nat) (nb : Nat) (nu : Nat) (s0 : Nat) (k0 : Nat) (f0 : Nat → Int32) (a0 : Int32) (b0 : Int32) (c0 : Int32) (d0 : Int32) (s1 : Nat) (k1 : Nat) (f1 : Nat → Int32) (a1 : Int32) (b1 : Int32) (c1 : Int32) (d1 : Int32) (s2 : Nat) (k2 : Nat) (f2 : Nat → Int32) (a2 : Int32) (b2 : Int32) (c2 : Int32) (d2 : Int32) (s3 : Nat) (k3 : Nat) (f3 : Nat → Int32) (a3 : Int32) (b3 : Int32) (c3 : Int32) (d3 : Int32) (x : Int32) (qo : Nat) (fo : Nat → Int64)  (hl9 : l.stackTraces = false) : fs_ML l X yL_chain cL_chain 4 (some .int) [(0, 9, 12, 13)] ({ frames := 7, cells := 1, slots := 6, locals := 104 }) [.ref h0, .int x, .ref qo] [(h0, .inr (4, [.ref nt, .ref ns, .ref nb, .ref nu])), (ns, fs_aq X 4 (fs_sts s0 s1 s2 s3)), (s0, .inr (1, [.ref k0, .int a0, .int b0, .int c0, .int d0])), (k0, fs_ai X 5 f0), (s1, .inr (1, [.ref k1, .int a1, .int b1, .int c1, .int d1])), (k1, fs_ai X 5 f1), (s2, .inr (1, [.ref k2, .int a2, .int b2, .int c2, .int d2])), (k2, fs_ai X 5 f2), (s3, .inr (1, [.ref k3, .int a3, .int b3, .int c3, .int d3])), (k3, fs_ai X 5 f3), (qo, fs_al X 1 fo)] sz (fs_Qi X (fun r (u : Bool) => (u = true → r = 0 ∧ ((fs_short x))) ∧ (u = false → r = 1 ∧ ¬ ((fs_short x)))) (fun u => match u with | true => [(h0, .inr (4, [.ref nt, .ref ns, .ref nb, .ref nu])), (ns, fs_aq X 4 (fs_sts s0 s1 s2 s3)), (s0, .inr (1, [.ref k0, .int x, .int a0, .int (fs_st f0 a0 b0 c0 d0 x), .int c0])), (k0, fs_ai X 5 f0), (s1, .inr (1, [.ref k1, .int (fs_st f0 a0 b0 c0 d0 x), .int a1, .int (fs_st f1 a1 b1 c1 d1 (fs_st f0 a0 b0 c0 d0 x)), .int c1])), (k1, fs_ai X 5 f1), (s2, .inr (1, [.ref k2, .int (fs_st f1 a1 b1 c1 d1 (fs_st f0 a0 b0 c0 d0 x)), .int a2, .int (fs_st f2 a2 b2 c2 d2 (fs_st f1 a1 b1 c1 d1 (fs_st f0 a0 b0 c0 d0 x))), .int c2])), (k2, fs_ai X 5 f2), (s3, .inr (1, [.ref k3, .int (fs_st f2 a2 b2 c2 d2 (fs_st f1 a1 b1 c1 d1 (fs_st f0 a0 b0 c0 d0 x))), .int a3, .int (fs_st f3 a3 b3 c3 d3 (fs_st f2 a2 b2 c2 d2 (fs_st f1 a1 b1 c1 d1 (fs_st f0 a0 b0 c0 d0 x)))), .int c3])), (k3, fs_ai X 5 f3), (qo, fs_al X 1 (vp_updL fo 0 (Int32.toInt64 (fs_st f3 a3 b3 c3 d3 (fs_st f2 a2 b2 c2 d2 (fs_st f1 a1 b1 c1 d1 (fs_st f0 a0 b0 c0 d0 x)))))))] | false => [(h0, .inr (4, [.ref nt, .ref ns, .ref nb, .ref nu])), (ns, fs_aq X 4 (fs_sts s0 s1 s2 s3)), (s0, .inr (1, [.ref k0, .int a0, .int b0, .int c0, .int d0])), (k0, fs_ai X 5 f0), (s1, .inr (1, [.ref k1, .int a1, .int b1, .int c1, .int d1])), (k1, fs_ai X 5 f1), (s2, .inr (1, [.ref k2, .int a2, .int b2, .int c2, .int d2])), (k2, fs_ai X 5 f2), (s3, .inr (1, [.ref k3, .int a3, .int b3, .int c3, .int d3])), (k3, fs_ai X 5 f3), (qo, fs_al X 1 fo)])) 1 6 := by
  refine fs_ofL (by decide) (Nat.le_of_ble_eq_true rfl) ?_
  intro p e s m args below meth c A ls C hH hl ht9
  have C : fs_At X A p s m args meth c cL_chain 4 (some .int) RL "chain" := C
  have hx := C.1
  have hb := C.2.1
  have hown := C.2.2.2.2.1
  have hts := C.2.2.2.2.2.1
  have hl : lv_has ls 4 [(0, .ref h0), (1, .int x), (2, .ref qo)] := hl
  have hH : fs_H X A s [(h0, .inr (4, [.ref nt, .ref ns, .ref nb, .ref nu])), (ns, fs_aq X 4 (fs_sts s0 s1 s2 s3)), (s0, .inr (1, [.ref k0, .int a0, .int b0, .int c0, .int d0])), (k0, fs_ai X 5 f0), (s1, .inr (1, [.ref k1, .int a1, .int b1, .int c1, .int d1])), (k1, fs_ai X 5 f1), (s2, .inr (1, [.ref k2, .int a2, .int b2, .int c2, .int d2])), (k2, fs_ai X 5 f2), (s3, .inr (1, [.ref k3, .int a3, .int b3, .int c3, .int d3])), (k3, fs_ai X 5 f3), (qo, fs_al X 1 fo)] s.heap [] := hH
  refine lv_aload_n hx hb dL_chain_0 rfl (lv_at hl 2 rfl) ?_
  refine lv_iconst (v := 0) hx hb dL_chain_1 (by decide) ?_
  refine lv_aload_n hx hb dL_chain_2 rfl (lv_at hl 0 rfl) ?_
  refine lv_iload_n hx hb dL_chain_3 rfl (lv_at hl 1 rfl) ?_
  refine fs_xci C hH (wr := [(qo, fs_al X 1 fo)]) [0, 1, 2, 3, 4, 5, 6, 7, 8, 9] [10] rfl rfl (by decide) (by decide) (by decide) ⟨0, 9, 12, 13⟩ ht9 (by decide) (by decide) mw_119 (fs_rVX (rest := [.int 0, .ref qo]) (As := [.int x]) (n := 1) (q0 := 0) (ci := 4) C hH (wc := [(h0, .inr (4, [.ref nt, .ref ns, .ref nb, .ref nu])), (ns, fs_aq X 4 (fs_sts s0 s1 s2 s3)), (s0, .inr (1, [.ref k0, .int a0, .int b0, .int c0, .int d0])), (k0, fs_ai X 5 f0), (s1, .inr (1, [.ref k1, .int a1, .int b1, .int c1, .int d1])), (k1, fs_ai X 5 f1), (s2, .inr (1, [.ref k2, .int a2, .int b2, .int c2, .int d2])), (k2, fs_ai X 5 f2), (s3, .inr (1, [.ref k3, .int a3, .int b3, .int c3, .int d3])), (k3, fs_ai X 5 f3)]) [0, 1, 2, 3, 4, 5, 6, 7, 8, 9] (by decide) rfl (c_X4_chain l X _ h0 nt ns nb nu s0 k0 f0 a0 b0 c0 d0 s1 k1 f1 a1 b1 c1 d1 s2 k2 f2 a2 b2 c2 d2 s3 k3 f3 a3 b3 c3 d3 x  hl9) rfl rfl rfl rfl mw_223 mw_220 mw_221 mw_222 mw_1 (by decide +kernel) ⟨Nat.le_of_ble_eq_true rfl, Nat.le_of_ble_eq_true rfl⟩ rfl hl.1 rfl (Nat.le_of_ble_eq_true rfl) dL_chain_4 ⟨Nat.le_of_ble_eq_true rfl, Nat.le_of_ble_eq_true rfl⟩) (fun q9_5 H locs hbad_4 hH => ?_) (fun r_1 u_2 H locs hr_3 hH => ?_)
  · have hH : fs_H X A s [(h0, .inr (4, [.ref nt, .ref ns, .ref nb, .ref nu])), (ns, fs_aq X 4 (fs_sts s0 s1 s2 s3)), (s0, .inr (1, [.ref k0, .int a0, .int b0, .int c0, .int d0])), (k0, fs_ai X 5 f0), (s1, .inr (1, [.ref k1, .int a1, .int b1, .int c1, .int d1])), (k1, fs_ai X 5 f1), (s2, .inr (1, [.ref k2, .int a2, .int b2, .int c2, .int d2])), (k2, fs_ai X 5 f2), (s3, .inr (1, [.ref k3, .int a3, .int b3, .int c3, .int d3])), (k3, fs_ai X 5 f3), (qo, fs_al X 1 fo)] _ _ := hH.sub [1, 2, 3, 4, 5, 6, 7, 8, 9, 10, 0] (by decide) rfl
    refine lv_astore_n (lv' := [(3, .ref q9_5), (0, .ref h0), (1, .int x), (2, .ref qo)]) hx hb dL_chain_12 rfl hl (by decide) rfl (fun ls hl => ?_)
    refine lv_iconst (v := 1) hx hb dL_chain_13 (by decide) ?_
    exact fs_iret C hH false rfl (⟨fun h => (by cases h), fun _ => ⟨rfl, hbad_4⟩⟩) dL_chain_14
  obtain ⟨hr_3, hok_6⟩ := hr_3
  subst hr_3
  have hH : fs_H X A s [(h0, .inr (4, [.ref nt, .ref ns, .ref nb, .ref nu])), (ns, fs_aq X 4 (fs_sts s0 s1 s2 s3)), (s0, .inr (1, [.ref k0, .int x, .int a0, .int (fs_st f0 a0 b0 c0 d0 x), .int c0])), (k0, fs_ai X 5 f0), (s1, .inr (1, [.ref k1, .int (fs_st f0 a0 b0 c0 d0 x), .int a1, .int (fs_st f1 a1 b1 c1 d1 (fs_st f0 a0 b0 c0 d0 x)), .int c1])), (k1, fs_ai X 5 f1), (s2, .inr (1, [.ref k2, .int (fs_st f1 a1 b1 c1 d1 (fs_st f0 a0 b0 c0 d0 x)), .int a2, .int (fs_st f2 a2 b2 c2 d2 (fs_st f1 a1 b1 c1 d1 (fs_st f0 a0 b0 c0 d0 x))), .int c2])), (k2, fs_ai X 5 f2), (s3, .inr (1, [.ref k3, .int (fs_st f2 a2 b2 c2 d2 (fs_st f1 a1 b1 c1 d1 (fs_st f0 a0 b0 c0 d0 x))), .int a3, .int (fs_st f3 a3 b3 c3 d3 (fs_st f2 a2 b2 c2 d2 (fs_st f1 a1 b1 c1 d1 (fs_st f0 a0 b0 c0 d0 x)))), .int c3])), (k3, fs_ai X 5 f3), (qo, fs_al X 1 fo)] _ _ := hH.sub [1, 2, 3, 4, 5, 6, 7, 8, 9, 10, 0] (by decide) rfl
  refine lv_i2l hx hb dL_chain_7 rfl ?_
  refine fs_last C hH 10 rfl (k := 0) rfl (by decide) (by decide) (ws' := [(h0, .inr (4, [.ref nt, .ref ns, .ref nb, .ref nu])), (ns, fs_aq X 4 (fs_sts s0 s1 s2 s3)), (s0, .inr (1, [.ref k0, .int x, .int a0, .int (fs_st f0 a0 b0 c0 d0 x), .int c0])), (k0, fs_ai X 5 f0), (s1, .inr (1, [.ref k1, .int (fs_st f0 a0 b0 c0 d0 x), .int a1, .int (fs_st f1 a1 b1 c1 d1 (fs_st f0 a0 b0 c0 d0 x)), .int c1])), (k1, fs_ai X 5 f1), (s2, .inr (1, [.ref k2, .int (fs_st f1 a1 b1 c1 d1 (fs_st f0 a0 b0 c0 d0 x)), .int a2, .int (fs_st f2 a2 b2 c2 d2 (fs_st f1 a1 b1 c1 d1 (fs_st f0 a0 b0 c0 d0 x))), .int c2])), (k2, fs_ai X 5 f2), (s3, .inr (1, [.ref k3, .int (fs_st f2 a2 b2 c2 d2 (fs_st f1 a1 b1 c1 d1 (fs_st f0 a0 b0 c0 d0 x))), .int a3, .int (fs_st f3 a3 b3 c3 d3 (fs_st f2 a2 b2 c2 d2 (fs_st f1 a1 b1 c1 d1 (fs_st f0 a0 b0 c0 d0 x)))), .int c3])), (k3, fs_ai X 5 f3), (qo, fs_al X 1 (vp_updL fo 0 (Int32.toInt64 (fs_st f3 a3 b3 c3 d3 (fs_st f2 a2 b2 c2 d2 (fs_st f1 a1 b1 c1 d1 (fs_st f0 a0 b0 c0 d0 x)))))))]) rfl dL_chain_8 (fun H locs hH => ?_)
  refine lv_goto (tgt := 15) hx hb dL_chain_9 (by decide) ?_
  refine lv_iconst (v := 0) hx hb dL_chain_15 (by decide) ?_
  exact fs_iret C hH true rfl (⟨fun _ => ⟨rfl, hok_6⟩, fun h => (by cases h)⟩) dL_chain_16
set_option maxHeartbeats 4000000 in
set_option maxRecDepth 100000 in
theorem c_L_transform (l : Launch) (X : fs_X) (sz : Nat) (h0 : Nat) (nt : Nat) (ns : Nat) (nb : Nat) (nu : Nat) (qr : Nat) (qi : Nat) (S : fs_K) (m0 : Int32) (back : Int32) (qo : Nat) (fo : Nat → Int64)  (hl9 : l.stackTraces = false) : fs_ML l X yL_transform cL_transform 5 (some .int) [(0, 10, 13, 13)] ({ frames := 7, cells := 1, slots := 6, locals := 122 }) [.ref h0, .int m0, .int back, .ref qo] [(h0, .inr (4, [.ref nt, .ref ns, .ref nb, .ref nu])), (nb, .inr (0, [.ref qr, .ref qi, .int S.2.2])), (qr, fs_ai X 32 S.1), (qi, fs_ai X 32 S.2.1), (qo, fs_al X 1 fo)] sz (fs_Qi X (fun r (u : Bool) => (u = true → r = 0 ∧ ((¬ m0 < 0 ∧ m0 ≤ 5))) ∧ (u = false → r = 1 ∧ ¬ ((¬ m0 < 0 ∧ m0 ≤ 5)))) (fun u => match u with | true => [(h0, .inr (4, [.ref nt, .ref ns, .ref nb, .ref nu])), (nb, .inr (0, [.ref qr, .ref qi, .int ((fs_tr (Int32.toNatClampNeg m0) back S (Int32.toNatClampNeg m0)).2.2)])), (qr, fs_ai X 32 ((fs_tr (Int32.toNatClampNeg m0) back S (Int32.toNatClampNeg m0)).1)), (qi, fs_ai X 32 ((fs_tr (Int32.toNatClampNeg m0) back S (Int32.toNatClampNeg m0)).2.1)), (qo, fs_al X 1 (vp_updL fo 0 (Int32.toInt64 ((fs_tr (Int32.toNatClampNeg m0) back S (Int32.toNatClampNeg m0)).2.2))))] | false => [(h0, .inr (4, [.ref nt, .ref ns, .ref nb, .ref nu])), (nb, .inr (0, [.ref qr, .ref qi, .int S.2.2])), (qr, fs_ai X 32 S.1), (qi, fs_ai X 32 S.2.1), (qo, fs_al X 1 fo)])) 1 6 := by
  refine fs_ofL (by decide) (Nat.le_of_ble_eq_true rfl) ?_
  intro p e s m args below meth c A ls C hH hl ht9
  have C : fs_At X A p s m args meth c cL_transform 5 (some .int) RL "transform" := C
  have hx := C.1
  have hb := C.2.1
  have hown := C.2.2.2.2.1
  have hts := C.2.2.2.2.2.1
  have hl : lv_has ls 5 [(0, .ref h0), (1, .int m0), (2, .int back), (3, .ref qo)] := hl
  have hH : fs_H X A s [(h0, .inr (4, [.ref nt, .ref ns, .ref nb, .ref nu])), (nb, .inr (0, [.ref qr, .ref qi, .int S.2.2])), (qr, fs_ai X 32 S.1), (qi, fs_ai X 32 S.2.1), (qo, fs_al X 1 fo)] s.heap [] := hH
  refine lv_aload_n hx hb dL_transform_0 rfl (lv_at hl 3 rfl) ?_
  refine lv_iconst (v := 0) hx hb dL_transform_1 (by decide) ?_
  refine lv_aload_n hx hb dL_transform_2 rfl (lv_at hl 0 rfl) ?_
  refine lv_iload_n hx hb dL_transform_3 rfl (lv_at hl 1 rfl) ?_
  refine lv_iload_n hx hb dL_transform_4 rfl (lv_at hl 2 rfl) ?_
  refine fs_xci C hH (wr := [(qo, fs_al X 1 fo)]) [0, 1, 2, 3] [4] rfl rfl (by decide) (by decide) (by decide) ⟨0, 10, 13, 13⟩ ht9 (by decide) (by decide) mw_119 (fs_rVX (rest := [.int 0, .ref qo]) (As := [.int m0, .int back]) (n := 2) (q0 := 0) (ci := 4) C hH (wc := [(h0, .inr (4, [.ref nt, .ref ns, .ref nb, .ref nu])), (nb, .inr (0, [.ref qr, .ref qi, .int S.2.2])), (qr, fs_ai X 32 S.1), (qi, fs_ai X 32 S.2.1)]) [0, 1, 2, 3] (by decide) rfl (c_X4_transform l X _ h0 nt ns nb nu qr qi S m0 back  hl9) rfl rfl rfl rfl mw_239 mw_236 mw_237 mw_238 mw_1 (by decide +kernel) ⟨Nat.le_of_ble_eq_true rfl, Nat.le_of_ble_eq_true rfl⟩ rfl hl.1 rfl (Nat.le_of_ble_eq_true rfl) dL_transform_5 ⟨Nat.le_of_ble_eq_true rfl, Nat.le_of_ble_eq_true rfl⟩) (fun q9_5 H locs hbad_4 hH => ?_) (fun r_1 u_2 H locs hr_3 hH => ?_)
  · have hH : fs_H X A s [(h0, .inr (4, [.ref nt, .ref ns, .ref nb, .ref nu])), (nb, .inr (0, [.ref qr, .ref qi, .int S.2.2])), (qr, fs_ai X 32 S.1), (qi, fs_ai X 32 S.2.1), (qo, fs_al X 1 fo)] _ _ := hH.sub [1, 2, 3, 4, 0] (by decide) rfl
    refine lv_astore (lv' := [(4, .ref q9_5), (0, .ref h0), (1, .int m0), (2, .int back), (3, .ref qo)]) hx hb dL_transform_13 hl (by decide) rfl (fun ls hl => ?_)
    refine lv_iconst (v := 1) hx hb dL_transform_15 (by decide) ?_
    exact fs_iret C hH false rfl (⟨fun h => (by cases h), fun _ => ⟨rfl, hbad_4⟩⟩) dL_transform_16
  obtain ⟨hr_3, hok_6⟩ := hr_3
  subst hr_3
  have hH : fs_H X A s [(h0, .inr (4, [.ref nt, .ref ns, .ref nb, .ref nu])), (nb, .inr (0, [.ref qr, .ref qi, .int ((fs_tr (Int32.toNatClampNeg m0) back S (Int32.toNatClampNeg m0)).2.2)])), (qr, fs_ai X 32 ((fs_tr (Int32.toNatClampNeg m0) back S (Int32.toNatClampNeg m0)).1)), (qi, fs_ai X 32 ((fs_tr (Int32.toNatClampNeg m0) back S (Int32.toNatClampNeg m0)).2.1)), (qo, fs_al X 1 fo)] _ _ := hH.sub [1, 2, 3, 4, 0] (by decide) rfl
  refine lv_i2l hx hb dL_transform_8 rfl ?_
  refine fs_last C hH 4 rfl (k := 0) rfl (by decide) (by decide) (ws' := [(h0, .inr (4, [.ref nt, .ref ns, .ref nb, .ref nu])), (nb, .inr (0, [.ref qr, .ref qi, .int ((fs_tr (Int32.toNatClampNeg m0) back S (Int32.toNatClampNeg m0)).2.2)])), (qr, fs_ai X 32 ((fs_tr (Int32.toNatClampNeg m0) back S (Int32.toNatClampNeg m0)).1)), (qi, fs_ai X 32 ((fs_tr (Int32.toNatClampNeg m0) back S (Int32.toNatClampNeg m0)).2.1)), (qo, fs_al X 1 (vp_updL fo 0 (Int32.toInt64 ((fs_tr (Int32.toNatClampNeg m0) back S (Int32.toNatClampNeg m0)).2.2))))]) rfl dL_transform_9 (fun H locs hH => ?_)
  refine lv_goto (tgt := 17) hx hb dL_transform_10 (by decide) ?_
  refine lv_iconst (v := 0) hx hb dL_transform_17 (by decide) ?_
  exact fs_iret C hH true rfl (⟨fun _ => ⟨rfl, hok_6⟩, fun h => (by cases h)⟩) dL_transform_18
set_option maxHeartbeats 4000000 in
set_option maxRecDepth 100000 in
theorem c_L_get (l : Launch) (X : fs_X) (sz : Nat) (h0 : Nat) (nt : Nat) (ns : Nat) (nb : Nat) (nu : Nat) (qr : Nat) (qi : Nat) (S : fs_K) (p0 : Int32) (sec : Int32) (qo : Nat) (fo : Nat → Int64)  (hl9 : l.stackTraces = false) : fs_ML l X yL_get cL_get 5 (some .int) [(0, 10, 13, 13)] ({ frames := 7, cells := 1, slots := 6, locals := 103 }) [.ref h0, .int p0, .int sec, .ref qo] [(h0, .inr (4, [.ref nt, .ref ns, .ref nb, .ref nu])), (nb, .inr (0, [.ref qr, .ref qi, .int S.2.2])), (qr, fs_ai X 32 S.1), (qi, fs_ai X 32 S.2.1), (qo, fs_al X 1 fo)] sz (fs_Qi X (fun r (u : Bool) => (u = true → r = 0 ∧ ((¬ p0 < 0 ∧ ¬ 32 ≤ p0))) ∧ (u = false → r = 1 ∧ ¬ ((¬ p0 < 0 ∧ ¬ 32 ≤ p0)))) (fun u => match u with | true => [(h0, .inr (4, [.ref nt, .ref ns, .ref nb, .ref nu])), (nb, .inr (0, [.ref qr, .ref qi, .int S.2.2])), (qr, fs_ai X 32 S.1), (qi, fs_ai X 32 S.2.1), (qo, fs_al X 1 (vp_updL fo 0 (Int32.toInt64 (if sec = 0 then S.1 (Int32.toNatClampNeg p0) else S.2.1 (Int32.toNatClampNeg p0)))))] | false => [(h0, .inr (4, [.ref nt, .ref ns, .ref nb, .ref nu])), (nb, .inr (0, [.ref qr, .ref qi, .int S.2.2])), (qr, fs_ai X 32 S.1), (qi, fs_ai X 32 S.2.1), (qo, fs_al X 1 fo)])) 1 6 := by
  refine fs_ofL (by decide) (Nat.le_of_ble_eq_true rfl) ?_
  intro p e s m args below meth c A ls C hH hl ht9
  have C : fs_At X A p s m args meth c cL_get 5 (some .int) RL "get" := C
  have hx := C.1
  have hb := C.2.1
  have hown := C.2.2.2.2.1
  have hts := C.2.2.2.2.2.1
  have hl : lv_has ls 5 [(0, .ref h0), (1, .int p0), (2, .int sec), (3, .ref qo)] := hl
  have hH : fs_H X A s [(h0, .inr (4, [.ref nt, .ref ns, .ref nb, .ref nu])), (nb, .inr (0, [.ref qr, .ref qi, .int S.2.2])), (qr, fs_ai X 32 S.1), (qi, fs_ai X 32 S.2.1), (qo, fs_al X 1 fo)] s.heap [] := hH
  refine lv_aload_n hx hb dL_get_0 rfl (lv_at hl 3 rfl) ?_
  refine lv_iconst (v := 0) hx hb dL_get_1 (by decide) ?_
  refine lv_aload_n hx hb dL_get_2 rfl (lv_at hl 0 rfl) ?_
  refine lv_iload_n hx hb dL_get_3 rfl (lv_at hl 1 rfl) ?_
  refine lv_iload_n hx hb dL_get_4 rfl (lv_at hl 2 rfl) ?_
  refine fs_xci C hH (wr := [(qo, fs_al X 1 fo)]) [0, 1, 2, 3] [4] rfl rfl (by decide) (by decide) (by decide) ⟨0, 10, 13, 13⟩ ht9 (by decide) (by decide) mw_119 (fs_rVX (rest := [.int 0, .ref qo]) (As := [.int p0, .int sec]) (n := 2) (q0 := 0) (ci := 4) C hH (wc := [(h0, .inr (4, [.ref nt, .ref ns, .ref nb, .ref nu])), (nb, .inr (0, [.ref qr, .ref qi, .int S.2.2])), (qr, fs_ai X 32 S.1), (qi, fs_ai X 32 S.2.1)]) [0, 1, 2, 3] (by decide) rfl (c_X4_get l X _ h0 nt ns nb nu qr qi S p0 sec  hl9) rfl rfl rfl rfl mw_274 mw_271 mw_272 mw_273 mw_1 (by decide +kernel) ⟨Nat.le_of_ble_eq_true rfl, Nat.le_of_ble_eq_true rfl⟩ rfl hl.1 rfl (Nat.le_of_ble_eq_true rfl) dL_get_5 ⟨Nat.le_of_ble_eq_true rfl, Nat.le_of_ble_eq_true rfl⟩) (fun q9_5 H locs hbad_4 hH => ?_) (fun r_1 u_2 H locs hr_3 hH => ?_)
  · have hH : fs_H X A s [(h0, .inr (4, [.ref nt, .ref ns, .ref nb, .ref nu])), (nb, .inr (0, [.ref qr, .ref qi, .int S.2.2])), (qr, fs_ai X 32 S.1), (qi, fs_ai X 32 S.2.1), (qo, fs_al X 1 fo)] _ _ := hH.sub [1, 2, 3, 4, 0] (by decide) rfl
    refine lv_astore (lv' := [(4, .ref q9_5), (0, .ref h0), (1, .int p0), (2, .int sec), (3, .ref qo)]) hx hb dL_get_13 hl (by decide) rfl (fun ls hl => ?_)
    refine lv_iconst (v := 1) hx hb dL_get_15 (by decide) ?_
    exact fs_iret C hH false rfl (⟨fun h => (by cases h), fun _ => ⟨rfl, hbad_4⟩⟩) dL_get_16
  obtain ⟨hr_3, hok_6⟩ := hr_3
  subst hr_3
  have hH : fs_H X A s [(h0, .inr (4, [.ref nt, .ref ns, .ref nb, .ref nu])), (nb, .inr (0, [.ref qr, .ref qi, .int S.2.2])), (qr, fs_ai X 32 S.1), (qi, fs_ai X 32 S.2.1), (qo, fs_al X 1 fo)] _ _ := hH.sub [1, 2, 3, 4, 0] (by decide) rfl
  refine lv_i2l hx hb dL_get_8 rfl ?_
  refine fs_last C hH 4 rfl (k := 0) rfl (by decide) (by decide) (ws' := [(h0, .inr (4, [.ref nt, .ref ns, .ref nb, .ref nu])), (nb, .inr (0, [.ref qr, .ref qi, .int S.2.2])), (qr, fs_ai X 32 S.1), (qi, fs_ai X 32 S.2.1), (qo, fs_al X 1 (vp_updL fo 0 (Int32.toInt64 (if sec = 0 then S.1 (Int32.toNatClampNeg p0) else S.2.1 (Int32.toNatClampNeg p0)))))]) rfl dL_get_9 (fun H locs hH => ?_)
  refine lv_goto (tgt := 17) hx hb dL_get_10 (by decide) ?_
  refine lv_iconst (v := 0) hx hb dL_get_17 (by decide) ?_
  exact fs_iret C hH true rfl (⟨fun _ => ⟨rfl, hok_6⟩, fun h => (by cases h)⟩) dL_get_18
set_option maxHeartbeats 4000000 in
set_option maxRecDepth 100000 in
theorem c_L_angle (l : Launch) (X : fs_X) (sz : Nat) (h0 : Nat) (nt : Nat) (ns : Nat) (nb : Nat) (nu : Nat) (t : fs_T) (x : Int32) (y : Int32) (qo : Nat) (fo : Nat → Int64)  (hl9 : l.stackTraces = false) : fs_ML l X yL_angle cL_angle 5 (some .int) [(0, 10, 13, 13)] ({ frames := 7, cells := 1, slots := 6, locals := 103 }) [.ref h0, .int x, .int y, .ref qo] [(h0, .inr (4, [.ref nt, .ref ns, .ref nb, .ref nu])), (nu, .inr (3, [.long t.1, .long t.2.1, .long t.2.2])), (qo, fs_al X 1 fo)] sz (fs_Qi X (fun r (u : Option fs_T) => (∀ w9, u = some w9 → r = 0 ∧ ((fs_near x ∧ fs_near y))) ∧ (u = none → r = 1 ∧ ¬ ((fs_near x ∧ fs_near y)))) (fun u => match u with | some w9 => [(h0, .inr (4, [.ref nt, .ref ns, .ref nb, .ref nu])), (nu, .inr (3, [.long w9.1, .long w9.2.1, .long w9.2.2])), (qo, fs_al X 1 (vp_updL fo 0 (Int32.toInt64 (fs_ang x y))))] | none => [(h0, .inr (4, [.ref nt, .ref ns, .ref nb, .ref nu])), (nu, .inr (3, [.long t.1, .long t.2.1, .long t.2.2])), (qo, fs_al X 1 fo)])) 1 6 := by
  refine fs_ofL (by decide) (Nat.le_of_ble_eq_true rfl) ?_
  intro p e s m args below meth c A ls C hH hl ht9
  have C : fs_At X A p s m args meth c cL_angle 5 (some .int) RL "angle" := C
  have hx := C.1
  have hb := C.2.1
  have hown := C.2.2.2.2.1
  have hts := C.2.2.2.2.2.1
  have hl : lv_has ls 5 [(0, .ref h0), (1, .int x), (2, .int y), (3, .ref qo)] := hl
  have hH : fs_H X A s [(h0, .inr (4, [.ref nt, .ref ns, .ref nb, .ref nu])), (nu, .inr (3, [.long t.1, .long t.2.1, .long t.2.2])), (qo, fs_al X 1 fo)] s.heap [] := hH
  refine lv_aload_n hx hb dL_angle_0 rfl (lv_at hl 3 rfl) ?_
  refine lv_iconst (v := 0) hx hb dL_angle_1 (by decide) ?_
  refine lv_aload_n hx hb dL_angle_2 rfl (lv_at hl 0 rfl) ?_
  refine lv_iload_n hx hb dL_angle_3 rfl (lv_at hl 1 rfl) ?_
  refine lv_iload_n hx hb dL_angle_4 rfl (lv_at hl 2 rfl) ?_
  refine fs_xci C hH (wr := [(qo, fs_al X 1 fo)]) [0, 1] [2] rfl rfl (by decide) (by decide) (by decide) ⟨0, 10, 13, 13⟩ ht9 (by decide) (by decide) mw_119 (fs_rVX (rest := [.int 0, .ref qo]) (As := [.int x, .int y]) (n := 2) (q0 := 0) (ci := 4) C hH (wc := [(h0, .inr (4, [.ref nt, .ref ns, .ref nb, .ref nu])), (nu, .inr (3, [.long t.1, .long t.2.1, .long t.2.2]))]) [0, 1] (by decide) rfl (c_X4_angle l X _ h0 nt ns nb nu t x y  hl9) rfl rfl rfl rfl mw_281 mw_278 mw_279 mw_280 mw_1 (by decide +kernel) ⟨Nat.le_of_ble_eq_true rfl, Nat.le_of_ble_eq_true rfl⟩ rfl hl.1 rfl (Nat.le_of_ble_eq_true rfl) dL_angle_5 ⟨Nat.le_of_ble_eq_true rfl, Nat.le_of_ble_eq_true rfl⟩) (fun q9_5 H locs hbad_4 hH => ?_) (fun r_1 u_2 H locs hr_3 hH => ?_)
  · have hH : fs_H X A s [(h0, .inr (4, [.ref nt, .ref ns, .ref nb, .ref nu])), (nu, .inr (3, [.long t.1, .long t.2.1, .long t.2.2])), (qo, fs_al X 1 fo)] _ _ := hH.sub [1, 2, 0] (by decide) rfl
    refine lv_astore (lv' := [(4, .ref q9_5), (0, .ref h0), (1, .int x), (2, .int y), (3, .ref qo)]) hx hb dL_angle_13 hl (by decide) rfl (fun ls hl => ?_)
    refine lv_iconst (v := 1) hx hb dL_angle_15 (by decide) ?_
    exact fs_iret C hH none rfl (⟨fun _ h => (by cases h), fun _ => ⟨rfl, hbad_4⟩⟩) dL_angle_16
  obtain ⟨hr_3, hok_6⟩ := hr_3
  subst hr_3
  have hH : fs_H X A s [(h0, .inr (4, [.ref nt, .ref ns, .ref nb, .ref nu])), (nu, .inr (3, [.long u_2.1, .long u_2.2.1, .long u_2.2.2])), (qo, fs_al X 1 fo)] _ _ := hH.sub [1, 2, 0] (by decide) rfl
  refine lv_i2l hx hb dL_angle_8 rfl ?_
  refine fs_last C hH 2 rfl (k := 0) rfl (by decide) (by decide) (ws' := [(h0, .inr (4, [.ref nt, .ref ns, .ref nb, .ref nu])), (nu, .inr (3, [.long u_2.1, .long u_2.2.1, .long u_2.2.2])), (qo, fs_al X 1 (vp_updL fo 0 (Int32.toInt64 (fs_ang x y))))]) rfl dL_angle_9 (fun H locs hH => ?_)
  refine lv_goto (tgt := 17) hx hb dL_angle_10 (by decide) ?_
  refine lv_iconst (v := 0) hx hb dL_angle_17 (by decide) ?_
  exact fs_iret C hH (some u_2) rfl (⟨fun _ _ => ⟨rfl, hok_6⟩, fun h => (by cases h)⟩) dL_angle_18
set_option maxHeartbeats 4000000 in
set_option maxRecDepth 100000 in
theorem c_L_length (l : Launch) (X : fs_X) (sz : Nat) (h0 : Nat) (nt : Nat) (ns : Nat) (nb : Nat) (nu : Nat) (t : fs_T) (x : Int32) (y : Int32) (qo : Nat) (fo : Nat → Int64)  (hl9 : l.stackTraces = false) : fs_ML l X yL_length cL_length 5 (some .int) [(0, 10, 13, 13)] ({ frames := 7, cells := 1, slots := 6, locals := 103 }) [.ref h0, .int x, .int y, .ref qo] [(h0, .inr (4, [.ref nt, .ref ns, .ref nb, .ref nu])), (nu, .inr (3, [.long t.1, .long t.2.1, .long t.2.2])), (qo, fs_al X 1 fo)] sz (fs_Qi X (fun r (u : Option fs_T) => (∀ w9, u = some w9 → r = 0 ∧ ((fs_near x ∧ fs_near y))) ∧ (u = none → r = 1 ∧ ¬ ((fs_near x ∧ fs_near y)))) (fun u => match u with | some w9 => [(h0, .inr (4, [.ref nt, .ref ns, .ref nb, .ref nu])), (nu, .inr (3, [.long w9.1, .long w9.2.1, .long w9.2.2])), (qo, fs_al X 1 (vp_updL fo 0 (Int32.toInt64 (fs_len x y))))] | none => [(h0, .inr (4, [.ref nt, .ref ns, .ref nb, .ref nu])), (nu, .inr (3, [.long t.1, .long t.2.1, .long t.2.2])), (qo, fs_al X 1 fo)])) 1 6 := by
  refine fs_ofL (by decide) (Nat.le_of_ble_eq_true rfl) ?_
  intro p e s m args below meth c A ls C hH hl ht9
  have C : fs_At X A p s m args meth c cL_length 5 (some .int) RL "length" := C
  have hx := C.1
  have hb := C.2.1
  have hown := C.2.2.2.2.1
  have hts := C.2.2.2.2.2.1
  have hl : lv_has ls 5 [(0, .ref h0), (1, .int x), (2, .int y), (3, .ref qo)] := hl
  have hH : fs_H X A s [(h0, .inr (4, [.ref nt, .ref ns, .ref nb, .ref nu])), (nu, .inr (3, [.long t.1, .long t.2.1, .long t.2.2])), (qo, fs_al X 1 fo)] s.heap [] := hH
  refine lv_aload_n hx hb dL_length_0 rfl (lv_at hl 3 rfl) ?_
  refine lv_iconst (v := 0) hx hb dL_length_1 (by decide) ?_
  refine lv_aload_n hx hb dL_length_2 rfl (lv_at hl 0 rfl) ?_
  refine lv_iload_n hx hb dL_length_3 rfl (lv_at hl 1 rfl) ?_
  refine lv_iload_n hx hb dL_length_4 rfl (lv_at hl 2 rfl) ?_
  refine fs_xci C hH (wr := [(qo, fs_al X 1 fo)]) [0, 1] [2] rfl rfl (by decide) (by decide) (by decide) ⟨0, 10, 13, 13⟩ ht9 (by decide) (by decide) mw_119 (fs_rVX (rest := [.int 0, .ref qo]) (As := [.int x, .int y]) (n := 2) (q0 := 0) (ci := 4) C hH (wc := [(h0, .inr (4, [.ref nt, .ref ns, .ref nb, .ref nu])), (nu, .inr (3, [.long t.1, .long t.2.1, .long t.2.2]))]) [0, 1] (by decide) rfl (c_X4_length l X _ h0 nt ns nb nu t x y  hl9) rfl rfl rfl rfl mw_299 mw_296 mw_297 mw_298 mw_1 (by decide +kernel) ⟨Nat.le_of_ble_eq_true rfl, Nat.le_of_ble_eq_true rfl⟩ rfl hl.1 rfl (Nat.le_of_ble_eq_true rfl) dL_length_5 ⟨Nat.le_of_ble_eq_true rfl, Nat.le_of_ble_eq_true rfl⟩) (fun q9_5 H locs hbad_4 hH => ?_) (fun r_1 u_2 H locs hr_3 hH => ?_)
  · have hH : fs_H X A s [(h0, .inr (4, [.ref nt, .ref ns, .ref nb, .ref nu])), (nu, .inr (3, [.long t.1, .long t.2.1, .long t.2.2])), (qo, fs_al X 1 fo)] _ _ := hH.sub [1, 2, 0] (by decide) rfl
    refine lv_astore (lv' := [(4, .ref q9_5), (0, .ref h0), (1, .int x), (2, .int y), (3, .ref qo)]) hx hb dL_length_13 hl (by decide) rfl (fun ls hl => ?_)
    refine lv_iconst (v := 1) hx hb dL_length_15 (by decide) ?_
    exact fs_iret C hH none rfl (⟨fun _ h => (by cases h), fun _ => ⟨rfl, hbad_4⟩⟩) dL_length_16
  obtain ⟨hr_3, hok_6⟩ := hr_3
  subst hr_3
  have hH : fs_H X A s [(h0, .inr (4, [.ref nt, .ref ns, .ref nb, .ref nu])), (nu, .inr (3, [.long u_2.1, .long u_2.2.1, .long u_2.2.2])), (qo, fs_al X 1 fo)] _ _ := hH.sub [1, 2, 0] (by decide) rfl
  refine lv_i2l hx hb dL_length_8 rfl ?_
  refine fs_last C hH 2 rfl (k := 0) rfl (by decide) (by decide) (ws' := [(h0, .inr (4, [.ref nt, .ref ns, .ref nb, .ref nu])), (nu, .inr (3, [.long u_2.1, .long u_2.2.1, .long u_2.2.2])), (qo, fs_al X 1 (vp_updL fo 0 (Int32.toInt64 (fs_len x y))))]) rfl dL_length_9 (fun H locs hH => ?_)
  refine lv_goto (tgt := 17) hx hb dL_length_10 (by decide) ?_
  refine lv_iconst (v := 0) hx hb dL_length_17 (by decide) ?_
  exact fs_iret C hH (some u_2) rfl (⟨fun _ _ => ⟨rfl, hok_6⟩, fun h => (by cases h)⟩) dL_length_18
set_option maxHeartbeats 4000000 in
set_option maxRecDepth 100000 in
theorem c_L_tap (l : Launch) (X : fs_X) (sz : Nat) (h0 : Nat) (nt : Nat) (ns : Nat) (nb : Nat) (nu : Nat) (q1 : Nat) (q2 : Nat) (ff : Nat → Int32) (k : Int32) (v : Int32)  (hl9 : l.stackTraces = false) : fs_ML l X yL_tap cL_tap 4 (some .int) [(0, 6, 9, 13)] ({ frames := 7, cells := 1, slots := 6, locals := 103 }) [.ref h0, .int k, .int v] [(h0, .inr (4, [.ref nt, .ref ns, .ref nb, .ref nu])), (nt, .inr (2, [.ref q1, .ref q2])), (q1, fs_ai X 16 ff)] sz (fs_Qi X (fun r (u : Bool) => (u = true → r = 0 ∧ (((¬ k < 0 ∧ ¬ 16 ≤ k) ∧ fs_short v))) ∧ (u = false → r = 1 ∧ ¬ (((¬ k < 0 ∧ ¬ 16 ≤ k) ∧ fs_short v)))) (fun u => match u with | true => [(h0, .inr (4, [.ref nt, .ref ns, .ref nb, .ref nu])), (nt, .inr (2, [.ref q1, .ref q2])), (q1, fs_ai X 16 (upd ff (Int32.toNatClampNeg k) v))] | false => [(h0, .inr (4, [.ref nt, .ref ns, .ref nb, .ref nu])), (nt, .inr (2, [.ref q1, .ref q2])), (q1, fs_ai X 16 ff)])) 1 6 := by
  refine fs_ofL (by decide) (Nat.le_of_ble_eq_true rfl) ?_
  intro p e s m args below meth c A ls C hH hl ht9
  have C : fs_At X A p s m args meth c cL_tap 4 (some .int) RL "tap" := C
  have hx := C.1
  have hb := C.2.1
  have hown := C.2.2.2.2.1
  have hts := C.2.2.2.2.2.1
  have hl : lv_has ls 4 [(0, .ref h0), (1, .int k), (2, .int v)] := hl
  have hH : fs_H X A s [(h0, .inr (4, [.ref nt, .ref ns, .ref nb, .ref nu])), (nt, .inr (2, [.ref q1, .ref q2])), (q1, fs_ai X 16 ff)] s.heap [] := hH
  refine lv_aload_n hx hb dL_tap_0 rfl (lv_at hl 0 rfl) ?_
  refine lv_iload_n hx hb dL_tap_1 rfl (lv_at hl 1 rfl) ?_
  refine lv_iload_n hx hb dL_tap_2 rfl (lv_at hl 2 rfl) ?_
  refine fs_xcv C hH (wr := []) [0, 1, 2] [] rfl rfl (by decide) (by decide) (by decide) ⟨0, 6, 9, 13⟩ ht9 (by decide) (by decide) mw_119 (fs_rVX (rest := []) (As := [.int k, .int v]) (n := 2) (q0 := 0) (ci := 4) C hH (wc := [(h0, .inr (4, [.ref nt, .ref ns, .ref nb, .ref nu])), (nt, .inr (2, [.ref q1, .ref q2])), (q1, fs_ai X 16 ff)]) [0, 1, 2] (by decide) rfl (c_X4_tap l X _ h0 nt ns nb nu q1 q2 ff k v  hl9) rfl rfl rfl rfl mw_194 mw_191 mw_192 mw_193 mw_1 (by decide +kernel) ⟨Nat.le_of_ble_eq_true rfl, Nat.le_of_ble_eq_true rfl⟩ rfl hl.1 rfl (Nat.le_of_ble_eq_true rfl) dL_tap_3 ⟨Nat.le_of_ble_eq_true rfl, Nat.le_of_ble_eq_true rfl⟩) (fun q9_5 H locs hbad_4 hH => ?_) (fun u_2 H locs hr_3 hH => ?_)
  · have hH : fs_H X A s [(h0, .inr (4, [.ref nt, .ref ns, .ref nb, .ref nu])), (nt, .inr (2, [.ref q1, .ref q2])), (q1, fs_ai X 16 ff)] _ _ := hH.sub [0, 1, 2] (by decide) rfl
    refine lv_astore_n (lv' := [(3, .ref q9_5), (0, .ref h0), (1, .int k), (2, .int v)]) hx hb dL_tap_9 rfl hl (by decide) rfl (fun ls hl => ?_)
    refine lv_iconst (v := 1) hx hb dL_tap_10 (by decide) ?_
    exact fs_iret C hH false rfl (⟨fun h => (by cases h), fun _ => ⟨rfl, hbad_4⟩⟩) dL_tap_11
  have hH : fs_H X A s [(h0, .inr (4, [.ref nt, .ref ns, .ref nb, .ref nu])), (nt, .inr (2, [.ref q1, .ref q2])), (q1, fs_ai X 16 (upd ff (Int32.toNatClampNeg k) v))] _ _ := hH
  refine lv_goto (tgt := 12) hx hb dL_tap_6 (by decide) ?_
  refine lv_iconst (v := 0) hx hb dL_tap_12 (by decide) ?_
  exact fs_iret C hH true rfl (⟨fun _ => ⟨rfl, hr_3⟩, fun h => (by cases h)⟩) dL_tap_13
set_option maxHeartbeats 4000000 in
set_option maxRecDepth 100000 in
theorem c_L_stage (l : Launch) (X : fs_X) (sz : Nat) (h0 : Nat) (nt : Nat) (ns : Nat) (nb : Nat) (nu : Nat) (s0 : Nat) (k0 : Nat) (f0 : Nat → Int32) (a0 : Int32) (b0 : Int32) (c0 : Int32) (d0 : Int32) (s1 : Nat) (k1 : Nat) (f1 : Nat → Int32) (a1 : Int32) (b1 : Int32) (c1 : Int32) (d1 : Int32) (s2 : Nat) (k2 : Nat) (f2 : Nat → Int32) (a2 : Int32) (b2 : Int32) (c2 : Int32) (d2 : Int32) (s3 : Nat) (k3 : Nat) (f3 : Nat → Int32) (a3 : Int32) (b3 : Int32) (c3 : Int32) (d3 : Int32) (a : Int32) (b : Int32) (v : Int32)  (hl9 : l.stackTraces = false) : fs_ML l X yL_stage cL_stage 5 (some .int) [(0, 7, 10, 13)] ({ frames := 7, cells := 1, slots := 6, locals := 104 }) [.ref h0, .int a, .int b, .int v] [(h0, .inr (4, [.ref nt, .ref ns, .ref nb, .ref nu])), (ns, fs_aq X 4 (fs_sts s0 s1 s2 s3)), (s0, .inr (1, [.ref k0, .int a0, .int b0, .int c0, .int d0])), (k0, fs_ai X 5 f0), (s1, .inr (1, [.ref k1, .int a1, .int b1, .int c1, .int d1])), (k1, fs_ai X 5 f1), (s2, .inr (1, [.ref k2, .int a2, .int b2, .int c2, .int d2])), (k2, fs_ai X 5 f2), (s3, .inr (1, [.ref k3, .int a3, .int b3, .int c3, .int d3])), (k3, fs_ai X 5 f3)] sz (fs_Qi X (fun r (u : Bool) => (u = true → r = 0 ∧ (((¬ a < 0 ∧ ¬ 4 ≤ a) ∧ (¬ b < 0 ∧ ¬ 5 ≤ b) ∧ fs_short v))) ∧ (u = false → r = 1 ∧ ¬ (((¬ a < 0 ∧ ¬ 4 ≤ a) ∧ (¬ b < 0 ∧ ¬ 5 ≤ b) ∧ fs_short v)))) (fun u => match u with | true => [(h0, .inr (4, [.ref nt, .ref ns, .ref nb, .ref nu])), (ns, fs_aq X 4 (fs_sts s0 s1 s2 s3)), (s0, .inr (1, [.ref k0, .int a0, .int b0, .int c0, .int d0])), (k0, fs_ai X 5 (fs_cu f0 0 a b v)), (s1, .inr (1, [.ref k1, .int a1, .int b1, .int c1, .int d1])), (k1, fs_ai X 5 (fs_cu f1 1 a b v)), (s2, .inr (1, [.ref k2, .int a2, .int b2, .int c2, .int d2])), (k2, fs_ai X 5 (fs_cu f2 2 a b v)), (s3, .inr (1, [.ref k3, .int a3, .int b3, .int c3, .int d3])), (k3, fs_ai X 5 (fs_cu f3 3 a b v))] | false => [(h0, .inr (4, [.ref nt, .ref ns, .ref nb, .ref nu])), (ns, fs_aq X 4 (fs_sts s0 s1 s2 s3)), (s0, .inr (1, [.ref k0, .int a0, .int b0, .int c0, .int d0])), (k0, fs_ai X 5 f0), (s1, .inr (1, [.ref k1, .int a1, .int b1, .int c1, .int d1])), (k1, fs_ai X 5 f1), (s2, .inr (1, [.ref k2, .int a2, .int b2, .int c2, .int d2])), (k2, fs_ai X 5 f2), (s3, .inr (1, [.ref k3, .int a3, .int b3, .int c3, .int d3])), (k3, fs_ai X 5 f3)])) 1 6 := by
  refine fs_ofL (by decide) (Nat.le_of_ble_eq_true rfl) ?_
  intro p e s m args below meth c A ls C hH hl ht9
  have C : fs_At X A p s m args meth c cL_stage 5 (some .int) RL "stage" := C
  have hx := C.1
  have hb := C.2.1
  have hown := C.2.2.2.2.1
  have hts := C.2.2.2.2.2.1
  have hl : lv_has ls 5 [(0, .ref h0), (1, .int a), (2, .int b), (3, .int v)] := hl
  have hH : fs_H X A s [(h0, .inr (4, [.ref nt, .ref ns, .ref nb, .ref nu])), (ns, fs_aq X 4 (fs_sts s0 s1 s2 s3)), (s0, .inr (1, [.ref k0, .int a0, .int b0, .int c0, .int d0])), (k0, fs_ai X 5 f0), (s1, .inr (1, [.ref k1, .int a1, .int b1, .int c1, .int d1])), (k1, fs_ai X 5 f1), (s2, .inr (1, [.ref k2, .int a2, .int b2, .int c2, .int d2])), (k2, fs_ai X 5 f2), (s3, .inr (1, [.ref k3, .int a3, .int b3, .int c3, .int d3])), (k3, fs_ai X 5 f3)] s.heap [] := hH
  refine lv_aload_n hx hb dL_stage_0 rfl (lv_at hl 0 rfl) ?_
  refine lv_iload_n hx hb dL_stage_1 rfl (lv_at hl 1 rfl) ?_
  refine lv_iload_n hx hb dL_stage_2 rfl (lv_at hl 2 rfl) ?_
  refine lv_iload_n hx hb dL_stage_3 rfl (lv_at hl 3 rfl) ?_
  refine fs_xcv C hH (wr := []) [0, 1, 2, 3, 4, 5, 6, 7, 8, 9] [] rfl rfl (by decide) (by decide) (by decide) ⟨0, 7, 10, 13⟩ ht9 (by decide) (by decide) mw_119 (fs_rVX (rest := []) (As := [.int a, .int b, .int v]) (n := 3) (q0 := 0) (ci := 4) C hH (wc := [(h0, .inr (4, [.ref nt, .ref ns, .ref nb, .ref nu])), (ns, fs_aq X 4 (fs_sts s0 s1 s2 s3)), (s0, .inr (1, [.ref k0, .int a0, .int b0, .int c0, .int d0])), (k0, fs_ai X 5 f0), (s1, .inr (1, [.ref k1, .int a1, .int b1, .int c1, .int d1])), (k1, fs_ai X 5 f1), (s2, .inr (1, [.ref k2, .int a2, .int b2, .int c2, .int d2])), (k2, fs_ai X 5 f2), (s3, .inr (1, [.ref k3, .int a3, .int b3, .int c3, .int d3])), (k3, fs_ai X 5 f3)]) [0, 1, 2, 3, 4, 5, 6, 7, 8, 9] (by decide) rfl (c_X4_stage l X _ h0 nt ns nb nu s0 k0 f0 a0 b0 c0 d0 s1 k1 f1 a1 b1 c1 d1 s2 k2 f2 a2 b2 c2 d2 s3 k3 f3 a3 b3 c3 d3 a b v  hl9) rfl rfl rfl rfl mw_216 mw_213 mw_214 mw_215 mw_1 (by decide +kernel) ⟨Nat.le_of_ble_eq_true rfl, Nat.le_of_ble_eq_true rfl⟩ rfl hl.1 rfl (Nat.le_of_ble_eq_true rfl) dL_stage_4 ⟨Nat.le_of_ble_eq_true rfl, Nat.le_of_ble_eq_true rfl⟩) (fun q9_5 H locs hbad_4 hH => ?_) (fun u_2 H locs hr_3 hH => ?_)
  · have hH : fs_H X A s [(h0, .inr (4, [.ref nt, .ref ns, .ref nb, .ref nu])), (ns, fs_aq X 4 (fs_sts s0 s1 s2 s3)), (s0, .inr (1, [.ref k0, .int a0, .int b0, .int c0, .int d0])), (k0, fs_ai X 5 f0), (s1, .inr (1, [.ref k1, .int a1, .int b1, .int c1, .int d1])), (k1, fs_ai X 5 f1), (s2, .inr (1, [.ref k2, .int a2, .int b2, .int c2, .int d2])), (k2, fs_ai X 5 f2), (s3, .inr (1, [.ref k3, .int a3, .int b3, .int c3, .int d3])), (k3, fs_ai X 5 f3)] _ _ := hH.sub [0, 1, 2, 3, 4, 5, 6, 7, 8, 9] (by decide) rfl
    refine lv_astore (lv' := [(4, .ref q9_5), (0, .ref h0), (1, .int a), (2, .int b), (3, .int v)]) hx hb dL_stage_10 hl (by decide) rfl (fun ls hl => ?_)
    refine lv_iconst (v := 1) hx hb dL_stage_12 (by decide) ?_
    exact fs_iret C hH false rfl (⟨fun h => (by cases h), fun _ => ⟨rfl, hbad_4⟩⟩) dL_stage_13
  have hH : fs_H X A s [(h0, .inr (4, [.ref nt, .ref ns, .ref nb, .ref nu])), (ns, fs_aq X 4 (fs_sts s0 s1 s2 s3)), (s0, .inr (1, [.ref k0, .int a0, .int b0, .int c0, .int d0])), (k0, fs_ai X 5 (fs_cu f0 0 a b v)), (s1, .inr (1, [.ref k1, .int a1, .int b1, .int c1, .int d1])), (k1, fs_ai X 5 (fs_cu f1 1 a b v)), (s2, .inr (1, [.ref k2, .int a2, .int b2, .int c2, .int d2])), (k2, fs_ai X 5 (fs_cu f2 2 a b v)), (s3, .inr (1, [.ref k3, .int a3, .int b3, .int c3, .int d3])), (k3, fs_ai X 5 (fs_cu f3 3 a b v))] _ _ := hH
  refine lv_goto (tgt := 14) hx hb dL_stage_7 (by decide) ?_
  refine lv_iconst (v := 0) hx hb dL_stage_14 (by decide) ?_
  exact fs_iret C hH true rfl (⟨fun _ => ⟨rfl, hr_3⟩, fun h => (by cases h)⟩) dL_stage_15
set_option maxHeartbeats 4000000 in
set_option maxRecDepth 100000 in
theorem c_L_put (l : Launch) (X : fs_X) (sz : Nat) (h0 : Nat) (nt : Nat) (ns : Nat) (nb : Nat) (nu : Nat) (qr : Nat) (qi : Nat) (S : fs_K) (p0 : Int32) (rv : Int32) (iv : Int32)  (hl9 : l.stackTraces = false) : fs_ML l X yL_put cL_put 5 (some .int) [(0, 7, 10, 13)] ({ frames := 7, cells := 1, slots := 6, locals := 104 }) [.ref h0, .int p0, .int rv, .int iv] [(h0, .inr (4, [.ref nt, .ref ns, .ref nb, .ref nu])), (nb, .inr (0, [.ref qr, .ref qi, .int S.2.2])), (qr, fs_ai X 32 S.1), (qi, fs_ai X 32 S.2.1)] sz (fs_Qi X (fun r (u : Bool) => (u = true → r = 0 ∧ ((¬ p0 < 0 ∧ ¬ 32 ≤ p0))) ∧ (u = false → r = 1 ∧ ¬ ((¬ p0 < 0 ∧ ¬ 32 ≤ p0)))) (fun u => match u with | true => [(h0, .inr (4, [.ref nt, .ref ns, .ref nb, .ref nu])), (nb, .inr (0, [.ref qr, .ref qi, .int 0])), (qr, fs_ai X 32 (upd S.1 (Int32.toNatClampNeg p0) rv)), (qi, fs_ai X 32 (upd S.2.1 (Int32.toNatClampNeg p0) iv))] | false => [(h0, .inr (4, [.ref nt, .ref ns, .ref nb, .ref nu])), (nb, .inr (0, [.ref qr, .ref qi, .int S.2.2])), (qr, fs_ai X 32 S.1), (qi, fs_ai X 32 S.2.1)])) 1 6 := by
  refine fs_ofL (by decide) (Nat.le_of_ble_eq_true rfl) ?_
  intro p e s m args below meth c A ls C hH hl ht9
  have C : fs_At X A p s m args meth c cL_put 5 (some .int) RL "put" := C
  have hx := C.1
  have hb := C.2.1
  have hown := C.2.2.2.2.1
  have hts := C.2.2.2.2.2.1
  have hl : lv_has ls 5 [(0, .ref h0), (1, .int p0), (2, .int rv), (3, .int iv)] := hl
  have hH : fs_H X A s [(h0, .inr (4, [.ref nt, .ref ns, .ref nb, .ref nu])), (nb, .inr (0, [.ref qr, .ref qi, .int S.2.2])), (qr, fs_ai X 32 S.1), (qi, fs_ai X 32 S.2.1)] s.heap [] := hH
  refine lv_aload_n hx hb dL_put_0 rfl (lv_at hl 0 rfl) ?_
  refine lv_iload_n hx hb dL_put_1 rfl (lv_at hl 1 rfl) ?_
  refine lv_iload_n hx hb dL_put_2 rfl (lv_at hl 2 rfl) ?_
  refine lv_iload_n hx hb dL_put_3 rfl (lv_at hl 3 rfl) ?_
  refine fs_xcv C hH (wr := []) [0, 1, 2, 3] [] rfl rfl (by decide) (by decide) (by decide) ⟨0, 7, 10, 13⟩ ht9 (by decide) (by decide) mw_119 (fs_rVX (rest := []) (As := [.int p0, .int rv, .int iv]) (n := 3) (q0 := 0) (ci := 4) C hH (wc := [(h0, .inr (4, [.ref nt, .ref ns, .ref nb, .ref nu])), (nb, .inr (0, [.ref qr, .ref qi, .int S.2.2])), (qr, fs_ai X 32 S.1), (qi, fs_ai X 32 S.2.1)]) [0, 1, 2, 3] (by decide) rfl (c_X4_put l X _ h0 nt ns nb nu qr qi S p0 rv iv  hl9) rfl rfl rfl rfl mw_232 mw_229 mw_230 mw_231 mw_1 (by decide +kernel) ⟨Nat.le_of_ble_eq_true rfl, Nat.le_of_ble_eq_true rfl⟩ rfl hl.1 rfl (Nat.le_of_ble_eq_true rfl) dL_put_4 ⟨Nat.le_of_ble_eq_true rfl, Nat.le_of_ble_eq_true rfl⟩) (fun q9_5 H locs hbad_4 hH => ?_) (fun u_2 H locs hr_3 hH => ?_)
  · have hH : fs_H X A s [(h0, .inr (4, [.ref nt, .ref ns, .ref nb, .ref nu])), (nb, .inr (0, [.ref qr, .ref qi, .int S.2.2])), (qr, fs_ai X 32 S.1), (qi, fs_ai X 32 S.2.1)] _ _ := hH.sub [0, 1, 2, 3] (by decide) rfl
    refine lv_astore (lv' := [(4, .ref q9_5), (0, .ref h0), (1, .int p0), (2, .int rv), (3, .int iv)]) hx hb dL_put_10 hl (by decide) rfl (fun ls hl => ?_)
    refine lv_iconst (v := 1) hx hb dL_put_12 (by decide) ?_
    exact fs_iret C hH false rfl (⟨fun h => (by cases h), fun _ => ⟨rfl, hbad_4⟩⟩) dL_put_13
  have hH : fs_H X A s [(h0, .inr (4, [.ref nt, .ref ns, .ref nb, .ref nu])), (nb, .inr (0, [.ref qr, .ref qi, .int 0])), (qr, fs_ai X 32 (upd S.1 (Int32.toNatClampNeg p0) rv)), (qi, fs_ai X 32 (upd S.2.1 (Int32.toNatClampNeg p0) iv))] _ _ := hH
  refine lv_goto (tgt := 14) hx hb dL_put_7 (by decide) ?_
  refine lv_iconst (v := 0) hx hb dL_put_14 (by decide) ?_
  exact fs_iret C hH true rfl (⟨fun _ => ⟨rfl, hr_3⟩, fun h => (by cases h)⟩) dL_put_15
