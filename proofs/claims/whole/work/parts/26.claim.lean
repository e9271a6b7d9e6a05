set_option maxHeartbeats 4000000 in
set_option maxRecDepth 100000 in
/-- THE LAW, from its entry, for every script of at most 2048 ints, where the machine records no stack -/
theorem whole_start {p : Program} {e : Env} {s : State} {m : MethodId} {below : List Frame} {meth : Method} {c : Code} (l : Launch) (hl9 : l.stackTraces = false) {b L : Nat} {xs : Nat → Int32} (hL : L ≤ 2048) (C0 : lw_At p s m meth c b L xs) : W p l e room_1 s m #[Value.ref b] below meth c s.heap [] 0 0 (lw_Z below #[Value.ref b] s) (entryFrame m ([Value.ref b] : List Value).toArray 7) := by
  obtain ⟨hx, hb, hr, hml, hown, hts0, hX, hbl, hlocks, hgv⟩ := id C0
  obtain ⟨X, hXs, hE⟩ := fs_env0 hts0 hgv
  obtain ⟨A, hAe⟩ : ∃ A : Nat → Prop, A = fun q : Nat => s.heap.size ≤ q := ⟨_, rfl⟩
  have hA2 : ∀ q, A q → s.heap.size ≤ q := fun q h => by rw [hAe] at h; exact h
  have hA3 : ∀ q, s.heap.size ≤ q → A q := fun q h => by rw [hAe]; exact h
  have hbA : ¬ A b := fun h => absurd (hA2 _ h) (Nat.not_le.mpr hbl)
  have C : fs_At X A p s m #[Value.ref b] meth c cL_law 7 ret RL meth.name := ⟨hx, hb, hr, hml, hown, fun w hw => hts0 w (fs_G_sub w hw), hlocks, rfl, hE, hA3, fun q h => by show X.2.1 ≤ q; rw [hXs]; exact hA2 q h⟩
  have hts := C.2.2.2.2.2.1
  have hH : fs_H X A s [] s.heap [] := ⟨fun k q h => by simp at h, ⟨fun i j p q h => by simp at h, fun k q h => by simp at h⟩, va_S.rf⟩
  have hl := lv_entry ([.ref b]) (n := 7) (Nat.le_of_ble_eq_true rfl)
  rw [lg_entry_eq]
  generalize (lg_sl ([.ref b]) ++ List.replicate (7 - (lg_sl ([.ref b])).length) Slot.unset).toArray = ls at hl ⊢
  have hl : lv_has ls 7 [(0, .ref b)] := hl
  refine fs_new (ci := 4) C hH in_4 tyX4 tyX4_ok mw_12 mw_13 mw_1 rfl [.null, .null, .null, .null] (by decide) (Nat.le_of_ble_eq_true rfl) (Nat.le_of_ble_eq_true rfl) dL_law_0 (fun q_1 H hH => ?_)
  have hH : fs_H X A s [(q_1, .inr (4, [.null, .null, .null, .null]))] _ _ := hH
  refine lv_dup hx hb dL_law_3 rfl ?_
  refine fs_cv C hH (wr := []) [0] [] rfl rfl (by decide) (by decide) (fs_rI (rest := [.ref q_1]) (As := []) (n := 0) C hH (wc := [(q_1, .inr (4, [.null, .null, .null, .null]))]) [0] (by decide) rfl (c_X4_init l X _ q_1 ) rfl rfl mw_16 mw_14 mw_15 rfl mw_1 (by decide +kernel) ⟨Nat.le_of_ble_eq_true rfl, Nat.le_of_ble_eq_true rfl⟩ rfl hl.1 rfl (Nat.le_of_ble_eq_true rfl) dL_law_4 ⟨Nat.le_of_ble_eq_true rfl, Nat.le_of_ble_eq_true rfl⟩) (fun u_3 H locs hr_4 hH => ?_)
  obtain ⟨u_3_nt, u_3_q1, u_3_q2, u_3_ns, u_3_s0, u_3_k0, u_3_s1, u_3_k1, u_3_s2, u_3_k2, u_3_s3, u_3_k3, u_3_nb, u_3_qr, u_3_qi, u_3_nu⟩ := u_3
  have hH : fs_H X A s [(q_1, .inr (4, [.ref u_3_nt, .ref u_3_ns, .ref u_3_nb, .ref u_3_nu])), (u_3_nt, .inr (2, [.ref u_3_q1, .ref u_3_q2])), (u_3_q1, fs_ai X 16 (fun _ => 0)), (u_3_q2, fs_ai X 16 (fun _ => 0)), (u_3_ns, fs_aq X 4 (fs_sts (u_3_s0) (u_3_s1) (u_3_s2) (u_3_s3))), (u_3_s0, .inr (1, [.ref u_3_k0, .int 0, .int 0, .int 0, .int 0])), (u_3_k0, fs_ai X 5 (upd (fun _ => 0) 0 16384)), (u_3_s1, .inr (1, [.ref u_3_k1, .int 0, .int 0, .int 0, .int 0])), (u_3_k1, fs_ai X 5 (upd (fun _ => 0) 0 16384)), (u_3_s2, .inr (1, [.ref u_3_k2, .int 0, .int 0, .int 0, .int 0])), (u_3_k2, fs_ai X 5 (upd (fun _ => 0) 0 16384)), (u_3_s3, .inr (1, [.ref u_3_k3, .int 0, .int 0, .int 0, .int 0])), (u_3_k3, fs_ai X 5 (upd (fun _ => 0) 0 16384)), (u_3_nb, .inr (0, [.ref u_3_qr, .ref u_3_qi, .int 0])), (u_3_qr, fs_ai X 32 (fun _ => 0)), (u_3_qi, fs_ai X 32 (fun _ => 0)), (u_3_nu, .inr (3, [.long 0, .long 0, .long 0]))] _ _ := hH
  refine lv_astore_n (lv' := [(1, .ref q_1), (0, .ref b)]) hx hb dL_law_7 rfl hl (by decide) rfl (fun ls hl => ?_)
  refine fs_new (ci := 5) C hH in_5 tyX5 tyX5_ok mw_301 mw_302 mw_6 rfl [.int 0, .null, .null, .null, .null, .null, .null, .int 0, .long 0, .long 0] (by decide) (Nat.le_of_ble_eq_true rfl) (Nat.le_of_ble_eq_true rfl) dL_law_8 (fun q_5 H hH => ?_)
  have hH : fs_H X A s [(q_1, .inr (4, [.ref u_3_nt, .ref u_3_ns, .ref u_3_nb, .ref u_3_nu])), (u_3_nt, .inr (2, [.ref u_3_q1, .ref u_3_q2])), (u_3_q1, fs_ai X 16 (fun _ => 0)), (u_3_q2, fs_ai X 16 (fun _ => 0)), (u_3_ns, fs_aq X 4 (fs_sts (u_3_s0) (u_3_s1) (u_3_s2) (u_3_s3))), (u_3_s0, .inr (1, [.ref u_3_k0, .int 0, .int 0, .int 0, .int 0])), (u_3_k0, fs_ai X 5 (upd (fun _ => 0) 0 16384)), (u_3_s1, .inr (1, [.ref u_3_k1, .int 0, .int 0, .int 0, .int 0])), (u_3_k1, fs_ai X 5 (upd (fun _ => 0) 0 16384)), (u_3_s2, .inr (1, [.ref u_3_k2, .int 0, .int 0, .int 0, .int 0])), (u_3_k2, fs_ai X 5 (upd (fun _ => 0) 0 16384)), (u_3_s3, .inr (1, [.ref u_3_k3, .int 0, .int 0, .int 0, .int 0])), (u_3_k3, fs_ai X 5 (upd (fun _ => 0) 0 16384)), (u_3_nb, .inr (0, [.ref u_3_qr, .ref u_3_qi, .int 0])), (u_3_qr, fs_ai X 32 (fun _ => 0)), (u_3_qi, fs_ai X 32 (fun _ => 0)), (u_3_nu, .inr (3, [.long 0, .long 0, .long 0])), (q_5, .inr (5, [.int 0, .null, .null, .null, .null, .null, .null, .int 0, .long 0, .long 0]))] _ _ := hH
  refine lv_dup hx hb dL_law_11 rfl ?_
  refine fs_cv C hH (wr := [(q_1, .inr (4, [.ref u_3_nt, .ref u_3_ns, .ref u_3_nb, .ref u_3_nu])), (u_3_nt, .inr (2, [.ref u_3_q1, .ref u_3_q2])), (u_3_q1, fs_ai X 16 (fun _ => 0)), (u_3_q2, fs_ai X 16 (fun _ => 0)), (u_3_ns, fs_aq X 4 (fs_sts (u_3_s0) (u_3_s1) (u_3_s2) (u_3_s3))), (u_3_s0, .inr (1, [.ref u_3_k0, .int 0, .int 0, .int 0, .int 0])), (u_3_k0, fs_ai X 5 (upd (fun _ => 0) 0 16384)), (u_3_s1, .inr (1, [.ref u_3_k1, .int 0, .int 0, .int 0, .int 0])), (u_3_k1, fs_ai X 5 (upd (fun _ => 0) 0 16384)), (u_3_s2, .inr (1, [.ref u_3_k2, .int 0, .int 0, .int 0, .int 0])), (u_3_k2, fs_ai X 5 (upd (fun _ => 0) 0 16384)), (u_3_s3, .inr (1, [.ref u_3_k3, .int 0, .int 0, .int 0, .int 0])), (u_3_k3, fs_ai X 5 (upd (fun _ => 0) 0 16384)), (u_3_nb, .inr (0, [.ref u_3_qr, .ref u_3_qi, .int 0])), (u_3_qr, fs_ai X 32 (fun _ => 0)), (u_3_qi, fs_ai X 32 (fun _ => 0)), (u_3_nu, .inr (3, [.long 0, .long 0, .long 0]))]) [17] [0, 1, 2, 3, 4, 5, 6, 7, 8, 9, 10, 11, 12, 13, 14, 15, 16] rfl rfl (by decide) (by decide) (fs_rI (rest := [.ref q_5]) (As := []) (n := 0) C hH (wc := [(q_5, .inr (5, [.int 0, .null, .null, .null, .null, .null, .null, .int 0, .long 0, .long 0]))]) [17] (by decide) rfl (c_X5_init l X _ q_5 ) rfl rfl mw_305 mw_303 mw_304 rfl mw_6 (by decide +kernel) ⟨Nat.le_of_ble_eq_true rfl, Nat.le_of_ble_eq_true rfl⟩ rfl hl.1 rfl (Nat.le_of_ble_eq_true rfl) dL_law_12 ⟨Nat.le_of_ble_eq_true rfl, Nat.le_of_ble_eq_true rfl⟩) (fun u_7 H locs hr_8 hH => ?_)
  obtain ⟨u_7_qa, u_7_qp, u_7_qf, u_7_qb, u_7_qk, u_7_qt⟩ := u_7
  have hH : fs_H X A s [(q_1, .inr (4, [.ref u_3_nt, .ref u_3_ns, .ref u_3_nb, .ref u_3_nu])), (u_3_nt, .inr (2, [.ref u_3_q1, .ref u_3_q2])), (u_3_q1, fs_ai X 16 (fun _ => 0)), (u_3_q2, fs_ai X 16 (fun _ => 0)), (u_3_ns, fs_aq X 4 (fs_sts (u_3_s0) (u_3_s1) (u_3_s2) (u_3_s3))), (u_3_s0, .inr (1, [.ref u_3_k0, .int 0, .int 0, .int 0, .int 0])), (u_3_k0, fs_ai X 5 (upd (fun _ => 0) 0 16384)), (u_3_s1, .inr (1, [.ref u_3_k1, .int 0, .int 0, .int 0, .int 0])), (u_3_k1, fs_ai X 5 (upd (fun _ => 0) 0 16384)), (u_3_s2, .inr (1, [.ref u_3_k2, .int 0, .int 0, .int 0, .int 0])), (u_3_k2, fs_ai X 5 (upd (fun _ => 0) 0 16384)), (u_3_s3, .inr (1, [.ref u_3_k3, .int 0, .int 0, .int 0, .int 0])), (u_3_k3, fs_ai X 5 (upd (fun _ => 0) 0 16384)), (u_3_nb, .inr (0, [.ref u_3_qr, .ref u_3_qi, .int 0])), (u_3_qr, fs_ai X 32 (fun _ => 0)), (u_3_qi, fs_ai X 32 (fun _ => 0)), (u_3_nu, .inr (3, [.long 0, .long 0, .long 0])), (q_5, .inr (5, [.int 0, .ref u_7_qa, .ref u_7_qp, .ref u_7_qf, .ref u_7_qb, .ref u_7_qk, .ref u_7_qt, .int 0, .long 0, .long 0])), (u_7_qa, fs_ai X 16 (fun _ => 0)), (u_7_qp, fs_ai X 16 (fun _ => 0)), (u_7_qf, fs_ai X 20 fs_f0), (u_7_qb, fs_ai X 16 (fun _ => 0)), (u_7_qk, fs_al X 64 (fun _ => 0)), (u_7_qt, fs_al X 64 (fun _ => 0))] _ _ := hH
  refine lv_astore_n (lv' := [(2, .ref q_5), (1, .ref q_1), (0, .ref b)]) hx hb dL_law_15 rfl hl (by decide) rfl (fun ls hl => ?_)
  refine lv_iconst (v := 1) hx hb dL_law_16 (by decide) ?_
  refine fs_newL C hH (N := 1) rfl (by decide) (Nat.le_of_ble_eq_true rfl) (Nat.le_of_ble_eq_true rfl) mw_327 dL_law_17 (fun q_9 H hH => ?_)
  have hH : fs_H X A s [(q_1, .inr (4, [.ref u_3_nt, .ref u_3_ns, .ref u_3_nb, .ref u_3_nu])), (u_3_nt, .inr (2, [.ref u_3_q1, .ref u_3_q2])), (u_3_q1, fs_ai X 16 (fun _ => 0)), (u_3_q2, fs_ai X 16 (fun _ => 0)), (u_3_ns, fs_aq X 4 (fs_sts (u_3_s0) (u_3_s1) (u_3_s2) (u_3_s3))), (u_3_s0, .inr (1, [.ref u_3_k0, .int 0, .int 0, .int 0, .int 0])), (u_3_k0, fs_ai X 5 (upd (fun _ => 0) 0 16384)), (u_3_s1, .inr (1, [.ref u_3_k1, .int 0, .int 0, .int 0, .int 0])), (u_3_k1, fs_ai X 5 (upd (fun _ => 0) 0 16384)), (u_3_s2, .inr (1, [.ref u_3_k2, .int 0, .int 0, .int 0, .int 0])), (u_3_k2, fs_ai X 5 (upd (fun _ => 0) 0 16384)), (u_3_s3, .inr (1, [.ref u_3_k3, .int 0, .int 0, .int 0, .int 0])), (u_3_k3, fs_ai X 5 (upd (fun _ => 0) 0 16384)), (u_3_nb, .inr (0, [.ref u_3_qr, .ref u_3_qi, .int 0])), (u_3_qr, fs_ai X 32 (fun _ => 0)), (u_3_qi, fs_ai X 32 (fun _ => 0)), (u_3_nu, .inr (3, [.long 0, .long 0, .long 0])), (q_5, .inr (5, [.int 0, .ref u_7_qa, .ref u_7_qp, .ref u_7_qf, .ref u_7_qb, .ref u_7_qk, .ref u_7_qt, .int 0, .long 0, .long 0])), (u_7_qa, fs_ai X 16 (fun _ => 0)), (u_7_qp, fs_ai X 16 (fun _ => 0)), (u_7_qf, fs_ai X 20 fs_f0), (u_7_qb, fs_ai X 16 (fun _ => 0)), (u_7_qk, fs_al X 64 (fun _ => 0)), (u_7_qt, fs_al X 64 (fun _ => 0)), (q_9, fs_al X 1 (fun _ => 0))] _ _ := hH
  refine lv_astore_n (lv' := [(3, .ref q_9), (2, .ref q_5), (1, .ref q_1), (0, .ref b)]) hx hb dL_law_19 rfl hl (by decide) rfl (fun ls hl => ?_)
  refine lv_iconst (v := 0) hx hb dL_law_20 (by decide) ?_
  refine lv_istore (lv' := [(4, .int 0), (3, .ref q_9), (2, .ref q_5), (1, .ref q_1), (0, .ref b)]) hx hb dL_law_21 hl (by decide) rfl (fun ls hl => ?_)
  have hH : fs_H X A s [(q_1, .inr (4, [.ref u_3_nt, .ref u_3_ns, .ref u_3_nb, .ref u_3_nu])), (u_3_nt, .inr (2, [.ref u_3_q1, .ref u_3_q2])), (u_3_q1, fs_ai X 16 (fun _ => 0)), (u_3_q2, fs_ai X 16 (fun _ => 0)), (u_3_ns, fs_aq X 4 (fs_sts (u_3_s0) (u_3_s1) (u_3_s2) (u_3_s3))), (u_3_s0, .inr (1, [.ref u_3_k0, .int 0, .int 0, .int 0, .int 0])), (u_3_k0, fs_ai X 5 (fs_fj fs_f0 0)), (u_3_s1, .inr (1, [.ref u_3_k1, .int 0, .int 0, .int 0, .int 0])), (u_3_k1, fs_ai X 5 (fs_fj fs_f0 1)), (u_3_s2, .inr (1, [.ref u_3_k2, .int 0, .int 0, .int 0, .int 0])), (u_3_k2, fs_ai X 5 (fs_fj fs_f0 2)), (u_3_s3, .inr (1, [.ref u_3_k3, .int 0, .int 0, .int 0, .int 0])), (u_3_k3, fs_ai X 5 (fs_fj fs_f0 3)), (u_3_nb, .inr (0, [.ref u_3_qr, .ref u_3_qi, .int 0])), (u_3_qr, fs_ai X 32 (fun _ => 0)), (u_3_qi, fs_ai X 32 (fun _ => 0)), (u_3_nu, .inr (3, [.long 0, .long 0, .long 0])), (q_5, .inr (5, [.int 0, .ref u_7_qa, .ref u_7_qp, .ref u_7_qf, .ref u_7_qb, .ref u_7_qk, .ref u_7_qt, .int 0, .long 0, .long 0])), (u_7_qa, fs_ai X 16 (fun _ => 0)), (u_7_qp, fs_ai X 16 (fun _ => 0)), (u_7_qf, fs_ai X 20 fs_f0), (u_7_qb, fs_ai X 16 (fun _ => 0)), (u_7_qk, fs_al X 64 (fs_il (fun _ => 0) (fun _ => 0))), (u_7_qt, fs_al X 64 (fun _ => 0)), (q_9, fs_al X 1 (fun _ => 0))] _ _ := hH.to (by rw [← fs_fj0 (j := 0) (by decide), ← fs_fj0 (j := 1) (by decide), ← fs_fj0 (j := 2) (by decide), ← fs_fj0 (j := 3) (by decide), ← fs_il_0])
  exact law_loop (h0 := q_1) (nt := u_3_nt) (q1 := u_3_q1) (q2 := u_3_q2) (ns := u_3_ns) (s0 := u_3_s0) (k0 := u_3_k0) (s1 := u_3_s1) (k1 := u_3_k1) (s2 := u_3_s2) (k2 := u_3_k2) (s3 := u_3_s3) (k3 := u_3_k3) (nb := u_3_nb) (qr := u_3_qr) (qi := u_3_qi) (nu := u_3_nu) (o0 := q_5) (qa := u_7_qa) (qp := u_7_qp) (qf := u_7_qf) (qb := u_7_qb) (qk := u_7_qk) (qt := u_7_qt) (qo := q_9) hl9 C hA2 hX hbl hbA hL 514 0 25 359 (fun _ => 0) (fun _ => 0) fs_f0 (fun _ => 0) ((fun _ => 0), (fun _ => 0), 0) (0, 0, 0) 0 0 0 (fun _ => 0) (fun _ => 0) (Nat.zero_le _) (by omega) (by decide) (by decide) (fun _ _ => fs_sh0) (fun _ _ => fs_sh0) _ _ hH ls (lv_sub hl [4, 3, 2, 1, 0] rfl)
set_option maxHeartbeats 4000000 in
theorem lw_walk (l : Launch) (hl9 : l.stackTraces = false) (b : Addr) (xs : List Int32) : MetFree l x (headSpec (Jvm.Cond.code x code maxLocals ret :: tables_1) room_1) (lw_P b xs) (fun _ _ _ _ _ => True) lw_Q := by
  refine MetFree.of_bodyS (code := code) (maxLocals := maxLocals) (ret := ret) (by decide) ?_ ?_
  · intro args s m h hn
    obtain ⟨meth, c, h1, h2, h3, h4, h5, h6, -, -⟩ := Cond.code_spec hn (atoms_spec (ws := Jvm.Cond.code x code maxLocals ret :: tables_1) h _ List.mem_cons_self)
    exact ⟨meth, c, h1, h2, h3, h4, h5, h6⟩
  · intro p e s m args below meth c s₁ B hml0 hP _
    obtain ⟨rfl, hx, hbd, hgv⟩ := hP
    obtain ⟨scr, harrAt, hlist, hof, hsmall⟩ := hx
    obtain ⟨hcb, hkn, -, -⟩ := State.arrayAt?_spec harrAt
    have hown : s.vm.findClass R_law = some m.cls := findClass_of_methodNamed B.named
    have hts0 : ∀ c ∈ (Jvm.Cond.code x code maxLocals ret :: tables_1), c.before #[Value.ref b] s = true := atoms_spec (ws := Jvm.Cond.code x code maxLocals ret :: tables_1) B.pre
    have hts : ∀ w ∈ lw_tbl, w.before #[Value.ref b] s = true := k2_hts_sels lw_privs (fun w hw => hts0 w (List.mem_cons_of_mem _ hw)) lw_privs_ok
    have hml : c.maxLocals = 7 := B.maxLocals_eq (hts0 _ List.mem_cons_self)
    have X₀ : Stand p l e room_1 s m #[Value.ref b] below meth c s₁ [] 0 0 := Stand.of_body B
    have hh0 : s₁.heap = s.heap := by rw [B.state]; rfl
    have hsz : scr.slots.size = xs.length := by rw [← Array.length_toList, hlist, List.length_map]
    have hval : ∀ j : Nat, j < xs.length → scr.slots[j]? = some (.int (xs.getD j 0)) := fun j hj => by
      rw [← Array.getElem?_toList, hlist]
      simp [hj]
    have hbl : b < s.heap.size := (Array.getElem?_eq_some_iff.mp hcb).1
    have hX : va_X b xs.length (fun j => xs.getD j 0) s s.heap := ⟨scr, hcb, hof, hkn, hsz, hval⟩
    have K : W p l e room_1 s m #[Value.ref b] below meth c s₁.heap [] 0 0 (lw_Z below #[Value.ref b] s) (entryFrame m ([Value.ref b] : List Value).toArray 7) := by
      rw [hh0]
      exact whole_start l hl9 hbd ⟨B.exec, B.bytes, B.returns, hml, hown, hts, hX, hbl, B.notSynchronized, hgv⟩
    obtain ⟨t, a1, o, b1, b2, b3⟩ := K s₁ rfl X₀
    exact ⟨t, o, a1, b1, b2, b3⟩
theorem lw_pre_spec {args : Array Value} {s : State} (h : (Jvm.Cond.and given_1 narrow_1).before args s = true) (hr : rest_1_c.before args s = true) : ∃ (b : Addr) (xs : List Int32), lw_P b xs args s := by
  have hs := flat_of_before _ h
  have hq := flat_of_before _ hr
  have hc : (Cond.count 1).before args s = true := hs _ (by decide +kernel)
  have harr : (Cond.arrayOf (.arg 0) .int).before args s = true := hs _ (by decide +kernel)
  have hle : (Cond.le (.length (.arg 0)) (.int 2048)).before args s = true := hs _ (by decide +kernel)
  have hlen : (Cond.isInt (.length (.arg 0))).before args s = true := hq _ (by decide +kernel)
  have hall : (Cond.all (.arg 0) (.isInt (.elem (.arg 0) (.index 0)))).before args s = true := hq _ (by decide +kernel)
  obtain ⟨b, xs, hb, hx⟩ := State.ints_of_pre rfl harr hlen hall
  have hsm : xs.length < 2 ^ 31 := hx.choose_spec.2.2.2
  have hev : (Term.length (.arg 0)).eval args s none [] s = some (.int xs.length.toInt32) := hx.length_eval hb
  have hv := Cond.le_ints hev (show (Term.int 2048).eval args s none [] s = some (.int 2048) from rfl)
  have hd : xs.length.toInt32 ≤ 2048 := by
    simpa [Cond.before, Cond.holds, hv] using hle
  have hN : xs.length ≤ 2048 := (Int32.ofNat_le_ofNat hsm (by decide)).mp (show Int32.ofNat xs.length ≤ Int32.ofNat 2048 from hd)
  exact ⟨b, xs, Cond.one_arg hc (show args[0]? = some (.ref b) from hb), hx, hN, h⟩
theorem lw_comes (l : Launch) (hl9 : l.stackTraces = false) : Comes l x (Jvm.Cond.code x code maxLocals ret :: tables_1) room_1 (fun tb e args s => Calls_1 tb e args s ∧ rest_1 tb e args s ∧ Pre_1 tb e args s)
    (fun _ _ args s o t => lw_Q args s o t) := by
  intro p e ha hc hk s m args below hf hfit hheap happ hpre
  obtain ⟨b, xs, hP⟩ := lw_pre_spec hpre.2.2 hpre.2.1
  obtain ⟨k, o, h1, h2, h3, hQ⟩ := lw_walk l hl9 b xs p e ha hc hk s m args below hf ((Spec.applies_iff_loose hf).mp happ).1 hP trivial
  exact ⟨k, o, h1, h2, h3, hQ⟩
theorem lw_frame {s t : State} {o : Outcome} {args : Array Value} (h : Framed s o t [] 646108 7157780) :
    Framed s o t (fieldLocs frame_1_writes args s ++ arrayLocs frame_1_arrays args s ++ staticLocs frame_1_statics s) 646108 7157780 := h
theorem lw_limb (L : Cond) (hL : ∀ (args : Array Value) (s t : State), L.after args s (.returned (some (.int 1))) t = true) :
    ArmFor flags0 classFile x code maxLocals ret World_1 tables_1 room_1 Calls_1 rest_1 Pre_1
      (fun tb e a s o t => postC L tb e a s o t ∧ Framed s o t (fieldLocs frame_1_writes a s ++ arrayLocs frame_1_arrays a s ++ staticLocs frame_1_statics s) 646108 7157780) := by
  intro l hfl _ _ p e ha hc hk s m args below hf hfit hheap happ hpre
  obtain ⟨k, o, h1, h2, h3, rfl, hF⟩ := lw_comes l (by rw [Launch.stackTraces, hfl]; decide) p e ha hc hk s m args below hf hfit hheap happ hpre
  exact ⟨k, _, h1, h2, h3, hL args s _, lw_frame hF⟩
theorem i_vc : Claimed_1_1 ∧ Claimed_1_2 := ⟨lw_limb limb_1_1 (fun args s t => by simp [limb_1_1, Cond.after, Cond.holds, Cond.value]), lw_limb limb_1_2 (fun args s t => Cond.after_iff.mpr (by
  first | (rw [show limb_1_2 = Cond.eq .result (.int 1) from rfl, Cond.eq_ints (x := 1) (y := 1) rfl rfl]; simp; done) | (simp [limb_1_2, Cond.value, Term.eval]; done)))⟩
