-- begun from SKELETON.whole (behind PART A)
/-! THE CLAIM OUT OF ONE WALK OF THE LAW'S BODY. Your part is whole_start (and what it stands on); all else here is the same for every law, but numbers. -/
def R_law : String := "FixedSignalsLaw"
def lw_P (b : Addr) (xs : List Int32) (args : Array Value) (s : State) : Prop := args = #[.ref b] ∧ s.IntsAt b xs ∧ xs.length ≤ 2048 ∧ (Jvm.Cond.and given_1 narrow_1).before args s = true
def lw_Q (_ : Array Value) (s : State) (o : Outcome) (t : State) : Prop := o = .returned (some (.int 1)) ∧ Framed s o t [] 646108 7157780
def lw_Z (below : List Frame) (a : Array Value) (s : State) : State → Prop := fun t => ∃ o, t.status = .running ∧ Ended t below o ∧ lw_Q a s o t
/-- the law's own end, with 1 on the stack, nothing written that was there before, its room as the claim has it -/
theorem lw_ret {p : Program} {l : Launch} {e : Env} {s : State} {m : MethodId} {below : List Frame} {meth : Method} {c : Code} {b : Nat} (hx : p.tables.exec = Jvm.exec) (hb : c.code = code) (hr : meth.sig.returnType = ret) (hlocks : meth.locks = false) {pc : Nat} {H : Heap} {ls : Array Slot} (hdg : decode code pc = .ok (.ireturn, 1)) : W p l e room_1 s m #[Value.ref b] below meth c H [] 646108 7157780 (lw_Z below #[Value.ref b] s) (F0 m pc ls [.int 1]) := by
  intro T hT X
  obtain ⟨fs, hret, hrun, hended, hW, hframe⟩ := X.leave (v := some (.int 1)) (hlocks := hlocks) (fun h => by rw [hr] at h; cases h)
  have hmeth' : T.vm.method? m = some meth := X.method'
  refine ⟨T.setFrames fs, ?_, .returned (some (.int 1)), hrun, hended, rfl, ⟨_, rfl⟩, hW, hframe⟩
  jvm_step X.here [X.here.top, hx, hb, hdg, hmeth', hr, ret, narrow_b1]
  (try refine ⟨rfl, ?_⟩); (try refine ⟨rfl, ?_⟩)
  first | (intro acts; rw [hret _ acts rfl rfl rfl]) | rw [hret _ _ rfl rfl rfl]
  exact Steps.refl _
/-- what holds at the law's entry: the machine, the code, the tables' words (any of lw_tbl by 'hts w (by decide +kernel)'), the script of L ints xs at the cell b, what the Statement gives of the start (any of its parts by flat_of_before) -/
def lw_At (p : Program) (s : State) (m : MethodId) (meth : Method) (c : Code) (b L : Nat) (xs : Nat → Int32) : Prop :=
  p.tables.exec = Jvm.exec ∧ c.code = code ∧ meth.sig.returnType = ret ∧ c.maxLocals = 7 ∧ s.vm.findClass R_law = some m.cls ∧ (∀ w ∈ lw_tbl, w.before #[Value.ref b] s = true) ∧ va_X b L xs s s.heap ∧ b < s.heap.size ∧ meth.locks = false ∧ (Jvm.Cond.and given_1 narrow_1).before #[Value.ref b] s = true
set_option maxHeartbeats 4000000 in
set_option maxRecDepth 100000 in
theorem law_loop {p : Program} {l : Launch} {e : Env} {s : State} {m : MethodId} {below : List Frame} {meth : Method} {c : Code} {X : fs_X} {A : Nat → Prop} {b L : Nat} {xs : Nat → Int32} {nm : String} {h0 nt q1 q2 ns s0 k0 s1 k1 s2 k2 s3 k3 nb qr qi nu o0 qa qp qf qb qk qt qo : Nat} (hl9 : l.stackTraces = false) (C : fs_At X A p s m #[Value.ref b] meth c cL_law 7 ret RL nm) (hA2 : ∀ q, A q → s.heap.size ≤ q) (hX : va_X b L xs s s.heap) (hbl : b < s.heap.size) (hbA : ¬ A b) (hL : L ≤ 2048) :
    ∀ (n i cl sl : Nat) (ff : Nat → Int32) (gg : Nat → Int32) (fa : Nat → Int32) (bb : Nat → Int32) (S : fs_K) (t : fs_T) (rf : Int32) (eX : Int64) (eZ : Int64) (t9 : Nat → Int64) (fo : Nat → Int64), i ≤ L → L < i + 4 * n → cl + n ≤ 646108 → sl + 6 * n ≤ 7157780 → (∀ j, j < 16 → fs_short (ff j)) → (∀ j, j < 16 → fs_short (gg j)) → ∀ (H : Heap) (locs : List Loc), fs_H X A s (fs_LW X h0 nt q1 q2 ns s0 k0 s1 k1 s2 k2 s3 k3 nb qr qi nu o0 qa qp qf qb qk qt qo ff gg fa bb S t rf eX eZ t9 fo) H locs → ∀ (ls : Array Slot), lv_has ls 7 (fs_LL b h0 o0 qo i) → W p l e room_1 s m #[Value.ref b] below meth c H locs cl sl (lw_Z below #[Value.ref b] s) (F0 m 23 ls []) := by
  have hx := C.1
  have hb := C.2.1
  have hr := C.2.2.1
  have hlocks := C.2.2.2.2.2.2.1
  intro n
  induction n with
  | zero => intro i cl sl ff gg fa bb S t rf eX eZ t9 fo h1 h2; exact absurd h2 (by omega)
  | succ n ih =>
    intro i cl sl ff gg fa bb S t rf eX eZ t9 fo h1 h2 h3 h4 hF hG H locs hH ls hl
    have hl : lv_has ls 7 [(0, .ref b), (1, .ref h0), (2, .ref o0), (3, .ref qo), (4, .int (nI i))] := hl
    refine lv_iload hx hb dL_law_23 (lv_at hl 4 rfl) ?_
    refine lv_aload_n hx hb dL_law_25 rfl (lv_at hl 0 rfl) ?_
    refine va_slen hx hb hX hbl hbA hH.2.2 dL_law_26 ?_
    refine lv_iconst (v := 4) hx hb dL_law_27 (by decide) ?_
    refine lv_isub hx hb dL_law_28 ?_
    refine lv_icmp_gt (tgt := 947) hx hb dL_law_29 (by decide) (fun c1 => ?_) (fun c1 => ?_)
    · refine lv_iconst (v := 1) hx hb dL_law_947 (by decide) ?_
      refine va_forget (fun q hq => hA2 _ (hH.2.2.2.2 q hq)) ?_
      refine W.widen (k := 646108) (n := 7157780) (by omega) (by omega) ?_
      exact lw_ret hx hb hr hlocks dL_law_948
    · have hi4 : i + 4 ≤ L := Nat.le_of_not_lt fun z => c1 ((fs_lim (by omega) hL).mpr z)
      have hf : cl + 1 ≤ room_1.cells ∧ sl + 6 ≤ room_1.slots := ⟨show cl + 1 ≤ 646108 by omega, show sl + 6 ≤ 7157780 by omega⟩
      have K : fs_K9 p l e s m #[Value.ref b] below meth c (lw_Z below #[Value.ref b] s) X A b cl sl i h0 nt q1 q2 ns s0 k0 s1 k1 s2 k2 s3 k3 nb qr qi nu o0 qa qp qf qb qk qt qo := by
        intro ff gg fa bb S t rf eX eZ t9 fo hF hG H locs hH ls hl
        have hl : lv_has ls 7 [(0, .ref b), (1, .ref h0), (2, .ref o0), (3, .ref qo), (4, .int (nI i))] := hl
        refine lv_iinc (v := nI (i + 4)) (lv' := [(4, .int (nI (i + 4))), (0, .ref b), (1, .ref h0), (2, .ref o0), (3, .ref qo)]) hx hb dL_law_941 hl (k := 4) rfl (nI_add i 4) (by decide) rfl (fun ls hl => ?_)
        refine lv_goto (tgt := 23) hx hb dL_law_944 (by decide) ?_
        exact ih (i + 4) (cl + 1) (sl + 6) ff gg fa bb S t rf eX eZ t9 fo (by omega) (by omega) (by omega) (by omega) hF hG _ _ hH ls (lv_sub hl [1, 2, 3, 4, 0] rfl)
      refine lv_aload_n hx hb dL_law_32 rfl (lv_at hl 0 rfl) ?_
      refine lv_iload hx hb dL_law_33 (lv_at hl 4 rfl) ?_
      refine va_sld hx hb hX hbl hbA hH.2.2 (vp_in_nI (n := i) (by omega) (by omega)) dL_law_35 ?_
      refine fs_topi (y := (xs i)) (by rw [nI_clamp (by omega)]) ?_
      refine lv_bipush (v := 15) hx hb dL_law_36 (by decide) ?_
      refine lv_iand hx hb dL_law_38 ?_
      obtain ⟨j, hj, ej⟩ := pk_andE (xs i) (m := 15) 4 (by decide)
      refine fs_topi (y := nI j) ej ?_
      match j, hj with
      | 0, _ => exact lv_tableIn (off := 69) (tgt := 108) hx hb dL_law_39 (by decide) (by decide) (by decide) (by decide) (law_work hl9 C hX hbl hbA hi4 hL hf hF hG hH hl K)
      | 1, _ => exact lv_tableIn (off := 149) (tgt := 188) hx hb dL_law_39 (by decide) (by decide) (by decide) (by decide) (law_small hl9 C hX hbl hbA hi4 hL hf hF hG hH hl K)
      | 2, _ => exact lv_tableIn (off := 229) (tgt := 268) hx hb dL_law_39 (by decide) (by decide) (by decide) (by decide) (law_narrow hl9 C hX hbl hbA hi4 hL hf hF hG hH hl K)
      | 3, _ => exact lv_tableIn (off := 254) (tgt := 293) hx hb dL_law_39 (by decide) (by decide) (by decide) (by decide) (law_tap hl9 C hX hbl hbA hi4 hL hf hF hG hH hl K)
      | 4, _ => exact lv_tableIn (off := 302) (tgt := 341) hx hb dL_law_39 (by decide) (by decide) (by decide) (by decide) (law_filter hl9 C hX hbl hbA hi4 hL hf hF hG hH hl K)
      | 5, _ => exact lv_tableIn (off := 358) (tgt := 397) hx hb dL_law_39 (by decide) (by decide) (by decide) (by decide) (law_stage hl9 C hX hbl hbA hi4 hL hf hF hG hH hl K)
      | 6, _ => exact lv_tableIn (off := 418) (tgt := 457) hx hb dL_law_39 (by decide) (by decide) (by decide) (by decide) (law_chain hl9 C hX hbl hbA hi4 hL hf hF hG hH hl K)
      | 7, _ => exact lv_tableIn (off := 474) (tgt := 513) hx hb dL_law_39 (by decide) (by decide) (by decide) (by decide) (law_calm hl9 C hX hbl hbA hi4 hL hf hF hG hH hl K)
      | 8, _ => exact lv_tableIn (off := 485) (tgt := 524) hx hb dL_law_39 (by decide) (by decide) (by decide) (by decide) (law_put hl9 C hX hbl hbA hi4 hL hf hF hG hH hl K)
      | 9, _ => exact lv_tableIn (off := 545) (tgt := 584) hx hb dL_law_39 (by decide) (by decide) (by decide) (by decide) (law_transform hl9 C hX hbl hbA hi4 hL hf hF hG hH hl K)
      | 10, _ => exact lv_tableIn (off := 629) (tgt := 668) hx hb dL_law_39 (by decide) (by decide) (by decide) (by decide) (law_get hl9 C hX hbl hbA hi4 hL hf hF hG hH hl K)
      | 11, _ => exact lv_tableIn (off := 713) (tgt := 752) hx hb dL_law_39 (by decide) (by decide) (by decide) (by decide) (law_wave hl9 C hX hbl hbA hi4 hL hf hF hG hH hl K)
      | 12, _ => exact lv_tableIn (off := 766) (tgt := 805) hx hb dL_law_39 (by decide) (by decide) (by decide) (by decide) (law_angle hl9 C hX hbl hbA hi4 hL hf hF hG hH hl K)
      | 13, _ => exact lv_tableIn (off := 834) (tgt := 873) hx hb dL_law_39 (by decide) (by decide) (by decide) (by decide) (law_length hl9 C hX hbl hbA hi4 hL hf hF hG hH hl K)
      | 14, _ =>
        refine lv_tableOut (tgt := 941) hx hb dL_law_39 (Or.inr (by decide)) (by decide) ?_
        refine W.widen (k := cl + 1) (n := sl + 6) (by omega) (by omega) ?_
        exact K ff gg fa bb S t rf eX eZ t9 fo hF hG _ _ hH ls hl
      | 15, _ =>
        refine lv_tableOut (tgt := 941) hx hb dL_law_39 (Or.inr (by decide)) (by decide) ?_
        refine W.widen (k := cl + 1) (n := sl + 6) (by omega) (by omega) ?_
        exact K ff gg fa bb S t rf eX eZ t9 fo hF hG _ _ hH ls hl
      | k9 + 16, h9 => exact absurd h9 (by omega)
