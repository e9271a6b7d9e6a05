-- methods that may throw; methods with a table
abbrev fs_IAE : String := "java/lang/IllegalArgumentException"
abbrev fs_EX : List String := ["java/lang/RuntimeException", "java/lang/Exception"]
def fs_XC (X : fs_X) (ws : va_W) (bad : Prop) (A : Nat → Prop) : String → State → State → Prop := vx_X (S := Unit) (fun _ => bad) (fun E _ t => E = fs_IAE ∧ va_P X.1 vwCl ws t.heap ∧ va_D A ws) A
def fs_MX (l : Launch) (X : fs_X) (y : MethodName) (cc : ByteArray) (maxL : Nat) (ret : Option FieldType) (rm : Room) (av : List Value) (ws : va_W) (sz : Nat) (Qc : (Nat → Prop) → Array Value → State → Outcome → State → Prop) (bad : Prop) (mc ms : Nat) : Prop :=
  vx_Met l y (Cond.code y cc maxL ret :: fs_G) rm (fs_Pc X av ws sz) (Qc (va_A ws sz)) (fs_XC X ws bad (va_A ws sz)) mc ms (va_A ws sz)
theorem fs_ofX {l : Launch} {X : fs_X} {y : MethodName} {cc : ByteArray} {maxL : Nat} {ret : Option FieldType} {rm : Room} {av : List Value} {ws : va_W} {sz : Nat} {Qc : (Nat → Prop) → Array Value → State → Outcome → State → Prop} {bad : Prop} {mc ms : Nat} (hy : plainName y.cls = true) (hlen : (lg_sl av).length ≤ maxL)
    (body : ∀ (p : Program) (e : Env) (s : State) (m : MethodId) (args : Array Value) (below : List Frame) (meth : Method) (c : Code) (A : Nat → Prop) (ls : Array Slot), fs_At X A p s m args meth c cc maxL ret y.cls y.name → fs_H X A s ws s.heap [] → lv_has ls maxL (lv_args 0 av) → (∀ x ∈ c.exceptionTable.toList, False) →
      W p l e rm s m args below meth c s.heap [] 0 0 (vx_MQ below (Qc A) (fs_XC X ws bad A) args s mc ms A) (F0 m 0 ls [])) : fs_MX l X y cc maxL ret rm av ws sz Qc bad mc ms := by
  refine vx_ofW (cc := cc) (maxL := maxL) (ret := ret) hy rfl ?_
  intro p e s m args below meth c s₁ B hml ht hv
  obtain ⟨rfl, hsz, hP, hE, hD, hB⟩ := hv
  have hts := atoms_spec (ws := Cond.code y cc maxL ret :: fs_G) B.pre
  have hl := lv_entry av (n := maxL) hlen
  rw [lg_entry_eq]
  generalize (lg_sl av ++ List.replicate (maxL - (lg_sl av).length) Slot.unset).toArray = ls at hl ⊢
  refine body p e s m _ below meth c (va_A ws sz) ls ⟨B.exec, B.bytes, B.returns, hml, findClass_of_methodNamed B.named, fun w hw => hts w (List.mem_cons_of_mem _ hw), B.notSynchronized, (name_of_methodNamed B.named B.method).1, hE, ?_, ?_⟩ ⟨hP, hD.self, va_S.rf⟩ hl ht
  · intro q hq; rw [hsz] at hq; exact Or.inr hq
  · intro q hq
    rcases hq with ⟨k, e9, h9⟩ | h9
    · exact hD.2 k _ h9
    · exact Nat.le_trans hB h9
def fs_ML (l : Launch) (X : fs_X) (y : MethodName) (cc : ByteArray) (maxL : Nat) (ret : Option FieldType) (hh : List (Nat × Nat × Nat × Nat)) (rm : Room) (av : List Value) (ws : va_W) (sz : Nat) (Qc : (Nat → Prop) → Array Value → State → Outcome → State → Prop) (mc ms : Nat) : Prop :=
  Met l y (Cond.codeWith y cc maxL ret hh :: fs_G) rm (fs_Pc X av ws sz) (Qc (va_A ws sz)) mc ms (va_A ws sz)
theorem fs_ofL {l : Launch} {X : fs_X} {y : MethodName} {cc : ByteArray} {maxL : Nat} {ret : Option FieldType} {hh : List (Nat × Nat × Nat × Nat)} {rm : Room} {av : List Value} {ws : va_W} {sz : Nat} {Qc : (Nat → Prop) → Array Value → State → Outcome → State → Prop} {mc ms : Nat} (hy : plainName y.cls = true) (hlen : (lg_sl av).length ≤ maxL)
    (body : ∀ (p : Program) (e : Env) (s : State) (m : MethodId) (args : Array Value) (below : List Frame) (meth : Method) (c : Code) (A : Nat → Prop) (ls : Array Slot), fs_At X A p s m args meth c cc maxL ret y.cls y.name → fs_H X A s ws s.heap [] → lv_has ls maxL (lv_args 0 av) → c.exceptionTable.toList = tableOf hh →
      W p l e rm s m args below meth c s.heap [] 0 0 (MQ below (Qc A) args s mc ms A) (F0 m 0 ls [])) : fs_ML l X y cc maxL ret hh rm av ws sz Qc mc ms := by
  refine va_MetW (cc := cc) (maxL := maxL) (ret := ret) (hh := hh) hy rfl ?_
  intro p e s m args below meth c s₁ B hml hv
  obtain ⟨rfl, hsz, hP, hE, hD, hB⟩ := hv
  have hts := atoms_spec (ws := Cond.codeWith y cc maxL ret hh :: fs_G) B.pre
  have ht : c.exceptionTable.toList = tableOf hh := vx_table (x := y) B (hts _ List.mem_cons_self)
  have hl := lv_entry av (n := maxL) hlen
  rw [lg_entry_eq]
  generalize (lg_sl av ++ List.replicate (maxL - (lg_sl av).length) Slot.unset).toArray = ls at hl ⊢
  refine body p e s m _ below meth c (va_A ws sz) ls ⟨B.exec, B.bytes, B.returns, hml, findClass_of_methodNamed B.named, fun w hw => hts w (List.mem_cons_of_mem _ hw), B.notSynchronized, (name_of_methodNamed B.named B.method).1, hE, ?_, ?_⟩ ⟨hP, hD.self, va_S.rf⟩ hl ht
  · intro q hq; rw [hsz] at hq; exact Or.inr hq
  · intro q hq
    rcases hq with ⟨k, e9, h9⟩ | h9
    · exact hD.2 k _ h9
    · exact Nat.le_trans hB h9
theorem fs_x0 : ∀ w ∈ (vx_at0 RX4 43 fs_IAE fs_EX).filter goodWord, w ∈ lw_tbl := by decide +kernel
theorem fs_x1 : ∀ w ∈ (vx_at0 RX4 43 fs_IAE fs_EX).filter (fun w => !goodWord w), w ∈ Cond.castable fs_IAE fs_IAE :: fs_ND.map Cond.declares := by decide +kernel
theorem fs_x2 : ∀ w ∈ Cond.classLink RX4 41 fs_IAE :: Cond.initialized fs_IAE :: vx_at0 RX4 43 fs_IAE fs_EX, vx_ot w = true := by decide +kernel
theorem fs_at0 {args : Array Value} {s : State} (hts : ∀ w ∈ fs_G, w.before args s = true) (hN : fs_N s) : ∀ w ∈ vx_at0 RX4 43 fs_IAE fs_EX, w.before args s = true :=
  vx_hat (fun w hw => hts w (List.mem_filter.mpr ⟨fs_x0 w hw, (List.mem_filter.mp hw).2⟩)) fs_x1 (vx_c (va_Nw.use rfl hN.2.2.1.1) (fun w hw => by obtain ⟨y, hy, rfl⟩ := List.mem_map.mp hw; exact va_Nw.use rfl (hN.2.2.1.2 y hy)))
section FST
variable {p : Program} {l : Launch} {e : Env} {R : Room} {s : State} {m : MethodId} {args : Array Value} {below : List Frame} {meth : Method} {c : Code} {H : Heap} {locs : List Loc} {cells slots : Nat} {Q : State → Prop}
variable {cc : ByteArray} {pc : Nat} {ls : Array Slot} {rest : List Value} {A : Nat → Prop} {a : Nat} {ws : va_W} {X : fs_X} {maxL : Nat} {ret : Option FieldType} {own nm : String}
theorem fs_throw (C : fs_At X A p s m args meth c cc maxL ret RX4 nm) (hl9 : l.stackTraces = false) (ht : ∀ x ∈ c.exceptionTable.toList, False) (hH : fs_H X A s ws H locs) (hsz : ls.size = maxL) {bad : Prop} (hbad : bad) {Qc : Array Value → State → Outcome → State → Prop} {mc ms : Nat} (hk : Cond.classLink RX4 41 fs_IAE ∈ fs_G) (hini : Cond.initialized fs_IAE ∈ fs_G)
    (d0 : decode cc pc = .ok (.new 41, 3)) (d3 : decode cc (pc + 3) = .ok (.dup, 1)) (d4 : decode cc (pc + 4) = .ok (.invokespecial 43, 3)) (d7 : decode cc (pc + 7) = .ok (.athrow, 1))
    (hRf : 5 < R.frames) (hRl : (rest.map fun v => v.category).sum + 81 ≤ R.locals) (hRc : cells + 1 ≤ R.cells) (hRs : slots + 6 ≤ R.slots) (hc : cells + 1 ≤ mc) (hs : slots + 6 ≤ ms) :
    W p l e R s m args below meth c H locs cells slots (vx_MQ below Qc (fs_XC X ws bad A) args s mc ms A) (F0 m pc ls rest) := by
  obtain ⟨hx, hb, hr, hml, hown, hts, hlocks, -, hE, hA, hAB⟩ := C
  refine vx_throw0 (names := fs_EX) (A := A) hx hb hl9 hown (by decide) (by decide) (hts _ hk) (hts _ hini) (fs_at0 hts hE.2.1) fs_x2 (hE.2.2.2.2.1.narrow hAB) (hE.2.2.2.2.2.narrow hAB) hH.2.2 (by rw [hml]; exact hsz) d0 d3 d4 d7 (fun x hx9 => (ht x hx9).elim) hRf (by show _ + (13 * (2 + 1) + 42) ≤ _; exact hRl) hRc hRs hlocks ?_ hH.2.2.2.2 hc hs
  intro t hal hz hk9
  refine ⟨(), hbad, ⟨rfl, hH.1.kept (fun k q hq => hk9 q.1 ((hH.1 k q hq).lt)), hH.2.1⟩, Nat.le_trans hH.2.2.1 hz, fun q h1 h2 => ?_⟩
  rw [hk9 q (Nat.lt_of_lt_of_le h1 hH.2.2.1)]
  exact hH.2.2.2.1 q h1 h2
theorem fs_rVX (C : fs_At X A p s m args meth c cc maxL ret own nm) (hH : fs_H X A s ws H locs) {wc : va_W} (isC : List Nat) (hn : va_nd isC = true) (hC : isC.map (fun i => ws[i]?) = wc.map some) {y : MethodName} {b9 : ByteArray} {n9 n index mc ms q0 ci b : Nat} {fs : List Value} {C9 : vw_C} {r9 : Option FieldType} {rm : Room} {As : List Value} {Qc : (Nat → Prop) → Array Value → State → Outcome → State → Prop} {bad : Prop} (hM : fs_MX l X y b9 n9 r9 rm (.ref b :: As) wc H.size Qc bad mc ms) (hcl : vwCl[ci]? = some C9) (hq : ws[q0]? = some (b, .inr (ci, fs)))
    (hrc : rm.cells = mc) (hrs : rm.slots = ms) (hcode : Cond.code y b9 n9 r9 ∈ fs_G) (hlink : Cond.methodLink own index y ∈ fs_G) (hinst : Cond.instanceMethod y ∈ fs_G) (hsel : Cond.selects C9.1 y y ∈ fs_G) (hini : Cond.initialized y.cls ∈ fs_G) (hd : fs_des y n) (hR : rm.frames + 1 ≤ R.frames ∧ 8 + (n9 + 11) + rm.locals ≤ R.locals) (hlen : As.length = n) (hsz : ls.size = maxL) {st0 : List Value} (hst : st0 = As.reverse ++ .ref b :: rest) (hrm : (rest.map fun v => v.category).sum ≤ 8) (hdg : decode cc pc = .ok (.invokevirtual index, 3)) (hf : cells + mc ≤ R.cells ∧ slots + ms ≤ R.slots) :
    vx_Run p l e R s m args below meth c H locs cells slots mc ms (F0 m pc ls st0) rest (Qc (va_A wc H.size) (Value.ref b :: As).toArray) (fs_XC X wc bad (va_A wc H.size)) (va_A wc H.size) := by
  obtain ⟨hx, hb, -, hml, hown, hts, -, -, hE, -, -⟩ := id C
  exact vx_runV (Ts := fs_G) (C := C9.1) ⟨hx, hb, hml, hown, hts⟩ hM ⟨callB_of n hts (fs_good hcode) rfl hrc hrs (hts _ hini) (hts _ hlink) hd hR, hts _ hinst, hts _ hsel⟩ ⟨fs_blind, va_recv hE.1 hH.1 hcl hq, fun U hU hW => fs_pre C hH isC hn hC U hU hW⟩ rfl hlen hsz hst (lv_room hrm) hdg hf
theorem fs_xci (C : fs_At X A p s m args meth c cc maxL ret own nm) (hH : fs_H X A s ws H locs) {wc wr : va_W} (isC isR : List Nat) (hC : isC.map (fun i => ws[i]?) = wc.map some) (hR : isR.map (fun i => ws[i]?) = wr.map some) (hn : va_nd isR = true) (hdis : ∀ i ∈ isR, i ∉ isC) (hnC : va_nd isC = true) {mc ms : Nat} {st0 : List Value} {S : Type} {post : Int32 → S → Prop} {wf : S → va_W} {a9 : Array Value} {bad : Prop}
    (x : ExceptionTableEntry) (htab : c.exceptionTable.toList = [x]) (hcov : covers x pc = true) (h0 : x.catchType ≠ 0) (hlink : Cond.classLink own x.catchType fs_IAE ∈ fs_G)
    (hr : vx_Run p l e R s m args below meth c H locs cells slots mc ms (F0 m pc ls st0) rest (fs_Qi X post wf (va_A wc H.size) a9) (fs_XC X wc bad (va_A wc H.size)) (va_A wc H.size))
    (kx : ∀ (q9 : Nat) (H1 : Heap) (locs1 : List Loc), bad → fs_H X A s (wr ++ wc) H1 locs1 → W p l e R s m args below meth c H1 locs1 (cells + mc) (slots + ms) Q (F0 m x.handlerPc ls [.ref q9]))
    (kk : ∀ (r : Int32) (u : S) (H1 : Heap) (locs1 : List Loc), post r u → fs_H X A s (wr ++ wf u) H1 locs1 → W p l e R s m args below meth c H1 locs1 (cells + mc) (slots + ms) Q (F0 m (pc + 3) ls (.int r :: rest))) : W p l e R s m args below meth c H locs cells slots Q (F0 m pc ls st0) := by
  have hF := va_free hH.2.1 hH.2.2 C.2.2.2.2.2.2.2.2.2.1 isC hC
  obtain ⟨hx, hb, -, hml, hown, hts, -, -, hE, -, -⟩ := id C
  refine vx_calli hr hH.2.2 (fun q _ h => hF q h) hF (fun q _ h => hF q h) (fun E ce q9 u t H1 locs1 ht hvm hp hB hz hk hS hce hcv hcl => ?_) (fun r u t H1 locs1 ht hvm hp hB hz hk hS => kk r u H1 locs1 hp (fs_join C hH isC isR hC hR hn hdis hk (by rw [← ht]; exact hB.1) hB.2 hS))
  obtain ⟨hE1, hP1, hD1⟩ := hB
  subst hE1
  exact fs_catch (name := fs_IAE) hown x htab hcov h0 (hts _ hlink) (va_Nw.use rfl hE.2.1.2.2.1.1) hce hcv hcl (kx q9 H1 locs1 hp (fs_join C hH isC isR hC hR hn hdis hk (by rw [← ht]; exact hP1) hD1 hS))
theorem fs_xcv (C : fs_At X A p s m args meth c cc maxL ret own nm) (hH : fs_H X A s ws H locs) {wc wr : va_W} (isC isR : List Nat) (hC : isC.map (fun i => ws[i]?) = wc.map some) (hR : isR.map (fun i => ws[i]?) = wr.map some) (hn : va_nd isR = true) (hdis : ∀ i ∈ isR, i ∉ isC) (hnC : va_nd isC = true) {mc ms : Nat} {st0 : List Value} {S : Type} {post : S → Prop} {wf : S → va_W} {a9 : Array Value} {bad : Prop}
    (x : ExceptionTableEntry) (htab : c.exceptionTable.toList = [x]) (hcov : covers x pc = true) (h0 : x.catchType ≠ 0) (hlink : Cond.classLink own x.catchType fs_IAE ∈ fs_G)
    (hr : vx_Run p l e R s m args below meth c H locs cells slots mc ms (F0 m pc ls st0) rest (fs_Qv X post wf (va_A wc H.size) a9) (fs_XC X wc bad (va_A wc H.size)) (va_A wc H.size))
    (kx : ∀ (q9 : Nat) (H1 : Heap) (locs1 : List Loc), bad → fs_H X A s (wr ++ wc) H1 locs1 → W p l e R s m args below meth c H1 locs1 (cells + mc) (slots + ms) Q (F0 m x.handlerPc ls [.ref q9]))
    (kk : ∀ (u : S) (H1 : Heap) (locs1 : List Loc), post u → fs_H X A s (wr ++ wf u) H1 locs1 → W p l e R s m args below meth c H1 locs1 (cells + mc) (slots + ms) Q (F0 m (pc + 3) ls rest)) : W p l e R s m args below meth c H locs cells slots Q (F0 m pc ls st0) := by
  have hF := va_free hH.2.1 hH.2.2 C.2.2.2.2.2.2.2.2.2.1 isC hC
  obtain ⟨hx, hb, -, hml, hown, hts, -, -, hE, -, -⟩ := id C
  refine vx_callv hr hH.2.2 (fun q _ h => hF q h) hF (fun q _ h => hF q h) (fun E ce q9 u t H1 locs1 ht hvm hp hB hz hk hS hce hcv hcl => ?_) (fun u t H1 locs1 ht hvm hp hB hz hk hS => kk u H1 locs1 hp (fs_join C hH isC isR hC hR hn hdis hk (by rw [← ht]; exact hB.1) hB.2 hS))
  obtain ⟨hE1, hP1, hD1⟩ := hB
  subst hE1
  exact fs_catch (name := fs_IAE) hown x htab hcov h0 (hts _ hlink) (va_Nw.use rfl hE.2.1.2.2.1.1) hce hcv hcl (kx q9 H1 locs1 hp (fs_join C hH isC isR hC hR hn hdis hk (by rw [← ht]; exact hP1) hD1 hS))
end FST
theorem fs_ixn {i : Int32} {n : Nat} (hn : n < 2 ^ 31) (h : ¬ i < 0 ∧ ¬ nI n ≤ i) : i = nI i.toNatClampNeg ∧ i.toNatClampNeg < n := by
  rcases pk_ix i hn with h1 | h1 | ⟨j, hj, rfl⟩
  · exact absurd h1 h.1
  · exact absurd h1 h.2
  · rw [nI_clamp (Nat.lt_trans hj hn)]; exact ⟨rfl, hj⟩
def fs_sts (s0 s1 s2 s3 : Nat) : Nat → Option Nat := va_up (va_up (va_up (va_up (fun _ => none) 0 (some s0)) 1 (some s1)) 2 (some s2)) 3 (some s3)
def fs_cu (cf : Nat → Int32) (j : Nat) (a b v : Int32) : Nat → Int32 := if a = nI j then upd cf b.toNatClampNeg v else cf
theorem fs_cuT (cf : Nat → Int32) (j : Nat) (b v : Int32) : fs_cu cf j (nI j) b v = upd cf b.toNatClampNeg v := if_pos rfl
theorem fs_cuF (cf : Nat → Int32) {j i : Nat} (hj : j < 4) (hi : i < 4) (h : j ≠ i) (b v : Int32) : fs_cu cf j (nI i) b v = cf := by
  unfold fs_cu; rw [if_neg]; intro e; exact h ((nI_eq (by omega) (by omega)).mp e.symm)
