-- OUR OWN KIT: one environment (fs_X), one form of contract (fs_M), one judgement of the world (fs_H)
abbrev fs_X : Type := va_G × Nat × ClassId × ClassId × ClassId × Nat × Nat
abbrev fs_B (X : fs_X) : Nat → Prop := fun q => X.2.1 ≤ q
abbrev fs_cI (X : fs_X) : ClassId := X.2.2.1
abbrev fs_cJ (X : fs_X) : ClassId := X.2.2.2.1
abbrev fs_cS (X : fs_X) : ClassId := X.2.2.2.2.1
abbrev fs_tQ (X : fs_X) : Nat := X.2.2.2.2.2.1
abbrev fs_tA (X : fs_X) : Nat := X.2.2.2.2.2.2
abbrev fs_TY (X : fs_X) : List (ClassId × FieldType) := [(fs_cI X, .int), (fs_cJ X, .long), (fs_cS X, .object "FixedSignals$Stage")]
abbrev fs_ai (X : fs_X) (n : Nat) (f : Nat → Int32) : va_E := .inl (fs_cI X, n, .inl f)
abbrev fs_al (X : fs_X) (n : Nat) (f : Nat → Int64) : va_E := .inl (fs_cJ X, n, .inr (.inl f))
abbrev fs_aq (X : fs_X) (n : Nat) (f : Nat → Option Nat) : va_E := .inl (fs_cS X, n, .inr (.inr (.inr (.inr f))))
def fs_C : Nat → Int32 | 0 => 0 | 1 => 418953276 | 2 => 821806413 | 3 => 1193077991 | 4 => 1518500250 | 5 => 1785567396 | 6 => 1984016189 | 7 => 2106220352 | _ => 2147483647
def fs_arc : Nat → Int32 | 0 => 536870912 | 1 => 316933406 | 2 => 167458907 | 3 => 85004756 | 4 => 42667331 | 5 => 21354465 | 6 => 10679838 | 7 => 5340245 | 8 => 2670163 | 9 => 1335087 | 10 => 667544 | 11 => 333772 | 12 => 166886 | 13 => 83443 | 14 => 41722 | 15 => 20861 | 16 => 10430 | 17 => 5215 | 18 => 2608 | 19 => 1304 | 20 => 652 | 21 => 326 | 22 => 163 | 23 => 81 | 24 => 41 | 25 => 20 | 26 => 10 | 27 => 5 | 28 => 3 | _ => 1
abbrev fs_ND : List MethodName := [⟨"java/lang/RuntimeException", "<init>", "()V"⟩, ⟨"java/lang/Exception", "<init>", "()V"⟩, ⟨"java/lang/Throwable", "<init>", "()V"⟩]
def fs_N (U : State) : Prop := (∀ q ∈ fs_NM, va_Nw (.methodLinkNest q.1 q.2.1 q.2.2 RX4) U) ∧ (∀ q ∈ fs_NF, va_Nw (.fieldLinkNest q.1 q.2.1 q.2.2.1 q.2.2.2.1 q.2.2.2.2 RX4) U) ∧ (va_Nw (.castable "java/lang/IllegalArgumentException" "java/lang/IllegalArgumentException") U ∧ ∀ y ∈ fs_ND, va_Nw (.declares y) U) ∧ va_AO "FixedSignals$Stage" U
theorem fs_N.warm {s U : State} (hW : s.WarmedH U.vm) (h : fs_N s) : fs_N U := ⟨fun q hq => va_Nw.warmM hW (h.1 q hq), fun q hq => va_Nw.warmF hW (h.2.1 q hq), ⟨va_Nw.warmC hW h.2.2.1.1, fun y hy => va_Nw.warmD hW (h.2.2.1.2 y hy)⟩, va_AO.moved hW.alike h.2.2.2⟩
def fs_Env (X : fs_X) (U : State) : Prop :=
  va_K X.1 vwCl (fs_TY X) U ∧ fs_N U ∧
  (va_Z "FixedSignals$Block" "QUARTER" "[I" (.ref (fs_tQ X)) (fs_B X) U U.heap ∧ va_T .int (fs_tQ X) 9 (fun j => .int (fs_C j)) (fs_B X) U U.heap) ∧
  (va_Z "FixedSignals$Turner" "ARCS" "[I" (.ref (fs_tA X)) (fs_B X) U U.heap ∧ va_T .int (fs_tA X) 30 (fun j => .int (fs_arc j)) (fs_B X) U U.heap) ∧
  vx_Zq Bundle.tN "UNASSIGNED_STACK" Bundle.steD (fs_B X) U U.heap ∧ vx_Zq Bundle.tN "SUPPRESSED_SENTINEL" Bundle.listD (fs_B X) U U.heap
theorem fs_Env.at {X : fs_X} {s U : State} {A : Nat → Prop} {H : Heap} {locs : List Loc} (h : fs_Env X s) (hS : va_S A s.heap H locs) (hAB : ∀ q, A q → fs_B X q) (hU : U.heap = H) (hW : s.WarmedH U.vm) : fs_Env X U := by
  have hk : ∀ a : Nat, a < s.heap.size → ¬ fs_B X a → U.heap[a]? = s.heap[a]? := fun a h1 h2 => by rw [hU]; exact hS.2.1 a h1 (fun z => h2 (hAB a z))
  obtain ⟨h1, h2, ⟨h3, h4⟩, ⟨h5, h6⟩, h7, h8⟩ := h
  exact ⟨va_K.moved hW.alike h1, fs_N.warm hW h2, ⟨(va_Z.moved hW.alike h3).kept hk, (va_T.moved hW.alike h4).kept hk⟩, ⟨(va_Z.moved hW.alike h5).kept hk, (va_T.moved hW.alike h6).kept hk⟩, (vx_Zq.moved hW.alike h7).kept hk, (vx_Zq.moved hW.alike h8).kept hk⟩
def fs_H (X : fs_X) (A : Nat → Prop) (s : State) (ws : va_W) (H : Heap) (locs : List Loc) : Prop := va_P X.1 vwCl ws H ∧ va_D A ws ∧ va_S A s.heap H locs
theorem fs_H.sub {X : fs_X} {A : Nat → Prop} {s : State} {ws ws' : va_W} {H : Heap} {locs : List Loc} (h : fs_H X A s ws H locs) (is : List Nat) (hn : va_nd is = true) (hs : is.map (fun i => ws[i]?) = ws'.map some) : fs_H X A s ws' H locs := by
  refine ⟨h.1.sub is ?_, h.2.1.sub is hn hs, h.2.2⟩
  have : ∀ (l : List Nat) (w : va_W), l.map (fun i => ws[i]?) = w.map some → l.filterMap (fun i => ws[i]?) = w := by
    intro l
    induction l with
    | nil => intro w h; cases w with | nil => rfl | cons a b => simp at h
    | cons i t ih =>
      intro w h
      cases w with
      | nil => simp at h
      | cons a b =>
        simp only [List.map_cons, List.cons.injEq] at h
        rw [List.filterMap_cons, h.1]
        simp only [ih b h.2]
  exact this is ws' hs
def fs_Pc (X : fs_X) (av : List Value) (ws : va_W) (sz : Nat) : Array Value → State → Prop := va_Pc av (fun U => U.heap.size = sz ∧ va_P X.1 vwCl ws U.heap ∧ fs_Env X U ∧ va_D (fs_B X) ws ∧ X.2.1 ≤ sz)
theorem fs_blind {X : fs_X} {av : List Value} {ws : va_W} {sz : Nat} : FrameBlind (fs_Pc X av ws sz) := by
  intro a U g mk h
  obtain ⟨h0, h1, hP, hE, hD, hB⟩ := h
  exact ⟨h0, h1, hP, hE.at (A := fun _ => False) (H := U.heap) (locs := []) va_S.rf (fun _ h => h.elim) rfl (State.WarmedH.refl U), hD, hB⟩
def fs_Bd (X : fs_X) (A : Nat → Prop) {S : Type} (wf : S → va_W) : S → State → Prop := fun u t => va_P X.1 vwCl (wf u) t.heap ∧ va_D A (wf u)
def fs_Qi (X : fs_X) {S : Type} (post : Int32 → S → Prop) (wf : S → va_W) (A : Nat → Prop) : Array Value → State → Outcome → State → Prop := va_Qi post (fs_Bd X A wf) A
def fs_Ql (X : fs_X) {S : Type} (post : Int64 → S → Prop) (wf : S → va_W) (A : Nat → Prop) : Array Value → State → Outcome → State → Prop := va_Ql post (fs_Bd X A wf) A
def fs_Qv (X : fs_X) {S : Type} (post : S → Prop) (wf : S → va_W) (A : Nat → Prop) : Array Value → State → Outcome → State → Prop := va_Qv post (fs_Bd X A wf) A
/-- a contract of our one form -/
def fs_M (l : Launch) (X : fs_X) (y : MethodName) (cc : ByteArray) (maxL : Nat) (ret : Option FieldType) (rm : Room) (av : List Value) (ws : va_W) (sz : Nat) (Qc : (Nat → Prop) → Array Value → State → Outcome → State → Prop) (mc ms : Nat) : Prop :=
  Met l y (Cond.code y cc maxL ret :: fs_G) rm (fs_Pc X av ws sz) (Qc (va_A ws sz)) mc ms (va_A ws sz)
/-- what holds at a method's entry and stays -/
def fs_At (X : fs_X) (A : Nat → Prop) (p : Program) (s : State) (m : MethodId) (args : Array Value) (meth : Method) (c : Code) (cc : ByteArray) (maxL : Nat) (ret : Option FieldType) (own nm : String) : Prop :=
  p.tables.exec = Jvm.exec ∧ c.code = cc ∧ meth.sig.returnType = ret ∧ c.maxLocals = maxL ∧ s.vm.findClass own = some m.cls ∧ (∀ w ∈ fs_G, w.before args s = true) ∧ meth.locks = false ∧ meth.name = nm ∧ fs_Env X s ∧ (∀ q, s.heap.size ≤ q → A q) ∧ (∀ q, A q → fs_B X q)
theorem fs_ofW {l : Launch} {X : fs_X} {y : MethodName} {cc : ByteArray} {maxL : Nat} {ret : Option FieldType} {rm : Room} {av : List Value} {ws : va_W} {sz : Nat} {Qc : (Nat → Prop) → Array Value → State → Outcome → State → Prop} {mc ms : Nat} (hy : plainName y.cls = true) (hlen : (lg_sl av).length ≤ maxL)
    (body : ∀ (p : Program) (e : Env) (s : State) (m : MethodId) (args : Array Value) (below : List Frame) (meth : Method) (c : Code) (A : Nat → Prop) (ls : Array Slot), fs_At X A p s m args meth c cc maxL ret y.cls y.name → fs_H X A s ws s.heap [] → lv_has ls maxL (lv_args 0 av) →
      W p l e rm s m args below meth c s.heap [] 0 0 (MQ below (Qc A) args s mc ms A) (F0 m 0 ls [])) : fs_M l X y cc maxL ret rm av ws sz Qc mc ms := by
  refine Met.ofW (cc := cc) (maxL := maxL) (ret := ret) hy rfl ?_
  intro p e s m args below meth c s₁ B hml hv
  obtain ⟨rfl, hsz, hP, hE, hD, hB⟩ := hv
  have hts := atoms_spec (ws := Cond.code y cc maxL ret :: fs_G) B.pre
  have hl := lv_entry av (n := maxL) hlen
  rw [lg_entry_eq]
  generalize (lg_sl av ++ List.replicate (maxL - (lg_sl av).length) Slot.unset).toArray = ls at hl ⊢
  refine body p e s m _ below meth c (va_A ws sz) ls ⟨B.exec, B.bytes, B.returns, hml, findClass_of_methodNamed B.named, fun w hw => hts w (List.mem_cons_of_mem _ hw), B.notSynchronized, (name_of_methodNamed B.named B.method).1, hE, ?_, ?_⟩ ⟨hP, hD.self, va_S.rf⟩ hl
  · intro q hq; rw [hsz] at hq; exact Or.inr hq
  · intro q hq
    rcases hq with ⟨k, e9, h9⟩ | h9
    · exact hD.2 k _ h9
    · exact Nat.le_trans hB h9
section FSR
variable {p : Program} {l : Launch} {e : Env} {R : Room} {s : State} {m : MethodId} {args : Array Value} {below : List Frame} {meth : Method} {c : Code} {H : Heap} {locs : List Loc} {cells slots : Nat} {Q : State → Prop}
variable {cc : ByteArray} {pc : Nat} {ls : Array Slot} {rest : List Value} {A : Nat → Prop} {a : Nat} {ws : va_W} {X : fs_X} {maxL : Nat} {ret : Option FieldType} {own nm : String}
theorem fs_get (C : fs_At X A p s m args meth c cc maxL ret own nm) {C9 : String} {T : u_T} {N ci index : Nat} (hin : ∀ w ∈ u_ws C9 T N, w ∈ fs_G) (hH : fs_H X A s ws H locs) (q0 : Nat) {fs : List Value} (he : ws[q0]? = some (a, .inr (ci, fs))) (hc : vwCl[ci]? = some (C9, T, N)) (k : Nat) (hk : k < N) (hlink : Cond.fieldLink own index (T k).1 (T k).2.1 (T k).2.2.1 ∈ fs_G) {v : Value} (hv : fs[k]? = some v) (hdg : decode cc pc = .ok (.getfield index, 3))
    (kk : W p l e R s m args below meth c H locs cells slots Q (F0 m (pc + 3) ls (v :: rest))) : W p l e R s m args below meth c H locs cells slots Q (F0 m pc ls (.ref a :: rest)) := by
  obtain ⟨hx, hb, -, -, hown, hts, -, -, hE, -, -⟩ := C
  exact va_get hx hb hts hin hown hE.1 hH.1 q0 he hc k hk (hts _ hlink) (fun _ h => h) hv hdg kk
theorem fs_getN (C : fs_At X A p s m args meth c cc maxL ret own nm) {C9 : String} {T : u_T} {N ci index : Nat} (hin : ∀ w ∈ u_ws C9 T N, w ∈ fs_G) (hH : fs_H X A s ws H locs) (q0 : Nat) {fs : List Value} (he : ws[q0]? = some (a, .inr (ci, fs))) (hc : vwCl[ci]? = some (C9, T, N)) (k : Nat) (hk : k < N) (hlink : (own, index, (T k).1, (T k).2.1, (T k).2.2.1) ∈ fs_NF) {v : Value} (hv : fs[k]? = some v) (hdg : decode cc pc = .ok (.getfield index, 3))
    (kk : W p l e R s m args below meth c H locs cells slots Q (F0 m (pc + 3) ls (v :: rest))) : W p l e R s m args below meth c H locs cells slots Q (F0 m pc ls (.ref a :: rest)) := by
  obtain ⟨hx, hb, -, -, hown, hts, -, -, hE, -, -⟩ := C
  exact va_getN hx hb hts hin hown hE.1 hH.1 q0 he hc k hk (va_Nw.use rfl (hE.2.1.2.1 _ hlink)) (fun _ h => h) hv hdg kk
theorem fs_put (C : fs_At X A p s m args meth c cc maxL ret own nm) {C9 : String} {T : u_T} {N ci index : Nat} (hin : ∀ w ∈ u_ws C9 T N, w ∈ fs_G) (ty0 : Nat → FieldType) (hty : ∀ k, k < N → parseFieldDescriptor (T k).2.2.1 = some (ty0 k)) (hnm : ∀ a, a < N → ∀ b, b < N → a ≠ b → (T a).2.1 ≠ (T b).2.1) (hH : fs_H X A s ws H locs) (q0 : Nat) {fs : List Value} (he : ws[q0]? = some (a, .inr (ci, fs))) (hc : vwCl[ci]? = some (C9, T, N)) (k : Nat) (hk : k < N) (hlink : Cond.fieldLink own index (T k).1 (T k).2.1 (T k).2.2.1 ∈ fs_G) (hfin : (T k).2.2.2 = false) {v : Value} (hn : narrow (ty0 k) v = v) (hfit : fits (ty0 k) v = true) (hl : k < fs.length) {ws' : va_W} (hw : ws.set q0 (a, .inr (ci, fs.set k v)) = ws')
    (hdg : decode cc pc = .ok (.putfield index, 3)) (kk : ∀ (H1 : Heap) (locs1 : List Loc), fs_H X A s ws' H1 locs1 → W p l e R s m args below meth c H1 locs1 cells slots Q (F0 m (pc + 3) ls rest)) : W p l e R s m args below meth c H locs cells slots Q (F0 m pc ls (v :: .ref a :: rest)) := by
  obtain ⟨hx, hb, -, -, hown, hts, -, -, hE, -, -⟩ := C
  subst hw
  exact va_put hx hb hts hin ty0 hty hnm hown hE.1 hH.1 hH.2.1 hH.2.2 q0 he hc k hk (hts _ hlink) (fun _ h => h) hfin (hty k hk) hn hfit hl hdg (fun H1 locs1 h1 h2 h3 => kk H1 locs1 ⟨h1, h2, h3⟩)
theorem fs_putN (C : fs_At X A p s m args meth c cc maxL ret own nm) {C9 : String} {T : u_T} {N ci index : Nat} (hin : ∀ w ∈ u_ws C9 T N, w ∈ fs_G) (ty0 : Nat → FieldType) (hty : ∀ k, k < N → parseFieldDescriptor (T k).2.2.1 = some (ty0 k)) (hnm : ∀ a, a < N → ∀ b, b < N → a ≠ b → (T a).2.1 ≠ (T b).2.1) (hH : fs_H X A s ws H locs) (q0 : Nat) {fs : List Value} (he : ws[q0]? = some (a, .inr (ci, fs))) (hc : vwCl[ci]? = some (C9, T, N)) (k : Nat) (hk : k < N) (hlink : (own, index, (T k).1, (T k).2.1, (T k).2.2.1) ∈ fs_NF) (hfin : (T k).2.2.2 = false) {v : Value} (hn : narrow (ty0 k) v = v) (hfit : fits (ty0 k) v = true) (hl : k < fs.length) {ws' : va_W} (hw : ws.set q0 (a, .inr (ci, fs.set k v)) = ws')
    (hdg : decode cc pc = .ok (.putfield index, 3)) (kk : ∀ (H1 : Heap) (locs1 : List Loc), fs_H X A s ws' H1 locs1 → W p l e R s m args below meth c H1 locs1 cells slots Q (F0 m (pc + 3) ls rest)) : W p l e R s m args below meth c H locs cells slots Q (F0 m pc ls (v :: .ref a :: rest)) := by
  obtain ⟨hx, hb, -, -, hown, hts, -, -, hE, -, -⟩ := C
  subst hw
  exact va_putN hx hb hts hin ty0 hty hnm hown hE.1 hH.1 hH.2.1 hH.2.2 q0 he hc k hk (va_Nw.use rfl (hE.2.1.2.1 _ hlink)) (fun _ h => h) hfin (hty k hk) hn hfit hl hdg (fun H1 locs1 h1 h2 h3 => kk H1 locs1 ⟨h1, h2, h3⟩)
theorem fs_putF (C : fs_At X A p s m args meth c cc maxL ret own "<init>") {C9 : String} {T : u_T} {N ci index : Nat} (hin : ∀ w ∈ u_ws C9 T N, w ∈ fs_G) (ty0 : Nat → FieldType) (hty : ∀ k, k < N → parseFieldDescriptor (T k).2.2.1 = some (ty0 k)) (hnm : ∀ a, a < N → ∀ b, b < N → a ≠ b → (T a).2.1 ≠ (T b).2.1) (hH : fs_H X A s ws H locs) (q0 : Nat) {fs : List Value} (he : ws[q0]? = some (a, .inr (ci, fs))) (hc : vwCl[ci]? = some (C9, T, N)) (k : Nat) (hk : k < N) (hlink : Cond.fieldLink own index (T k).1 (T k).2.1 (T k).2.2.1 ∈ fs_G) (hfin : (T k).2.2.2 = true) (hdecl : (T k).1 = own) {v : Value} (hn : narrow (ty0 k) v = v) (hfit : fits (ty0 k) v = true) (hl : k < fs.length) {ws' : va_W} (hw : ws.set q0 (a, .inr (ci, fs.set k v)) = ws')
    (hdg : decode cc pc = .ok (.putfield index, 3)) (kk : ∀ (H1 : Heap) (locs1 : List Loc), fs_H X A s ws' H1 locs1 → W p l e R s m args below meth c H1 locs1 cells slots Q (F0 m (pc + 3) ls rest)) : W p l e R s m args below meth c H locs cells slots Q (F0 m pc ls (v :: .ref a :: rest)) := by
  obtain ⟨hx, hb, -, -, hown, hts, -, hin2, hE, -, -⟩ := C
  subst hw
  exact va_putF hx hb hts hin ty0 hty hnm hown hE.1 hH.1 hH.2.1 hH.2.2 q0 he hc k hk (hts _ hlink) (fun _ h => h) hfin hin2 hdecl (hty k hk) hn hfit hl hdg (fun H1 locs1 h1 h2 h3 => kk H1 locs1 ⟨h1, h2, h3⟩)
theorem fs_iald (C : fs_At X A p s m args meth c cc maxL ret own nm) (hH : fs_H X A s ws H locs) (q0 : Nat) {n : Nat} {f : Nat → Int32} (ha : ws[q0]? = some (a, fs_ai X n f)) {i : Int32} {k : Nat} (hi : i = nI k) (hk : k < n) (hn : n < 2 ^ 31) (hdg : decode cc pc = .ok (.iaload, 1))
    (kk : W p l e R s m args below meth c H locs cells slots Q (F0 m (pc + 1) ls (.int (f k) :: rest))) : W p l e R s m args below meth c H locs cells slots Q (F0 m pc ls (.int i :: .ref a :: rest)) := by
  obtain ⟨hx, hb, -, -, hown, hts, -, -, hE, -, -⟩ := C
  subst hi
  exact va_iald hx hb hE.1 hH.1 q0 0 ha rfl (vp_in_nI hk hn) hdg (by rw [nI_clamp (Nat.lt_trans hk hn)]; exact kk)
theorem fs_iast (C : fs_At X A p s m args meth c cc maxL ret own nm) (hH : fs_H X A s ws H locs) (q0 : Nat) {n : Nat} {f : Nat → Int32} (ha : ws[q0]? = some (a, fs_ai X n f)) {i x : Int32} {k : Nat} (hi : i = nI k) (hk : k < n) (hn : n < 2 ^ 31) {ws' : va_W} (hw : ws.set q0 (a, fs_ai X n (upd f k x)) = ws') (hdg : decode cc pc = .ok (.iastore, 1))
    (kk : ∀ (H1 : Heap) (locs1 : List Loc), fs_H X A s ws' H1 locs1 → W p l e R s m args below meth c H1 locs1 cells slots Q (F0 m (pc + 1) ls rest)) : W p l e R s m args below meth c H locs cells slots Q (F0 m pc ls (.int x :: .int i :: .ref a :: rest)) := by
  obtain ⟨hx, hb, -, -, hown, hts, -, -, hE, -, -⟩ := C
  subst hi; subst hw
  exact va_iast hx hb hE.1 hH.1 hH.2.1 hH.2.2 q0 0 ha rfl (vp_in_nI hk hn) hdg (by rw [nI_clamp (Nat.lt_trans hk hn)]; exact fun H1 locs1 h1 h2 h3 => kk H1 locs1 ⟨h1, h2, h3⟩)
theorem fs_lald (C : fs_At X A p s m args meth c cc maxL ret own nm) (hH : fs_H X A s ws H locs) (q0 : Nat) {n : Nat} {f : Nat → Int64} (ha : ws[q0]? = some (a, fs_al X n f)) {i : Int32} {k : Nat} (hi : i = nI k) (hk : k < n) (hn : n < 2 ^ 31) (hdg : decode cc pc = .ok (.laload, 1))
    (kk : W p l e R s m args below meth c H locs cells slots Q (F0 m (pc + 1) ls (.long (f k) :: rest))) : W p l e R s m args below meth c H locs cells slots Q (F0 m pc ls (.int i :: .ref a :: rest)) := by
  obtain ⟨hx, hb, -, -, hown, hts, -, -, hE, -, -⟩ := C
  subst hi
  exact va_lald hx hb hE.1 hH.1 q0 1 ha rfl (vp_in_nI hk hn) hdg (by rw [nI_clamp (Nat.lt_trans hk hn)]; exact kk)
theorem fs_last (C : fs_At X A p s m args meth c cc maxL ret own nm) (hH : fs_H X A s ws H locs) (q0 : Nat) {n : Nat} {f : Nat → Int64} (ha : ws[q0]? = some (a, fs_al X n f)) {i : Int32} {x : Int64} {k : Nat} (hi : i = nI k) (hk : k < n) (hn : n < 2 ^ 31) {ws' : va_W} (hw : ws.set q0 (a, fs_al X n (vp_updL f k x)) = ws') (hdg : decode cc pc = .ok (.lastore, 1))
    (kk : ∀ (H1 : Heap) (locs1 : List Loc), fs_H X A s ws' H1 locs1 → W p l e R s m args below meth c H1 locs1 cells slots Q (F0 m (pc + 1) ls rest)) : W p l e R s m args below meth c H locs cells slots Q (F0 m pc ls (.long x :: .int i :: .ref a :: rest)) := by
  obtain ⟨hx, hb, -, -, hown, hts, -, -, hE, -, -⟩ := C
  subst hi; subst hw
  exact va_last hx hb hE.1 hH.1 hH.2.1 hH.2.2 q0 1 ha rfl (vp_in_nI hk hn) hdg (by rw [nI_clamp (Nat.lt_trans hk hn)]; exact fun H1 locs1 h1 h2 h3 => kk H1 locs1 ⟨h1, h2, h3⟩)
theorem fs_aald (C : fs_At X A p s m args meth c cc maxL ret own nm) (hH : fs_H X A s ws H locs) (q0 : Nat) {n : Nat} {f : Nat → Option Nat} (ha : ws[q0]? = some (a, fs_aq X n f)) {i : Int32} {k b : Nat} (hi : i = nI k) (hk : k < n) (hn : n < 2 ^ 31) (hf : f k = some b) (hdg : decode cc pc = .ok (.aaload, 1))
    (kk : W p l e R s m args below meth c H locs cells slots Q (F0 m (pc + 1) ls (.ref b :: rest))) : W p l e R s m args below meth c H locs cells slots Q (F0 m pc ls (.int i :: .ref a :: rest)) := by
  obtain ⟨hx, hb, -, -, hown, hts, -, -, hE, -, -⟩ := C
  subst hi
  exact va_aldq hx hb hE.1 hH.1 q0 2 ha rfl (vp_in_nI hk hn) hdg (by rw [nI_clamp (Nat.lt_trans hk hn), hf]; exact kk)
theorem fs_lge (hx : p.tables.exec = Jvm.exec) (hb : c.code = cc) {x y : Int64} {off : Int} {tgt : Nat} (d0 : decode cc pc = .ok (.lcmp, 1)) (d1 : decode cc (pc + 1) = .ok (.ifCond .ge off, 3)) (ht : ((pc + 1 : Nat) : Int) + off = (tgt : Int))
    (kt : y ≤ x → W p l e R s m args below meth c H locs cells slots Q (F0 m tgt ls rest)) (kf : ¬ y ≤ x → W p l e R s m args below meth c H locs cells slots Q (F0 m (pc + 1 + 3) ls rest)) : W p l e R s m args below meth c H locs cells slots Q (F0 m pc ls (.long y :: .long x :: rest)) :=
  W.lcmp hx hb d0 (lv_if_ge hx hb d1 ht (fun h => kt ((lg_cmp_ge x y).mp h)) (fun h => kf (fun h2 => h ((lg_cmp_ge x y).mpr h2))))
theorem fs_lle (hx : p.tables.exec = Jvm.exec) (hb : c.code = cc) {x y : Int64} {off : Int} {tgt : Nat} (d0 : decode cc pc = .ok (.lcmp, 1)) (d1 : decode cc (pc + 1) = .ok (.ifCond .le off, 3)) (ht : ((pc + 1 : Nat) : Int) + off = (tgt : Int))
    (kt : x ≤ y → W p l e R s m args below meth c H locs cells slots Q (F0 m tgt ls rest)) (kf : ¬ x ≤ y → W p l e R s m args below meth c H locs cells slots Q (F0 m (pc + 1 + 3) ls rest)) : W p l e R s m args below meth c H locs cells slots Q (F0 m pc ls (.long y :: .long x :: rest)) :=
  W.lcmp hx hb d0 (lv_if_le hx hb d1 ht (fun h => kt ((lg_cmp_le x y).mp h)) (fun h => kf (fun h2 => h ((lg_cmp_le x y).mpr h2))))
theorem fs_lgt (hx : p.tables.exec = Jvm.exec) (hb : c.code = cc) {x y : Int64} {off : Int} {tgt : Nat} (d0 : decode cc pc = .ok (.lcmp, 1)) (d1 : decode cc (pc + 1) = .ok (.ifCond .gt off, 3)) (ht : ((pc + 1 : Nat) : Int) + off = (tgt : Int))
    (kt : y < x → W p l e R s m args below meth c H locs cells slots Q (F0 m tgt ls rest)) (kf : ¬ y < x → W p l e R s m args below meth c H locs cells slots Q (F0 m (pc + 1 + 3) ls rest)) : W p l e R s m args below meth c H locs cells slots Q (F0 m pc ls (.long y :: .long x :: rest)) :=
  W.lcmp hx hb d0 (lv_if_gt hx hb d1 ht (fun h => kt ((lg_cmp_gt x y).mp h)) (fun h => kf (fun h2 => h ((lg_cmp_gt x y).mpr h2))))
theorem fs_llt (hx : p.tables.exec = Jvm.exec) (hb : c.code = cc) {x y : Int64} {off : Int} {tgt : Nat} (d0 : decode cc pc = .ok (.lcmp, 1)) (d1 : decode cc (pc + 1) = .ok (.ifCond .lt off, 3)) (ht : ((pc + 1 : Nat) : Int) + off = (tgt : Int))
    (kt : x < y → W p l e R s m args below meth c H locs cells slots Q (F0 m tgt ls rest)) (kf : ¬ x < y → W p l e R s m args below meth c H locs cells slots Q (F0 m (pc + 1 + 3) ls rest)) : W p l e R s m args below meth c H locs cells slots Q (F0 m pc ls (.long y :: .long x :: rest)) :=
  W.lcmp hx hb d0 (lv_if_lt hx hb d1 ht (fun h => kt ((lg_cmp_lt x y).mp h)) (fun h => kf (fun h2 => h ((lg_cmp_lt x y).mpr h2))))
theorem fs_leq (hx : p.tables.exec = Jvm.exec) (hb : c.code = cc) {x y : Int64} {off : Int} {tgt : Nat} (d0 : decode cc pc = .ok (.lcmp, 1)) (d1 : decode cc (pc + 1) = .ok (.ifCond .eq off, 3)) (ht : ((pc + 1 : Nat) : Int) + off = (tgt : Int))
    (kt : x = y → W p l e R s m args below meth c H locs cells slots Q (F0 m tgt ls rest)) (kf : ¬ x = y → W p l e R s m args below meth c H locs cells slots Q (F0 m (pc + 1 + 3) ls rest)) : W p l e R s m args below meth c H locs cells slots Q (F0 m pc ls (.long y :: .long x :: rest)) :=
  W.lcmp hx hb d0 (lv_if_eq hx hb d1 ht (fun h => kt ((lg_cmp_eq x y).mp h)) (fun h => kf (fun h2 => h ((lg_cmp_eq x y).mpr h2))))
theorem fs_getQ (C : fs_At X A p s m args meth c cc maxL ret "FixedSignals$Block" nm) (hH : fs_H X A s ws H locs) {index : Nat} (hlink : Cond.fieldLink "FixedSignals$Block" index "FixedSignals$Block" "QUARTER" "[I" ∈ fs_G) (hdg : decode cc pc = .ok (.getstatic index, 3))
    (kk : W p l e R s m args below meth c H locs cells slots Q (F0 m (pc + 3) ls (.ref (fs_tQ X) :: rest))) : W p l e R s m args below meth c H locs cells slots Q (F0 m pc ls rest) := by
  obtain ⟨hx, hb, -, -, hown, hts, -, -, hE, -, hAB⟩ := C
  exact va_gets hx hb (hE.2.2.1.1.narrow hAB) hH.2.2 hown (hts _ hlink) (fun _ h => h) hdg kk
theorem fs_getA (C : fs_At X A p s m args meth c cc maxL ret "FixedSignals$Turner" nm) (hH : fs_H X A s ws H locs) {index : Nat} (hlink : Cond.fieldLink "FixedSignals$Turner" index "FixedSignals$Turner" "ARCS" "[I" ∈ fs_G) (hdg : decode cc pc = .ok (.getstatic index, 3))
    (kk : W p l e R s m args below meth c H locs cells slots Q (F0 m (pc + 3) ls (.ref (fs_tA X) :: rest))) : W p l e R s m args below meth c H locs cells slots Q (F0 m pc ls rest) := by
  obtain ⟨hx, hb, -, -, hown, hts, -, -, hE, -, hAB⟩ := C
  exact va_gets hx hb (hE.2.2.2.1.1.narrow hAB) hH.2.2 hown (hts _ hlink) (fun _ h => h) hdg kk
theorem fs_tabQ (C : fs_At X A p s m args meth c cc maxL ret own nm) (hH : fs_H X A s ws H locs) {i : Int32} {k : Nat} (hi : i = nI k) (hk : k < 9) (hdg : decode cc pc = .ok (.iaload, 1))
    (kk : W p l e R s m args below meth c H locs cells slots Q (F0 m (pc + 1) ls (.int (fs_C k) :: rest))) : W p l e R s m args below meth c H locs cells slots Q (F0 m pc ls (.int i :: .ref (fs_tQ X) :: rest)) := by
  obtain ⟨hx, hb, -, -, hown, hts, -, -, hE, -, hAB⟩ := C
  subst hi
  exact va_ti hx hb (hE.2.2.1.2.narrow hAB) hH.2.2 (vp_in_nI hk (by decide)) (by rw [nI_clamp (Nat.lt_trans hk (by decide))]) hdg kk
theorem fs_tabA (C : fs_At X A p s m args meth c cc maxL ret own nm) (hH : fs_H X A s ws H locs) {i : Int32} {k : Nat} (hi : i = nI k) (hk : k < 30) (hdg : decode cc pc = .ok (.iaload, 1))
    (kk : W p l e R s m args below meth c H locs cells slots Q (F0 m (pc + 1) ls (.int (fs_arc k) :: rest))) : W p l e R s m args below meth c H locs cells slots Q (F0 m pc ls (.int i :: .ref (fs_tA X) :: rest)) := by
  obtain ⟨hx, hb, -, -, hown, hts, -, -, hE, -, hAB⟩ := C
  subst hi
  exact va_ti hx hb (hE.2.2.2.1.2.narrow hAB) hH.2.2 (vp_in_nI hk (by decide)) (by rw [nI_clamp (Nat.lt_trans hk (by decide))]) hdg kk
/-- a returned int -/
theorem fs_iret (C : fs_At X A p s m args meth c cc maxL (some .int) own nm) (hH : fs_H X A s ws H locs) {S : Type} {post : Int32 → S → Prop} {wf : S → va_W} {v : Int32} (u : S) (hu : wf u = ws) (hp : post v u) (hdg : decode cc pc = .ok (.ireturn, 1)) : W p l e R s m args below meth c H locs cells slots (MQ below (fs_Qi X post wf A) args s cells slots A) (F0 m pc ls [.int v]) := by
  obtain ⟨hx, hb, hr, -, -, -, hlocks, -, -, -, -⟩ := C
  exact W.iret hx hb hr (fun t ht hW => ⟨⟨v, u, rfl, hp, by rw [hu, ht]; exact hH.1, by rw [hu]; exact hH.2.1⟩, hH.2.2.F ht⟩) hH.2.2.2.2 hdg hlocks
theorem fs_zret (C : fs_At X A p s m args meth c cc maxL (some .boolean) own nm) (hH : fs_H X A s ws H locs) {S : Type} {post : Int32 → S → Prop} {wf : S → va_W} {v : Int32} (hn : narrow .boolean (.int v) = .int v) (u : S) (hu : wf u = ws) (hp : post v u) (hdg : decode cc pc = .ok (.ireturn, 1)) : W p l e R s m args below meth c H locs cells slots (MQ below (fs_Qi X post wf A) args s cells slots A) (F0 m pc ls [.int v]) := by
  obtain ⟨hx, hb, hr, -, -, -, hlocks, -, -, -, -⟩ := C
  exact W.zret hx hb hr hn (fun t ht hW => ⟨⟨v, u, rfl, hp, by rw [hu, ht]; exact hH.1, by rw [hu]; exact hH.2.1⟩, hH.2.2.F ht⟩) hH.2.2.2.2 hdg hlocks
theorem fs_lret (C : fs_At X A p s m args meth c cc maxL (some .long) own nm) (hH : fs_H X A s ws H locs) {S : Type} {post : Int64 → S → Prop} {wf : S → va_W} {v : Int64} (u : S) (hu : wf u = ws) (hp : post v u) (hdg : decode cc pc = .ok (.lreturn, 1)) : W p l e R s m args below meth c H locs cells slots (MQ below (fs_Ql X post wf A) args s cells slots A) (F0 m pc ls [.long v]) := by
  obtain ⟨hx, hb, hr, -, -, -, hlocks, -, -, -, -⟩ := C
  exact W.lret hx hb hr (fun t ht hW => ⟨⟨v, u, rfl, hp, by rw [hu, ht]; exact hH.1, by rw [hu]; exact hH.2.1⟩, hH.2.2.F ht⟩) hH.2.2.2.2 hdg hlocks
theorem fs_vret (C : fs_At X A p s m args meth c cc maxL none own nm) (hH : fs_H X A s ws H locs) {S : Type} {post : S → Prop} {wf : S → va_W} (u : S) (hu : wf u = ws) (hp : post u) (hdg : decode cc pc = .ok (.return_, 1)) : W p l e R s m args below meth c H locs cells slots (MQ below (fs_Qv X post wf A) args s cells slots A) (F0 m pc ls []) := by
  obtain ⟨hx, hb, hr, -, -, -, hlocks, -, -, -, -⟩ := C
  exact W.vret hx hb hr (fun t ht hW => ⟨⟨u, rfl, hp, by rw [hu, ht]; exact hH.1, by rw [hu]; exact hH.2.1⟩, hH.2.2.F ht⟩) hH.2.2.2.2 hdg hlocks
/-- the words of a callee of our one form -/
theorem fs_good {y : MethodName} {b9 : ByteArray} {n9 : Nat} {r9 : Option FieldType} (h : Cond.code y b9 n9 r9 ∈ fs_G) : GoodIn fs_G (Cond.code y b9 n9 r9 :: fs_G) := by
  intro w hw
  have h2 : w ∈ fs_G := by
    rcases List.mem_cons.mp hw with e9 | e9
    · rw [e9]; exact h
    · exact e9
  exact ⟨h2, good_of_word (List.mem_filter.mp h2).2⟩
abbrev fs_des (y : MethodName) (n : Nat) : Prop := y.cls ≠ "java/lang/invoke/MethodHandle" ∧ y.cls ≠ "java/lang/invoke/VarHandle" ∧ (parseMethodDescriptor y.desc).map (fun d => d.parameters.length) = some n
theorem fs_pre (C : fs_At X A p s m args meth c cc maxL ret own nm) (hH : fs_H X A s ws H locs) {wc : va_W} (isC : List Nat) (hn : va_nd isC = true) (hC : isC.map (fun i => ws[i]?) = wc.map some) {av : List Value} (U : State) (hU : U.heap = H) (hW : s.WarmedH U.vm) : fs_Pc X av wc H.size av.toArray U := by
  obtain ⟨-, -, -, -, -, -, -, -, hE, hA, hAB⟩ := C
  have h2 := hH.sub isC hn hC
  exact ⟨rfl, by rw [hU], by rw [hU]; exact h2.1, hE.at hH.2.2 hAB hU hW, h2.2.1.weaken (fun k q hk h => hAB q.1 h), Nat.le_trans (hAB _ (hA _ (Nat.le_refl _))) hH.2.2.1⟩
theorem fs_rS (C : fs_At X A p s m args meth c cc maxL ret own nm) (hH : fs_H X A s ws H locs) {wc : va_W} (isC : List Nat) (hn : va_nd isC = true) (hC : isC.map (fun i => ws[i]?) = wc.map some) {y : MethodName} {b9 : ByteArray} {n9 n index mc ms : Nat} {r9 : Option FieldType} {rm : Room} {As : List Value} {Qc : (Nat → Prop) → Array Value → State → Outcome → State → Prop} (hM : fs_M l X y b9 n9 r9 rm As wc H.size Qc mc ms)
    (hrc : rm.cells = mc) (hrs : rm.slots = ms) (hcode : Cond.code y b9 n9 r9 ∈ fs_G) (hlink : Cond.methodLink own index y ∈ fs_G) (hstat : Cond.static y ∈ fs_G) (hini : Cond.initialized y.cls ∈ fs_G) (hd : fs_des y n) (hR : rm.frames + 1 ≤ R.frames ∧ 8 + (n9 + 11) + rm.locals ≤ R.locals) (hlen : As.length = n) (hsz : ls.size = maxL) {st0 : List Value} (hst : st0 = As.reverse ++ rest) (hrm : (rest.map fun v => v.category).sum ≤ 8) (hdg : decode cc pc = .ok (.invokestatic index, 3)) (hf : cells + mc ≤ R.cells ∧ slots + ms ≤ R.slots) :
    va_Run p l e R s m args below meth c H locs cells slots mc ms (F0 m pc ls st0) rest (Qc (va_A wc H.size) As.toArray) (va_A wc H.size) := by
  obtain ⟨hx, hb, -, hml, hown, hts, -, -, -, -, -⟩ := id C
  exact va_runS (Ts := fs_G) ⟨hx, hb, hml, hown, hts⟩ hM ⟨callB_of n hts (fs_good hcode) rfl hrc hrs (hts _ hini) (hts _ hlink) hd hR, hts _ hstat⟩ ⟨fs_blind, fun U hU hW => fs_pre C hH isC hn hC U hU hW⟩ rfl hlen hsz hst (lv_room hrm) hdg hf
theorem fs_rSN (C : fs_At X A p s m args meth c cc maxL ret own nm) (hH : fs_H X A s ws H locs) {wc : va_W} (isC : List Nat) (hn : va_nd isC = true) (hC : isC.map (fun i => ws[i]?) = wc.map some) {y : MethodName} {b9 : ByteArray} {n9 n index mc ms : Nat} {r9 : Option FieldType} {rm : Room} {As : List Value} {Qc : (Nat → Prop) → Array Value → State → Outcome → State → Prop} (hM : fs_M l X y b9 n9 r9 rm As wc H.size Qc mc ms)
    (hrc : rm.cells = mc) (hrs : rm.slots = ms) (hcode : Cond.code y b9 n9 r9 ∈ fs_G) (hlink : (own, index, y) ∈ fs_NM) (hstat : Cond.static y ∈ fs_G) (hini : Cond.initialized y.cls ∈ fs_G) (hd : fs_des y n) (hR : rm.frames + 1 ≤ R.frames ∧ 8 + (n9 + 11) + rm.locals ≤ R.locals) (hlen : As.length = n) (hsz : ls.size = maxL) {st0 : List Value} (hst : st0 = As.reverse ++ rest) (hrm : (rest.map fun v => v.category).sum ≤ 8) (hdg : decode cc pc = .ok (.invokestatic index, 3)) (hf : cells + mc ≤ R.cells ∧ slots + ms ≤ R.slots) :
    va_Run p l e R s m args below meth c H locs cells slots mc ms (F0 m pc ls st0) rest (Qc (va_A wc H.size) As.toArray) (va_A wc H.size) := by
  obtain ⟨hx, hb, -, hml, hown, hts, -, -, hE, -, -⟩ := id C
  exact va_runSN (Ts := fs_G) ⟨hx, hb, hml, hown, hts⟩ hM ⟨va_cnB n hts (fs_good hcode) rfl hrc hrs (hE.2.1.1 _ hlink) (hts _ hini) hd hR, hts _ hstat, trivial⟩ ⟨fs_blind, fun U hU hW => fs_pre C hH isC hn hC U hU hW⟩ rfl hlen hsz hst (lv_room hrm) hdg hf
theorem fs_rV (C : fs_At X A p s m args meth c cc maxL ret own nm) (hH : fs_H X A s ws H locs) {wc : va_W} (isC : List Nat) (hn : va_nd isC = true) (hC : isC.map (fun i => ws[i]?) = wc.map some) {y : MethodName} {b9 : ByteArray} {n9 n index mc ms q0 ci b : Nat} {fs : List Value} {C9 : vw_C} {r9 : Option FieldType} {rm : Room} {As : List Value} {Qc : (Nat → Prop) → Array Value → State → Outcome → State → Prop} (hM : fs_M l X y b9 n9 r9 rm (.ref b :: As) wc H.size Qc mc ms) (hcl : vwCl[ci]? = some C9) (hq : ws[q0]? = some (b, .inr (ci, fs)))
    (hrc : rm.cells = mc) (hrs : rm.slots = ms) (hcode : Cond.code y b9 n9 r9 ∈ fs_G) (hlink : Cond.methodLink own index y ∈ fs_G) (hinst : Cond.instanceMethod y ∈ fs_G) (hsel : Cond.selects C9.1 y y ∈ fs_G) (hini : Cond.initialized y.cls ∈ fs_G) (hd : fs_des y n) (hR : rm.frames + 1 ≤ R.frames ∧ 8 + (n9 + 11) + rm.locals ≤ R.locals) (hlen : As.length = n) (hsz : ls.size = maxL) {st0 : List Value} (hst : st0 = As.reverse ++ .ref b :: rest) (hrm : (rest.map fun v => v.category).sum ≤ 8) (hdg : decode cc pc = .ok (.invokevirtual index, 3)) (hf : cells + mc ≤ R.cells ∧ slots + ms ≤ R.slots) :
    va_Run p l e R s m args below meth c H locs cells slots mc ms (F0 m pc ls st0) rest (Qc (va_A wc H.size) (Value.ref b :: As).toArray) (va_A wc H.size) := by
  obtain ⟨hx, hb, -, hml, hown, hts, -, -, hE, -, -⟩ := id C
  exact va_runV (Ts := fs_G) (C := C9.1) ⟨hx, hb, hml, hown, hts⟩ hM ⟨callB_of n hts (fs_good hcode) rfl hrc hrs (hts _ hini) (hts _ hlink) hd hR, hts _ hinst, hts _ hsel⟩ ⟨fs_blind, va_recv hE.1 hH.1 hcl hq, fun U hU hW => fs_pre C hH isC hn hC U hU hW⟩ rfl hlen hsz hst (lv_room hrm) hdg hf
theorem fs_rVN (C : fs_At X A p s m args meth c cc maxL ret own nm) (hH : fs_H X A s ws H locs) {wc : va_W} (isC : List Nat) (hn : va_nd isC = true) (hC : isC.map (fun i => ws[i]?) = wc.map some) {y : MethodName} {b9 : ByteArray} {n9 n index mc ms q0 ci b : Nat} {fs : List Value} {C9 : vw_C} {r9 : Option FieldType} {rm : Room} {As : List Value} {Qc : (Nat → Prop) → Array Value → State → Outcome → State → Prop} (hM : fs_M l X y b9 n9 r9 rm (.ref b :: As) wc H.size Qc mc ms) (hcl : vwCl[ci]? = some C9) (hq : ws[q0]? = some (b, .inr (ci, fs)))
    (hrc : rm.cells = mc) (hrs : rm.slots = ms) (hcode : Cond.code y b9 n9 r9 ∈ fs_G) (hlink : (own, index, y) ∈ fs_NM) (hinst : Cond.instanceMethod y ∈ fs_G) (hsel : Cond.selects C9.1 y y ∈ fs_G) (hini : Cond.initialized y.cls ∈ fs_G) (hd : fs_des y n) (hR : rm.frames + 1 ≤ R.frames ∧ 8 + (n9 + 11) + rm.locals ≤ R.locals) (hlen : As.length = n) (hsz : ls.size = maxL) {st0 : List Value} (hst : st0 = As.reverse ++ .ref b :: rest) (hrm : (rest.map fun v => v.category).sum ≤ 8) (hdg : decode cc pc = .ok (.invokevirtual index, 3)) (hf : cells + mc ≤ R.cells ∧ slots + ms ≤ R.slots) :
    va_Run p l e R s m args below meth c H locs cells slots mc ms (F0 m pc ls st0) rest (Qc (va_A wc H.size) (Value.ref b :: As).toArray) (va_A wc H.size) := by
  obtain ⟨hx, hb, -, hml, hown, hts, -, -, hE, -, -⟩ := id C
  exact va_runVN (Ts := fs_G) (C := C9.1) ⟨hx, hb, hml, hown, hts⟩ hM ⟨va_cnB n hts (fs_good hcode) rfl hrc hrs (hE.2.1.1 _ hlink) (hts _ hini) hd hR, hts _ hinst, hts _ hsel⟩ ⟨fs_blind, va_recv hE.1 hH.1 hcl hq, fun U hU hW => fs_pre C hH isC hn hC U hU hW⟩ rfl hlen hsz hst (lv_room hrm) hdg hf
theorem fs_rI (C : fs_At X A p s m args meth c cc maxL ret own nm) (hH : fs_H X A s ws H locs) {wc : va_W} (isC : List Nat) (hn : va_nd isC = true) (hC : isC.map (fun i => ws[i]?) = wc.map some) {y : MethodName} {b9 : ByteArray} {n9 n index mc ms b : Nat} {rm : Room} {As : List Value} {Qc : (Nat → Prop) → Array Value → State → Outcome → State → Prop} (hM : fs_M l X y b9 n9 none rm (.ref b :: As) wc H.size Qc mc ms)
    (hrc : rm.cells = mc) (hrs : rm.slots = ms) (hcode : Cond.code y b9 n9 none ∈ fs_G) (hlink : Cond.methodLink own index y ∈ fs_G) (hinst : Cond.instanceMethod y ∈ fs_G) (hy1 : y.name = "<init>") (hini : Cond.initialized y.cls ∈ fs_G) (hd : fs_des y n) (hR : rm.frames + 1 ≤ R.frames ∧ 8 + (n9 + 11) + rm.locals ≤ R.locals) (hlen : As.length = n) (hsz : ls.size = maxL) {st0 : List Value} (hst : st0 = As.reverse ++ .ref b :: rest) (hrm : (rest.map fun v => v.category).sum ≤ 8) (hdg : decode cc pc = .ok (.invokespecial index, 3)) (hf : cells + mc ≤ R.cells ∧ slots + ms ≤ R.slots) :
    va_Run p l e R s m args below meth c H locs cells slots mc ms (F0 m pc ls st0) rest (Qc (va_A wc H.size) (Value.ref b :: As).toArray) (va_A wc H.size) := by
  obtain ⟨hx, hb, -, hml, hown, hts, -, -, hE, -, -⟩ := id C
  exact va_runI (Ts := fs_G) ⟨hx, hb, hml, hown, hts⟩ hM ⟨callB_of n hts (fs_good hcode) rfl hrc hrs (hts _ hini) (hts _ hlink) hd hR, hy1, hts _ hinst⟩ ⟨fs_blind, fun U hU hW => fs_pre C hH isC hn hC U hU hW⟩ rfl hlen hsz hst (lv_room hrm) hdg hf
theorem fs_rIN (C : fs_At X A p s m args meth c cc maxL ret own nm) (hH : fs_H X A s ws H locs) {wc : va_W} (isC : List Nat) (hn : va_nd isC = true) (hC : isC.map (fun i => ws[i]?) = wc.map some) {y : MethodName} {b9 : ByteArray} {n9 n index mc ms b : Nat} {rm : Room} {As : List Value} {Qc : (Nat → Prop) → Array Value → State → Outcome → State → Prop} (hM : fs_M l X y b9 n9 none rm (.ref b :: As) wc H.size Qc mc ms)
    (hrc : rm.cells = mc) (hrs : rm.slots = ms) (hcode : Cond.code y b9 n9 none ∈ fs_G) (hlink : (own, index, y) ∈ fs_NM) (hinst : Cond.instanceMethod y ∈ fs_G) (hy1 : y.name = "<init>") (hini : Cond.initialized y.cls ∈ fs_G) (hd : fs_des y n) (hR : rm.frames + 1 ≤ R.frames ∧ 8 + (n9 + 11) + rm.locals ≤ R.locals) (hlen : As.length = n) (hsz : ls.size = maxL) {st0 : List Value} (hst : st0 = As.reverse ++ .ref b :: rest) (hrm : (rest.map fun v => v.category).sum ≤ 8) (hdg : decode cc pc = .ok (.invokespecial index, 3)) (hf : cells + mc ≤ R.cells ∧ slots + ms ≤ R.slots) :
    va_Run p l e R s m args below meth c H locs cells slots mc ms (F0 m pc ls st0) rest (Qc (va_A wc H.size) (Value.ref b :: As).toArray) (va_A wc H.size) := by
  obtain ⟨hx, hb, -, hml, hown, hts, -, -, hE, -, -⟩ := id C
  exact va_runIN (Ts := fs_G) ⟨hx, hb, hml, hown, hts⟩ hM ⟨va_cnB n hts (fs_good hcode) rfl hrc hrs (hE.2.1.1 _ hlink) (hts _ hini) hd hR, hy1, hts _ hinst⟩ ⟨fs_blind, fun U hU hW => fs_pre C hH isC hn hC U hU hW⟩ rfl hlen hsz hst (lv_room hrm) hdg hf
/-- behind a call: the caller's other cells, and the callee's -/
theorem fs_join (C : fs_At X A p s m args meth c cc maxL ret own nm) (hH : fs_H X A s ws H locs) {wc wr w1 : va_W} (isC isR : List Nat) (hC : isC.map (fun i => ws[i]?) = wc.map some) (hR : isR.map (fun i => ws[i]?) = wr.map some) (hn : va_nd isR = true) (hdis : ∀ i ∈ isR, i ∉ isC) {H1 : Heap} {locs1 : List Loc}
    (hk : ∀ q : Nat, q < H.size → ¬ va_A wc H.size q → H1[q]? = H[q]?) (hP1 : va_P X.1 vwCl w1 H1) (hD1 : va_D (va_A wc H.size) w1) (hS : va_S A s.heap H1 locs1) : fs_H X A s (wr ++ w1) H1 locs1 := by
  obtain ⟨-, -, -, -, -, -, -, -, hE, hA, hAB⟩ := C
  have hF := va_free hH.2.1 hH.2.2 hA isC hC
  obtain ⟨h1, h2⟩ := va_join hH.1 hH.2.1 isC isR hC hR hn hdis hk hF hP1 hD1
  exact ⟨h1, h2, hS⟩
theorem fs_ci (C : fs_At X A p s m args meth c cc maxL ret own nm) (hH : fs_H X A s ws H locs) {wc wr : va_W} (isC isR : List Nat) (hC : isC.map (fun i => ws[i]?) = wc.map some) (hR : isR.map (fun i => ws[i]?) = wr.map some) (hn : va_nd isR = true) (hdis : ∀ i ∈ isR, i ∉ isC) {mc ms : Nat} {st0 : List Value} {S : Type} {post : Int32 → S → Prop} {wf : S → va_W} {a9 : Array Value}
    (hr : va_Run p l e R s m args below meth c H locs cells slots mc ms (F0 m pc ls st0) rest (fs_Qi X post wf (va_A wc H.size) a9) (va_A wc H.size))
    (kk : ∀ (r : Int32) (u : S) (H1 : Heap) (locs1 : List Loc), post r u → fs_H X A s (wr ++ wf u) H1 locs1 → W p l e R s m args below meth c H1 locs1 (cells + mc) (slots + ms) Q (F0 m (pc + 3) ls (.int r :: rest))) : W p l e R s m args below meth c H locs cells slots Q (F0 m pc ls st0) := by
  have hF := va_free hH.2.1 hH.2.2 C.2.2.2.2.2.2.2.2.2.1 isC hC
  exact va_calli hr hH.2.2 (fun q _ h => hF q h) hF (fun r u t H1 locs1 ht hvm hp hB hz hk hS => kk r u H1 locs1 hp (fs_join C hH isC isR hC hR hn hdis hk (by rw [← ht]; exact hB.1) hB.2 hS))
theorem fs_cl (C : fs_At X A p s m args meth c cc maxL ret own nm) (hH : fs_H X A s ws H locs) {wc wr : va_W} (isC isR : List Nat) (hC : isC.map (fun i => ws[i]?) = wc.map some) (hR : isR.map (fun i => ws[i]?) = wr.map some) (hn : va_nd isR = true) (hdis : ∀ i ∈ isR, i ∉ isC) {mc ms : Nat} {st0 : List Value} {S : Type} {post : Int64 → S → Prop} {wf : S → va_W} {a9 : Array Value}
    (hr : va_Run p l e R s m args below meth c H locs cells slots mc ms (F0 m pc ls st0) rest (fs_Ql X post wf (va_A wc H.size) a9) (va_A wc H.size))
    (kk : ∀ (r : Int64) (u : S) (H1 : Heap) (locs1 : List Loc), post r u → fs_H X A s (wr ++ wf u) H1 locs1 → W p l e R s m args below meth c H1 locs1 (cells + mc) (slots + ms) Q (F0 m (pc + 3) ls (.long r :: rest))) : W p l e R s m args below meth c H locs cells slots Q (F0 m pc ls st0) := by
  have hF := va_free hH.2.1 hH.2.2 C.2.2.2.2.2.2.2.2.2.1 isC hC
  exact va_calll hr hH.2.2 (fun q _ h => hF q h) hF (fun r u t H1 locs1 ht hvm hp hB hz hk hS => kk r u H1 locs1 hp (fs_join C hH isC isR hC hR hn hdis hk (by rw [← ht]; exact hB.1) hB.2 hS))
theorem fs_cv (C : fs_At X A p s m args meth c cc maxL ret own nm) (hH : fs_H X A s ws H locs) {wc wr : va_W} (isC isR : List Nat) (hC : isC.map (fun i => ws[i]?) = wc.map some) (hR : isR.map (fun i => ws[i]?) = wr.map some) (hn : va_nd isR = true) (hdis : ∀ i ∈ isR, i ∉ isC) {mc ms : Nat} {st0 : List Value} {S : Type} {post : S → Prop} {wf : S → va_W} {a9 : Array Value}
    (hr : va_Run p l e R s m args below meth c H locs cells slots mc ms (F0 m pc ls st0) rest (fs_Qv X post wf (va_A wc H.size) a9) (va_A wc H.size))
    (kk : ∀ (u : S) (H1 : Heap) (locs1 : List Loc), post u → fs_H X A s (wr ++ wf u) H1 locs1 → W p l e R s m args below meth c H1 locs1 (cells + mc) (slots + ms) Q (F0 m (pc + 3) ls rest)) : W p l e R s m args below meth c H locs cells slots Q (F0 m pc ls st0) := by
  have hF := va_free hH.2.1 hH.2.2 C.2.2.2.2.2.2.2.2.2.1 isC hC
  exact va_callv hr hH.2.2 (fun q _ h => hF q h) hF (fun u t H1 locs1 ht hvm hp hB hz hk hS => kk u H1 locs1 hp (fs_join C hH isC isR hC hR hn hdis hk (by rw [← ht]; exact hB.1) hB.2 hS))
end FSR
