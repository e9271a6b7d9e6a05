section
-- begun from SKELETON.whole (PART A)
/-- a private method of a class that the tables say can be made, by its rows of tables_1 -/
def lw_okq (q : MethodName × Nat) : Prop := (q.1.cls ≠ "java/lang/invoke/MethodHandle" ∧ q.1.cls ≠ "java/lang/invoke/VarHandle") ∧ Cond.instantiable q.1.cls q.2 ∈ tables_1 ∧ Cond.privateMethod q.1 ∈ tables_1 ∧ Cond.instanceMethod q.1 ∈ tables_1
theorem lw_p0 : lw_okq (⟨"FixedSignals$TapFilter", "forget", "()V"⟩, 2) := ⟨⟨by decide +kernel, by decide +kernel⟩, List.mem_of_getElem? (i := 21) (by decide +kernel), List.mem_of_getElem? (i := 133) (by decide +kernel), List.mem_of_getElem? (i := 134) (by decide +kernel)⟩
theorem lw_p1 : lw_okq (⟨"FixedSignals$Stage", "forget", "()V"⟩, 5) := ⟨⟨by decide +kernel, by decide +kernel⟩, List.mem_of_getElem? (i := 37) (by decide +kernel), List.mem_of_getElem? (i := 137) (by decide +kernel), List.mem_of_getElem? (i := 138) (by decide +kernel)⟩
theorem lw_p2 : lw_okq (⟨"FixedSignals$Turner", "turnByAngle", "(J)V"⟩, 3) := ⟨⟨by decide +kernel, by decide +kernel⟩, List.mem_of_getElem? (i := 79) (by decide +kernel), List.mem_of_getElem? (i := 145) (by decide +kernel), List.mem_of_getElem? (i := 146) (by decide +kernel)⟩
theorem lw_p3 : lw_okq (⟨"FixedSignals$Turner", "turn", "(IZ)V"⟩, 3) := ⟨⟨by decide +kernel, by decide +kernel⟩, List.mem_of_getElem? (i := 79) (by decide +kernel), List.mem_of_getElem? (i := 155) (by decide +kernel), List.mem_of_getElem? (i := 156) (by decide +kernel)⟩
theorem lw_p4 : lw_okq (⟨"java/lang/Throwable", "fillInStackTrace", "(I)Ljava/lang/Throwable;"⟩, 6) := ⟨⟨by decide +kernel, by decide +kernel⟩, List.mem_of_getElem? (i := 208) (by decide +kernel), List.mem_of_getElem? (i := 206) (by decide +kernel), List.mem_of_getElem? (i := 207) (by decide +kernel)⟩
theorem lw_p5 : lw_okq (⟨"FixedSignals$TapFilter", "answerTo", "(I)I"⟩, 2) := ⟨⟨by decide +kernel, by decide +kernel⟩, List.mem_of_getElem? (i := 21) (by decide +kernel), List.mem_of_getElem? (i := 272) (by decide +kernel), List.mem_of_getElem? (i := 273) (by decide +kernel)⟩
theorem lw_p6 : lw_okq (⟨"FixedSignals$TapFilter", "takeIn", "(I)V"⟩, 2) := ⟨⟨by decide +kernel, by decide +kernel⟩, List.mem_of_getElem? (i := 21) (by decide +kernel), List.mem_of_getElem? (i := 276) (by decide +kernel), List.mem_of_getElem? (i := 277) (by decide +kernel)⟩
theorem lw_p7 : lw_okq (⟨"FixedSignals$Stage", "answerTo", "(I)I"⟩, 5) := ⟨⟨by decide +kernel, by decide +kernel⟩, List.mem_of_getElem? (i := 37) (by decide +kernel), List.mem_of_getElem? (i := 296) (by decide +kernel), List.mem_of_getElem? (i := 297) (by decide +kernel)⟩
theorem lw_p8 : lw_okq (⟨"FixedSignals$Block", "intoWaves", "(IZ)V"⟩, 3) := ⟨⟨by decide +kernel, by decide +kernel⟩, List.mem_of_getElem? (i := 60) (by decide +kernel), List.mem_of_getElem? (i := 316) (by decide +kernel), List.mem_of_getElem? (i := 317) (by decide +kernel)⟩
theorem lw_p9 : lw_okq (⟨"FixedSignals$Block", "reorder", "(I)V"⟩, 3) := ⟨⟨by decide +kernel, by decide +kernel⟩, List.mem_of_getElem? (i := 60) (by decide +kernel), List.mem_of_getElem? (i := 320) (by decide +kernel), List.mem_of_getElem? (i := 321) (by decide +kernel)⟩
theorem lw_p10 : lw_okq (⟨"FixedSignals$Block", "makeRoom", "(I)V"⟩, 3) := ⟨⟨by decide +kernel, by decide +kernel⟩, List.mem_of_getElem? (i := 60) (by decide +kernel), List.mem_of_getElem? (i := 330) (by decide +kernel), List.mem_of_getElem? (i := 331) (by decide +kernel)⟩
theorem lw_p11 : lw_okq (⟨"FixedSignals$Block", "isTooBig", "(I)Z"⟩, 3) := ⟨⟨by decide +kernel, by decide +kernel⟩, List.mem_of_getElem? (i := 60) (by decide +kernel), List.mem_of_getElem? (i := 334) (by decide +kernel), List.mem_of_getElem? (i := 335) (by decide +kernel)⟩
theorem lw_p12 : lw_okq (⟨"FixedSignals$Block", "cross", "(IIZ)V"⟩, 3) := ⟨⟨by decide +kernel, by decide +kernel⟩, List.mem_of_getElem? (i := 60) (by decide +kernel), List.mem_of_getElem? (i := 341) (by decide +kernel), List.mem_of_getElem? (i := 342) (by decide +kernel)⟩
theorem lw_p13 : lw_okq (⟨"FixedSignals$Turner", "turnToAxis", "(JJ)V"⟩, 3) := ⟨⟨by decide +kernel, by decide +kernel⟩, List.mem_of_getElem? (i := 79) (by decide +kernel), List.mem_of_getElem? (i := 376) (by decide +kernel), List.mem_of_getElem? (i := 377) (by decide +kernel)⟩
theorem lw_p14 : lw_okq (⟨"FixedSignalsModel", "refused", "(I)Z"⟩, 10) := ⟨⟨by decide +kernel, by decide +kernel⟩, List.mem_of_getElem? (i := 389) (by decide +kernel), List.mem_of_getElem? (i := 438) (by decide +kernel), List.mem_of_getElem? (i := 439) (by decide +kernel)⟩
theorem lw_p15 : lw_okq (⟨"FixedSignalsModel", "lower", "(I)V"⟩, 10) := ⟨⟨by decide +kernel, by decide +kernel⟩, List.mem_of_getElem? (i := 389) (by decide +kernel), List.mem_of_getElem? (i := 495) (by decide +kernel), List.mem_of_getElem? (i := 496) (by decide +kernel)⟩
def lw_privs_1 : List (MethodName × Nat) := [(⟨"FixedSignals$TapFilter", "forget", "()V"⟩, 2), (⟨"FixedSignals$Stage", "forget", "()V"⟩, 5), (⟨"FixedSignals$Turner", "turnByAngle", "(J)V"⟩, 3), (⟨"FixedSignals$Turner", "turn", "(IZ)V"⟩, 3), (⟨"java/lang/Throwable", "fillInStackTrace", "(I)Ljava/lang/Throwable;"⟩, 6), (⟨"FixedSignals$TapFilter", "answerTo", "(I)I"⟩, 2), (⟨"FixedSignals$TapFilter", "takeIn", "(I)V"⟩, 2), (⟨"FixedSignals$Stage", "answerTo", "(I)I"⟩, 5), (⟨"FixedSignals$Block", "intoWaves", "(IZ)V"⟩, 3), (⟨"FixedSignals$Block", "reorder", "(I)V"⟩, 3), (⟨"FixedSignals$Block", "makeRoom", "(I)V"⟩, 3), (⟨"FixedSignals$Block", "isTooBig", "(I)Z"⟩, 3), (⟨"FixedSignals$Block", "cross", "(IIZ)V"⟩, 3), (⟨"FixedSignals$Turner", "turnToAxis", "(JJ)V"⟩, 3), (⟨"FixedSignalsModel", "refused", "(I)Z"⟩, 10), (⟨"FixedSignalsModel", "lower", "(I)V"⟩, 10)]
theorem lw_r1 : ∀ q ∈ lw_privs_1, lw_okq q := List.forall_mem_cons.mpr ⟨lw_p0, List.forall_mem_cons.mpr ⟨lw_p1, List.forall_mem_cons.mpr ⟨lw_p2, List.forall_mem_cons.mpr ⟨lw_p3, List.forall_mem_cons.mpr ⟨lw_p4, List.forall_mem_cons.mpr ⟨lw_p5, List.forall_mem_cons.mpr ⟨lw_p6, List.forall_mem_cons.mpr ⟨lw_p7, List.forall_mem_cons.mpr ⟨lw_p8, List.forall_mem_cons.mpr ⟨lw_p9, List.forall_mem_cons.mpr ⟨lw_p10, List.forall_mem_cons.mpr ⟨lw_p11, List.forall_mem_cons.mpr ⟨lw_p12, List.forall_mem_cons.mpr ⟨lw_p13, List.forall_mem_cons.mpr ⟨lw_p14, List.forall_mem_cons.mpr ⟨lw_p15, fun _ h => absurd h List.not_mem_nil⟩⟩⟩⟩⟩⟩⟩⟩⟩⟩⟩⟩⟩⟩⟩⟩
theorem lw_p16 : lw_okq (⟨"FixedSignalsModel", "isHigh", "(I)Z"⟩, 10) := ⟨⟨by decide +kernel, by decide +kernel⟩, List.mem_of_getElem? (i := 389) (by decide +kernel), List.mem_of_getElem? (i := 499) (by decide +kernel), List.mem_of_getElem? (i := 500) (by decide +kernel)⟩
theorem lw_p17 : lw_okq (⟨"FixedSignalsModel", "pair", "(IIIZ)V"⟩, 10) := ⟨⟨by decide +kernel, by decide +kernel⟩, List.mem_of_getElem? (i := 389) (by decide +kernel), List.mem_of_getElem? (i := 505) (by decide +kernel), List.mem_of_getElem? (i := 506) (by decide +kernel)⟩
theorem lw_p18 : lw_okq (⟨"FixedSignalsModel", "turn", "(II)V"⟩, 10) := ⟨⟨by decide +kernel, by decide +kernel⟩, List.mem_of_getElem? (i := 389) (by decide +kernel), List.mem_of_getElem? (i := 575) (by decide +kernel), List.mem_of_getElem? (i := 576) (by decide +kernel)⟩
def lw_privs_2 : List (MethodName × Nat) := [(⟨"FixedSignalsModel", "isHigh", "(I)Z"⟩, 10), (⟨"FixedSignalsModel", "pair", "(IIIZ)V"⟩, 10), (⟨"FixedSignalsModel", "turn", "(II)V"⟩, 10)]
theorem lw_r2 : ∀ q ∈ lw_privs_2, lw_okq q := List.forall_mem_cons.mpr ⟨lw_p16, List.forall_mem_cons.mpr ⟨lw_p17, List.forall_mem_cons.mpr ⟨lw_p18, fun _ h => absurd h List.not_mem_nil⟩⟩⟩
def lw_privs : List (MethodName × Nat) := lw_privs_1 ++ (lw_privs_2)
def lw_tbl : List Cond := k2_sels lw_privs ++ tables_1
theorem lw_privs_ok : ∀ q ∈ lw_privs, lw_okq q := by
  show ∀ q ∈ lw_privs_1 ++ (lw_privs_2), lw_okq q
  exact List.forall_mem_append.mpr ⟨lw_r1, lw_r2⟩
end
section
-- begun from NAMES.whole (the laws of throws)
/-! ===== BEGIN words of one list among another's, by their places ===== -/
theorem goodIn_r {big : List Cond} (ws : List Cond) (ps : List Nat) (hp : ws = ps.filterMap (fun i => big[i]?)) (h : ws.all goodWord = true) : GoodIn big ws := by
  intro w hw
  have h1 := List.all_eq_true.mp h w hw
  rw [hp] at hw
  obtain ⟨i, -, hi⟩ := List.mem_filterMap.mp hw
  have hm : w ∈ big := by first | exact List.mem_of_getElem? hi | exact List.getElem?_mem hi
  exact ⟨hm, good_of_word h1⟩
theorem goodIn_app {big a b : List Cond} (ha : GoodIn big a) (hb : GoodIn big b) : GoodIn big (a ++ b) := fun w h => (List.mem_append.mp h).elim (ha w) (hb w)
theorem goodIn_ca {big a b : List Cond} {c : Cond} (ha : GoodIn big (c :: a)) (hb : GoodIn big b) : GoodIn big (c :: (a ++ b)) := fun w h => (List.mem_cons.mp h).elim (fun e => ha w (List.mem_cons.mpr (Or.inl e))) (fun h => (List.mem_append.mp h).elim (fun h => ha w (List.mem_cons.mpr (Or.inr h))) (hb w))
theorem goodIn_sub {big ws : List Cond} (hm : ∀ w ∈ ws, w ∈ big) (h : ws.all goodWord = true) : GoodIn big ws := fun w hw => ⟨hm w hw, good_of_word (List.all_eq_true.mp h w hw)⟩
/-! ===== END ===== -/

/-! ===== BEGIN exceptions that leave a method, and their catching by the caller (launches without stack traces) ===== -/
section VXA
/-! The laws vx_back, vx_callV, vx_callS, vx_callSW, vx_throw0, vx_throwS follow proofs of the library, with one case more: JvmDerived/Free/Laws.lean (Back.of_free), Shelf42/LK1.lean (callV, callS), Shelf/KitTraced.lean (throwNew0V, throwNewS). -/
/-- where a method has thrown q: the class by its name, the cell, what was written, the world -/
def vx_T (XC : String → State → State → Prop) (st : State) (q : Addr) (t : State) (mc ms : Nat) (free : Addr → Prop) : Prop :=
  ∃ (E : String) (ce : Cell) (L : List Loc), XC E st t ∧ t.heap[q]? = some ce ∧ ce.vm = .none ∧ st.vm.findClass E = some ce.cls ∧ st.WarmedH t.vm ∧ st.sameButNew ({ t with vm := st.vm } : State) L mc ms ∧ ∀ z ∈ L, free z.base
def vx_Q (Qc : Array Value → State → Outcome → State → Prop) (XC : String → State → State → Prop) (mc ms : Nat) (free : Addr → Prop) : Array Value → State → Outcome → State → Prop := fun a st o t =>
  (Qc a st o t ∧ ∃ L, FrameEnd st o t L mc ms ∧ ∀ q ∈ L, free q.base) ∨ ∃ q, o = .threw q ∧ vx_T XC st q t mc ms free
/-- a callee that returns or throws -/
def vx_Met (l : Launch) (y : MethodName) (ws : List Cond) (rm : Room) (Pc : Array Value → State → Prop) (Qc : Array Value → State → Outcome → State → Prop) (XC : String → State → State → Prop) (mc ms : Nat) (free : Addr → Prop) : Prop :=
  MetFree l y (headSpec ws rm) Pc (fun _ _ _ _ _ => True) (vx_Q Qc XC mc ms free)
def vx_Post (XC : String → State → State → Prop) (mc ms : Nat) (free : Addr → Prop) : Pt → Array Value → Addr → Pt → Prop := fun A a q B =>
  ∃ (g : JFrame) (mk : MethodId) (t : State) (L : List Loc) (E : String) (ce : Cell), B.U.heap = t.heap ∧ B.U.vm = t.vm ∧ XC E (A.U.calling g mk a) t ∧ t.heap[q]? = some ce ∧ ce.vm = .none ∧ A.U.vm.findClass E = some ce.cls ∧ B.locs = A.locs ++ L ∧ (∀ z ∈ L, free z.base) ∧ B.cells = A.cells + mc ∧ B.slots = A.slots + ms
def vx_Back (l : Launch) (R : Room) (p : Program) (e : Env) (below : List Frame) (s : State) (sargs : Array Value) (y : MethodName) (len W9 : Nat)
    (Pre : Pt → Array Value → Prop) (Post : Pt → Array Value → Option Value → Pt → Prop) (PostX : Pt → Array Value → Addr → Pt → Prop) : Prop :=
  ∀ (m : MethodId) (meth : Method) (c : Code) (A : Pt) (g : JFrame) (ig : Instr) (mk : MethodId) (a : Array Value),
    Stand p l e R s m sargs below meth c A.U A.locs A.cells A.slots → g.method = m → g.locals.size = c.maxLocals → decode c.code g.pc = .ok (ig, len) →
    2 * g.monitorRoom + (g.stack.map fun v => v.category).sum ≤ W9 → A.U.methodNamed? y = some mk → Pre A a →
    (∃ (v : Option Value) (B : Pt), Stand p l e R s m sargs below meth c B.U B.locs B.cells B.slots ∧ Post A a v B ∧
      Steps p.tables e below (doInvoke e (A.U.setTop g) [] mk a).1 (B.U.setTop { g with pc := g.pc + len, stack := v.toList ++ g.stack })) ∨
    (∃ (q : Addr) (B : Pt), Stand p l e R s m sargs below meth c B.U B.locs B.cells B.slots ∧ PostX A a q B ∧
      Steps p.tables e below (doInvoke e (A.U.setTop g) [] mk a).1 ((B.U.setTop g).pushFrame (.throwing q)))
section Payer
variable {l : Launch} {R : Room} {p : Program} {e : Env} {below : List Frame} {s : State} {sargs : Array Value} {y : MethodName} {len W9 : Nat}
theorem vx_back {ws : List Cond} {rm : Room} {Pc : Array Value → State → Prop} {Qc : Array Value → State → Outcome → State → Prop} {XC : String → State → State → Prop} {mc ms : Nat} {free : Addr → Prop} {bytes : ByteArray} {maxL : Nat} {ret : Option FieldType}
    (hM : vx_Met l y ws rm Pc Qc XC mc ms free) (hblind : FrameBlind Pc) (hrc : rm.cells = mc) (hrs : rm.slots = ms)
    (hframes : rm.frames + 1 ≤ R.frames) (hlocals : W9 + (maxL + 11) + rm.locals ≤ R.locals)
    (hws : ∀ w ∈ ws, ∀ a' U, s.WarmedH U.vm → w.before a' U = true) (hcode : Cond.code y bytes maxL ret ∈ ws) (hinit : ∀ a' U, s.WarmedH U.vm → (Cond.initialized y.cls).before a' U = true) :
    vx_Back l R p e below s sargs y len W9 (PreOf R mc ms Pc) (PostOf Qc mc ms free) (vx_Post XC mc ms free) := by
  intro m meth c A g ig mk a X hg hsize hdg hW hn hp
  have h1 : (headSpec ws rm).pre.before a A.U = true := atoms_intro fun w hw => hws w hw _ _ X.warmed
  have h2 : (Cond.code y bytes maxL ret).before a A.U = true := hws _ hcode _ _ X.warmed
  have h3 : (Cond.initialized y.cls).before a A.U = true := hinit _ _ X.warmed
  have h4 : A.cells + (headSpec ws rm).room.cells ≤ R.cells := by rw [show (headSpec ws rm).room.cells = mc from hrc]; exact hp.1
  have h5 : A.slots + (headSpec ws rm).room.slots ≤ R.slots := by rw [show (headSpec ws rm).room.slots = ms from hrs]; exact hp.2.1
  have hPc : Pc a (A.U.calling g mk a) := hblind _ _ _ _ hp.2.2
  obtain ⟨U, Ls, c0, s0⟩ := A
  dsimp only [Pt.U, Pt.locs, Pt.cells, Pt.slots] at h1 h2 h3 h4 h5 X hn hPc ⊢
  obtain ⟨methY, cY, hmY, hcY, -, hlY, -, -, -, -⟩ := Cond.code_spec hn h2
  obtain ⟨kY, hkY, -⟩ := className_of_methodNamed hn
  have hinitY : kY.init = .initialized := Cond.initialized_spec (findClass_of_methodNamed hn) hkY h3
  have h : At U g.method c below := by rw [hg]; exact X.here
  have hlocals9 : W9 + (maxL + 11) + (headSpec ws rm).room.locals ≤ R.locals := hlocals
  have happ : (headSpec ws rm).appliesLoose y e.platform (U.calling g mk a) = true :=
    Spec.appliesLoose_calling (g := g) h hdg hn hkY hinitY
      (X.room_calling (g := g) (R' := (headSpec ws rm).room) hsize hmY hcY hframes (by rw [hlY]; omega) h4 h5) h1
  obtain ⟨mid, hmid⟩ := h.above
  have hfr : (U.setTop g).frames = (.java g :: mid) ++ below := by rw [State.frames_setTop' g h.top, hmid]; rfl
  obtain ⟨o, s₂, hsteps, -, hend, hq⟩ := Steps.callFree hM p X.admits X.cas X.clock (acts := []) hfr happ hPc trivial
  have hq' : vx_Q Qc XC mc ms free a (U.calling g mk a) o s₂ := hq
  rw [State.frames_setTop' g h.top] at hend
  obtain ⟨g₀, hg0⟩ := Option.isSome_iff_exists.mp h.top
  obtain ⟨r, hr⟩ := State.topJava?_eq_some.mp hg0
  have hr' : (({ U with heap := s₂.heap, slotsUsed := s₂.slotsUsed } : State).setVm s₂.vm).frames = .java g₀ :: r := hr
  rcases hq' with ⟨hqc, L, hfe, hL⟩ | ⟨q, rfl, E, ce, L, hx, hce, hcv, hcl, hW₂, hsm, hL⟩
  · obtain ⟨⟨v, rfl⟩, hW₂, e2, q2, q3, q4, q5, q6⟩ := id hfe
    have e3 : s₂ = ({ (U.calling g mk a).setFrames s₂.frames with heap := s₂.heap, slotsUsed := s₂.slotsUsed } : State).setVm s₂.vm := by
      have : s₂ = ({ s₂ with vm := (U.calling g mk a).vm } : State).setVm s₂.vm := rfl
      rw [e2] at this
      exact this
    obtain ⟨c₂, i₂, len₂, hc₂, hd₂, hf₂⟩ := hend
    have hW' : U.WarmedH s₂.vm := hW₂
    have hcc : c₂ = c := by
      have h1 : s₂.code? g.method = U.code? g.method := by
        rw [State.code?_eq, State.code?_eq, hW'.alike.method?]
      exact Option.some.inj (hc₂.symm.trans (h1.trans h.code))
    subst hcc
    have hlen : len₂ = len := by rw [hdg] at hd₂; cases hd₂; rfl
    subst hlen
    have hs₂ : s₂ = (({ U with heap := s₂.heap, slotsUsed := s₂.slotsUsed } : State).setVm s₂.vm).setTop { g with pc := g.pc + len₂, stack := v.toList ++ g.stack } := by
      refine e3.trans ?_
      rw [hf₂, State.calling_eq h.top, State.setFrames_setFrames, State.setTop_of_frames _ hr', hr]
      rfl
    have hsame : U.sameButNew ({ U with heap := s₂.heap, slotsUsed := s₂.slotsUsed } : State) L mc ms := by
      refine ⟨?_, q2, q3, q4, q5, q6⟩
      obtain ⟨t, ht, -⟩ := State.frames_cons hr
      show ({ U with heap := s₂.heap, slotsUsed := s₂.slotsUsed } : State) = { U.setFrames U.frames with heap := s₂.heap, slotsUsed := s₂.slotsUsed }
      rw [State.setFrames_self ht]
    subst hg
    refine Or.inl ⟨v, ⟨(({ U with heap := s₂.heap, slotsUsed := s₂.slotsUsed } : State).setVm s₂.vm), Ls ++ L, c0 + mc, s0 + ms⟩,
      ⟨X.admits, X.cas, X.clock, X.frames, X.room, X.hears, X.method, X.code, (X.here.setHeapUsed s₂.heap s₂.slotsUsed).setVm hW'.alike, X.tail, State.WarmedH.trans X.warmed hW', X.limits, X.bytes, X.same.trans (hsame.setVm s.vm)⟩,
      ⟨g, mk, s₂, L, rfl, rfl, hqc, rfl, hL, rfl, rfl⟩, ?_⟩
    show Steps p.tables e below _ ((({ U with heap := s₂.heap, slotsUsed := s₂.slotsUsed } : State).setVm s₂.vm).setTop { g with pc := g.pc + len₂, stack := v.toList ++ g.stack })
    rw [← hs₂]
    exact hsteps
  · obtain ⟨e2, q2, q3, q4, q5, q6⟩ := id hsm
    have e3 : s₂ = ({ (U.calling g mk a).setFrames s₂.frames with heap := s₂.heap, slotsUsed := s₂.slotsUsed } : State).setVm s₂.vm := by
      have : s₂ = ({ s₂ with vm := (U.calling g mk a).vm } : State).setVm s₂.vm := rfl
      rw [e2] at this
      exact this
    have hf₂ : s₂.frames = .throwing q :: .java g :: U.frames.tail := hend
    have hW' : U.WarmedH s₂.vm := hW₂
    have hs₂ : s₂ = ((({ U with heap := s₂.heap, slotsUsed := s₂.slotsUsed } : State).setVm s₂.vm).setTop g).pushFrame (.throwing q) := by
      refine e3.trans ?_
      rw [hf₂, State.calling_eq h.top, State.setFrames_setFrames, State.pushFrame, State.frames_setTop _ hr', State.setTop_of_frames _ hr', State.setFrames_setFrames, hr]
      rfl
    have hsame : U.sameButNew ({ U with heap := s₂.heap, slotsUsed := s₂.slotsUsed } : State) L mc ms := by
      refine ⟨?_, q2, q3, q4, q5, q6⟩
      obtain ⟨t, ht, -⟩ := State.frames_cons hr
      show ({ U with heap := s₂.heap, slotsUsed := s₂.slotsUsed } : State) = { U.setFrames U.frames with heap := s₂.heap, slotsUsed := s₂.slotsUsed }
      rw [State.setFrames_self ht]
    subst hg
    refine Or.inr ⟨q, ⟨(({ U with heap := s₂.heap, slotsUsed := s₂.slotsUsed } : State).setVm s₂.vm), Ls ++ L, c0 + mc, s0 + ms⟩,
      ⟨X.admits, X.cas, X.clock, X.frames, X.room, X.hears, X.method, X.code, (X.here.setHeapUsed s₂.heap s₂.slotsUsed).setVm hW'.alike, X.tail, State.WarmedH.trans X.warmed hW', X.limits, X.bytes, X.same.trans (hsame.setVm s.vm)⟩,
      ⟨g, mk, s₂, L, E, ce, rfl, rfl, hx, hce, hcv, hcl, rfl, hL, rfl, rfl⟩, ?_⟩
    show Steps p.tables e below _ (((({ U with heap := s₂.heap, slotsUsed := s₂.slotsUsed } : State).setVm s₂.vm).setTop g).pushFrame (.throwing q))
    rw [← hs₂]
    exact hsteps
end Payer
section Calls
variable {p : Program} {l : Launch} {e : Env} {R : Room} {s : State} {m : MethodId} {args : Array Value} {below : List Frame} {meth : Method} {c : Code} {T : State} {locs : List Loc} {cells slots : Nat}
theorem vx_callV (X : Stand p l e R s m args below meth c T locs cells slots) (hexec : p.tables.exec = Jvm.exec) {own C : String} {index : Nat} {y : MethodName} {bytes : ByteArray} {maxL : Nat} {ret : Option FieldType}
    (hown : s.vm.findClass own = some m.cls) (hlink : (Cond.methodLink own index y).before args s = true) (hinst : (Cond.instanceMethod y).before args s = true) (hsel : (Cond.selects C y y).before args s = true)
    (hcode : (Cond.code y bytes maxL ret).before args s = true) (hy : y.cls ≠ "java/lang/invoke/MethodHandle" ∧ y.cls ≠ "java/lang/invoke/VarHandle")
    {W9 : Nat} {Pre : Pt → Array Value → Prop} {Post : Pt → Array Value → Option Value → Pt → Prop} {PostX : Pt → Array Value → Addr → Pt → Prop} (hK : vx_Back l R p e below s args y 3 W9 Pre Post PostX)
    {b : Addr} {cellB : Cell} (hcell : T.heap[b]? = some cellB) (hobj : cellB.vm.isStatics = false) (hcls : s.vm.findClass C = some cellB.cls)
    {g : JFrame} (hg : g.method = m) (hsize : g.locals.size = c.maxLocals) {argsL rest : List Value} (hlen : ∀ sig, parseMethodDescriptor y.desc = some sig → argsL.length = sig.parameters.length)
    (hstack : g.stack = argsL.reverse ++ .ref b :: rest) (hW : 2 * g.monitorRoom + (rest.map fun v => v.category).sum ≤ W9) (hdg : decode c.code g.pc = .ok (.invokevirtual index, 3))
    (hpre : ∀ vm₁, s.WarmedH vm₁ → Pre ⟨T.setVm vm₁, locs, cells, slots⟩ (Value.ref b :: argsL).toArray) :
    (∃ (v : Option Value) (vm₁ : Vm) (B : Pt), s.WarmedH vm₁ ∧ Stand p l e R s m args below meth c B.U B.locs B.cells B.slots ∧ Post ⟨T.setVm vm₁, locs, cells, slots⟩ (Value.ref b :: argsL).toArray v B ∧
      ∀ target, Steps p.tables e below (B.U.setTop { g with pc := g.pc + 3, stack := v.toList ++ rest }) target → Steps p.tables e below (T.setTop g) target) ∨
    (∃ (q : Addr) (vm₁ : Vm) (B : Pt), s.WarmedH vm₁ ∧ Stand p l e R s m args below meth c B.U B.locs B.cells B.slots ∧ PostX ⟨T.setVm vm₁, locs, cells, slots⟩ (Value.ref b :: argsL).toArray q B ∧
      Steps p.tables e below (T.setTop g) ((B.U.setTop { g with stack := rest }).pushFrame (.throwing q))) := by
  obtain ⟨mk, methM, hnamed, hmethM, hstM, habM⟩ := Cond.instanceMethod_spec hinst
  obtain ⟨methM', cM, hmethM', -, -, -, -, -, -, hsigM⟩ := Cond.code_spec hnamed hcode
  cases hmethM.symm.trans hmethM'
  obtain ⟨c2, r2, m2, q1, q2, q3, q4, kP, hkP, hkPi⟩ := Cond.selects_spec hsel
  cases hcls.symm.trans q1
  cases (State.methodFound?_of_named hnamed hy).symm.trans q2
  cases hnamed.symm.trans q3
  have hselP : selectMethod e.platform s.vm cellB.cls mk = .method mk := by rw [Launch.admits_selectMethod X.admits]; exact q4
  obtain ⟨vm₁, X₁, hstep₁⟩ := X.invokevirtual hexec hown hlink hnamed hmethM hstM hkP hkPi hy (a := b) (cell := cellB) hcell
    (fun z h => by rw [h] at hobj; cases hobj) hselP hmethM habM hkP hkPi (g := g) hg (argsL := argsL) (rest := rest) (hlen _ hsigM) hstack hdg
  rcases hK m meth c ⟨T.setVm vm₁, locs, cells, slots⟩ { g with stack := rest } (.invokevirtual index) mk (Value.ref b :: argsL).toArray X₁ hg hsize hdg hW (X₁.named hnamed) (hpre vm₁ X₁.warmed) with ⟨v, B, X', hpost, hsteps⟩ | ⟨q, B, X', hpost, hsteps⟩
  · exact Or.inl ⟨v, vm₁, B, X₁.warmed, X', hpost, fun target h => hstep₁ _ fun acts => by rw [doInvoke_state]; exact hsteps.trans h⟩
  · exact Or.inr ⟨q, vm₁, B, X₁.warmed, X', hpost, hstep₁ _ fun acts => by rw [doInvoke_state]; exact hsteps⟩
theorem vx_callS (X : Stand p l e R s m args below meth c T locs cells slots) (hexec : p.tables.exec = Jvm.exec) {own : String} {index : Nat} {y : MethodName} {bytes : ByteArray} {maxL : Nat} {ret : Option FieldType}
    (hown : s.vm.findClass own = some m.cls) (hlink : (Cond.methodLink own index y).before args s = true) (hstat : (Cond.static y).before args s = true) (hinit : (Cond.initialized y.cls).before args s = true)
    (hcode : (Cond.code y bytes maxL ret).before args s = true) (hy : y.cls ≠ "java/lang/invoke/MethodHandle" ∧ y.cls ≠ "java/lang/invoke/VarHandle")
    {W9 : Nat} {Pre : Pt → Array Value → Prop} {Post : Pt → Array Value → Option Value → Pt → Prop} {PostX : Pt → Array Value → Addr → Pt → Prop} (hK : vx_Back l R p e below s args y 3 W9 Pre Post PostX)
    {g : JFrame} (hg : g.method = m) (hsize : g.locals.size = c.maxLocals) {argsL rest : List Value} (hlen : ∀ sig, parseMethodDescriptor y.desc = some sig → argsL.length = sig.parameters.length)
    (hstack : g.stack = argsL.reverse ++ rest) (hW : 2 * g.monitorRoom + (rest.map fun v => v.category).sum ≤ W9) (hdg : decode c.code g.pc = .ok (.invokestatic index, 3))
    (hpre : ∀ vm₁, s.WarmedH vm₁ → Pre ⟨T.setVm vm₁, locs, cells, slots⟩ argsL.toArray) :
    (∃ (v : Option Value) (vm₁ : Vm) (B : Pt), s.WarmedH vm₁ ∧ Stand p l e R s m args below meth c B.U B.locs B.cells B.slots ∧ Post ⟨T.setVm vm₁, locs, cells, slots⟩ argsL.toArray v B ∧
      ∀ target, Steps p.tables e below (B.U.setTop { g with pc := g.pc + 3, stack := v.toList ++ rest }) target → Steps p.tables e below (T.setTop g) target) ∨
    (∃ (q : Addr) (vm₁ : Vm) (B : Pt), s.WarmedH vm₁ ∧ Stand p l e R s m args below meth c B.U B.locs B.cells B.slots ∧ PostX ⟨T.setVm vm₁, locs, cells, slots⟩ argsL.toArray q B ∧
      Steps p.tables e below (T.setTop g) ((B.U.setTop { g with stack := rest }).pushFrame (.throwing q))) := by
  obtain ⟨mk, hnamed⟩ := Cond.code_named hcode
  obtain ⟨methM, cM, hmethM, -, -, -, -, -, -, hsigM⟩ := Cond.code_spec hnamed hcode
  have hstatic : methM.isStatic = true := Cond.static_spec hnamed hmethM hstat
  obtain ⟨kP, hkP, -⟩ := className_of_methodNamed hnamed
  have hinitP : kP.init = .initialized := Cond.initialized_spec (findClass_of_methodNamed hnamed) hkP hinit
  obtain ⟨vm₁, X₁, hstep₁⟩ := X.invokestatic hexec hown hlink hnamed hmethM hstatic hkP hinitP hy (g := g) hg (argsL := argsL) (rest := rest) (hlen _ hsigM) hstack hdg
  rcases hK m meth c ⟨T.setVm vm₁, locs, cells, slots⟩ { g with stack := rest } (.invokestatic index) mk argsL.toArray X₁ hg hsize hdg hW (X₁.named hnamed) (hpre vm₁ X₁.warmed) with ⟨v, B, X', hpost, hsteps⟩ | ⟨q, B, X', hpost, hsteps⟩
  · exact Or.inl ⟨v, vm₁, B, X₁.warmed, X', hpost, fun target h => hstep₁ _ fun acts => by rw [doInvoke_state]; exact hsteps.trans h⟩
  · exact Or.inr ⟨q, vm₁, B, X₁.warmed, X', hpost, hstep₁ _ fun acts => by rw [doInvoke_state]; exact hsteps⟩
end Calls
theorem vx_cls {s : State} {T : State} {vm₁ : Vm} {E : String} {k : ClassId} (hW : s.WarmedH vm₁) (h : (T.setVm vm₁).vm.findClass E = some k) : s.vm.findClass E = some k := by
  have h1 : vm₁.findClass E = some k := h
  rw [hW.alike.findClass] at h1
  exact h1
/-- the method's frame g, with q thrown over it -/
def vx_W (p : Program) (l : Launch) (e : Env) (R : Room) (s : State) (m : MethodId) (args : Array Value) (below : List Frame) (meth : Method) (c : Code) (H : Heap) (locs : List Loc) (cells slots : Nat) (Q : State → Prop) (g : JFrame) (q : Addr) : Prop :=
  ∀ T : State, T.heap = H → Stand p l e R s m args below meth c T locs cells slots → ∃ t, Steps p.tables e below ((T.setTop g).pushFrame (.throwing q)) t ∧ Q t
def vx_Run (p : Program) (l : Launch) (e : Env) (R : Room) (s : State) (m : MethodId) (args : Array Value) (below : List Frame) (meth : Method) (c : Code) (H : Heap) (locs : List Loc) (cells slots mc ms : Nat) (g : JFrame) (rest : List Value) (Qa : State → Outcome → State → Prop) (XC : String → State → State → Prop) (free : Addr → Prop) : Prop :=
  ∀ T : State, T.heap = H → Stand p l e R s m args below meth c T locs cells slots →
    (∃ (v : Option Value) (st₀ t T' : State) (L : List Loc), st₀.heap = H ∧ Stand p l e R s m args below meth c T' (locs ++ L) (cells + mc) (slots + ms) ∧ (∀ q ∈ L, free q.base) ∧ T'.heap = t.heap ∧ T'.vm = t.vm ∧ Qa st₀ (.returned v) t ∧
      Goes p e below T g T' { g with pc := g.pc + 3, stack := v.toList ++ rest }) ∨
    (∃ (q : Addr) (st₀ t T' : State) (L : List Loc) (E : String) (ce : Cell), st₀.heap = H ∧ Stand p l e R s m args below meth c T' (locs ++ L) (cells + mc) (slots + ms) ∧ (∀ z ∈ L, free z.base) ∧ T'.heap = t.heap ∧ T'.vm = t.vm ∧ XC E st₀ t ∧ t.heap[q]? = some ce ∧ ce.vm = .none ∧ s.vm.findClass E = some ce.cls ∧
      Steps p.tables e below (T.setTop g) ((T'.setTop { g with stack := rest }).pushFrame (.throwing q)))
def vx_X {S : Type} (px : S → Prop) (B : String → S → State → Prop) (A : Nat → Prop) : String → State → State → Prop := fun E st t => ∃ u : S, px u ∧ B E u t ∧ va_F A st t
section Runs
variable {p : Program} {l : Launch} {e : Env} {R : Room} {s : State} {m : MethodId} {args : Array Value} {below : List Frame} {meth : Method} {c : Code} {H : Heap} {locs : List Loc} {cells slots : Nat}
variable {y : MethodName} {bytes cc : ByteArray} {maxL nL mc ms n index : Nat} {ret : Option FieldType} {ws : List Cond} {rm : Room} {Pc : Array Value → State → Prop} {Qc : Array Value → State → Outcome → State → Prop} {XC : String → State → State → Prop} {free : Addr → Prop} {Ts : List Cond} {own C : String} {b : Addr} {As rest : List Value} {g : JFrame}
theorem vx_callBack (cb : CallB R s args own index y bytes maxL ret ws rm mc ms n) (hM : vx_Met l y ws rm Pc Qc XC mc ms free) (hbl : FrameBlind Pc) : vx_Back l R p e below s args y 3 8 (PreOf R mc ms Pc) (PostOf Qc mc ms free) (vx_Post XC mc ms free) := by
  obtain ⟨hrc, hrs, hfr, hlo, hws, hcw, -, hini, -⟩ := cb
  exact vx_back (bytes := bytes) (maxL := maxL) (ret := ret) hM hbl hrc hrs hfr hlo hws hcw (fun a' U hW => word_at hW (Or.inl (by first | rfl | simp [Cond.onTables, Cond.keeps, Cond.steady])) hini)
theorem vx_runV (S : CallFix p m c cc nL s args Ts own) (hM : vx_Met l y ws rm Pc Qc XC mc ms free) (cw : CallW R s args own C index y bytes maxL ret ws rm mc ms n) (hp : PreV s H C b Pc As)
    (hg : g.method = m) (hn : As.length = n) (hsize : g.locals.size = nL) (hstack : g.stack = As.reverse ++ .ref b :: rest) (hW : 2 * g.monitorRoom + (rest.map fun v => v.category).sum ≤ 8) (hdg : decode cc g.pc = .ok (.invokevirtual index, 3)) (hf : cells + mc ≤ R.cells ∧ slots + ms ≤ R.slots) :
    vx_Run p l e R s m args below meth c H locs cells slots mc ms g rest (Qc (Value.ref b :: As).toArray) XC free := by
  have hK : vx_Back l R p e below s args y 3 8 (PreOf R mc ms Pc) (PostOf Qc mc ms free) (vx_Post XC mc ms free) := vx_callBack cw.1 hM hp.1
  obtain ⟨⟨-, -, -, -, -, -, hcode, -, hy, hlen, hl⟩, hin, hse⟩ := cw
  obtain ⟨hx, hb, hml, ho, -⟩ := S
  obtain ⟨-, ⟨cellB, hcB, hoB, hclB⟩, hPc⟩ := hp
  intro T hT X
  rcases vx_callV X hx (C := C) (bytes := bytes) (maxL := maxL) (ret := ret) ho hl hin hse hcode hy hK (by rw [hT]; exact hcB) hoB hclB hg (hsize.trans hml.symm) (argsL := As) (rest := rest) (fun sig h => hn.trans (hlen sig h)) hstack hW (by rw [hb]; exact hdg)
    (fun vm₁ hW₁ => ⟨hf.1, hf.2, hPc (T.setVm vm₁) hT hW₁⟩) with ⟨v, vm₁, ⟨U', l2, c2, s2⟩, hW₁, X', ⟨g', mk, t, L, e1, e2, hq, h1, hL, h2, h3⟩, st⟩ | ⟨q, vm₁, ⟨U', l2, c2, s2⟩, hW₁, X', ⟨g', mk, t, L, E, ce, e1, e2, hq, hce, hcv, hcl, h1, hL, h2, h3⟩, st⟩
  · dsimp only [Pt.U, Pt.locs, Pt.cells, Pt.slots] at X' e1 e2 h1 h2 h3 st
    subst h1; subst h2; subst h3
    exact Or.inl ⟨v, (T.setVm vm₁).calling g' mk (Value.ref b :: As).toArray, t, U', L, hT, X', hL, e1, e2, hq, st⟩
  · dsimp only [Pt.U, Pt.locs, Pt.cells, Pt.slots] at X' e1 e2 h1 h2 h3 st hcl
    subst h1; subst h2; subst h3
    exact Or.inr ⟨q, (T.setVm vm₁).calling g' mk (Value.ref b :: As).toArray, t, U', L, E, ce, hT, X', hL, e1, e2, hq, hce, hcv, vx_cls hW₁ hcl, st⟩
theorem vx_runS (S : CallFix p m c cc nL s args Ts own) (hM : vx_Met l y ws rm Pc Qc XC mc ms free) (cw : CallB R s args own index y bytes maxL ret ws rm mc ms n ∧ (Cond.static y).before args s = true) (hp : PreS s H Pc As)
    (hg : g.method = m) (hn : As.length = n) (hsize : g.locals.size = nL) (hstack : g.stack = As.reverse ++ rest) (hW : 2 * g.monitorRoom + (rest.map fun v => v.category).sum ≤ 8) (hdg : decode cc g.pc = .ok (.invokestatic index, 3)) (hf : cells + mc ≤ R.cells ∧ slots + ms ≤ R.slots) :
    vx_Run p l e R s m args below meth c H locs cells slots mc ms g rest (Qc As.toArray) XC free := by
  have hK : vx_Back l R p e below s args y 3 8 (PreOf R mc ms Pc) (PostOf Qc mc ms free) (vx_Post XC mc ms free) := vx_callBack cw.1 hM hp.1
  obtain ⟨⟨-, -, -, -, -, -, hcode, hini, hy, hlen, hl⟩, hstt⟩ := cw
  obtain ⟨hx, hb, hml, ho, -⟩ := S
  intro T hT X
  rcases vx_callS X hx (bytes := bytes) (maxL := maxL) (ret := ret) ho hl hstt hini hcode hy hK hg (hsize.trans hml.symm) (argsL := As) (rest := rest) (fun sig h => hn.trans (hlen sig h)) hstack hW (by rw [hb]; exact hdg)
    (fun vm₁ hW₁ => ⟨hf.1, hf.2, hp.2 (T.setVm vm₁) hT hW₁⟩) with ⟨v, vm₁, ⟨U', l2, c2, s2⟩, hW₁, X', ⟨g', mk, t, L, e1, e2, hq, h1, hL, h2, h3⟩, st⟩ | ⟨q, vm₁, ⟨U', l2, c2, s2⟩, hW₁, X', ⟨g', mk, t, L, E, ce, e1, e2, hq, hce, hcv, hcl, h1, hL, h2, h3⟩, st⟩
  · dsimp only [Pt.U, Pt.locs, Pt.cells, Pt.slots] at X' e1 e2 h1 h2 h3 st
    subst h1; subst h2; subst h3
    exact Or.inl ⟨v, (T.setVm vm₁).calling g' mk As.toArray, t, U', L, hT, X', hL, e1, e2, hq, st⟩
  · dsimp only [Pt.U, Pt.locs, Pt.cells, Pt.slots] at X' e1 e2 h1 h2 h3 st hcl
    subst h1; subst h2; subst h3
    exact Or.inr ⟨q, (T.setVm vm₁).calling g' mk As.toArray, t, U', L, E, ce, hT, X', hL, e1, e2, hq, hce, hcv, vx_cls hW₁ hcl, st⟩
end Runs
section Rows
variable {p : Program} {l : Launch} {e : Env} {R : Room} {s : State} {m : MethodId} {args : Array Value} {below : List Frame} {meth : Method} {c : Code} {H : Heap} {locs : List Loc} {cells slots : Nat} {Q : State → Prop}
variable {mc ms : Nat} {free : Addr → Prop} {A0 A1 : Nat → Prop} {H0 : Heap} {a : Array Value} {pc : Nat} {ls : Array Slot} {st0 rest : List Value}
theorem vx_keep {st₀ t T' : State} {L : List Loc} (h0 : st₀.heap = H) (e1 : T'.heap = t.heap) (hS : va_S A0 H0 H locs) (hA : ∀ q, q < H.size → A1 q → A0 q) (hf : ∀ q, free q → A0 q) (hL : ∀ q ∈ L, free q.base) (hF : va_F A1 st₀ t) :
    H.size ≤ T'.heap.size ∧ (∀ q : Nat, q < H.size → ¬ A1 q → T'.heap[q]? = H[q]?) ∧ va_S A0 H0 T'.heap (locs ++ L) := by
  obtain ⟨hz, hk⟩ := hF
  rw [h0] at hz hk
  exact ⟨by rw [e1]; exact hz, fun q h1 h2 => by rw [e1]; exact hk q h1 h2,
    ⟨Nat.le_trans hS.1 (by rw [e1]; exact hz), fun q h1 h2 => by rw [e1, hk q (Nat.lt_of_lt_of_le h1 hS.1) (fun z => h2 (hA q (Nat.lt_of_lt_of_le h1 hS.1) z))]; exact hS.2.1 q h1 h2, fun q hq => by
      rcases List.mem_append.mp hq with h | h
      · exact hS.2.2 q h
      · exact hf _ (hL q h)⟩⟩
theorem vx_calli {S SX : Type} {post : Int32 → S → Prop} {px : SX → Prop} {B : S → State → Prop} {BX : String → SX → State → Prop} {AX : Nat → Prop} (hr : vx_Run p l e R s m args below meth c H locs cells slots mc ms (F0 m pc ls st0) rest (va_Qi post B A1 a) (vx_X px BX AX) free) (hS : va_S A0 H0 H locs) (hA : ∀ q, q < H.size → A1 q → A0 q) (hf : ∀ q, free q → A0 q) (hAX : ∀ q, q < H.size → AX q → A0 q)
    (kx : ∀ (E : String) (ce : Cell) (q9 : Addr) (u : SX) (t : State) (H1 : Heap) (locs1 : List Loc), t.heap = H1 → s.vm.Alike t.vm → px u → BX E u t → H.size ≤ H1.size → (∀ q : Nat, q < H.size → ¬ AX q → H1[q]? = H[q]?) → va_S A0 H0 H1 locs1 → H1[q9]? = some ce → ce.vm = .none → s.vm.findClass E = some ce.cls → vx_W p l e R s m args below meth c H1 locs1 (cells + mc) (slots + ms) Q (F0 m pc ls rest) q9)
    (kk : ∀ (r : Int32) (u : S) (t : State) (H1 : Heap) (locs1 : List Loc), t.heap = H1 → s.vm.Alike t.vm → post r u → B u t → H.size ≤ H1.size → (∀ q : Nat, q < H.size → ¬ A1 q → H1[q]? = H[q]?) → va_S A0 H0 H1 locs1 → W p l e R s m args below meth c H1 locs1 (cells + mc) (slots + ms) Q (F0 m (pc + 3) ls (.int r :: rest))) : W p l e R s m args below meth c H locs cells slots Q (F0 m pc ls st0) := by
  intro T hT X
  rcases hr T hT X with ⟨v, st₀, t, T', L, h0, X', hL, e1, e2, ⟨⟨r, u, hv, hp, hb⟩, hF⟩, st⟩ | ⟨q, st₀, t, T', L, E, ce, h0, X', hL, e1, e2, ⟨u, hp, hb, hF⟩, hce, hcv, hcl, st⟩
  · cases hv
    obtain ⟨k1, k2, k3⟩ := vx_keep h0 e1 hS hA hf hL hF
    obtain ⟨t2, a1, b1⟩ := kk r u t T'.heap (locs ++ L) e1.symm (by rw [← e2]; exact X'.warmed.alike) hp hb k1 k2 k3 T' rfl X'
    exact ⟨t2, st t2 a1, b1⟩
  · obtain ⟨k1, k2, k3⟩ := vx_keep h0 e1 hS hAX hf hL hF
    obtain ⟨t2, a1, b1⟩ := kx E ce q u t T'.heap (locs ++ L) e1.symm (by rw [← e2]; exact X'.warmed.alike) hp hb k1 k2 k3 (by rw [e1]; exact hce) hcv hcl T' rfl X'
    exact ⟨t2, st.trans a1, b1⟩
theorem vx_calll {S SX : Type} {post : Int64 → S → Prop} {px : SX → Prop} {B : S → State → Prop} {BX : String → SX → State → Prop} {AX : Nat → Prop} (hr : vx_Run p l e R s m args below meth c H locs cells slots mc ms (F0 m pc ls st0) rest (va_Ql post B A1 a) (vx_X px BX AX) free) (hS : va_S A0 H0 H locs) (hA : ∀ q, q < H.size → A1 q → A0 q) (hf : ∀ q, free q → A0 q) (hAX : ∀ q, q < H.size → AX q → A0 q)
    (kx : ∀ (E : String) (ce : Cell) (q9 : Addr) (u : SX) (t : State) (H1 : Heap) (locs1 : List Loc), t.heap = H1 → s.vm.Alike t.vm → px u → BX E u t → H.size ≤ H1.size → (∀ q : Nat, q < H.size → ¬ AX q → H1[q]? = H[q]?) → va_S A0 H0 H1 locs1 → H1[q9]? = some ce → ce.vm = .none → s.vm.findClass E = some ce.cls → vx_W p l e R s m args below meth c H1 locs1 (cells + mc) (slots + ms) Q (F0 m pc ls rest) q9)
    (kk : ∀ (r : Int64) (u : S) (t : State) (H1 : Heap) (locs1 : List Loc), t.heap = H1 → s.vm.Alike t.vm → post r u → B u t → H.size ≤ H1.size → (∀ q : Nat, q < H.size → ¬ A1 q → H1[q]? = H[q]?) → va_S A0 H0 H1 locs1 → W p l e R s m args below meth c H1 locs1 (cells + mc) (slots + ms) Q (F0 m (pc + 3) ls (.long r :: rest))) : W p l e R s m args below meth c H locs cells slots Q (F0 m pc ls st0) := by
  intro T hT X
  rcases hr T hT X with ⟨v, st₀, t, T', L, h0, X', hL, e1, e2, ⟨⟨r, u, hv, hp, hb⟩, hF⟩, st⟩ | ⟨q, st₀, t, T', L, E, ce, h0, X', hL, e1, e2, ⟨u, hp, hb, hF⟩, hce, hcv, hcl, st⟩
  · cases hv
    obtain ⟨k1, k2, k3⟩ := vx_keep h0 e1 hS hA hf hL hF
    obtain ⟨t2, a1, b1⟩ := kk r u t T'.heap (locs ++ L) e1.symm (by rw [← e2]; exact X'.warmed.alike) hp hb k1 k2 k3 T' rfl X'
    exact ⟨t2, st t2 a1, b1⟩
  · obtain ⟨k1, k2, k3⟩ := vx_keep h0 e1 hS hAX hf hL hF
    obtain ⟨t2, a1, b1⟩ := kx E ce q u t T'.heap (locs ++ L) e1.symm (by rw [← e2]; exact X'.warmed.alike) hp hb k1 k2 k3 (by rw [e1]; exact hce) hcv hcl T' rfl X'
    exact ⟨t2, st.trans a1, b1⟩
theorem vx_callf {S SX : Type} {post : UInt32 → S → Prop} {px : SX → Prop} {B : S → State → Prop} {BX : String → SX → State → Prop} {AX : Nat → Prop} (hr : vx_Run p l e R s m args below meth c H locs cells slots mc ms (F0 m pc ls st0) rest (va_Qf post B A1 a) (vx_X px BX AX) free) (hS : va_S A0 H0 H locs) (hA : ∀ q, q < H.size → A1 q → A0 q) (hf : ∀ q, free q → A0 q) (hAX : ∀ q, q < H.size → AX q → A0 q)
    (kx : ∀ (E : String) (ce : Cell) (q9 : Addr) (u : SX) (t : State) (H1 : Heap) (locs1 : List Loc), t.heap = H1 → s.vm.Alike t.vm → px u → BX E u t → H.size ≤ H1.size → (∀ q : Nat, q < H.size → ¬ AX q → H1[q]? = H[q]?) → va_S A0 H0 H1 locs1 → H1[q9]? = some ce → ce.vm = .none → s.vm.findClass E = some ce.cls → vx_W p l e R s m args below meth c H1 locs1 (cells + mc) (slots + ms) Q (F0 m pc ls rest) q9)
    (kk : ∀ (r : UInt32) (u : S) (t : State) (H1 : Heap) (locs1 : List Loc), t.heap = H1 → s.vm.Alike t.vm → post r u → B u t → H.size ≤ H1.size → (∀ q : Nat, q < H.size → ¬ A1 q → H1[q]? = H[q]?) → va_S A0 H0 H1 locs1 → W p l e R s m args below meth c H1 locs1 (cells + mc) (slots + ms) Q (F0 m (pc + 3) ls (.float r :: rest))) : W p l e R s m args below meth c H locs cells slots Q (F0 m pc ls st0) := by
  intro T hT X
  rcases hr T hT X with ⟨v, st₀, t, T', L, h0, X', hL, e1, e2, ⟨⟨r, u, hv, hp, hb⟩, hF⟩, st⟩ | ⟨q, st₀, t, T', L, E, ce, h0, X', hL, e1, e2, ⟨u, hp, hb, hF⟩, hce, hcv, hcl, st⟩
  · cases hv
    obtain ⟨k1, k2, k3⟩ := vx_keep h0 e1 hS hA hf hL hF
    obtain ⟨t2, a1, b1⟩ := kk r u t T'.heap (locs ++ L) e1.symm (by rw [← e2]; exact X'.warmed.alike) hp hb k1 k2 k3 T' rfl X'
    exact ⟨t2, st t2 a1, b1⟩
  · obtain ⟨k1, k2, k3⟩ := vx_keep h0 e1 hS hAX hf hL hF
    obtain ⟨t2, a1, b1⟩ := kx E ce q u t T'.heap (locs ++ L) e1.symm (by rw [← e2]; exact X'.warmed.alike) hp hb k1 k2 k3 (by rw [e1]; exact hce) hcv hcl T' rfl X'
    exact ⟨t2, st.trans a1, b1⟩
theorem vx_calld {S SX : Type} {post : UInt64 → S → Prop} {px : SX → Prop} {B : S → State → Prop} {BX : String → SX → State → Prop} {AX : Nat → Prop} (hr : vx_Run p l e R s m args below meth c H locs cells slots mc ms (F0 m pc ls st0) rest (va_Qd post B A1 a) (vx_X px BX AX) free) (hS : va_S A0 H0 H locs) (hA : ∀ q, q < H.size → A1 q → A0 q) (hf : ∀ q, free q → A0 q) (hAX : ∀ q, q < H.size → AX q → A0 q)
    (kx : ∀ (E : String) (ce : Cell) (q9 : Addr) (u : SX) (t : State) (H1 : Heap) (locs1 : List Loc), t.heap = H1 → s.vm.Alike t.vm → px u → BX E u t → H.size ≤ H1.size → (∀ q : Nat, q < H.size → ¬ AX q → H1[q]? = H[q]?) → va_S A0 H0 H1 locs1 → H1[q9]? = some ce → ce.vm = .none → s.vm.findClass E = some ce.cls → vx_W p l e R s m args below meth c H1 locs1 (cells + mc) (slots + ms) Q (F0 m pc ls rest) q9)
    (kk : ∀ (r : UInt64) (u : S) (t : State) (H1 : Heap) (locs1 : List Loc), t.heap = H1 → s.vm.Alike t.vm → post r u → B u t → H.size ≤ H1.size → (∀ q : Nat, q < H.size → ¬ A1 q → H1[q]? = H[q]?) → va_S A0 H0 H1 locs1 → W p l e R s m args below meth c H1 locs1 (cells + mc) (slots + ms) Q (F0 m (pc + 3) ls (.double r :: rest))) : W p l e R s m args below meth c H locs cells slots Q (F0 m pc ls st0) := by
  intro T hT X
  rcases hr T hT X with ⟨v, st₀, t, T', L, h0, X', hL, e1, e2, ⟨⟨r, u, hv, hp, hb⟩, hF⟩, st⟩ | ⟨q, st₀, t, T', L, E, ce, h0, X', hL, e1, e2, ⟨u, hp, hb, hF⟩, hce, hcv, hcl, st⟩
  · cases hv
    obtain ⟨k1, k2, k3⟩ := vx_keep h0 e1 hS hA hf hL hF
    obtain ⟨t2, a1, b1⟩ := kk r u t T'.heap (locs ++ L) e1.symm (by rw [← e2]; exact X'.warmed.alike) hp hb k1 k2 k3 T' rfl X'
    exact ⟨t2, st t2 a1, b1⟩
  · obtain ⟨k1, k2, k3⟩ := vx_keep h0 e1 hS hAX hf hL hF
    obtain ⟨t2, a1, b1⟩ := kx E ce q u t T'.heap (locs ++ L) e1.symm (by rw [← e2]; exact X'.warmed.alike) hp hb k1 k2 k3 (by rw [e1]; exact hce) hcv hcl T' rfl X'
    exact ⟨t2, st.trans a1, b1⟩
theorem vx_callv {S SX : Type} {post : S → Prop} {px : SX → Prop} {B : S → State → Prop} {BX : String → SX → State → Prop} {AX : Nat → Prop} (hr : vx_Run p l e R s m args below meth c H locs cells slots mc ms (F0 m pc ls st0) rest (va_Qv post B A1 a) (vx_X px BX AX) free) (hS : va_S A0 H0 H locs) (hA : ∀ q, q < H.size → A1 q → A0 q) (hf : ∀ q, free q → A0 q) (hAX : ∀ q, q < H.size → AX q → A0 q)
    (kx : ∀ (E : String) (ce : Cell) (q9 : Addr) (u : SX) (t : State) (H1 : Heap) (locs1 : List Loc), t.heap = H1 → s.vm.Alike t.vm → px u → BX E u t → H.size ≤ H1.size → (∀ q : Nat, q < H.size → ¬ AX q → H1[q]? = H[q]?) → va_S A0 H0 H1 locs1 → H1[q9]? = some ce → ce.vm = .none → s.vm.findClass E = some ce.cls → vx_W p l e R s m args below meth c H1 locs1 (cells + mc) (slots + ms) Q (F0 m pc ls rest) q9)
    (kk : ∀ (u : S) (t : State) (H1 : Heap) (locs1 : List Loc), t.heap = H1 → s.vm.Alike t.vm → post u → B u t → H.size ≤ H1.size → (∀ q : Nat, q < H.size → ¬ A1 q → H1[q]? = H[q]?) → va_S A0 H0 H1 locs1 → W p l e R s m args below meth c H1 locs1 (cells + mc) (slots + ms) Q (F0 m (pc + 3) ls (rest))) : W p l e R s m args below meth c H locs cells slots Q (F0 m pc ls st0) := by
  intro T hT X
  rcases hr T hT X with ⟨v, st₀, t, T', L, h0, X', hL, e1, e2, ⟨⟨u, hv, hp, hb⟩, hF⟩, st⟩ | ⟨q, st₀, t, T', L, E, ce, h0, X', hL, e1, e2, ⟨u, hp, hb, hF⟩, hce, hcv, hcl, st⟩
  · cases hv
    obtain ⟨k1, k2, k3⟩ := vx_keep h0 e1 hS hA hf hL hF
    obtain ⟨t2, a1, b1⟩ := kk u t T'.heap (locs ++ L) e1.symm (by rw [← e2]; exact X'.warmed.alike) hp hb k1 k2 k3 T' rfl X'
    exact ⟨t2, st t2 a1, b1⟩
  · obtain ⟨k1, k2, k3⟩ := vx_keep h0 e1 hS hAX hf hL hF
    obtain ⟨t2, a1, b1⟩ := kx E ce q u t T'.heap (locs ++ L) e1.symm (by rw [← e2]; exact X'.warmed.alike) hp hb k1 k2 k3 (by rw [e1]; exact hce) hcv hcl T' rfl X'
    exact ⟨t2, st.trans a1, b1⟩
theorem fs_go1 {Q0 : Handler → Pre} {E0 : CtlPost} {d0 : Bool} {acts : List Action} {S : State} {f : JFrame} {a0 : Addr} {x : ExceptionTableEntry} {c0 : ClassId} {cell : Cell} (hx : covers x f.pc = true) (h0 : x.catchType ≠ 0)
    (hl : S.vm.ClassLinks e.platform f.method.cls x.catchType c0) (hcell : S.heap[a0]? = some cell) (hobj : ∀ k, cell.vm ≠ .statics k)
    (hk : ∃ k, S.vm.classes[cell.cls]? = some k) (hc : ∃ k, S.vm.classes[c0]? = some k) (hfit : S.vm.assignable cell.cls c0 = true) :
    wp (findHandler.go f a0 [x]) Q0 E0 e d0 acts S ↔ Q0 (.found x.handlerPc) d0 acts (S.setVm (S.vm.noted f.method.cls x.catchType (.cls c0))) := by
  simp only [covers] at hx
  obtain ⟨ha, ht⟩ := (resolveClass_links e.toSetting hl).op (op := VmOp.resolveClass f.method.cls x.catchType) rfl
  have hal : S.vm.Alike (S.vm.noted f.method.cls x.catchType (.cls c0)) := (Vm.Alike.refl S.vm).noted _ _ _
  obtain ⟨k1, hk1⟩ := hk
  obtain ⟨k2, hk2⟩ := hc
  obtain ⟨k1', hk1', -⟩ := hal.2.2 _ _ hk1
  obtain ⟨k2', hk2', -⟩ := hal.2.2 _ _ hk2
  have hfit' : (S.vm.noted f.method.cls x.catchType (.cls c0)).assignable cell.cls c0 = true := by rw [hal.assignable]; exact hfit
  simp [findHandler.go, hx, h0, ha, ht, hcell, hobj, hk1', hk2', hfit', VmOp.dirties, VmOp.acts]
theorem fs_step1 {S : State} {a0 : Addr} {f : JFrame} {r : List Frame} {pc0 : Nat} {vm' : Vm} (hfind : ∀ (Q0 : Handler → Pre) (E0 : CtlPost) (d0 : Bool) (acts : List Action), wp (findHandler f a0) Q0 E0 e d0 acts S ↔ Q0 (.found pc0) d0 acts (S.setVm vm')) :
    (stepThrowing e S a0 (.java f :: r)).Is ((S.setVm vm').setFrames (.java { f with pc := pc0, stack := [.ref a0] } :: r)) [] := by
  simp only [stepThrowing, searchFrame, vmDo]
  generalize hr : Sem.go _ e false [] S = res
  obtain ⟨as, rfl, ha⟩ := Sem.eq_ok_of hr (a := Handler.found pc0) (s' := S.setVm vm') (acts' := []) (by simp [hfind _ _ _ _])
  exact ⟨rfl, ha⟩
/-- caught by the one row of this method's table -/
theorem fs_catch {own name : String} {E : String} {ce : Cell} {q : Addr} (hown : s.vm.findClass own = some m.cls) (x : ExceptionTableEntry) (hsplit : c.exceptionTable.toList = [x])
    (hx : covers x pc = true) (h0 : x.catchType ≠ 0)
    (hlink : (Cond.classLink own x.catchType name).before args s = true) (hcast : (Cond.castable E name).before args s = true) (hcell : H[q]? = some ce) (hv : ce.vm = .none) (hcl : s.vm.findClass E = some ce.cls)
    (kk : W p l e R s m args below meth c H locs cells slots Q (F0 m x.handlerPc ls [.ref q])) : vx_W p l e R s m args below meth c H locs cells slots Q (F0 m pc ls rest) q := by
  intro T hT X
  have hpl : e.platform.magicAccessors = ({} : Platform).magicAccessors := by rw [X.admits.platform]
  obtain ⟨c3, c4, hc3, hc4, hasg⟩ := Cond.castable_spec hcast
  cases Option.some.inj (hc3.symm.trans hcl)
  obtain ⟨c5, hc5, hcl5⟩ := Cond.classLink_spec hown hlink e.platform hpl
  cases Option.some.inj (hc4.symm.trans hc5)
  obtain ⟨dk, _, _, kt, hd, _, _, _, _, hkt, _, hopen⟩ := hcl5.here
  have hcl₀ := X.warmed.classLinks hcl5
  have hW' : s.WarmedH (T.vm.noted m.cls x.catchType (.cls c4)) := X.warmed.noted hd hopen (State.rightAt_cls hcl5)
  have hal := X.warmed.alike
  obtain ⟨kt', hkt', -⟩ := hal.2.2 _ _ hkt
  obtain ⟨k9, h9, -⟩ := Vm.findClass_spec hcl
  obtain ⟨k9', h9', -⟩ := hal.2.2 _ _ h9
  have hfit' : T.vm.assignable ce.cls c4 = true := by rw [hal.assignable]; exact hasg
  have hfind : ∀ (Q0 : Handler → Pre) (E0 : CtlPost) (d0 : Bool) (acts : List Action), wp (findHandler (F0 m pc ls rest) q) Q0 E0 e d0 acts ((T.setTop (F0 m pc ls rest)).pushFrame (.throwing q)) ↔ Q0 (.found x.handlerPc) d0 acts (((T.setTop (F0 m pc ls rest)).pushFrame (.throwing q)).setVm (T.vm.noted m.cls x.catchType (.cls c4))) := by
    intro Q0 E0 d0 acts
    rw [W.findHandler_eq (s := (T.setTop (F0 m pc ls rest)).pushFrame (.throwing q)) (f := F0 m pc ls rest) (meth := meth) (code := c) X.method' X.code, hsplit]
    exact fs_go1 (S := (T.setTop (F0 m pc ls rest)).pushFrame (.throwing q)) (f := F0 m pc ls rest) (cell := ce) hx h0 hcl₀ (by show T.heap[q]? = _; rw [hT]; exact hcell) (fun k h => by rw [hv] at h; cases h) ⟨k9', h9'⟩ ⟨kt', hkt'⟩ hfit'
  obtain ⟨t, a1, b1⟩ := kk (T.setVm (T.vm.noted m.cls x.catchType (.cls c4))) hT (X.noted hW')
  refine ⟨t, ?_, b1⟩
  have h : At T m c below := X.here
  obtain ⟨hgo, hw⟩ := At.throwing (g := F0 m pc ls rest) h q
  refine Steps.head hgo hw ?_
  rw [stepThread_throwing (frames_entered h.top _), (fs_step1 (S := (T.setTop (F0 m pc ls rest)).pushFrame (.throwing q)) hfind).1]
  obtain ⟨g₀, hg⟩ := Option.isSome_iff_exists.mp h.top
  obtain ⟨r, hr⟩ := State.topJava?_eq_some.mp hg
  have hr' : (T.setVm (T.vm.noted m.cls x.catchType (.cls c4))).frames = .java g₀ :: r := hr
  rw [State.setTop_of_frames _ hr'] at a1
  have key : ∀ (u : State) (vm' : Vm) (F G : List Frame), ((u.setFrames F).setVm vm').setFrames G = (u.setVm vm').setFrames G := by
    intro u vm' F G
    have h1 : (u.setFrames F).setVm vm' = (u.setVm vm').setFrames F := rfl
    rw [h1, State.setFrames_setFrames]
  rw [hr, List.tail_cons, State.pushFrame, key, State.setTop_of_frames _ hr, key]
  exact a1
end Rows
section Ends
variable {p : Program} {l : Launch} {e : Env} {R : Room} {s : State} {m : MethodId} {args : Array Value} {below : List Frame} {meth : Method} {c : Code} {H : Heap} {locs : List Loc} {cells slots : Nat} {Q : State → Prop}
variable {mc ms : Nat} {free : Addr → Prop} {A0 A1 : Nat → Prop} {H0 : Heap} {a : Array Value} {ls : Array Slot} {st0 rest : List Value}
variable {Qc : Array Value → State → Outcome → State → Prop} {XC : String → State → State → Prop}
/-- what a body that may throw owes at its end -/
def vx_MQ (below : List Frame) (Qc : Array Value → State → Outcome → State → Prop) (XC : String → State → State → Prop) (a : Array Value) (s : State) (mc ms : Nat) (free : Addr → Prop) : State → Prop := fun t =>
  ∃ o, t.status = .running ∧ Ended t below o ∧ vx_Q Qc XC mc ms free a s o t
theorem vx_ret {g : JFrame} {mc ms : Nat} (k : W p l e R s m args below meth c H locs cells slots (MQ below Qc args s mc ms free) g) : W p l e R s m args below meth c H locs cells slots (vx_MQ below Qc XC args s mc ms free) g := by
  intro T hT X
  obtain ⟨t, a1, o, b1, b2, b3, b4⟩ := k T hT X
  exact ⟨t, a1, o, b1, b2, Or.inl ⟨b3, b4⟩⟩
/-- not caught here: it goes on to the caller -/
theorem vx_widen {g : JFrame} {q : Addr} {k n : Nat} (h1 : cells ≤ k) (h2 : slots ≤ n) (kk : vx_W p l e R s m args below meth c H locs k n Q g q) : vx_W p l e R s m args below meth c H locs cells slots Q g q := fun T hT X => kk T hT (stand_widen X h1 h2)
theorem vx_out {pc : Nat} {E : String} {ce : Cell} {q : Addr} {mc ms : Nat} (hout : ∀ x ∈ c.exceptionTable.toList, covers x pc = false) (hlocks : meth.locks = false) (hcell : H[q]? = some ce) (hv : ce.vm = .none) (hcl : s.vm.findClass E = some ce.cls)
    (hx : ∀ t : State, t.heap = H → s.vm.Alike t.vm → XC E s t) (hf : ∀ z ∈ locs, free z.base) (hc : cells ≤ mc) (hs : slots ≤ ms) :
    vx_W p l e R s m args below meth c H locs cells slots (vx_MQ below Qc XC args s mc ms free) (F0 m pc ls rest) q := by
  intro T hT X
  obtain ⟨st1, hrun, hend, hW, hsm⟩ := X.leaveThrown q (g := F0 m pc ls rest) rfl rfl rfl hout hlocks
  have hcell9 : (T.setFrames (.throwing q :: below)).heap[q]? = some ce := by
    show T.heap[q]? = some ce
    rw [hT]; exact hcell
  exact ⟨_, st1, .threw q, hrun, hend, Or.inr ⟨q, rfl, E, ce, locs, hx _ hT hW.alike, hcell9, hv, hcl, hW, hsm.mono hc hs, hf⟩⟩
theorem vx_frame {U : State} {k n : Nat} (h : s.sameButNew ({ U with vm := s.vm } : State) locs k n) : s.heap.size ≤ U.heap.size ∧ ∀ q : Nat, q < s.heap.size → (∀ z ∈ locs, z.base ≠ q) → U.heap[q]? = s.heap[q]? := by
  obtain ⟨-, h2, -, -, -, h6⟩ := h
  refine ⟨h2, fun q hq hz => ?_⟩
  obtain ⟨c9, e1, e2, e3, e4⟩ := h6 q _ (Array.getElem?_eq_getElem hq)
  have hs : c9.slots = (s.heap[q]).slots := Array.ext_getElem? fun i => e4 i fun hm => hz _ hm rfl
  have h9 : c9 = s.heap[q] := by
    rw [hs] at e2
    exact e2
  have e5 : U.heap[q]? = some c9 := e1
  rw [e5, h9, Array.getElem?_eq_getElem hq]
/-- the words of a throw but the four that speak of the heap -/
def vx_no (w : Cond) : Bool := decide (w ≠ .isRef (.static Bundle.tN "UNASSIGNED_STACK" Bundle.steD)) && decide (w ≠ .isRef (.static Bundle.tN "SUPPRESSED_SENTINEL" Bundle.listD)) && decide (w ≠ .laysStatic Bundle.tN "UNASSIGNED_STACK" Bundle.steD) && decide (w ≠ .laysStatic Bundle.tN "SUPPRESSED_SENTINEL" Bundle.listD)
def vx_at0 (own : String) (ic : Nat) (X : String) (names : List String) : List Cond := (Bundle.ownAtoms0 own ic X names).filter vx_no
def vx_atS (own : String) (ic : Nat) (X : String) (names : List String) : List Cond := (Bundle.ownAtoms own ic X names).filter vx_no
/-- a word that the tables alone decide, or a good one -/
def vx_ot (w : Cond) : Bool := w.onTables || goodWord w
theorem vx_ot_at {args a' : Array Value} {s U : State} {w : Cond} (hW : s.WarmedH U.vm) (hvm : s.vm = U.vm) (hg : vx_ot w = true) (h : w.before args s = true) : w.before a' U = true := by
  simp only [vx_ot, Bool.or_eq_true] at hg
  rcases hg with hg | hg
  · exact va_tabs hg hvm h
  · exact word_at hW (good_of_word hg) h
/-- a list's words: the good ones out of the method's own list, the others by premises of their own -/
theorem vx_hat {args : Array Value} {s : State} {L B : List Cond} (h1 : ∀ w ∈ L.filter goodWord, w.before args s = true) (h2 : ∀ w ∈ L.filter (fun w => !goodWord w), w ∈ B) (h3 : ∀ w ∈ B, w.before args s = true) : ∀ w ∈ L, w.before args s = true := by
  intro w hw
  by_cases g : goodWord w = true
  · exact h1 w (List.mem_filter.mpr ⟨hw, g⟩)
  · refine h3 w (h2 w (List.mem_filter.mpr ⟨hw, ?_⟩))
    show (!goodWord w) = true
    cases hgw : goodWord w
    · rfl
    · exact absurd hgw g
theorem vx_c {args : Array Value} {s : State} {w : Cond} {B : List Cond} (h : w.before args s = true) (t : ∀ w ∈ B, w.before args s = true) : ∀ w' ∈ w :: B, w'.before args s = true := fun w' h' => (List.mem_cons.mp h').elim (fun e => by rw [e]; exact h) (t w')
theorem vx_n {args : Array Value} {s : State} : ∀ w ∈ ([] : List Cond), w.before args s = true := fun _ h => nomatch h
theorem vx_own {args : Array Value} {s : State} {L : List Cond} (h1 : ∀ w ∈ L.filter vx_no, w.before args s = true)
    (hU : (Cond.isRef (.static Bundle.tN "UNASSIGNED_STACK" Bundle.steD)).before args s = true) (hN : (Cond.isRef (.static Bundle.tN "SUPPRESSED_SENTINEL" Bundle.listD)).before args s = true)
    (lU : (Cond.laysStatic Bundle.tN "UNASSIGNED_STACK" Bundle.steD).before args s = true) (lN : (Cond.laysStatic Bundle.tN "SUPPRESSED_SENTINEL" Bundle.listD).before args s = true) : ∀ w ∈ L, w.before args s = true := by
  intro w hw
  by_cases e1 : w = .isRef (.static Bundle.tN "UNASSIGNED_STACK" Bundle.steD)
  · rw [e1]; exact hU
  · by_cases e2 : w = .isRef (.static Bundle.tN "SUPPRESSED_SENTINEL" Bundle.listD)
    · rw [e2]; exact hN
    · by_cases e3 : w = .laysStatic Bundle.tN "UNASSIGNED_STACK" Bundle.steD
      · rw [e3]; exact lU
      · by_cases e4 : w = .laysStatic Bundle.tN "SUPPRESSED_SENTINEL" Bundle.listD
        · rw [e4]; exact lN
        · exact h1 w (List.mem_filter.mpr ⟨hw, by unfold vx_no; rw [decide_eq_true e1, decide_eq_true e2, decide_eq_true e3, decide_eq_true e4]; rfl⟩)
/-- where a static field lies, its class's statics cell in H -/
def vx_L (C n d : String) (A : Nat → Prop) (U : State) (H : Heap) : Prop := ∃ (c : ClassId) (k : Class) (i : Nat) (f : Field) (a : Nat) (cell : Cell), U.vm.findClass C = some c ∧ U.fieldFound? C n d = some (c, k, i, f) ∧ f.isStatic = true ∧ k.statics = some a ∧ H[a]? = some cell ∧ cell.vm.isStatics = true ∧ cell.cls = c ∧ f.slot < cell.slots.size ∧ k.staticTypes[f.slot]? = some f.type ∧ ¬ A a
theorem vx_L.moved {C n d : String} {A : Nat → Prop} {u U : State} {H : Heap} (hvm : u.vm.Alike U.vm) (h : vx_L C n d A u H) : vx_L C n d A U H := by
  obtain ⟨c, k, i, f, a, cell, h1, h2, h3, h4, h5, h6, h7, h8, h9, h10⟩ := h
  obtain ⟨k', hi', he⟩ := State.fieldFound?_setVm hvm h2
  exact ⟨c, k', i, f, a, cell, by rw [hvm.findClass]; exact h1, hi', h3, by rw [he]; exact h4, h5, h6, h7, h8, by rw [he]; exact h9, h10⟩
theorem vx_L.kept {C n d : String} {A : Nat → Prop} {U : State} {H H1 : Heap} (h : vx_L C n d A U H) (hq : ∀ a : Nat, a < H.size → ¬ A a → H1[a]? = H[a]?) : vx_L C n d A U H1 := by
  obtain ⟨c, k, i, f, a, cell, h1, h2, h3, h4, h5, h6, h7, h8, h9, h10⟩ := h
  exact ⟨c, k, i, f, a, cell, h1, h2, h3, h4, by rw [hq a (Array.getElem?_eq_some_iff.mp h5).1 h10]; exact h5, h6, h7, h8, h9, h10⟩
theorem vx_L.narrow {C n d : String} {A B : Nat → Prop} {U : State} {H : Heap} (h : vx_L C n d A U H) (hAB : ∀ q, B q → A q) : vx_L C n d B U H := by
  obtain ⟨c, k, i, f, a, cell, h1, h2, h3, h4, h5, h6, h7, h8, h9, h10⟩ := h
  exact ⟨c, k, i, f, a, cell, h1, h2, h3, h4, h5, h6, h7, h8, h9, fun z => h10 (hAB _ z)⟩
theorem vx_L.word {C n d : String} {A : Nat → Prop} {s : State} {args : Array Value} (h : vx_L C n d A s s.heap) : (Cond.laysStatic C n d).before args s = true := by
  obtain ⟨c, k, i, f, a, cell, h1, h2, h3, h4, h5, h6, h7, h8, h9, -⟩ := h
  show (Cond.laysStatic C n d).holds args s none s [] = true
  exact Cond.laysStatic_of h1 h2 h3 h4 h5 h6 h7 h8 h9
/-- .. and what it holds: null or some reference -/
def vx_Zq (C n d : String) (A : Nat → Prop) (U : State) (H : Heap) : Prop := va_Zq C n d A U H ∧ vx_L C n d A U H
theorem vx_Zq.moved {C n d : String} {A : Nat → Prop} {u U : State} {H : Heap} (hvm : u.vm.Alike U.vm) (h : vx_Zq C n d A u H) : vx_Zq C n d A U H := ⟨va_Zq.moved hvm h.1, vx_L.moved hvm h.2⟩
theorem vx_Zq.kept {C n d : String} {A : Nat → Prop} {U : State} {H H1 : Heap} (h : vx_Zq C n d A U H) (hq : ∀ a : Nat, a < H.size → ¬ A a → H1[a]? = H[a]?) : vx_Zq C n d A U H1 := ⟨va_Zq.kept h.1 hq, vx_L.kept h.2 hq⟩
theorem vx_Zq.narrow {C n d : String} {A B : Nat → Prop} {U : State} {H : Heap} (h : vx_Zq C n d A U H) (hAB : ∀ q, B q → A q) : vx_Zq C n d B U H := ⟨va_Zq.narrow h.1 hAB, vx_L.narrow h.2 hAB⟩
theorem vx_Zqof {args : Array Value} {s : State} {C n d : String} {A : Nat → Prop} (hl : (Cond.laysStatic C n d).before args s = true) (hini : (Cond.initialized C).before args s = true) (h : (Cond.isRef (.static C n d)).before args s = true) (hA : ∀ a : Nat, a < s.heap.size → ¬ A a) : vx_Zq C n d A s s.heap := by
  refine ⟨va_Zqof hl hini h hA, ?_⟩
  obtain ⟨c, k, i, f, a, cell, h1, h2, h3, h4, h5, h6, h7, h8, h9⟩ := Cond.laysStatic_spec hl
  exact ⟨c, k, i, f, a, cell, h1, h2, h3, h4, h5, h6, h7, h8, h9, hA a (Array.getElem?_eq_some_iff.mp h5).1⟩
theorem vx_isRef {C n d : String} {v : Value} {A : Nat → Prop} {s : State} {args : Array Value} (h : va_Z C n d v A s s.heap) (hv : v.isRef = true) : (Cond.isRef (.static C n d)).before args s = true := by
  obtain ⟨cf, kf, fi, f, a, cell, h1, h2, h3, h4, h5, h6, h7, -⟩ := h
  have he : (Term.static C n d).eval args s none [] s = some v := by
    simp [Term.eval, State.fieldNamed?, h1, h2, h4, h5, h6, h7]
  simp only [Cond.before, Cond.holds, Cond.value, he]
  cases v <;> simp_all [Value.isRef]
theorem vx_isRefq {C n d : String} {A : Nat → Prop} {s : State} {args : Array Value} (h : va_Zq C n d A s s.heap) : (Cond.isRef (.static C n d)).before args s = true := by
  rcases h with h | ⟨t, h⟩
  · exact vx_isRef h rfl
  · exact vx_isRef h rfl
/-- the same frame, seen from here: as if the method were called anew in this heap -/
theorem vx_rebase {T : State} (X : Stand p l e R s m args below meth c T locs cells slots) {R' : Room} (hf : R'.frames ≤ R.frames) (hl : R'.locals ≤ R.locals) (hc : cells + R'.cells ≤ R.cells) (hs : slots + R'.slots ≤ R.slots) :
    Stand p l e R' ((T.setVm s.vm).setFrames (.invoking m args :: below)) m args below meth c T [] 0 0 := by
  have htop : (T.setVm s.vm).topJava?.isSome := X.here.top
  have hF : ((T.setVm s.vm).setFrames (.invoking m args :: below)).frames = .invoking m args :: below := State.frames_setFrames _ (State.cur_lt_of_top htop)
  obtain ⟨g₀, hg0⟩ := Option.isSome_iff_exists.mp htop
  obtain ⟨r, hr⟩ := State.topJava?_eq_some.mp hg0
  have hl9 : e.platform.stackLimits (T.setVm s.vm).me = e.platform.stackLimits s.me := X.limits
  have hb9 : (T.setVm s.vm).me.stackBytes = s.me.stackBytes := X.bytes
  refine ⟨X.admits, X.cas, X.clock, hF, ?_, X.hears, X.method, X.code, X.here, X.tail, X.warmed, ?_, ?_, ?_⟩
  · have h := X.room
    have hU : ((T.setVm s.vm).setFrames (.invoking m args :: below)).localsInUse = s.localsInUse := by
      rw [State.localsInUse_invoking hF (meth := meth) (c := c) X.method X.code, State.localsInUse_invoking X.frames X.method X.code]
    simp only [State.hasRoom, Bool.and_eq_true, decide_eq_true_eq] at h ⊢
    obtain ⟨⟨⟨⟨h1, h2, h3, h4, h5, h6⟩, h7⟩, h8⟩, h9⟩ := h
    rw [X.frames, List.length_cons] at h2 h3
    have q1 := X.heapSize
    have q2 := X.used
    simp only [hF, hU, List.length_cons, State.stackLimits_setFrames, State.stackBytes_setFrames, hl9, hb9]
    refine ⟨⟨⟨⟨by omega, by omega, by omega, by omega, by omega, h6⟩, ?_⟩, ?_⟩, X.book⟩
    · show T.heap.size + R'.cells ≤ e.platform.maxCells
      omega
    · show T.slotsUsed + R'.slots ≤ e.platform.maxSlots
      omega
  · rw [State.stackLimits_setFrames]; rfl
  · rw [State.stackBytes_setFrames]; rfl
  · refine ⟨?_, Nat.le_refl _, Nat.le_refl _, ?_, ?_, fun a c9 h9 => ⟨c9, h9, rfl, rfl, fun _ _ => rfl⟩⟩
    · obtain ⟨t, ht, -⟩ := State.frames_cons hr
      show T.setVm s.vm = { ((T.setVm s.vm).setFrames (.invoking m args :: below)).setFrames (T.setVm s.vm).frames with heap := T.heap, slotsUsed := T.slotsUsed }
      rw [State.setFrames_setFrames, State.setFrames_self ht]
      rfl
    · show T.slotsUsed = T.slotsUsed + ((T.heap.toList.drop T.heap.size).map (·.slots.size)).sum
      rw [List.drop_eq_nil_of_le (Nat.le_of_eq Array.length_toList)]
      rfl
    · show ((T.heap.toList.drop T.heap.size).map (·.slots.size)).sum ≤ 0
      rw [List.drop_eq_nil_of_le (Nat.le_of_eq Array.length_toList)]
      exact Nat.le_refl _
/-- 'throw new E()': new; dup; invokespecial; athrow -/
theorem vx_throw0 {cc : ByteArray} {pc : Nat} (hexec : p.tables.exec = Jvm.exec) (hb : c.code = cc) (hl : l.stackTraces = false) {own cls : String} {names : List String} {ik ic mc ms : Nat} {A : Nat → Prop}
    (hown : s.vm.findClass own = some m.cls) (hcls : Bundle.fit cls = true) (hnames : ∀ n ∈ names, Bundle.fit n = true)
    (hk : (Cond.classLink own ik cls).before args s = true) (hini : (Cond.initialized cls).before args s = true) (hat : ∀ w ∈ vx_at0 own ic cls names, w.before args s = true)
    (hgood : ∀ w ∈ Cond.classLink own ik cls :: Cond.initialized cls :: vx_at0 own ic cls names, vx_ot w = true)
    (hU : vx_Zq Bundle.tN "UNASSIGNED_STACK" Bundle.steD A s s.heap) (hN : vx_Zq Bundle.tN "SUPPRESSED_SENTINEL" Bundle.listD A s s.heap) (hS : va_S A s.heap H locs) (hsize : ls.size = c.maxLocals)
    (d0 : decode cc pc = .ok (.new ik, 3)) (d3 : decode cc (pc + 3) = .ok (.dup, 1)) (d4 : decode cc (pc + 4) = .ok (.invokespecial ic, 3)) (d7 : decode cc (pc + 7) = .ok (.athrow, 1))
    (hout : ∀ x ∈ c.exceptionTable.toList, covers x (pc + 7) = false)
    (hRframes : names.length + 3 < R.frames) (hRlocals : (rest.map fun v => v.category).sum + (13 * (names.length + 1) + 42) ≤ R.locals) (hRcells : cells + 1 ≤ R.cells) (hRslots : slots + 6 ≤ R.slots) (hlocks : meth.locks = false)
    (hx : ∀ t : State, s.vm.Alike t.vm → H.size ≤ t.heap.size → (∀ q : Nat, q < H.size → t.heap[q]? = H[q]?) → XC cls s t)
    (hf : ∀ z ∈ locs, free z.base) (hc : cells + 1 ≤ mc) (hs : slots + 6 ≤ ms) :
    W p l e R s m args below meth c H locs cells slots (vx_MQ below Qc XC args s mc ms free) (F0 m pc ls rest) := by
  intro T hT X
  have htr : e.platform.stackTraces = false := (show e.platform.stackTraces = l.stackTraces by rw [X.admits.platform]).trans hl
  have Y := vx_rebase X (R' := { frames := R.frames, locals := R.locals, cells := 1, slots := 6 }) (Nat.le_refl _) (Nat.le_refl _) hRcells hRslots
  obtain ⟨s', hA⟩ : ∃ z, z = (T.setVm s.vm).setFrames (.invoking m args :: below) := ⟨_, rfl⟩
  rw [← hA] at Y
  have hvm : s'.vm = s.vm := by rw [hA]; rfl
  have hhp : s'.heap = H := by rw [hA]; exact hT
  have hW0 : s.WarmedH s'.vm := by rw [hvm]; exact State.WarmedH.refl s
  have hat' : ∀ w ∈ vx_at0 own ic cls names, w.before args s' = true := fun w hw => vx_ot_at hW0 hvm.symm (hgood w (List.mem_cons_of_mem _ (List.mem_cons_of_mem _ hw))) (hat w hw)
  have hk' : (Cond.classLink own ik cls).before args s' = true := vx_ot_at hW0 hvm.symm (hgood _ List.mem_cons_self) hk
  have hini' : (Cond.initialized cls).before args s' = true := vx_ot_at hW0 hvm.symm (hgood _ (List.mem_cons_of_mem _ List.mem_cons_self)) hini
  have hU' : vx_Zq Bundle.tN "UNASSIGNED_STACK" Bundle.steD A s' s'.heap := by rw [hhp]; exact vx_Zq.moved hW0.alike (hU.kept hS.2.1)
  have hN' : vx_Zq Bundle.tN "SUPPRESSED_SENTINEL" Bundle.listD A s' s'.heap := by rw [hhp]; exact vx_Zq.moved hW0.alike (hN.kept hS.2.1)
  have h : ∀ w ∈ Bundle.ownAtoms0 own ic cls names, w.before args s' = true := vx_own hat' (vx_isRefq hU'.1) (vx_isRefq hN'.1) hU'.2.word hN'.2.word
  have hown' : s'.vm.findClass own = some m.cls := by rw [hvm]; exact hown
  have hins : (Cond.instantiable cls 6).before args s' = true := h _ (by simp [Bundle.ownAtoms0])
  obtain ⟨vm₁, cX, kX, hfX, hkX, -, -, X₁, st1⟩ := Y.newCold hexec (own := own) (C := cls) (index := ik) (n := 6) hown' hk' hins hini'
    (g := F0 m pc ls rest) rfl (by rw [hb]; exact d0) (Nat.le_refl _) (Nat.le_refl _)
  generalize hT1 : (T.setVm vm₁).pushCell { cls := cX, slots := kX.instanceTypes.map defaultValue, vm := .none } = T1 at X₁ st1
  have hcat : (Value.ref T.heap.size).category = 1 := rfl
  have hcellA : T1.heap[T.heap.size]? = some (freshCell cX kX) := by rw [← hT1]; exact State.heap_pushCell_size _ _
  have d3' : decode c.code (pc + 3) = .ok (.dup, 1) := by rw [hb]; exact d3
  obtain ⟨U, hsteps, hrun, hend, hW, hsame, ce, hce, hO⟩ := X₁.ctorThrow0 hexec htr (own := own) (cls := cls) (names := names) (ic := ic) hown' hcls hnames h (fun x hx => nomatch hx) hfX hkX hcellA (by rw [hhp, hT]; exact Nat.le_refl _)
    (g := { method := m, pc := pc + 4, locals := ls, stack := .ref T.heap.size :: .ref T.heap.size :: rest, locked := none }) rfl hsize rfl rfl (rest := rest) rfl
    (by rw [hb]; exact d4) (by rw [hb]; exact d7) hout hRframes (by simp only [List.map_cons, List.sum_cons, hcat]; omega) hlocks
  obtain ⟨f1, f2⟩ := vx_frame hsame
  rw [hhp] at f1 f2
  have hWs : s.WarmedH U.vm := State.WarmedH.trans hW0 hW
  have hcl : s.vm.findClass cls = some ce.cls := by
    have h9 := hO.cls
    rw [hvm] at h9
    exact h9
  have hall : s.sameButNew ({ U with vm := s.vm } : State) locs mc ms := by
    subst hA
    obtain ⟨e1, e2⟩ := hsame
    rw [State.setFrames_setFrames] at e1
    have h2 : (T.setVm s.vm).sameButNew ({ U with vm := s.vm } : State) [] (0 + 1) (0 + 6) := ⟨e1, e2⟩
    have h3 := X.same.trans h2
    rw [List.append_nil] at h3
    exact h3.mono hc hs
  refine ⟨U, ?_, .threw T.heap.size, hrun, hend, Or.inr ⟨T.heap.size, rfl, cls, ce, locs, hx U hWs.alike f1 (fun q hq => f2 q hq (fun z hz => nomatch hz)), hce, hO.vm, hcl, hWs, hall, hf⟩⟩
  refine st1 _ ?_
  show Steps p.tables e below (T1.setTop { method := m, pc := pc + 3, locals := ls, stack := .ref T.heap.size :: rest, locked := none }) _
  jvm_step X₁.here [X₁.here.top, hexec, d3', Value.category]
  exact hsteps
/-- 'throw new E("text")': new; dup; ldc; invokespecial; athrow -/
theorem vx_throwS {cc : ByteArray} {pc : Nat} (hexec : p.tables.exec = Jvm.exec) (hb : c.code = cc) (hl : l.stackTraces = false) {own cls text : String} {names : List String} {ik is ic mc ms sa : Nat} {A : Nat → Prop}
    (hown : s.vm.findClass own = some m.cls) (hcls : Bundle.fit cls = true) (hnames : ∀ n ∈ names, Bundle.fit n = true)
    (hk : (Cond.classLink own ik cls).before args s = true) (hini : (Cond.initialized cls).before args s = true) (hstr : vk_R own is text sa s) (hat : ∀ w ∈ vx_atS own ic cls names, w.before args s = true)
    (hgood : ∀ w ∈ Cond.classLink own ik cls :: Cond.initialized cls :: vx_atS own ic cls names, vx_ot w = true)
    (hU : vx_Zq Bundle.tN "UNASSIGNED_STACK" Bundle.steD A s s.heap) (hN : vx_Zq Bundle.tN "SUPPRESSED_SENTINEL" Bundle.listD A s s.heap) (hS : va_S A s.heap H locs) (hsize : ls.size = c.maxLocals)
    (d0 : decode cc pc = .ok (.new ik, 3)) (d3 : decode cc (pc + 3) = .ok (.dup, 1)) (d4 : decode cc (pc + 4) = .ok (.ldc is, 2)) (d6 : decode cc (pc + 6) = .ok (.invokespecial ic, 3)) (d9 : decode cc (pc + 9) = .ok (.athrow, 1))
    (hout : ∀ x ∈ c.exceptionTable.toList, covers x (pc + 9) = false)
    (hRframes : names.length + 3 < R.frames) (hRlocals : (rest.map fun v => v.category).sum + (13 * (names.length + 1) + 43) ≤ R.locals) (hRcells : cells + 1 ≤ R.cells) (hRslots : slots + 6 ≤ R.slots) (hlocks : meth.locks = false)
    (hx : ∀ t : State, s.vm.Alike t.vm → H.size ≤ t.heap.size → (∀ q : Nat, q < H.size → t.heap[q]? = H[q]?) → XC cls s t)
    (hf : ∀ z ∈ locs, free z.base) (hc : cells + 1 ≤ mc) (hs : slots + 6 ≤ ms) :
    W p l e R s m args below meth c H locs cells slots (vx_MQ below Qc XC args s mc ms free) (F0 m pc ls rest) := by
  intro T hT X
  have htr : e.platform.stackTraces = false := (show e.platform.stackTraces = l.stackTraces by rw [X.admits.platform]).trans hl
  have Y := vx_rebase X (R' := { frames := R.frames, locals := R.locals, cells := 1, slots := 6 }) (Nat.le_refl _) (Nat.le_refl _) hRcells hRslots
  obtain ⟨s', hA⟩ : ∃ z, z = (T.setVm s.vm).setFrames (.invoking m args :: below) := ⟨_, rfl⟩
  rw [← hA] at Y
  have hvm : s'.vm = s.vm := by rw [hA]; rfl
  have hhp : s'.heap = H := by rw [hA]; exact hT
  have hW0 : s.WarmedH s'.vm := by rw [hvm]; exact State.WarmedH.refl s
  have hat' : ∀ w ∈ vx_atS own ic cls names, w.before args s' = true := fun w hw => vx_ot_at hW0 hvm.symm (hgood w (List.mem_cons_of_mem _ (List.mem_cons_of_mem _ hw))) (hat w hw)
  have hk' : (Cond.classLink own ik cls).before args s' = true := vx_ot_at hW0 hvm.symm (hgood _ List.mem_cons_self) hk
  have hini' : (Cond.initialized cls).before args s' = true := vx_ot_at hW0 hvm.symm (hgood _ (List.mem_cons_of_mem _ List.mem_cons_self)) hini
  have hU' : vx_Zq Bundle.tN "UNASSIGNED_STACK" Bundle.steD A s' s'.heap := by rw [hhp]; exact vx_Zq.moved hW0.alike (hU.kept hS.2.1)
  have hN' : vx_Zq Bundle.tN "SUPPRESSED_SENTINEL" Bundle.listD A s' s'.heap := by rw [hhp]; exact vx_Zq.moved hW0.alike (hN.kept hS.2.1)
  have h : ∀ w ∈ Bundle.ownAtoms own ic cls names, w.before args s' = true := vx_own hat' (vx_isRefq hU'.1) (vx_isRefq hN'.1) hU'.2.word hN'.2.word
  have hown' : s'.vm.findClass own = some m.cls := by rw [hvm]; exact hown
  have hins : (Cond.instantiable cls 6).before args s' = true := h _ (by simp [Bundle.ownAtoms])
  obtain ⟨vm₁, cX, kX, hfX, hkX, -, -, X₁, st1⟩ := Y.newCold hexec (own := own) (C := cls) (index := ik) (n := 6) hown' hk' hins hini'
    (g := F0 m pc ls rest) rfl (by rw [hb]; exact d0) (Nat.le_refl _) (Nat.le_refl _)
  generalize hT1 : (T.setVm vm₁).pushCell { cls := cX, slots := kX.instanceTypes.map defaultValue, vm := .none } = T1 at X₁ st1
  have hcat : (Value.ref T.heap.size).category = 1 := rfl
  have hcellA : T1.heap[T.heap.size]? = some (freshCell cX kX) := by rw [← hT1]; exact State.heap_pushCell_size _ _
  have d3' : decode c.code (pc + 3) = .ok (.dup, 1) := by rw [hb]; exact d3
  have d4' : decode c.code (pc + 4) = .ok (.ldc is, 2) := by rw [hb]; exact d4
  have hstr' : vk_R own is text sa s' := vk_R.warm hW0 hstr
  obtain ⟨U, hsteps, hrun, hend, hW, hsame, ce, hce, hO⟩ := X₁.ctorThrowS hexec htr (own := own) (cls := cls) (names := names) (ic := ic) hown' hcls hnames h (fun x hx => nomatch hx) hfX hkX hcellA (by rw [hhp, hT]; exact Nat.le_refl _) (msg := .ref sa) rfl
    (g := { method := m, pc := pc + 6, locals := ls, stack := .ref sa :: .ref T.heap.size :: .ref T.heap.size :: rest, locked := none }) rfl hsize rfl rfl (rest := rest) rfl
    (by rw [hb]; exact d6) (by rw [hb]; exact d9) hout hRframes (by simp only [List.map_cons, List.sum_cons, hcat]; omega) hlocks
  obtain ⟨f1, f2⟩ := vx_frame hsame
  rw [hhp] at f1 f2
  have hWs : s.WarmedH U.vm := State.WarmedH.trans hW0 hW
  have hcl : s.vm.findClass cls = some ce.cls := by
    have h9 := hO.cls
    rw [hvm] at h9
    exact h9
  have hall : s.sameButNew ({ U with vm := s.vm } : State) locs mc ms := by
    subst hA
    obtain ⟨e1, e2⟩ := hsame
    rw [State.setFrames_setFrames] at e1
    have h2 : (T.setVm s.vm).sameButNew ({ U with vm := s.vm } : State) [] (0 + 1) (0 + 6) := ⟨e1, e2⟩
    have h3 := X.same.trans h2
    rw [List.append_nil] at h3
    exact h3.mono hc hs
  refine ⟨U, ?_, .threw T.heap.size, hrun, hend, Or.inr ⟨T.heap.size, rfl, cls, ce, locs, hx U hWs.alike f1 (fun q hq => f2 q hq (fun z hz => nomatch hz)), hce, hO.vm, hcl, hWs, hall, hf⟩⟩
  refine st1 _ ?_
  show Steps p.tables e below (T1.setTop { method := m, pc := pc + 3, locals := ls, stack := .ref T.heap.size :: rest, locked := none }) _
  jvm_step X₁.here [X₁.here.top, hexec, d3', Value.category]
  exact X₁.ldcString hexec (own := own) (text := text) (index := is) (a := sa) hown' hstr'.1 hstr'.2
    (g := { method := m, pc := pc + 4, locals := ls, stack := .ref T.heap.size :: .ref T.heap.size :: rest, locked := none }) rfl d4' _ hsteps
/-- 'throw new E("text")', the text by a wide index -/
theorem vx_throwSW {cc : ByteArray} {pc : Nat} (hexec : p.tables.exec = Jvm.exec) (hb : c.code = cc) (hl : l.stackTraces = false) {own cls text : String} {names : List String} {ik is ic mc ms sa : Nat} {A : Nat → Prop}
    (hown : s.vm.findClass own = some m.cls) (hcls : Bundle.fit cls = true) (hnames : ∀ n ∈ names, Bundle.fit n = true)
    (hk : (Cond.classLink own ik cls).before args s = true) (hini : (Cond.initialized cls).before args s = true) (hstr : vk_R own is text sa s) (hat : ∀ w ∈ vx_atS own ic cls names, w.before args s = true)
    (hgood : ∀ w ∈ Cond.classLink own ik cls :: Cond.initialized cls :: vx_atS own ic cls names, vx_ot w = true)
    (hU : vx_Zq Bundle.tN "UNASSIGNED_STACK" Bundle.steD A s s.heap) (hN : vx_Zq Bundle.tN "SUPPRESSED_SENTINEL" Bundle.listD A s s.heap) (hS : va_S A s.heap H locs) (hsize : ls.size = c.maxLocals)
    (d0 : decode cc pc = .ok (.new ik, 3)) (d3 : decode cc (pc + 3) = .ok (.dup, 1)) (d4 : decode cc (pc + 4) = .ok (.ldc_w is, 3)) (d7 : decode cc (pc + 7) = .ok (.invokespecial ic, 3)) (d10 : decode cc (pc + 10) = .ok (.athrow, 1))
    (hout : ∀ x ∈ c.exceptionTable.toList, covers x (pc + 10) = false)
    (hRframes : names.length + 3 < R.frames) (hRlocals : (rest.map fun v => v.category).sum + (13 * (names.length + 1) + 43) ≤ R.locals) (hRcells : cells + 1 ≤ R.cells) (hRslots : slots + 6 ≤ R.slots) (hlocks : meth.locks = false)
    (hx : ∀ t : State, s.vm.Alike t.vm → H.size ≤ t.heap.size → (∀ q : Nat, q < H.size → t.heap[q]? = H[q]?) → XC cls s t)
    (hf : ∀ z ∈ locs, free z.base) (hc : cells + 1 ≤ mc) (hs : slots + 6 ≤ ms) :
    W p l e R s m args below meth c H locs cells slots (vx_MQ below Qc XC args s mc ms free) (F0 m pc ls rest) := by
  intro T hT X
  have htr : e.platform.stackTraces = false := (show e.platform.stackTraces = l.stackTraces by rw [X.admits.platform]).trans hl
  have Y := vx_rebase X (R' := { frames := R.frames, locals := R.locals, cells := 1, slots := 6 }) (Nat.le_refl _) (Nat.le_refl _) hRcells hRslots
  obtain ⟨s', hA⟩ : ∃ z, z = (T.setVm s.vm).setFrames (.invoking m args :: below) := ⟨_, rfl⟩
  rw [← hA] at Y
  have hvm : s'.vm = s.vm := by rw [hA]; rfl
  have hhp : s'.heap = H := by rw [hA]; exact hT
  have hW0 : s.WarmedH s'.vm := by rw [hvm]; exact State.WarmedH.refl s
  have hat' : ∀ w ∈ vx_atS own ic cls names, w.before args s' = true := fun w hw => vx_ot_at hW0 hvm.symm (hgood w (List.mem_cons_of_mem _ (List.mem_cons_of_mem _ hw))) (hat w hw)
  have hk' : (Cond.classLink own ik cls).before args s' = true := vx_ot_at hW0 hvm.symm (hgood _ List.mem_cons_self) hk
  have hini' : (Cond.initialized cls).before args s' = true := vx_ot_at hW0 hvm.symm (hgood _ (List.mem_cons_of_mem _ List.mem_cons_self)) hini
  have hU' : vx_Zq Bundle.tN "UNASSIGNED_STACK" Bundle.steD A s' s'.heap := by rw [hhp]; exact vx_Zq.moved hW0.alike (hU.kept hS.2.1)
  have hN' : vx_Zq Bundle.tN "SUPPRESSED_SENTINEL" Bundle.listD A s' s'.heap := by rw [hhp]; exact vx_Zq.moved hW0.alike (hN.kept hS.2.1)
  have h : ∀ w ∈ Bundle.ownAtoms own ic cls names, w.before args s' = true := vx_own hat' (vx_isRefq hU'.1) (vx_isRefq hN'.1) hU'.2.word hN'.2.word
  have hown' : s'.vm.findClass own = some m.cls := by rw [hvm]; exact hown
  have hins : (Cond.instantiable cls 6).before args s' = true := h _ (by simp [Bundle.ownAtoms])
  obtain ⟨vm₁, cX, kX, hfX, hkX, -, -, X₁, st1⟩ := Y.newCold hexec (own := own) (C := cls) (index := ik) (n := 6) hown' hk' hins hini'
    (g := F0 m pc ls rest) rfl (by rw [hb]; exact d0) (Nat.le_refl _) (Nat.le_refl _)
  generalize hT1 : (T.setVm vm₁).pushCell { cls := cX, slots := kX.instanceTypes.map defaultValue, vm := .none } = T1 at X₁ st1
  have hcat : (Value.ref T.heap.size).category = 1 := rfl
  have hcellA : T1.heap[T.heap.size]? = some (freshCell cX kX) := by rw [← hT1]; exact State.heap_pushCell_size _ _
  have d3' : decode c.code (pc + 3) = .ok (.dup, 1) := by rw [hb]; exact d3
  have d4' : decode c.code (pc + 4) = .ok (.ldc_w is, 3) := by rw [hb]; exact d4
  have hstr' : vk_R own is text sa s' := vk_R.warm hW0 hstr
  obtain ⟨U, hsteps, hrun, hend, hW, hsame, ce, hce, hO⟩ := X₁.ctorThrowS hexec htr (own := own) (cls := cls) (names := names) (ic := ic) hown' hcls hnames h (fun x hx => nomatch hx) hfX hkX hcellA (by rw [hhp, hT]; exact Nat.le_refl _) (msg := .ref sa) rfl
    (g := { method := m, pc := pc + 7, locals := ls, stack := .ref sa :: .ref T.heap.size :: .ref T.heap.size :: rest, locked := none }) rfl hsize rfl rfl (rest := rest) rfl
    (by rw [hb]; exact d7) (by rw [hb]; exact d10) hout hRframes (by simp only [List.map_cons, List.sum_cons, hcat]; omega) hlocks
  obtain ⟨f1, f2⟩ := vx_frame hsame
  rw [hhp] at f1 f2
  have hWs : s.WarmedH U.vm := State.WarmedH.trans hW0 hW
  have hcl : s.vm.findClass cls = some ce.cls := by
    have h9 := hO.cls
    rw [hvm] at h9
    exact h9
  have hall : s.sameButNew ({ U with vm := s.vm } : State) locs mc ms := by
    subst hA
    obtain ⟨e1, e2⟩ := hsame
    rw [State.setFrames_setFrames] at e1
    have h2 : (T.setVm s.vm).sameButNew ({ U with vm := s.vm } : State) [] (0 + 1) (0 + 6) := ⟨e1, e2⟩
    have h3 := X.same.trans h2
    rw [List.append_nil] at h3
    exact h3.mono hc hs
  refine ⟨U, ?_, .threw T.heap.size, hrun, hend, Or.inr ⟨T.heap.size, rfl, cls, ce, locs, hx U hWs.alike f1 (fun q hq => f2 q hq (fun z hz => nomatch hz)), hce, hO.vm, hcl, hWs, hall, hf⟩⟩
  refine st1 _ ?_
  show Steps p.tables e below (T1.setTop { method := m, pc := pc + 3, locals := ls, stack := .ref T.heap.size :: rest, locked := none }) _
  jvm_step X₁.here [X₁.here.top, hexec, d3', Value.category]
  exact X₁.ldcStringW hexec (own := own) (text := text) (index := is) (a := sa) hown' hstr'.1 hstr'.2
    (g := { method := m, pc := pc + 4, locals := ls, stack := .ref T.heap.size :: .ref T.heap.size :: rest, locked := none }) rfl d4' _ hsteps
end Ends
section Bodies
variable {l : Launch}
theorem vx_ofW {y : MethodName} {ws ws' : List Cond} {rm : Room} {Pc : Array Value → State → Prop} {Qc : Array Value → State → Outcome → State → Prop} {XC : String → State → State → Prop} {mc ms : Nat} {free : Addr → Prop} {cc : ByteArray} {maxL : Nat} {ret : Option FieldType}
    (hy : plainName y.cls = true) (hw : ws = Cond.code y cc maxL ret :: ws')
    (body : ∀ p e s m args below meth c s₁, BodyLoose p l y (headSpec ws rm) cc maxL ret e s m args below meth c s₁ → c.maxLocals = maxL → (∀ x ∈ c.exceptionTable.toList, False) → Pc args s →
      W p l e (headSpec ws rm).room s m args below meth c s.heap [] 0 0 (vx_MQ below Qc XC args s mc ms free) (entryFrame m args maxL)) : vx_Met l y ws rm Pc Qc XC mc ms free := by
  refine MetFree.of_bodyS (code := cc) (maxLocals := maxL) (ret := ret) hy ?_ ?_
  · intro args s m h hn
    obtain ⟨meth, c, h1, h2, h3, h4, h5, h6, -, -⟩ := Cond.code_spec hn (atoms_spec (ws := ws) h _ (by rw [hw]; exact List.mem_cons_self))
    exact ⟨meth, c, h1, h2, h3, h4, h5, h6⟩
  · intro p e s m args below meth c s₁ B hml hP _
    have hh0 : s₁.heap = s.heap := by rw [B.state]; rfl
    have ht : ∀ x ∈ c.exceptionTable.toList, False := by
      obtain ⟨meth9, c9, h1, h2, -, -, -, -, h7, -⟩ := Cond.code_spec B.named (atoms_spec (ws := ws) B.pre _ (by rw [hw]; exact List.mem_cons_self))
      cases Option.some.inj (h1.symm.trans B.method)
      cases Option.some.inj (h2.symm.trans (Stand.of_body B).code)
      intro x hx
      rw [Array.isEmpty_iff.mp h7] at hx
      cases hx
    obtain ⟨t, a1, o, b1, b2, b3⟩ := body p e s m args below meth c s₁ B hml ht hP s₁ hh0 (Stand.of_body B)
    exact ⟨t, o, a1, b1, b2, b3⟩
/-- the table of a body with handlers -/
theorem vx_table {p : Program} {x y : MethodName} {S : Spec} {cc bytes : ByteArray} {maxL maxL' : Nat} {ret ret' : Option FieldType} {e : Env} {s s₁ : State} {m : MethodId} {args : Array Value} {below : List Frame} {meth : Method} {c : Code} {hh : List (Nat × Nat × Nat × Nat)}
    (B : BodyLoose p l y S cc maxL ret e s m args below meth c s₁) (h : (Cond.codeWith y bytes maxL' ret' hh).before args s = true) : c.exceptionTable.toList = tableOf hh := by
  obtain ⟨m9, meth9, c9, hn9, h1, h2, -, -, h6, -⟩ := Cond.codeWith_spec h
  cases Option.some.inj (hn9.symm.trans B.named)
  cases Option.some.inj (h1.symm.trans B.method)
  cases Option.some.inj (h2.symm.trans (Stand.of_body B).code)
  rw [← h6, table_eq]
end Bodies
end VXA
/-! ===== END ===== -/
/-! ===== BEGIN a static call of a method with an exception table ===== -/
section VXS
variable {p : Program} {l : Launch} {e : Env} {R : Room} {s : State} {m : MethodId} {args : Array Value} {below : List Frame} {meth : Method} {c : Code} {T : State} {H : Heap} {locs : List Loc} {cells slots : Nat}
abbrev vx_CSW (R : Room) (s : State) (args : Array Value) (own : String) (index : Nat) (y : MethodName) (bytes : ByteArray) (maxL : Nat) (ret : Option FieldType) (hh : List (Nat × Nat × Nat × Nat)) (ws : List Cond) (rm : Room) (mc ms n : Nat) : Prop :=
  (rm.cells = mc ∧ rm.slots = ms ∧ rm.frames + 1 ≤ R.frames ∧ 8 + (maxL + 11) + rm.locals ≤ R.locals ∧ (∀ w ∈ ws, ∀ (a' : Array Value) (U : State), s.WarmedH U.vm → w.before a' U = true) ∧ Cond.codeWith y bytes maxL ret hh ∈ ws) ∧
  (Cond.codeWith y bytes maxL ret hh).before args s = true ∧ (Cond.initialized y.cls).before args s = true ∧ (y.cls ≠ "java/lang/invoke/MethodHandle" ∧ y.cls ≠ "java/lang/invoke/VarHandle") ∧
  (∀ sig, parseMethodDescriptor y.desc = some sig → n = sig.parameters.length) ∧ (Cond.methodLink own index y).before args s = true ∧ (Cond.static y).before args s = true
theorem vx_cwSW {own : String} {index maxL mc ms : Nat} {y : MethodName} {bytes : ByteArray} {ret : Option FieldType} {hh : List (Nat × Nat × Nat × Nat)} {Ts ws ws' : List Cond} {rm : Room} (n : Nat) (ht : ∀ w ∈ Ts, w.before args s = true) (hT : GoodIn Ts (va_wsS own index y ws)) (hw : ws = Cond.codeWith y bytes maxL ret hh :: ws') (hrc : rm.cells = mc) (hrs : rm.slots = ms)
    (hd : y.cls ≠ "java/lang/invoke/MethodHandle" ∧ y.cls ≠ "java/lang/invoke/VarHandle" ∧ (parseMethodDescriptor y.desc).map (fun d => d.parameters.length) = some n) (hR : rm.frames + 1 ≤ R.frames ∧ 8 + (maxL + 11) + rm.locals ≤ R.locals) :
    vx_CSW R s args own index y bytes maxL ret hh ws rm mc ms n := by
  have ok : ∀ w ∈ va_wsS own index y ws, w.before args s = true := fun w h => ht w (hT w h).1
  have hG : GoodIn Ts ws := fun w h => hT w (by unfold va_wsS; exact List.mem_append_right _ h)
  have hc : Cond.codeWith y bytes maxL ret hh ∈ ws := by rw [hw]; exact List.mem_cons_self
  refine ⟨⟨hrc, hrs, hR.1, hR.2, pay_in ht hG, hc⟩, ht _ (hG _ hc).1, ok _ (by simp [va_wsS]), ⟨hd.1, hd.2.1⟩, fun sig h => ?_, ok _ (by simp [va_wsS]), ok _ (by simp [va_wsS])⟩
  have h2 := hd.2.2
  rw [h] at h2
  exact (Option.some.inj h2).symm
theorem vx_callSW (X : Stand p l e R s m args below meth c T locs cells slots) (hexec : p.tables.exec = Jvm.exec) {own : String} {index : Nat} {y : MethodName} {bytes : ByteArray} {maxL : Nat} {ret : Option FieldType} {hh : List (Nat × Nat × Nat × Nat)}
    (hown : s.vm.findClass own = some m.cls) (hlink : (Cond.methodLink own index y).before args s = true) (hstat : (Cond.static y).before args s = true) (hinit : (Cond.initialized y.cls).before args s = true)
    (hcode : (Cond.codeWith y bytes maxL ret hh).before args s = true) (hy : y.cls ≠ "java/lang/invoke/MethodHandle" ∧ y.cls ≠ "java/lang/invoke/VarHandle")
    {W9 : Nat} {Pre : Pt → Array Value → Prop} {Post : Pt → Array Value → Option Value → Pt → Prop} (hK : Back l R p e below s args y 3 W9 Pre Post)
    {g : JFrame} (hg : g.method = m) (hsize : g.locals.size = c.maxLocals) {argsL rest : List Value} (hlen : ∀ sig, parseMethodDescriptor y.desc = some sig → argsL.length = sig.parameters.length)
    (hstack : g.stack = argsL.reverse ++ rest) (hW : 2 * g.monitorRoom + (rest.map fun v => v.category).sum ≤ W9) (hdg : decode c.code g.pc = .ok (.invokestatic index, 3))
    (hpre : ∀ vm₁, s.WarmedH vm₁ → Pre ⟨T.setVm vm₁, locs, cells, slots⟩ argsL.toArray) :
    ∃ (v : Option Value) (vm₁ : Vm) (B : Pt), s.WarmedH vm₁ ∧ Stand p l e R s m args below meth c B.U B.locs B.cells B.slots ∧ Post ⟨T.setVm vm₁, locs, cells, slots⟩ argsL.toArray v B ∧
      ∀ target, Steps p.tables e below (B.U.setTop { g with pc := g.pc + 3, stack := v.toList ++ rest }) target → Steps p.tables e below (T.setTop g) target := by
  obtain ⟨mk, methM, cM, hnamed, hmethM, -, -, -, -, -, -, hsigM⟩ := Cond.codeWith_spec hcode
  have hstatic : methM.isStatic = true := Cond.static_spec hnamed hmethM hstat
  obtain ⟨kP, hkP, -⟩ := className_of_methodNamed hnamed
  have hinitP : kP.init = .initialized := Cond.initialized_spec (findClass_of_methodNamed hnamed) hkP hinit
  obtain ⟨vm₁, X₁, hstep₁⟩ := X.invokestatic hexec hown hlink hnamed hmethM hstatic hkP hinitP hy (g := g) hg (argsL := argsL) (rest := rest) (hlen _ hsigM) hstack hdg
  obtain ⟨v, B, X', hpost, hsteps⟩ := hK m meth c ⟨T.setVm vm₁, locs, cells, slots⟩ { g with stack := rest } (.invokestatic index) mk argsL.toArray X₁ hg hsize hdg hW (X₁.named hnamed) (hpre vm₁ X₁.warmed)
  exact ⟨v, vm₁, B, X₁.warmed, X', hpost, fun target h => hstep₁ _ fun acts => by rw [doInvoke_state]; exact hsteps.trans h⟩
theorem vx_runSW {y : MethodName} {bytes cc : ByteArray} {maxL nL mc ms n index : Nat} {ret : Option FieldType} {hh : List (Nat × Nat × Nat × Nat)} {ws : List Cond} {rm : Room} {Pc : Array Value → State → Prop} {Qc : Array Value → State → Outcome → State → Prop} {free : Addr → Prop} {Ts : List Cond} {own : String} {As rest : List Value} {g : JFrame}
    (S : CallFix p m c cc nL s args Ts own) (hM : Met l y ws rm Pc Qc mc ms free) (cw : vx_CSW R s args own index y bytes maxL ret hh ws rm mc ms n) (hp : PreS s H Pc As)
    (hg : g.method = m) (hn : As.length = n) (hsize : g.locals.size = nL) (hstack : g.stack = As.reverse ++ rest) (hW : 2 * g.monitorRoom + (rest.map fun v => v.category).sum ≤ 8) (hdg : decode cc g.pc = .ok (.invokestatic index, 3)) (hf : cells + mc ≤ R.cells ∧ slots + ms ≤ R.slots) :
    va_Run p l e R s m args below meth c H locs cells slots mc ms g rest (Qc As.toArray) (free) := by
  obtain ⟨⟨hrc, hrs, hfr, hlo, hws, hcw⟩, hcode, hini, hy, hlen, hl, hstt⟩ := cw
  have hK : Back l R p e below s args y 3 8 (PreOf R mc ms Pc) (PostOf Qc mc ms free) := va_backW (hh := hh) (bytes := bytes) (maxL := maxL) (ret := ret) hM hp.1 hrc hrs hfr hlo hws hcw (fun a' U hW => word_at hW (Or.inl (by first | rfl | simp [Cond.onTables, Cond.keeps, Cond.steady])) hini)
  obtain ⟨hx, hb, hml, ho, -⟩ := S
  intro T hT X
  obtain ⟨v, vm₁, ⟨U', l2, c2, s2⟩, hW₁, X', ⟨g', mk, t, L, e1, e2, hq, h1, hL, h2, h3⟩, st⟩ := vx_callSW X hx (hh := hh) (bytes := bytes) (maxL := maxL) (ret := ret) ho hl hstt hini hcode hy hK hg (hsize.trans hml.symm) (argsL := As) (rest := rest) (fun sig h => hn.trans (hlen sig h)) hstack hW (by rw [hb]; exact hdg)
    (fun vm₁ hW₁ => ⟨hf.1, hf.2, hp.2 (T.setVm vm₁) hT hW₁⟩)
  dsimp only [Pt.U, Pt.locs, Pt.cells, Pt.slots] at X' e1 e2 h1 h2 h3 st
  subst h1; subst h2; subst h3
  exact ⟨v, (T.setVm vm₁).calling g' mk As.toArray, t, U', L, hT, X', hL, e1, e2, hq, st⟩
/-- a thing of a world lies in the heap -/
theorem vx_lt {D : va_G} {cl : List vw_C} {ws : va_W} {H1 : Heap} (h : va_P D cl ws H1) {k : Nat} {q : Nat × va_E} (hk : ws[k]? = some q) : q.1 < H1.size := (h k q hk).lt
end VXS
/-! ===== END ===== -/
/-! ===== BEGIN methods with a table of their own: called by a name, returning or throwing ===== -/
section VXH
/-! vx_backW, vx_callVX, vx_callSX, vx_callVW, vx_runVW, vx_runVX, vx_runSX, vx_ofWH follow the same proofs as their sisters above (Free/Laws.lean, Shelf42/LK1.lean); vx_outP calls Shelf42/NT130.lean (outThrough). -/
section
variable {l : Launch} {R : Room} {p : Program} {e : Env} {below : List Frame} {s : State} {sargs : Array Value} {y : MethodName} {len W9 : Nat}
theorem vx_backW {ws : List Cond} {rm : Room} {Pc : Array Value → State → Prop} {Qc : Array Value → State → Outcome → State → Prop} {XC : String → State → State → Prop} {mc ms : Nat} {free : Addr → Prop} {bytes : ByteArray} {maxL : Nat} {ret : Option FieldType} {hh : List (Nat × Nat × Nat × Nat)}
    (hM : vx_Met l y ws rm Pc Qc XC mc ms free) (hblind : FrameBlind Pc) (hrc : rm.cells = mc) (hrs : rm.slots = ms)
    (hframes : rm.frames + 1 ≤ R.frames) (hlocals : W9 + (maxL + 11) + rm.locals ≤ R.locals)
    (hws : ∀ w ∈ ws, ∀ a' U, s.WarmedH U.vm → w.before a' U = true) (hcode : Cond.codeWith y bytes maxL ret hh ∈ ws) (hinit : ∀ a' U, s.WarmedH U.vm → (Cond.initialized y.cls).before a' U = true) :
    vx_Back l R p e below s sargs y len W9 (PreOf R mc ms Pc) (PostOf Qc mc ms free) (vx_Post XC mc ms free) := by
  intro m meth c A g ig mk a X hg hsize hdg hW hn hp
  have h1 : (headSpec ws rm).pre.before a A.U = true := atoms_intro fun w hw => hws w hw _ _ X.warmed
  have h2 : (Cond.codeWith y bytes maxL ret hh).before a A.U = true := hws _ hcode _ _ X.warmed
  have h3 : (Cond.initialized y.cls).before a A.U = true := hinit _ _ X.warmed
  have h4 : A.cells + (headSpec ws rm).room.cells ≤ R.cells := by rw [show (headSpec ws rm).room.cells = mc from hrc]; exact hp.1
  have h5 : A.slots + (headSpec ws rm).room.slots ≤ R.slots := by rw [show (headSpec ws rm).room.slots = ms from hrs]; exact hp.2.1
  have hPc : Pc a (A.U.calling g mk a) := hblind _ _ _ _ hp.2.2
  obtain ⟨U, Ls, c0, s0⟩ := A
  dsimp only [Pt.U, Pt.locs, Pt.cells, Pt.slots] at h1 h2 h3 h4 h5 X hn hPc ⊢
  obtain ⟨m9, methY, cY, hn9, hmY, hcY, -, hlY, -⟩ := Cond.codeWith_spec h2
  cases Option.some.inj (hn9.symm.trans hn)
  obtain ⟨kY, hkY, -⟩ := className_of_methodNamed hn
  have hinitY : kY.init = .initialized := Cond.initialized_spec (findClass_of_methodNamed hn) hkY h3
  have h : At U g.method c below := by rw [hg]; exact X.here
  have hlocals9 : W9 + (maxL + 11) + (headSpec ws rm).room.locals ≤ R.locals := hlocals
  have happ : (headSpec ws rm).appliesLoose y e.platform (U.calling g mk a) = true :=
    Spec.appliesLoose_calling (g := g) h hdg hn hkY hinitY
      (X.room_calling (g := g) (R' := (headSpec ws rm).room) hsize hmY hcY hframes (by rw [hlY]; omega) h4 h5) h1
  obtain ⟨mid, hmid⟩ := h.above
  have hfr : (U.setTop g).frames = (.java g :: mid) ++ below := by rw [State.frames_setTop' g h.top, hmid]; rfl
  obtain ⟨o, s₂, hsteps, -, hend, hq⟩ := Steps.callFree hM p X.admits X.cas X.clock (acts := []) hfr happ hPc trivial
  have hq' : vx_Q Qc XC mc ms free a (U.calling g mk a) o s₂ := hq
  rw [State.frames_setTop' g h.top] at hend
  obtain ⟨g₀, hg0⟩ := Option.isSome_iff_exists.mp h.top
  obtain ⟨r, hr⟩ := State.topJava?_eq_some.mp hg0
  have hr' : (({ U with heap := s₂.heap, slotsUsed := s₂.slotsUsed } : State).setVm s₂.vm).frames = .java g₀ :: r := hr
  rcases hq' with ⟨hqc, L, hfe, hL⟩ | ⟨q, rfl, E, ce, L, hx, hce, hcv, hcl, hW₂, hsm, hL⟩
  · obtain ⟨⟨v, rfl⟩, hW₂, e2, q2, q3, q4, q5, q6⟩ := id hfe
    have e3 : s₂ = ({ (U.calling g mk a).setFrames s₂.frames with heap := s₂.heap, slotsUsed := s₂.slotsUsed } : State).setVm s₂.vm := by
      have : s₂ = ({ s₂ with vm := (U.calling g mk a).vm } : State).setVm s₂.vm := rfl
      rw [e2] at this
      exact this
    obtain ⟨c₂, i₂, len₂, hc₂, hd₂, hf₂⟩ := hend
    have hW' : U.WarmedH s₂.vm := hW₂
    have hcc : c₂ = c := by
      have h1 : s₂.code? g.method = U.code? g.method := by
        rw [State.code?_eq, State.code?_eq, hW'.alike.method?]
      exact Option.some.inj (hc₂.symm.trans (h1.trans h.code))
    subst hcc
    have hlen : len₂ = len := by rw [hdg] at hd₂; cases hd₂; rfl
    subst hlen
    have hs₂ : s₂ = (({ U with heap := s₂.heap, slotsUsed := s₂.slotsUsed } : State).setVm s₂.vm).setTop { g with pc := g.pc + len₂, stack := v.toList ++ g.stack } := by
      refine e3.trans ?_
      rw [hf₂, State.calling_eq h.top, State.setFrames_setFrames, State.setTop_of_frames _ hr', hr]
      rfl
    have hsame : U.sameButNew ({ U with heap := s₂.heap, slotsUsed := s₂.slotsUsed } : State) L mc ms := by
      refine ⟨?_, q2, q3, q4, q5, q6⟩
      obtain ⟨t, ht, -⟩ := State.frames_cons hr
      show ({ U with heap := s₂.heap, slotsUsed := s₂.slotsUsed } : State) = { U.setFrames U.frames with heap := s₂.heap, slotsUsed := s₂.slotsUsed }
      rw [State.setFrames_self ht]
    subst hg
    refine Or.inl ⟨v, ⟨(({ U with heap := s₂.heap, slotsUsed := s₂.slotsUsed } : State).setVm s₂.vm), Ls ++ L, c0 + mc, s0 + ms⟩,
      ⟨X.admits, X.cas, X.clock, X.frames, X.room, X.hears, X.method, X.code, (X.here.setHeapUsed s₂.heap s₂.slotsUsed).setVm hW'.alike, X.tail, State.WarmedH.trans X.warmed hW', X.limits, X.bytes, X.same.trans (hsame.setVm s.vm)⟩,
      ⟨g, mk, s₂, L, rfl, rfl, hqc, rfl, hL, rfl, rfl⟩, ?_⟩
    show Steps p.tables e below _ ((({ U with heap := s₂.heap, slotsUsed := s₂.slotsUsed } : State).setVm s₂.vm).setTop { g with pc := g.pc + len₂, stack := v.toList ++ g.stack })
    rw [← hs₂]
    exact hsteps
  · obtain ⟨e2, q2, q3, q4, q5, q6⟩ := id hsm
    have e3 : s₂ = ({ (U.calling g mk a).setFrames s₂.frames with heap := s₂.heap, slotsUsed := s₂.slotsUsed } : State).setVm s₂.vm := by
      have : s₂ = ({ s₂ with vm := (U.calling g mk a).vm } : State).setVm s₂.vm := rfl
      rw [e2] at this
      exact this
    have hf₂ : s₂.frames = .throwing q :: .java g :: U.frames.tail := hend
    have hW' : U.WarmedH s₂.vm := hW₂
    have hs₂ : s₂ = ((({ U with heap := s₂.heap, slotsUsed := s₂.slotsUsed } : State).setVm s₂.vm).setTop g).pushFrame (.throwing q) := by
      refine e3.trans ?_
      rw [hf₂, State.calling_eq h.top, State.setFrames_setFrames, State.pushFrame, State.frames_setTop _ hr', State.setTop_of_frames _ hr', State.setFrames_setFrames, hr]
      rfl
    have hsame : U.sameButNew ({ U with heap := s₂.heap, slotsUsed := s₂.slotsUsed } : State) L mc ms := by
      refine ⟨?_, q2, q3, q4, q5, q6⟩
      obtain ⟨t, ht, -⟩ := State.frames_cons hr
      show ({ U with heap := s₂.heap, slotsUsed := s₂.slotsUsed } : State) = { U.setFrames U.frames with heap := s₂.heap, slotsUsed := s₂.slotsUsed }
      rw [State.setFrames_self ht]
    subst hg
    refine Or.inr ⟨q, ⟨(({ U with heap := s₂.heap, slotsUsed := s₂.slotsUsed } : State).setVm s₂.vm), Ls ++ L, c0 + mc, s0 + ms⟩,
      ⟨X.admits, X.cas, X.clock, X.frames, X.room, X.hears, X.method, X.code, (X.here.setHeapUsed s₂.heap s₂.slotsUsed).setVm hW'.alike, X.tail, State.WarmedH.trans X.warmed hW', X.limits, X.bytes, X.same.trans (hsame.setVm s.vm)⟩,
      ⟨g, mk, s₂, L, E, ce, rfl, rfl, hx, hce, hcv, hcl, rfl, hL, rfl, rfl⟩, ?_⟩
    show Steps p.tables e below _ (((({ U with heap := s₂.heap, slotsUsed := s₂.slotsUsed } : State).setVm s₂.vm).setTop g).pushFrame (.throwing q))
    rw [← hs₂]
    exact hsteps
end
variable {p : Program} {l : Launch} {e : Env} {R : Room} {s : State} {m : MethodId} {args : Array Value} {below : List Frame} {meth : Method} {c : Code} {T : State} {H : Heap} {locs : List Loc} {cells slots : Nat}
theorem vx_callVX (X : Stand p l e R s m args below meth c T locs cells slots) (hexec : p.tables.exec = Jvm.exec) {own C : String} {index : Nat} {y : MethodName} {bytes : ByteArray} {maxL : Nat} {ret : Option FieldType} {hh : List (Nat × Nat × Nat × Nat)}
    (hown : s.vm.findClass own = some m.cls) (hlink : (Cond.methodLink own index y).before args s = true) (hinst : (Cond.instanceMethod y).before args s = true) (hsel : (Cond.selects C y y).before args s = true)
    (hcode : (Cond.codeWith y bytes maxL ret hh).before args s = true) (hy : y.cls ≠ "java/lang/invoke/MethodHandle" ∧ y.cls ≠ "java/lang/invoke/VarHandle")
    {W9 : Nat} {Pre : Pt → Array Value → Prop} {Post : Pt → Array Value → Option Value → Pt → Prop} {PostX : Pt → Array Value → Addr → Pt → Prop} (hK : vx_Back l R p e below s args y 3 W9 Pre Post PostX)
    {b : Addr} {cellB : Cell} (hcell : T.heap[b]? = some cellB) (hobj : cellB.vm.isStatics = false) (hcls : s.vm.findClass C = some cellB.cls)
    {g : JFrame} (hg : g.method = m) (hsize : g.locals.size = c.maxLocals) {argsL rest : List Value} (hlen : ∀ sig, parseMethodDescriptor y.desc = some sig → argsL.length = sig.parameters.length)
    (hstack : g.stack = argsL.reverse ++ .ref b :: rest) (hW : 2 * g.monitorRoom + (rest.map fun v => v.category).sum ≤ W9) (hdg : decode c.code g.pc = .ok (.invokevirtual index, 3))
    (hpre : ∀ vm₁, s.WarmedH vm₁ → Pre ⟨T.setVm vm₁, locs, cells, slots⟩ (Value.ref b :: argsL).toArray) :
    (∃ (v : Option Value) (vm₁ : Vm) (B : Pt), s.WarmedH vm₁ ∧ Stand p l e R s m args below meth c B.U B.locs B.cells B.slots ∧ Post ⟨T.setVm vm₁, locs, cells, slots⟩ (Value.ref b :: argsL).toArray v B ∧
      ∀ target, Steps p.tables e below (B.U.setTop { g with pc := g.pc + 3, stack := v.toList ++ rest }) target → Steps p.tables e below (T.setTop g) target) ∨
    (∃ (q : Addr) (vm₁ : Vm) (B : Pt), s.WarmedH vm₁ ∧ Stand p l e R s m args below meth c B.U B.locs B.cells B.slots ∧ PostX ⟨T.setVm vm₁, locs, cells, slots⟩ (Value.ref b :: argsL).toArray q B ∧
      Steps p.tables e below (T.setTop g) ((B.U.setTop { g with stack := rest }).pushFrame (.throwing q))) := by
  obtain ⟨mk, methM, hnamed, hmethM, hstM, habM⟩ := Cond.instanceMethod_spec hinst
  obtain ⟨m8, methM', cM, hn8, hmethM', -, -, -, -, -, -, hsigM⟩ := Cond.codeWith_spec hcode
  cases Option.some.inj (hn8.symm.trans hnamed)
  cases hmethM.symm.trans hmethM'
  obtain ⟨c2, r2, m2, q1, q2, q3, q4, kP, hkP, hkPi⟩ := Cond.selects_spec hsel
  cases hcls.symm.trans q1
  cases (State.methodFound?_of_named hnamed hy).symm.trans q2
  cases hnamed.symm.trans q3
  have hselP : selectMethod e.platform s.vm cellB.cls mk = .method mk := by rw [Launch.admits_selectMethod X.admits]; exact q4
  obtain ⟨vm₁, X₁, hstep₁⟩ := X.invokevirtual hexec hown hlink hnamed hmethM hstM hkP hkPi hy (a := b) (cell := cellB) hcell
    (fun z h => by rw [h] at hobj; cases hobj) hselP hmethM habM hkP hkPi (g := g) hg (argsL := argsL) (rest := rest) (hlen _ hsigM) hstack hdg
  rcases hK m meth c ⟨T.setVm vm₁, locs, cells, slots⟩ { g with stack := rest } (.invokevirtual index) mk (Value.ref b :: argsL).toArray X₁ hg hsize hdg hW (X₁.named hnamed) (hpre vm₁ X₁.warmed) with ⟨v, B, X', hpost, hsteps⟩ | ⟨q, B, X', hpost, hsteps⟩
  · exact Or.inl ⟨v, vm₁, B, X₁.warmed, X', hpost, fun target h => hstep₁ _ fun acts => by rw [doInvoke_state]; exact hsteps.trans h⟩
  · exact Or.inr ⟨q, vm₁, B, X₁.warmed, X', hpost, hstep₁ _ fun acts => by rw [doInvoke_state]; exact hsteps⟩
theorem vx_callSX (X : Stand p l e R s m args below meth c T locs cells slots) (hexec : p.tables.exec = Jvm.exec) {own : String} {index : Nat} {y : MethodName} {bytes : ByteArray} {maxL : Nat} {ret : Option FieldType} {hh : List (Nat × Nat × Nat × Nat)}
    (hown : s.vm.findClass own = some m.cls) (hlink : (Cond.methodLink own index y).before args s = true) (hstat : (Cond.static y).before args s = true) (hinit : (Cond.initialized y.cls).before args s = true)
    (hcode : (Cond.codeWith y bytes maxL ret hh).before args s = true) (hy : y.cls ≠ "java/lang/invoke/MethodHandle" ∧ y.cls ≠ "java/lang/invoke/VarHandle")
    {W9 : Nat} {Pre : Pt → Array Value → Prop} {Post : Pt → Array Value → Option Value → Pt → Prop} {PostX : Pt → Array Value → Addr → Pt → Prop} (hK : vx_Back l R p e below s args y 3 W9 Pre Post PostX)
    {g : JFrame} (hg : g.method = m) (hsize : g.locals.size = c.maxLocals) {argsL rest : List Value} (hlen : ∀ sig, parseMethodDescriptor y.desc = some sig → argsL.length = sig.parameters.length)
    (hstack : g.stack = argsL.reverse ++ rest) (hW : 2 * g.monitorRoom + (rest.map fun v => v.category).sum ≤ W9) (hdg : decode c.code g.pc = .ok (.invokestatic index, 3))
    (hpre : ∀ vm₁, s.WarmedH vm₁ → Pre ⟨T.setVm vm₁, locs, cells, slots⟩ argsL.toArray) :
    (∃ (v : Option Value) (vm₁ : Vm) (B : Pt), s.WarmedH vm₁ ∧ Stand p l e R s m args below meth c B.U B.locs B.cells B.slots ∧ Post ⟨T.setVm vm₁, locs, cells, slots⟩ argsL.toArray v B ∧
      ∀ target, Steps p.tables e below (B.U.setTop { g with pc := g.pc + 3, stack := v.toList ++ rest }) target → Steps p.tables e below (T.setTop g) target) ∨
    (∃ (q : Addr) (vm₁ : Vm) (B : Pt), s.WarmedH vm₁ ∧ Stand p l e R s m args below meth c B.U B.locs B.cells B.slots ∧ PostX ⟨T.setVm vm₁, locs, cells, slots⟩ argsL.toArray q B ∧
      Steps p.tables e below (T.setTop g) ((B.U.setTop { g with stack := rest }).pushFrame (.throwing q))) := by
  obtain ⟨mk, methM, cM, hnamed, hmethM, -, -, -, -, -, -, hsigM⟩ := Cond.codeWith_spec hcode
  have hstatic : methM.isStatic = true := Cond.static_spec hnamed hmethM hstat
  obtain ⟨kP, hkP, -⟩ := className_of_methodNamed hnamed
  have hinitP : kP.init = .initialized := Cond.initialized_spec (findClass_of_methodNamed hnamed) hkP hinit
  obtain ⟨vm₁, X₁, hstep₁⟩ := X.invokestatic hexec hown hlink hnamed hmethM hstatic hkP hinitP hy (g := g) hg (argsL := argsL) (rest := rest) (hlen _ hsigM) hstack hdg
  rcases hK m meth c ⟨T.setVm vm₁, locs, cells, slots⟩ { g with stack := rest } (.invokestatic index) mk argsL.toArray X₁ hg hsize hdg hW (X₁.named hnamed) (hpre vm₁ X₁.warmed) with ⟨v, B, X', hpost, hsteps⟩ | ⟨q, B, X', hpost, hsteps⟩
  · exact Or.inl ⟨v, vm₁, B, X₁.warmed, X', hpost, fun target h => hstep₁ _ fun acts => by rw [doInvoke_state]; exact hsteps.trans h⟩
  · exact Or.inr ⟨q, vm₁, B, X₁.warmed, X', hpost, hstep₁ _ fun acts => by rw [doInvoke_state]; exact hsteps⟩
theorem vx_callVW (X : Stand p l e R s m args below meth c T locs cells slots) (hexec : p.tables.exec = Jvm.exec) {own C : String} {index : Nat} {y : MethodName} {bytes : ByteArray} {maxL : Nat} {ret : Option FieldType} {hh : List (Nat × Nat × Nat × Nat)}
    (hown : s.vm.findClass own = some m.cls) (hlink : (Cond.methodLink own index y).before args s = true) (hinst : (Cond.instanceMethod y).before args s = true) (hsel : (Cond.selects C y y).before args s = true)
    (hcode : (Cond.codeWith y bytes maxL ret hh).before args s = true) (hy : y.cls ≠ "java/lang/invoke/MethodHandle" ∧ y.cls ≠ "java/lang/invoke/VarHandle")
    {W9 : Nat} {Pre : Pt → Array Value → Prop} {Post : Pt → Array Value → Option Value → Pt → Prop} (hK : Back l R p e below s args y 3 W9 Pre Post)
    {b : Addr} {cellB : Cell} (hcell : T.heap[b]? = some cellB) (hobj : cellB.vm.isStatics = false) (hcls : s.vm.findClass C = some cellB.cls)
    {g : JFrame} (hg : g.method = m) (hsize : g.locals.size = c.maxLocals) {argsL rest : List Value} (hlen : ∀ sig, parseMethodDescriptor y.desc = some sig → argsL.length = sig.parameters.length)
    (hstack : g.stack = argsL.reverse ++ .ref b :: rest) (hW : 2 * g.monitorRoom + (rest.map fun v => v.category).sum ≤ W9) (hdg : decode c.code g.pc = .ok (.invokevirtual index, 3))
    (hpre : ∀ vm₁, s.WarmedH vm₁ → Pre ⟨T.setVm vm₁, locs, cells, slots⟩ (Value.ref b :: argsL).toArray) :
    ∃ (v : Option Value) (vm₁ : Vm) (B : Pt), s.WarmedH vm₁ ∧ Stand p l e R s m args below meth c B.U B.locs B.cells B.slots ∧ Post ⟨T.setVm vm₁, locs, cells, slots⟩ (Value.ref b :: argsL).toArray v B ∧
      ∀ target, Steps p.tables e below (B.U.setTop { g with pc := g.pc + 3, stack := v.toList ++ rest }) target → Steps p.tables e below (T.setTop g) target := by
  obtain ⟨mk, methM, hnamed, hmethM, hstM, habM⟩ := Cond.instanceMethod_spec hinst
  obtain ⟨m8, methM', cM, hn8, hmethM', -, -, -, -, -, -, hsigM⟩ := Cond.codeWith_spec hcode
  cases Option.some.inj (hn8.symm.trans hnamed)
  cases hmethM.symm.trans hmethM'
  obtain ⟨c2, r2, m2, q1, q2, q3, q4, kP, hkP, hkPi⟩ := Cond.selects_spec hsel
  cases hcls.symm.trans q1
  cases (State.methodFound?_of_named hnamed hy).symm.trans q2
  cases hnamed.symm.trans q3
  have hselP : selectMethod e.platform s.vm cellB.cls mk = .method mk := by rw [Launch.admits_selectMethod X.admits]; exact q4
  obtain ⟨vm₁, X₁, hstep₁⟩ := X.invokevirtual hexec hown hlink hnamed hmethM hstM hkP hkPi hy (a := b) (cell := cellB) hcell
    (fun z h => by rw [h] at hobj; cases hobj) hselP hmethM habM hkP hkPi (g := g) hg (argsL := argsL) (rest := rest) (hlen _ hsigM) hstack hdg
  obtain ⟨v, B, X', hpost, hsteps⟩ := hK m meth c ⟨T.setVm vm₁, locs, cells, slots⟩ { g with stack := rest } (.invokevirtual index) mk (Value.ref b :: argsL).toArray X₁ hg hsize hdg hW (X₁.named hnamed) (hpre vm₁ X₁.warmed)
  exact ⟨v, vm₁, B, X₁.warmed, X', hpost, fun target h => hstep₁ _ fun acts => by rw [doInvoke_state]; exact hsteps.trans h⟩
abbrev vx_CVW (R : Room) (s : State) (args : Array Value) (own C : String) (index : Nat) (y : MethodName) (bytes : ByteArray) (maxL : Nat) (ret : Option FieldType) (hh : List (Nat × Nat × Nat × Nat)) (ws : List Cond) (rm : Room) (mc ms n : Nat) : Prop :=
  (rm.cells = mc ∧ rm.slots = ms ∧ rm.frames + 1 ≤ R.frames ∧ 8 + (maxL + 11) + rm.locals ≤ R.locals ∧ (∀ w ∈ ws, ∀ (a' : Array Value) (U : State), s.WarmedH U.vm → w.before a' U = true) ∧ Cond.codeWith y bytes maxL ret hh ∈ ws) ∧
  (Cond.codeWith y bytes maxL ret hh).before args s = true ∧ (Cond.initialized y.cls).before args s = true ∧ (y.cls ≠ "java/lang/invoke/MethodHandle" ∧ y.cls ≠ "java/lang/invoke/VarHandle") ∧
  (∀ sig, parseMethodDescriptor y.desc = some sig → n = sig.parameters.length) ∧ (Cond.methodLink own index y).before args s = true ∧ (Cond.instanceMethod y).before args s = true ∧ (Cond.selects C y y).before args s = true
theorem vx_cwVW {own C : String} {index maxL mc ms : Nat} {y : MethodName} {bytes : ByteArray} {ret : Option FieldType} {hh : List (Nat × Nat × Nat × Nat)} {Ts ws ws' : List Cond} {rm : Room} (n : Nat) (ht : ∀ w ∈ Ts, w.before args s = true) (hT : GoodIn Ts (wsV own index C y ws)) (hw : ws = Cond.codeWith y bytes maxL ret hh :: ws') (hrc : rm.cells = mc) (hrs : rm.slots = ms)
    (hd : y.cls = C ∧ y.cls ≠ "java/lang/invoke/MethodHandle" ∧ y.cls ≠ "java/lang/invoke/VarHandle" ∧ (parseMethodDescriptor y.desc).map (fun d => d.parameters.length) = some n) (hR : rm.frames + 1 ≤ R.frames ∧ 8 + (maxL + 11) + rm.locals ≤ R.locals) :
    vx_CVW R s args own C index y bytes maxL ret hh ws rm mc ms n := by
  obtain ⟨hC, hd⟩ := hd
  subst hC
  have ok : ∀ w ∈ wsV own index y.cls y ws, w.before args s = true := fun w h => ht w (hT w h).1
  have hG : GoodIn Ts ws := fun w h => hT w (by unfold wsV; exact List.mem_append_right _ h)
  have hc : Cond.codeWith y bytes maxL ret hh ∈ ws := by rw [hw]; exact List.mem_cons_self
  refine ⟨⟨hrc, hrs, hR.1, hR.2, pay_in ht hG, hc⟩, ht _ (hG _ hc).1, ok _ (by simp [wsV]), ⟨hd.1, hd.2.1⟩, fun sig h => ?_, ok _ (by simp [wsV]), ok _ (by simp [wsV]), ok _ (by simp [wsV])⟩
  have h2 := hd.2.2
  rw [h] at h2
  exact (Option.some.inj h2).symm
theorem vx_runVW {y : MethodName} {bytes cc : ByteArray} {maxL nL mc ms n index : Nat} {ret : Option FieldType} {hh : List (Nat × Nat × Nat × Nat)} {ws : List Cond} {rm : Room} {Pc : Array Value → State → Prop} {Qc : Array Value → State → Outcome → State → Prop} {free : Addr → Prop} {Ts : List Cond} {own C : String} {b : Addr} {As rest : List Value} {g : JFrame}
    (S : CallFix p m c cc nL s args Ts own) (hM : Met l y ws rm Pc Qc mc ms free) (cw : vx_CVW R s args own C index y bytes maxL ret hh ws rm mc ms n) (hp : PreV s H C b Pc As)
    (hg : g.method = m) (hn : As.length = n) (hsize : g.locals.size = nL) (hstack : g.stack = As.reverse ++ .ref b :: rest) (hW : 2 * g.monitorRoom + (rest.map fun v => v.category).sum ≤ 8) (hdg : decode cc g.pc = .ok (.invokevirtual index, 3)) (hf : cells + mc ≤ R.cells ∧ slots + ms ≤ R.slots) :
    va_Run p l e R s m args below meth c H locs cells slots mc ms g rest (Qc (Value.ref b :: As).toArray) free := by
  obtain ⟨⟨hrc, hrs, hfr, hlo, hws, hcw⟩, hcode, hini, hy, hlen, hl, hin, hse⟩ := cw
  have hK : Back l R p e below s args y 3 8 (PreOf R mc ms Pc) (PostOf Qc mc ms free) := va_backW (hh := hh) (bytes := bytes) (maxL := maxL) (ret := ret) hM hp.1 hrc hrs hfr hlo hws hcw (fun a' U hW => word_at hW (Or.inl (by first | rfl | simp [Cond.onTables, Cond.keeps, Cond.steady])) hini)
  obtain ⟨hx, hb, hml, ho, -⟩ := S
  obtain ⟨-, ⟨cellB, hcB, hoB, hclB⟩, hPc⟩ := hp
  intro T hT X
  obtain ⟨v, vm₁, ⟨U', l2, c2, s2⟩, hW₁, X', ⟨g', mk, t, L, e1, e2, hq, h1, hL, h2, h3⟩, st⟩ := vx_callVW X hx (C := C) (hh := hh) (bytes := bytes) (maxL := maxL) (ret := ret) ho hl hin hse hcode hy hK (by rw [hT]; exact hcB) hoB hclB hg (hsize.trans hml.symm) (argsL := As) (rest := rest) (fun sig h => hn.trans (hlen sig h)) hstack hW (by rw [hb]; exact hdg)
    (fun vm₁ hW₁ => ⟨hf.1, hf.2, hPc (T.setVm vm₁) hT hW₁⟩)
  dsimp only [Pt.U, Pt.locs, Pt.cells, Pt.slots] at X' e1 e2 h1 h2 h3 st
  subst h1; subst h2; subst h3
  exact ⟨v, (T.setVm vm₁).calling g' mk (Value.ref b :: As).toArray, t, U', L, hT, X', hL, e1, e2, hq, st⟩
section
variable {y : MethodName} {bytes cc : ByteArray} {maxL nL mc ms n index : Nat} {ret : Option FieldType} {ws : List Cond} {rm : Room} {Pc : Array Value → State → Prop} {Qc : Array Value → State → Outcome → State → Prop} {XC : String → State → State → Prop} {free : Addr → Prop} {Ts : List Cond} {own C : String} {b : Addr} {As rest : List Value} {g : JFrame}
theorem vx_runVX {hh : List (Nat × Nat × Nat × Nat)} (S : CallFix p m c cc nL s args Ts own) (hM : vx_Met l y ws rm Pc Qc XC mc ms free) (cw : vx_CVW R s args own C index y bytes maxL ret hh ws rm mc ms n) (hp : PreV s H C b Pc As)
    (hg : g.method = m) (hn : As.length = n) (hsize : g.locals.size = nL) (hstack : g.stack = As.reverse ++ .ref b :: rest) (hW : 2 * g.monitorRoom + (rest.map fun v => v.category).sum ≤ 8) (hdg : decode cc g.pc = .ok (.invokevirtual index, 3)) (hf : cells + mc ≤ R.cells ∧ slots + ms ≤ R.slots) :
    vx_Run p l e R s m args below meth c H locs cells slots mc ms g rest (Qc (Value.ref b :: As).toArray) XC free := by
  obtain ⟨⟨hrc, hrs, hfr, hlo, hws, hcw⟩, hcode, hini, hy, hlen, hl, hin, hse⟩ := cw
  have hK : vx_Back l R p e below s args y 3 8 (PreOf R mc ms Pc) (PostOf Qc mc ms free) (vx_Post XC mc ms free) := vx_backW (hh := hh) (bytes := bytes) (maxL := maxL) (ret := ret) hM hp.1 hrc hrs hfr hlo hws hcw (fun a' U hW => word_at hW (Or.inl (by first | rfl | simp [Cond.onTables, Cond.keeps, Cond.steady])) hini)
  obtain ⟨hx, hb, hml, ho, -⟩ := S
  obtain ⟨-, ⟨cellB, hcB, hoB, hclB⟩, hPc⟩ := hp
  intro T hT X
  rcases vx_callVX X hx (C := C) (hh := hh) (bytes := bytes) (maxL := maxL) (ret := ret) ho hl hin hse hcode hy hK (by rw [hT]; exact hcB) hoB hclB hg (hsize.trans hml.symm) (argsL := As) (rest := rest) (fun sig h => hn.trans (hlen sig h)) hstack hW (by rw [hb]; exact hdg)
    (fun vm₁ hW₁ => ⟨hf.1, hf.2, hPc (T.setVm vm₁) hT hW₁⟩) with ⟨v, vm₁, ⟨U', l2, c2, s2⟩, hW₁, X', ⟨g', mk, t, L, e1, e2, hq, h1, hL, h2, h3⟩, st⟩ | ⟨q, vm₁, ⟨U', l2, c2, s2⟩, hW₁, X', ⟨g', mk, t, L, E, ce, e1, e2, hq, hce, hcv, hcl, h1, hL, h2, h3⟩, st⟩
  · dsimp only [Pt.U, Pt.locs, Pt.cells, Pt.slots] at X' e1 e2 h1 h2 h3 st
    subst h1; subst h2; subst h3
    exact Or.inl ⟨v, (T.setVm vm₁).calling g' mk (Value.ref b :: As).toArray, t, U', L, hT, X', hL, e1, e2, hq, st⟩
  · dsimp only [Pt.U, Pt.locs, Pt.cells, Pt.slots] at X' e1 e2 h1 h2 h3 st hcl
    subst h1; subst h2; subst h3
    exact Or.inr ⟨q, (T.setVm vm₁).calling g' mk (Value.ref b :: As).toArray, t, U', L, E, ce, hT, X', hL, e1, e2, hq, hce, hcv, vx_cls hW₁ hcl, st⟩
theorem vx_runSX {hh : List (Nat × Nat × Nat × Nat)} (S : CallFix p m c cc nL s args Ts own) (hM : vx_Met l y ws rm Pc Qc XC mc ms free) (cw : vx_CSW R s args own index y bytes maxL ret hh ws rm mc ms n) (hp : PreS s H Pc As)
    (hg : g.method = m) (hn : As.length = n) (hsize : g.locals.size = nL) (hstack : g.stack = As.reverse ++ rest) (hW : 2 * g.monitorRoom + (rest.map fun v => v.category).sum ≤ 8) (hdg : decode cc g.pc = .ok (.invokestatic index, 3)) (hf : cells + mc ≤ R.cells ∧ slots + ms ≤ R.slots) :
    vx_Run p l e R s m args below meth c H locs cells slots mc ms g rest (Qc As.toArray) XC free := by
  obtain ⟨⟨hrc, hrs, hfr, hlo, hws, hcw⟩, hcode, hini, hy, hlen, hl, hstt⟩ := cw
  have hK : vx_Back l R p e below s args y 3 8 (PreOf R mc ms Pc) (PostOf Qc mc ms free) (vx_Post XC mc ms free) := vx_backW (hh := hh) (bytes := bytes) (maxL := maxL) (ret := ret) hM hp.1 hrc hrs hfr hlo hws hcw (fun a' U hW => word_at hW (Or.inl (by first | rfl | simp [Cond.onTables, Cond.keeps, Cond.steady])) hini)
  obtain ⟨hx, hb, hml, ho, -⟩ := S
  intro T hT X
  rcases vx_callSX X hx (hh := hh) (bytes := bytes) (maxL := maxL) (ret := ret) ho hl hstt hini hcode hy hK hg (hsize.trans hml.symm) (argsL := As) (rest := rest) (fun sig h => hn.trans (hlen sig h)) hstack hW (by rw [hb]; exact hdg)
    (fun vm₁ hW₁ => ⟨hf.1, hf.2, hp.2 (T.setVm vm₁) hT hW₁⟩) with ⟨v, vm₁, ⟨U', l2, c2, s2⟩, hW₁, X', ⟨g', mk, t, L, e1, e2, hq, h1, hL, h2, h3⟩, st⟩ | ⟨q, vm₁, ⟨U', l2, c2, s2⟩, hW₁, X', ⟨g', mk, t, L, E, ce, e1, e2, hq, hce, hcv, hcl, h1, hL, h2, h3⟩, st⟩
  · dsimp only [Pt.U, Pt.locs, Pt.cells, Pt.slots] at X' e1 e2 h1 h2 h3 st
    subst h1; subst h2; subst h3
    exact Or.inl ⟨v, (T.setVm vm₁).calling g' mk As.toArray, t, U', L, hT, X', hL, e1, e2, hq, st⟩
  · dsimp only [Pt.U, Pt.locs, Pt.cells, Pt.slots] at X' e1 e2 h1 h2 h3 st hcl
    subst h1; subst h2; subst h3
    exact Or.inr ⟨q, (T.setVm vm₁).calling g' mk As.toArray, t, U', L, E, ce, hT, X', hL, e1, e2, hq, hce, hcv, vx_cls hW₁ hcl, st⟩
end
end VXH
theorem vx_ofWH {l : Launch} {y : MethodName} {ws ws' : List Cond} {rm : Room} {Pc : Array Value → State → Prop} {Qc : Array Value → State → Outcome → State → Prop} {XC : String → State → State → Prop} {mc ms : Nat} {free : Addr → Prop} {cc : ByteArray} {maxL : Nat} {ret : Option FieldType} {hh : List (Nat × Nat × Nat × Nat)}
    (hy : plainName y.cls = true) (hw : ws = Cond.codeWith y cc maxL ret hh :: ws')
    (body : ∀ p e s m args below meth c s₁, BodyLoose p l y (headSpec ws rm) cc maxL ret e s m args below meth c s₁ → c.maxLocals = maxL → Pc args s →
      W p l e (headSpec ws rm).room s m args below meth c s.heap [] 0 0 (vx_MQ below Qc XC args s mc ms free) (entryFrame m args maxL)) : vx_Met l y ws rm Pc Qc XC mc ms free := by
  refine MetFree.of_bodyS (code := cc) (maxLocals := maxL) (ret := ret) hy ?_ ?_
  · intro args s m h hn
    obtain ⟨m9, meth, c, hn9, h1, h2, h3, h4, -, h5, h6, -⟩ := Cond.codeWith_spec (atoms_spec (ws := ws) h _ (by rw [hw]; exact List.mem_cons_self))
    cases hn.symm.trans hn9
    exact ⟨meth, c, h1, h2, h3, h4, h5, h6⟩
  · intro p e s m args below meth c s₁ B hml hP _
    have hh0 : s₁.heap = s.heap := by rw [B.state]; rfl
    obtain ⟨t, a1, o, b1, b2, b3⟩ := body p e s m args below meth c s₁ B hml hP s₁ hh0 (Stand.of_body B)
    exact ⟨t, o, a1, b1, b2, b3⟩
/-! ===== END ===== -/
end
section
-- begun from NAMES.whole (names, fields)
def RX0 : String := "FixedSignals$Block"
def TX0 : u_T := fun k => match k with
  | 0 => ("FixedSignals$Block", "re", "[I", true)
  | 1 => ("FixedSignals$Block", "im", "[I", true)
  | _ => ("FixedSignals$Block", "exponent", "I", false)
def tyX0 : Nat → FieldType := fun k => match k with
  | 0 => .array .int
  | 1 => .array .int
  | _ => .int
abbrev wsX00 : List Cond := u_ws RX0 TX0 3
theorem nmX0 : ∀ a, a < 3 → ∀ b, b < 3 → a ≠ b → (TX0 a).2.1 ≠ (TX0 b).2.1 := by decide +kernel
theorem tyX0_ok : ∀ k, k < 3 → parseFieldDescriptor (TX0 k).2.2.1 = some (tyX0 k) := by decide +kernel
abbrev cX0_init : ByteArray := prog_2_method_1_code
def yX0_init : MethodName := ⟨RX0, "<init>", "()V"⟩
abbrev cX0_intoWaves : ByteArray := prog_2_method_2_code
def yX0_intoWaves : MethodName := ⟨RX0, "intoWaves", "(IZ)V"⟩
abbrev cX0_reorder : ByteArray := prog_2_method_3_code
def yX0_reorder : MethodName := ⟨RX0, "reorder", "(I)V"⟩
abbrev cX0_bitsTurnedRound : ByteArray := prog_2_method_4_code
def yX0_bitsTurnedRound : MethodName := ⟨RX0, "bitsTurnedRound", "(II)I"⟩
abbrev cX0_swap : ByteArray := prog_2_method_5_code
def yX0_swap : MethodName := ⟨RX0, "swap", "([III)V"⟩
abbrev cX0_makeRoom : ByteArray := prog_2_method_6_code
def yX0_makeRoom : MethodName := ⟨RX0, "makeRoom", "(I)V"⟩
abbrev cX0_isTooBig : ByteArray := prog_2_method_7_code
def yX0_isTooBig : MethodName := ⟨RX0, "isTooBig", "(I)Z"⟩
abbrev cX0_cross : ByteArray := prog_2_method_8_code
def yX0_cross : MethodName := ⟨RX0, "cross", "(IIZ)V"⟩
abbrev cX0_cosineOf : ByteArray := prog_2_method_9_code
def yX0_cosineOf : MethodName := ⟨RX0, "cosineOf", "(I)J"⟩
abbrev cX0_sineOf : ByteArray := prog_2_method_10_code
def yX0_sineOf : MethodName := ⟨RX0, "sineOf", "(I)J"⟩
def RX1 : String := "FixedSignals$Stage"
def TX1 : u_T := fun k => match k with
  | 0 => ("FixedSignals$Stage", "coefficients", "[I", true)
  | 1 => ("FixedSignals$Stage", "x1", "I", false)
  | 2 => ("FixedSignals$Stage", "x2", "I", false)
  | 3 => ("FixedSignals$Stage", "y1", "I", false)
  | _ => ("FixedSignals$Stage", "y2", "I", false)
def tyX1 : Nat → FieldType := fun k => match k with
  | 0 => .array .int
  | 1 => .int
  | 2 => .int
  | 3 => .int
  | _ => .int
abbrev wsX10 : List Cond := u_ws RX1 TX1 5
theorem nmX1 : ∀ a, a < 5 → ∀ b, b < 5 → a ≠ b → (TX1 a).2.1 ≠ (TX1 b).2.1 := by decide +kernel
theorem tyX1_ok : ∀ k, k < 5 → parseFieldDescriptor (TX1 k).2.2.1 = some (tyX1 k) := by decide +kernel
abbrev cX1_init : ByteArray := prog_3_method_1_code
def yX1_init : MethodName := ⟨RX1, "<init>", "()V"⟩
abbrev cX1_answerTo : ByteArray := prog_3_method_2_code
def yX1_answerTo : MethodName := ⟨RX1, "answerTo", "(I)I"⟩
abbrev cX1_forget : ByteArray := prog_3_method_3_code
def yX1_forget : MethodName := ⟨RX1, "forget", "()V"⟩
def RX2 : String := "FixedSignals$TapFilter"
def TX2 : u_T := fun k => match k with
  | 0 => ("FixedSignals$TapFilter", "taps", "[I", true)
  | _ => ("FixedSignals$TapFilter", "inputs", "[I", true)
def tyX2 : Nat → FieldType := fun k => match k with
  | 0 => .array .int
  | _ => .array .int
abbrev wsX20 : List Cond := u_ws RX2 TX2 2
theorem nmX2 : ∀ a, a < 2 → ∀ b, b < 2 → a ≠ b → (TX2 a).2.1 ≠ (TX2 b).2.1 := by decide +kernel
theorem tyX2_ok : ∀ k, k < 2 → parseFieldDescriptor (TX2 k).2.2.1 = some (tyX2 k) := by decide +kernel
abbrev cX2_init : ByteArray := prog_4_method_1_code
def yX2_init : MethodName := ⟨RX2, "<init>", "()V"⟩
abbrev cX2_answerTo : ByteArray := prog_4_method_2_code
def yX2_answerTo : MethodName := ⟨RX2, "answerTo", "(I)I"⟩
abbrev cX2_takeIn : ByteArray := prog_4_method_3_code
def yX2_takeIn : MethodName := ⟨RX2, "takeIn", "(I)V"⟩
abbrev cX2_forget : ByteArray := prog_4_method_4_code
def yX2_forget : MethodName := ⟨RX2, "forget", "()V"⟩
def RX3 : String := "FixedSignals$Turner"
def TX3 : u_T := fun k => match k with
  | 0 => ("FixedSignals$Turner", "x", "J", false)
  | 1 => ("FixedSignals$Turner", "y", "J", false)
  | _ => ("FixedSignals$Turner", "z", "J", false)
def tyX3 : Nat → FieldType := fun k => match k with
  | 0 => .long
  | 1 => .long
  | _ => .long
abbrev wsX30 : List Cond := u_ws RX3 TX3 3
theorem nmX3 : ∀ a, a < 3 → ∀ b, b < 3 → a ≠ b → (TX3 a).2.1 ≠ (TX3 b).2.1 := by decide +kernel
theorem tyX3_ok : ∀ k, k < 3 → parseFieldDescriptor (TX3 k).2.2.1 = some (tyX3 k) := by decide +kernel
abbrev cX3_init : ByteArray := prog_5_method_1_code
def yX3_init : MethodName := ⟨RX3, "<init>", "()V"⟩
abbrev cX3_turnByAngle : ByteArray := prog_5_method_2_code
def yX3_turnByAngle : MethodName := ⟨RX3, "turnByAngle", "(J)V"⟩
abbrev cX3_turnToAxis : ByteArray := prog_5_method_3_code
def yX3_turnToAxis : MethodName := ⟨RX3, "turnToAxis", "(JJ)V"⟩
abbrev cX3_turn : ByteArray := prog_5_method_4_code
def yX3_turn : MethodName := ⟨RX3, "turn", "(IZ)V"⟩
def RX4 : String := "FixedSignals"
def TX4 : u_T := fun k => match k with
  | 0 => ("FixedSignals", "tapFilter", "LFixedSignals$TapFilter;", true)
  | 1 => ("FixedSignals", "stages", "[LFixedSignals$Stage;", true)
  | 2 => ("FixedSignals", "block", "LFixedSignals$Block;", true)
  | _ => ("FixedSignals", "turner", "LFixedSignals$Turner;", true)
def tyX4 : Nat → FieldType := fun k => match k with
  | 0 => .object "FixedSignals$TapFilter"
  | 1 => .array (.object "FixedSignals$Stage")
  | 2 => .object "FixedSignals$Block"
  | _ => .object "FixedSignals$Turner"
abbrev wsX40 : List Cond := u_ws RX4 TX4 4
theorem nmX4 : ∀ a, a < 4 → ∀ b, b < 4 → a ≠ b → (TX4 a).2.1 ≠ (TX4 b).2.1 := by decide +kernel
theorem tyX4_ok : ∀ k, k < 4 → parseFieldDescriptor (TX4 k).2.2.1 = some (tyX4 k) := by decide +kernel
abbrev cX4_init : ByteArray := prog_1_method_1_code
def yX4_init : MethodName := ⟨RX4, "<init>", "()V"⟩
abbrev cX4_work : ByteArray := prog_1_method_2_code
def yX4_work : MethodName := ⟨RX4, "work", "(III)I"⟩
abbrev cX4_small : ByteArray := prog_1_method_3_code
def yX4_small : MethodName := ⟨RX4, "small", "(III)I"⟩
abbrev cX4_narrow : ByteArray := prog_1_method_4_code
def yX4_narrow : MethodName := ⟨RX4, "narrow", "(I)I"⟩
abbrev cX4_tap : ByteArray := prog_1_method_5_code
def yX4_tap : MethodName := ⟨RX4, "tap", "(II)V"⟩
abbrev cX4_filter : ByteArray := prog_1_method_6_code
def yX4_filter : MethodName := ⟨RX4, "filter", "(I)I"⟩
abbrev cX4_stage : ByteArray := prog_1_method_7_code
def yX4_stage : MethodName := ⟨RX4, "stage", "(III)V"⟩
abbrev cX4_chain : ByteArray := prog_1_method_8_code
def yX4_chain : MethodName := ⟨RX4, "chain", "(I)I"⟩
abbrev cX4_calm : ByteArray := prog_1_method_9_code
def yX4_calm : MethodName := ⟨RX4, "calm", "()V"⟩
abbrev cX4_put : ByteArray := prog_1_method_10_code
def yX4_put : MethodName := ⟨RX4, "put", "(III)V"⟩
abbrev cX4_transform : ByteArray := prog_1_method_11_code
def yX4_transform : MethodName := ⟨RX4, "transform", "(IZ)I"⟩
abbrev cX4_get : ByteArray := prog_1_method_12_code
def yX4_get : MethodName := ⟨RX4, "get", "(IZ)I"⟩
abbrev cX4_wave : ByteArray := prog_1_method_13_code
def yX4_wave : MethodName := ⟨RX4, "wave", "(IZ)I"⟩
abbrev cX4_angle : ByteArray := prog_1_method_14_code
def yX4_angle : MethodName := ⟨RX4, "angle", "(II)I"⟩
abbrev cX4_length : ByteArray := prog_1_method_15_code
def yX4_length : MethodName := ⟨RX4, "length", "(II)I"⟩
abbrev cX4_isWay : ByteArray := prog_1_method_16_code
def yX4_isWay : MethodName := ⟨RX4, "isWay", "(III)Z"⟩
abbrev cX4_isShort : ByteArray := prog_1_method_17_code
def yX4_isShort : MethodName := ⟨RX4, "isShort", "(I)Z"⟩
abbrev cX4_isWithin : ByteArray := prog_1_method_18_code
def yX4_isWithin : MethodName := ⟨RX4, "isWithin", "(II)Z"⟩
abbrev cX4_isPoint : ByteArray := prog_1_method_19_code
def yX4_isPoint : MethodName := ⟨RX4, "isPoint", "(II)Z"⟩
abbrev cX4_isCoordinate : ByteArray := prog_1_method_20_code
def yX4_isCoordinate : MethodName := ⟨RX4, "isCoordinate", "(I)Z"⟩
abbrev cX4_reckoned : ByteArray := prog_1_method_21_code
def yX4_reckoned : MethodName := ⟨RX4, "reckoned", "(IJJI)J"⟩
abbrev cX4_moved : ByteArray := prog_1_method_22_code
def yX4_moved : MethodName := ⟨RX4, "moved", "(JI)J"⟩
abbrev cX4_sizeOf : ByteArray := prog_1_method_23_code
def yX4_sizeOf : MethodName := ⟨RX4, "sizeOf", "(J)J"⟩
abbrev cX4_rounded : ByteArray := prog_1_method_24_code
def yX4_rounded : MethodName := ⟨RX4, "rounded", "(JI)J"⟩
abbrev cX4_satLong : ByteArray := prog_1_method_25_code
def yX4_satLong : MethodName := ⟨RX4, "satLong", "(J)I"⟩
abbrev cX4_satShort : ByteArray := prog_1_method_26_code
def yX4_satShort : MethodName := ⟨RX4, "satShort", "(J)I"⟩
def RX5 : String := "FixedSignalsModel"
def TX5 : u_T := fun k => match k with
  | 0 => ("FixedSignalsModel", "refusal", "I", false)
  | 1 => ("FixedSignalsModel", "tap", "[I", true)
  | 2 => ("FixedSignalsModel", "past", "[I", true)
  | 3 => ("FixedSignalsModel", "factor", "[I", true)
  | 4 => ("FixedSignalsModel", "before", "[I", true)
  | 5 => ("FixedSignalsModel", "block", "[J", true)
  | 6 => ("FixedSignalsModel", "turned", "[J", true)
  | 7 => ("FixedSignalsModel", "exponent", "I", false)
  | 8 => ("FixedSignalsModel", "endX", "J", false)
  | _ => ("FixedSignalsModel", "endZ", "J", false)
def tyX5 : Nat → FieldType := fun k => match k with
  | 0 => .int
  | 1 => .array .int
  | 2 => .array .int
  | 3 => .array .int
  | 4 => .array .int
  | 5 => .array .long
  | 6 => .array .long
  | 7 => .int
  | 8 => .long
  | _ => .long
abbrev wsX50 : List Cond := u_ws RX5 TX5 10
theorem nmX5 : ∀ a, a < 10 → ∀ b, b < 10 → a ≠ b → (TX5 a).2.1 ≠ (TX5 b).2.1 := by decide +kernel
theorem tyX5_ok : ∀ k, k < 10 → parseFieldDescriptor (TX5 k).2.2.1 = some (tyX5 k) := by decide +kernel
abbrev cX5_init : ByteArray := prog_7_method_1_code
def yX5_init : MethodName := ⟨RX5, "<init>", "()V"⟩
abbrev cX5_thrown : ByteArray := prog_7_method_2_code
def yX5_thrown : MethodName := ⟨RX5, "thrown", "()I"⟩
abbrev cX5_refused : ByteArray := prog_7_method_3_code
def yX5_refused : MethodName := ⟨RX5, "refused", "(I)Z"⟩
abbrev cX5_isIn : ByteArray := prog_7_method_4_code
def yX5_isIn : MethodName := ⟨RX5, "isIn", "(III)Z"⟩
abbrev cX5_isShort : ByteArray := prog_7_method_5_code
def yX5_isShort : MethodName := ⟨RX5, "isShort", "(I)Z"⟩
abbrev cX5_rounded : ByteArray := prog_7_method_6_code
def yX5_rounded : MethodName := ⟨RX5, "rounded", "(JI)J"⟩
abbrev cX5_within : ByteArray := prog_7_method_7_code
def yX5_within : MethodName := ⟨RX5, "within", "(JJ)I"⟩
abbrev cX5_reckoned : ByteArray := prog_7_method_8_code
def yX5_reckoned : MethodName := ⟨RX5, "reckoned", "(IJIIJ)I"⟩
abbrev cX5_work : ByteArray := prog_7_method_9_code
def yX5_work : MethodName := ⟨RX5, "work", "(III)I"⟩
abbrev cX5_small : ByteArray := prog_7_method_10_code
def yX5_small : MethodName := ⟨RX5, "small", "(III)I"⟩
abbrev cX5_narrow : ByteArray := prog_7_method_11_code
def yX5_narrow : MethodName := ⟨RX5, "narrow", "(I)I"⟩
abbrev cX5_tap : ByteArray := prog_7_method_12_code
def yX5_tap : MethodName := ⟨RX5, "tap", "(II)V"⟩
abbrev cX5_filter : ByteArray := prog_7_method_13_code
def yX5_filter : MethodName := ⟨RX5, "filter", "(I)I"⟩
abbrev cX5_stage : ByteArray := prog_7_method_14_code
def yX5_stage : MethodName := ⟨RX5, "stage", "(III)V"⟩
abbrev cX5_chain : ByteArray := prog_7_method_15_code
def yX5_chain : MethodName := ⟨RX5, "chain", "(I)I"⟩
abbrev cX5_calm : ByteArray := prog_7_method_16_code
def yX5_calm : MethodName := ⟨RX5, "calm", "()V"⟩
abbrev cX5_eighth : ByteArray := prog_7_method_17_code
def yX5_eighth : MethodName := ⟨RX5, "eighth", "(I)J"⟩
abbrev cX5_put : ByteArray := prog_7_method_18_code
def yX5_put : MethodName := ⟨RX5, "put", "(III)V"⟩
abbrev cX5_mirrored : ByteArray := prog_7_method_19_code
def yX5_mirrored : MethodName := ⟨RX5, "mirrored", "(II)I"⟩
abbrev cX5_isHigh : ByteArray := prog_7_method_20_code
def yX5_isHigh : MethodName := ⟨RX5, "isHigh", "(I)Z"⟩
abbrev cX5_lower : ByteArray := prog_7_method_21_code
def yX5_lower : MethodName := ⟨RX5, "lower", "(I)V"⟩
abbrev cX5_pair : ByteArray := prog_7_method_22_code
def yX5_pair : MethodName := ⟨RX5, "pair", "(IIIZ)V"⟩
abbrev cX5_transform : ByteArray := prog_7_method_23_code
def yX5_transform : MethodName := ⟨RX5, "transform", "(IZ)I"⟩
abbrev cX5_get : ByteArray := prog_7_method_24_code
def yX5_get : MethodName := ⟨RX5, "get", "(IZ)I"⟩
abbrev cX5_arc : ByteArray := prog_7_method_25_code
def yX5_arc : MethodName := ⟨RX5, "arc", "(I)J"⟩
abbrev cX5_smaller : ByteArray := prog_7_method_26_code
def yX5_smaller : MethodName := ⟨RX5, "smaller", "(I)J"⟩
abbrev cX5_wave : ByteArray := prog_7_method_27_code
def yX5_wave : MethodName := ⟨RX5, "wave", "(IZ)I"⟩
abbrev cX5_isNear : ByteArray := prog_7_method_28_code
def yX5_isNear : MethodName := ⟨RX5, "isNear", "(I)Z"⟩
abbrev cX5_turn : ByteArray := prog_7_method_29_code
def yX5_turn : MethodName := ⟨RX5, "turn", "(II)V"⟩
abbrev cX5_angle : ByteArray := prog_7_method_30_code
def yX5_angle : MethodName := ⟨RX5, "angle", "(II)I"⟩
abbrev cX5_length : ByteArray := prog_7_method_31_code
def yX5_length : MethodName := ⟨RX5, "length", "(II)I"⟩
def RL : String := "FixedSignalsLaw"
abbrev cL_work : ByteArray := method_3_code
def yL_work : MethodName := ⟨RL, "work", "(LFixedSignals;III[J)I"⟩
abbrev cL_small : ByteArray := method_4_code
def yL_small : MethodName := ⟨RL, "small", "(LFixedSignals;III[J)I"⟩
abbrev cL_tap : ByteArray := method_5_code
def yL_tap : MethodName := ⟨RL, "tap", "(LFixedSignals;II)I"⟩
abbrev cL_filter : ByteArray := method_6_code
def yL_filter : MethodName := ⟨RL, "filter", "(LFixedSignals;I[J)I"⟩
abbrev cL_stage : ByteArray := method_7_code
def yL_stage : MethodName := ⟨RL, "stage", "(LFixedSignals;III)I"⟩
abbrev cL_chain : ByteArray := method_8_code
def yL_chain : MethodName := ⟨RL, "chain", "(LFixedSignals;I[J)I"⟩
abbrev cL_put : ByteArray := method_9_code
def yL_put : MethodName := ⟨RL, "put", "(LFixedSignals;III)I"⟩
abbrev cL_transform : ByteArray := method_10_code
def yL_transform : MethodName := ⟨RL, "transform", "(LFixedSignals;IZ[J)I"⟩
abbrev cL_get : ByteArray := method_11_code
def yL_get : MethodName := ⟨RL, "get", "(LFixedSignals;IZ[J)I"⟩
abbrev cL_angle : ByteArray := method_12_code
def yL_angle : MethodName := ⟨RL, "angle", "(LFixedSignals;II[J)I"⟩
abbrev cL_length : ByteArray := method_13_code
def yL_length : MethodName := ⟨RL, "length", "(LFixedSignals;II[J)I"⟩
abbrev cL_law : ByteArray := code
def yL_law : MethodName := ⟨RL, "law", "([I)Z"⟩
abbrev vwCl : List vw_C := [(RX0, TX0, 3), (RX1, TX1, 5), (RX2, TX2, 2), (RX3, TX3, 3), (RX4, TX4, 4), (RX5, TX5, 10)]
end
section
theorem dX0_init_0 : decode cX0_init 0 = .ok (.aload_n 0, 1) := by decide +kernel
theorem dX0_init_1 : decode cX0_init 1 = .ok (.invokespecial 3, 3) := by decide +kernel
theorem dX0_init_4 : decode cX0_init 4 = .ok (.aload_n 0, 1) := by decide +kernel
theorem dX0_init_5 : decode cX0_init 5 = .ok (.bipush 32, 2) := by decide +kernel
theorem dX0_init_7 : decode cX0_init 7 = .ok (.newarray .int, 2) := by decide +kernel
theorem dX0_init_9 : decode cX0_init 9 = .ok (.putfield 9, 3) := by decide +kernel
theorem dX0_init_12 : decode cX0_init 12 = .ok (.aload_n 0, 1) := by decide +kernel
theorem dX0_init_13 : decode cX0_init 13 = .ok (.bipush 32, 2) := by decide +kernel
theorem dX0_init_15 : decode cX0_init 15 = .ok (.newarray .int, 2) := by decide +kernel
theorem dX0_init_17 : decode cX0_init 17 = .ok (.putfield 13, 3) := by decide +kernel
theorem dX0_init_20 : decode cX0_init 20 = .ok (.return_, 1) := by decide +kernel
theorem dX0_intoWaves_0 : decode cX0_intoWaves 0 = .ok (.iconst 1, 1) := by decide +kernel
theorem dX0_intoWaves_1 : decode cX0_intoWaves 1 = .ok (.iload_n 1, 1) := by decide +kernel
theorem dX0_intoWaves_2 : decode cX0_intoWaves 2 = .ok (.ishl, 1) := by decide +kernel
theorem dX0_intoWaves_3 : decode cX0_intoWaves 3 = .ok (.istore_n 3, 1) := by decide +kernel
theorem dX0_intoWaves_4 : decode cX0_intoWaves 4 = .ok (.aload_n 0, 1) := by decide +kernel
theorem dX0_intoWaves_5 : decode cX0_intoWaves 5 = .ok (.iload_n 1, 1) := by decide +kernel
theorem dX0_intoWaves_6 : decode cX0_intoWaves 6 = .ok (.invokevirtual 16, 3) := by decide +kernel
theorem dX0_intoWaves_9 : decode cX0_intoWaves 9 = .ok (.iconst 1, 1) := by decide +kernel
theorem dX0_intoWaves_10 : decode cX0_intoWaves 10 = .ok (.istore 4, 2) := by decide +kernel
theorem dX0_intoWaves_12 : decode cX0_intoWaves 12 = .ok (.iload 4, 2) := by decide +kernel
theorem dX0_intoWaves_14 : decode cX0_intoWaves 14 = .ok (.iload_n 3, 1) := by decide +kernel
theorem dX0_intoWaves_15 : decode cX0_intoWaves 15 = .ok (.if_icmp .ge 49, 3) := by decide +kernel
theorem dX0_intoWaves_18 : decode cX0_intoWaves 18 = .ok (.aload_n 0, 1) := by decide +kernel
theorem dX0_intoWaves_19 : decode cX0_intoWaves 19 = .ok (.iload_n 3, 1) := by decide +kernel
theorem dX0_intoWaves_20 : decode cX0_intoWaves 20 = .ok (.invokevirtual 20, 3) := by decide +kernel
theorem dX0_intoWaves_23 : decode cX0_intoWaves 23 = .ok (.iconst 0, 1) := by decide +kernel
theorem dX0_intoWaves_24 : decode cX0_intoWaves 24 = .ok (.istore 5, 2) := by decide +kernel
theorem dX0_intoWaves_26 : decode cX0_intoWaves 26 = .ok (.iload 5, 2) := by decide +kernel
theorem dX0_intoWaves_28 : decode cX0_intoWaves 28 = .ok (.iload_n 3, 1) := by decide +kernel
theorem dX0_intoWaves_29 : decode cX0_intoWaves 29 = .ok (.if_icmp .ge 26, 3) := by decide +kernel
theorem dX0_intoWaves_32 : decode cX0_intoWaves 32 = .ok (.iload 5, 2) := by decide +kernel
theorem dX0_intoWaves_34 : decode cX0_intoWaves 34 = .ok (.iload 4, 2) := by decide +kernel
theorem dX0_intoWaves_36 : decode cX0_intoWaves 36 = .ok (.iand, 1) := by decide +kernel
theorem dX0_intoWaves_37 : decode cX0_intoWaves 37 = .ok (.ifCond .ne 12, 3) := by decide +kernel
theorem dX0_intoWaves_40 : decode cX0_intoWaves 40 = .ok (.aload_n 0, 1) := by decide +kernel
theorem dX0_intoWaves_41 : decode cX0_intoWaves 41 = .ok (.iload 5, 2) := by decide +kernel
theorem dX0_intoWaves_43 : decode cX0_intoWaves 43 = .ok (.iload 4, 2) := by decide +kernel
theorem dX0_intoWaves_45 : decode cX0_intoWaves 45 = .ok (.iload_n 2, 1) := by decide +kernel
theorem dX0_intoWaves_46 : decode cX0_intoWaves 46 = .ok (.invokevirtual 23, 3) := by decide +kernel
theorem dX0_intoWaves_49 : decode cX0_intoWaves 49 = .ok (.iinc 5 1, 3) := by decide +kernel
theorem dX0_intoWaves_52 : decode cX0_intoWaves 52 = .ok (.goto (-26), 3) := by decide +kernel
theorem dX0_intoWaves_55 : decode cX0_intoWaves 55 = .ok (.iload 4, 2) := by decide +kernel
theorem dX0_intoWaves_57 : decode cX0_intoWaves 57 = .ok (.iconst 2, 1) := by decide +kernel
theorem dX0_intoWaves_58 : decode cX0_intoWaves 58 = .ok (.imul, 1) := by decide +kernel
theorem dX0_intoWaves_59 : decode cX0_intoWaves 59 = .ok (.istore 4, 2) := by decide +kernel
theorem dX0_intoWaves_61 : decode cX0_intoWaves 61 = .ok (.goto (-49), 3) := by decide +kernel
theorem dX0_intoWaves_64 : decode cX0_intoWaves 64 = .ok (.return_, 1) := by decide +kernel
theorem dX0_reorder_0 : decode cX0_reorder 0 = .ok (.iconst 0, 1) := by decide +kernel
theorem dX0_reorder_1 : decode cX0_reorder 1 = .ok (.istore_n 2, 1) := by decide +kernel
theorem dX0_reorder_2 : decode cX0_reorder 2 = .ok (.iload_n 2, 1) := by decide +kernel
theorem dX0_reorder_3 : decode cX0_reorder 3 = .ok (.iconst 1, 1) := by decide +kernel
theorem dX0_reorder_4 : decode cX0_reorder 4 = .ok (.iload_n 1, 1) := by decide +kernel
theorem dX0_reorder_5 : decode cX0_reorder 5 = .ok (.ishl, 1) := by decide +kernel
theorem dX0_reorder_6 : decode cX0_reorder 6 = .ok (.if_icmp .ge 38, 3) := by decide +kernel
theorem dX0_reorder_9 : decode cX0_reorder 9 = .ok (.iload_n 2, 1) := by decide +kernel
theorem dX0_reorder_10 : decode cX0_reorder 10 = .ok (.iload_n 1, 1) := by decide +kernel
theorem dX0_reorder_11 : decode cX0_reorder 11 = .ok (.invokestatic 27, 3) := by decide +kernel
theorem dX0_reorder_14 : decode cX0_reorder 14 = .ok (.istore_n 3, 1) := by decide +kernel
theorem dX0_reorder_15 : decode cX0_reorder 15 = .ok (.iload_n 2, 1) := by decide +kernel
theorem dX0_reorder_16 : decode cX0_reorder 16 = .ok (.iload_n 3, 1) := by decide +kernel
theorem dX0_reorder_17 : decode cX0_reorder 17 = .ok (.if_icmp .ge 21, 3) := by decide +kernel
theorem dX0_reorder_20 : decode cX0_reorder 20 = .ok (.aload_n 0, 1) := by decide +kernel
theorem dX0_reorder_21 : decode cX0_reorder 21 = .ok (.getfield 9, 3) := by decide +kernel
theorem dX0_reorder_24 : decode cX0_reorder 24 = .ok (.iload_n 2, 1) := by decide +kernel
theorem dX0_reorder_25 : decode cX0_reorder 25 = .ok (.iload_n 3, 1) := by decide +kernel
theorem dX0_reorder_26 : decode cX0_reorder 26 = .ok (.invokestatic 31, 3) := by decide +kernel
theorem dX0_reorder_29 : decode cX0_reorder 29 = .ok (.aload_n 0, 1) := by decide +kernel
theorem dX0_reorder_30 : decode cX0_reorder 30 = .ok (.getfield 13, 3) := by decide +kernel
theorem dX0_reorder_33 : decode cX0_reorder 33 = .ok (.iload_n 2, 1) := by decide +kernel
theorem dX0_reorder_34 : decode cX0_reorder 34 = .ok (.iload_n 3, 1) := by decide +kernel
theorem dX0_reorder_35 : decode cX0_reorder 35 = .ok (.invokestatic 31, 3) := by decide +kernel
theorem dX0_reorder_38 : decode cX0_reorder 38 = .ok (.iinc 2 1, 3) := by decide +kernel
theorem dX0_reorder_41 : decode cX0_reorder 41 = .ok (.goto (-39), 3) := by decide +kernel
theorem dX0_reorder_44 : decode cX0_reorder 44 = .ok (.return_, 1) := by decide +kernel
theorem dX0_bitsTurnedRound_0 : decode cX0_bitsTurnedRound 0 = .ok (.iconst 0, 1) := by decide +kernel
theorem dX0_bitsTurnedRound_1 : decode cX0_bitsTurnedRound 1 = .ok (.istore_n 2, 1) := by decide +kernel
theorem dX0_bitsTurnedRound_2 : decode cX0_bitsTurnedRound 2 = .ok (.iconst 0, 1) := by decide +kernel
theorem dX0_bitsTurnedRound_3 : decode cX0_bitsTurnedRound 3 = .ok (.istore_n 3, 1) := by decide +kernel
theorem dX0_bitsTurnedRound_4 : decode cX0_bitsTurnedRound 4 = .ok (.iload_n 3, 1) := by decide +kernel
theorem dX0_bitsTurnedRound_5 : decode cX0_bitsTurnedRound 5 = .ok (.iload_n 1, 1) := by decide +kernel
theorem dX0_bitsTurnedRound_6 : decode cX0_bitsTurnedRound 6 = .ok (.if_icmp .ge 19, 3) := by decide +kernel
theorem dX0_bitsTurnedRound_9 : decode cX0_bitsTurnedRound 9 = .ok (.iload_n 2, 1) := by decide +kernel
theorem dX0_bitsTurnedRound_10 : decode cX0_bitsTurnedRound 10 = .ok (.iconst 2, 1) := by decide +kernel
theorem dX0_bitsTurnedRound_11 : decode cX0_bitsTurnedRound 11 = .ok (.imul, 1) := by decide +kernel
theorem dX0_bitsTurnedRound_12 : decode cX0_bitsTurnedRound 12 = .ok (.iload_n 0, 1) := by decide +kernel
theorem dX0_bitsTurnedRound_13 : decode cX0_bitsTurnedRound 13 = .ok (.iload_n 3, 1) := by decide +kernel
theorem dX0_bitsTurnedRound_14 : decode cX0_bitsTurnedRound 14 = .ok (.ishr, 1) := by decide +kernel
theorem dX0_bitsTurnedRound_15 : decode cX0_bitsTurnedRound 15 = .ok (.iconst 1, 1) := by decide +kernel
theorem dX0_bitsTurnedRound_16 : decode cX0_bitsTurnedRound 16 = .ok (.iand, 1) := by decide +kernel
theorem dX0_bitsTurnedRound_17 : decode cX0_bitsTurnedRound 17 = .ok (.iadd, 1) := by decide +kernel
theorem dX0_bitsTurnedRound_18 : decode cX0_bitsTurnedRound 18 = .ok (.istore_n 2, 1) := by decide +kernel
theorem dX0_bitsTurnedRound_19 : decode cX0_bitsTurnedRound 19 = .ok (.iinc 3 1, 3) := by decide +kernel
theorem dX0_bitsTurnedRound_22 : decode cX0_bitsTurnedRound 22 = .ok (.goto (-18), 3) := by decide +kernel
theorem dX0_bitsTurnedRound_25 : decode cX0_bitsTurnedRound 25 = .ok (.iload_n 2, 1) := by decide +kernel
theorem dX0_bitsTurnedRound_26 : decode cX0_bitsTurnedRound 26 = .ok (.ireturn, 1) := by decide +kernel
theorem dX0_swap_0 : decode cX0_swap 0 = .ok (.aload_n 0, 1) := by decide +kernel
theorem dX0_swap_1 : decode cX0_swap 1 = .ok (.iload_n 1, 1) := by decide +kernel
theorem dX0_swap_2 : decode cX0_swap 2 = .ok (.iaload, 1) := by decide +kernel
theorem dX0_swap_3 : decode cX0_swap 3 = .ok (.istore_n 3, 1) := by decide +kernel
theorem dX0_swap_4 : decode cX0_swap 4 = .ok (.aload_n 0, 1) := by decide +kernel
theorem dX0_swap_5 : decode cX0_swap 5 = .ok (.iload_n 1, 1) := by decide +kernel
theorem dX0_swap_6 : decode cX0_swap 6 = .ok (.aload_n 0, 1) := by decide +kernel
theorem dX0_swap_7 : decode cX0_swap 7 = .ok (.iload_n 2, 1) := by decide +kernel
theorem dX0_swap_8 : decode cX0_swap 8 = .ok (.iaload, 1) := by decide +kernel
theorem dX0_swap_9 : decode cX0_swap 9 = .ok (.iastore, 1) := by decide +kernel
theorem dX0_swap_10 : decode cX0_swap 10 = .ok (.aload_n 0, 1) := by decide +kernel
theorem dX0_swap_11 : decode cX0_swap 11 = .ok (.iload_n 2, 1) := by decide +kernel
theorem dX0_swap_12 : decode cX0_swap 12 = .ok (.iload_n 3, 1) := by decide +kernel
theorem dX0_swap_13 : decode cX0_swap 13 = .ok (.iastore, 1) := by decide +kernel
theorem dX0_swap_14 : decode cX0_swap 14 = .ok (.return_, 1) := by decide +kernel
theorem dX0_makeRoom_0 : decode cX0_makeRoom 0 = .ok (.iconst 0, 1) := by decide +kernel
theorem dX0_makeRoom_1 : decode cX0_makeRoom 1 = .ok (.istore_n 2, 1) := by decide +kernel
theorem dX0_makeRoom_2 : decode cX0_makeRoom 2 = .ok (.iload_n 2, 1) := by decide +kernel
theorem dX0_makeRoom_3 : decode cX0_makeRoom 3 = .ok (.iconst 2, 1) := by decide +kernel
theorem dX0_makeRoom_4 : decode cX0_makeRoom 4 = .ok (.if_icmp .ge 76, 3) := by decide +kernel
theorem dX0_makeRoom_7 : decode cX0_makeRoom 7 = .ok (.aload_n 0, 1) := by decide +kernel
theorem dX0_makeRoom_8 : decode cX0_makeRoom 8 = .ok (.iload_n 1, 1) := by decide +kernel
theorem dX0_makeRoom_9 : decode cX0_makeRoom 9 = .ok (.invokevirtual 35, 3) := by decide +kernel
theorem dX0_makeRoom_12 : decode cX0_makeRoom 12 = .ok (.ifCond .eq 68, 3) := by decide +kernel
theorem dX0_makeRoom_15 : decode cX0_makeRoom 15 = .ok (.iconst 0, 1) := by decide +kernel
theorem dX0_makeRoom_16 : decode cX0_makeRoom 16 = .ok (.istore_n 3, 1) := by decide +kernel
theorem dX0_makeRoom_17 : decode cX0_makeRoom 17 = .ok (.iload_n 3, 1) := by decide +kernel
theorem dX0_makeRoom_18 : decode cX0_makeRoom 18 = .ok (.iload_n 1, 1) := by decide +kernel
theorem dX0_makeRoom_19 : decode cX0_makeRoom 19 = .ok (.if_icmp .ge 45, 3) := by decide +kernel
theorem dX0_makeRoom_22 : decode cX0_makeRoom 22 = .ok (.aload_n 0, 1) := by decide +kernel
theorem dX0_makeRoom_23 : decode cX0_makeRoom 23 = .ok (.getfield 9, 3) := by decide +kernel
theorem dX0_makeRoom_26 : decode cX0_makeRoom 26 = .ok (.iload_n 3, 1) := by decide +kernel
theorem dX0_makeRoom_27 : decode cX0_makeRoom 27 = .ok (.aload_n 0, 1) := by decide +kernel
theorem dX0_makeRoom_28 : decode cX0_makeRoom 28 = .ok (.getfield 9, 3) := by decide +kernel
theorem dX0_makeRoom_31 : decode cX0_makeRoom 31 = .ok (.iload_n 3, 1) := by decide +kernel
theorem dX0_makeRoom_32 : decode cX0_makeRoom 32 = .ok (.iaload, 1) := by decide +kernel
theorem dX0_makeRoom_33 : decode cX0_makeRoom 33 = .ok (.i2l, 1) := by decide +kernel
theorem dX0_makeRoom_34 : decode cX0_makeRoom 34 = .ok (.iconst 1, 1) := by decide +kernel
theorem dX0_makeRoom_35 : decode cX0_makeRoom 35 = .ok (.invokestatic 39, 3) := by decide +kernel
theorem dX0_makeRoom_38 : decode cX0_makeRoom 38 = .ok (.l2i, 1) := by decide +kernel
theorem dX0_makeRoom_39 : decode cX0_makeRoom 39 = .ok (.iastore, 1) := by decide +kernel
theorem dX0_makeRoom_40 : decode cX0_makeRoom 40 = .ok (.aload_n 0, 1) := by decide +kernel
theorem dX0_makeRoom_41 : decode cX0_makeRoom 41 = .ok (.getfield 13, 3) := by decide +kernel
theorem dX0_makeRoom_44 : decode cX0_makeRoom 44 = .ok (.iload_n 3, 1) := by decide +kernel
theorem dX0_makeRoom_45 : decode cX0_makeRoom 45 = .ok (.aload_n 0, 1) := by decide +kernel
theorem dX0_makeRoom_46 : decode cX0_makeRoom 46 = .ok (.getfield 13, 3) := by decide +kernel
theorem dX0_makeRoom_49 : decode cX0_makeRoom 49 = .ok (.iload_n 3, 1) := by decide +kernel
theorem dX0_makeRoom_50 : decode cX0_makeRoom 50 = .ok (.iaload, 1) := by decide +kernel
theorem dX0_makeRoom_51 : decode cX0_makeRoom 51 = .ok (.i2l, 1) := by decide +kernel
theorem dX0_makeRoom_52 : decode cX0_makeRoom 52 = .ok (.iconst 1, 1) := by decide +kernel
theorem dX0_makeRoom_53 : decode cX0_makeRoom 53 = .ok (.invokestatic 39, 3) := by decide +kernel
theorem dX0_makeRoom_56 : decode cX0_makeRoom 56 = .ok (.l2i, 1) := by decide +kernel
theorem dX0_makeRoom_57 : decode cX0_makeRoom 57 = .ok (.iastore, 1) := by decide +kernel
theorem dX0_makeRoom_58 : decode cX0_makeRoom 58 = .ok (.iinc 3 1, 3) := by decide +kernel
theorem dX0_makeRoom_61 : decode cX0_makeRoom 61 = .ok (.goto (-44), 3) := by decide +kernel
theorem dX0_makeRoom_64 : decode cX0_makeRoom 64 = .ok (.aload_n 0, 1) := by decide +kernel
theorem dX0_makeRoom_65 : decode cX0_makeRoom 65 = .ok (.dup, 1) := by decide +kernel
theorem dX0_makeRoom_66 : decode cX0_makeRoom 66 = .ok (.getfield 45, 3) := by decide +kernel
theorem dX0_makeRoom_69 : decode cX0_makeRoom 69 = .ok (.iconst 1, 1) := by decide +kernel
theorem dX0_makeRoom_70 : decode cX0_makeRoom 70 = .ok (.iadd, 1) := by decide +kernel
theorem dX0_makeRoom_71 : decode cX0_makeRoom 71 = .ok (.putfield 45, 3) := by decide +kernel
theorem dX0_makeRoom_74 : decode cX0_makeRoom 74 = .ok (.iinc 2 1, 3) := by decide +kernel
theorem dX0_makeRoom_77 : decode cX0_makeRoom 77 = .ok (.goto (-75), 3) := by decide +kernel
theorem dX0_makeRoom_80 : decode cX0_makeRoom 80 = .ok (.return_, 1) := by decide +kernel
theorem dX0_isTooBig_0 : decode cX0_isTooBig 0 = .ok (.iconst 0, 1) := by decide +kernel
theorem dX0_isTooBig_1 : decode cX0_isTooBig 1 = .ok (.istore_n 2, 1) := by decide +kernel
theorem dX0_isTooBig_2 : decode cX0_isTooBig 2 = .ok (.iload_n 2, 1) := by decide +kernel
theorem dX0_isTooBig_3 : decode cX0_isTooBig 3 = .ok (.iload_n 1, 1) := by decide +kernel
theorem dX0_isTooBig_4 : decode cX0_isTooBig 4 = .ok (.if_icmp .ge 45, 3) := by decide +kernel
theorem dX0_isTooBig_7 : decode cX0_isTooBig 7 = .ok (.aload_n 0, 1) := by decide +kernel
theorem dX0_isTooBig_8 : decode cX0_isTooBig 8 = .ok (.getfield 9, 3) := by decide +kernel
theorem dX0_isTooBig_11 : decode cX0_isTooBig 11 = .ok (.iload_n 2, 1) := by decide +kernel
theorem dX0_isTooBig_12 : decode cX0_isTooBig 12 = .ok (.iaload, 1) := by decide +kernel
theorem dX0_isTooBig_13 : decode cX0_isTooBig 13 = .ok (.i2l, 1) := by decide +kernel
theorem dX0_isTooBig_14 : decode cX0_isTooBig 14 = .ok (.invokestatic 49, 3) := by decide +kernel
theorem dX0_isTooBig_17 : decode cX0_isTooBig 17 = .ok (.ldc2_w 53, 3) := by decide +kernel
theorem dX0_isTooBig_20 : decode cX0_isTooBig 20 = .ok (.lcmp, 1) := by decide +kernel
theorem dX0_isTooBig_21 : decode cX0_isTooBig 21 = .ok (.ifCond .ge 20, 3) := by decide +kernel
theorem dX0_isTooBig_24 : decode cX0_isTooBig 24 = .ok (.aload_n 0, 1) := by decide +kernel
theorem dX0_isTooBig_25 : decode cX0_isTooBig 25 = .ok (.getfield 13, 3) := by decide +kernel
theorem dX0_isTooBig_28 : decode cX0_isTooBig 28 = .ok (.iload_n 2, 1) := by decide +kernel
theorem dX0_isTooBig_29 : decode cX0_isTooBig 29 = .ok (.iaload, 1) := by decide +kernel
theorem dX0_isTooBig_30 : decode cX0_isTooBig 30 = .ok (.i2l, 1) := by decide +kernel
theorem dX0_isTooBig_31 : decode cX0_isTooBig 31 = .ok (.invokestatic 49, 3) := by decide +kernel
theorem dX0_isTooBig_34 : decode cX0_isTooBig 34 = .ok (.ldc2_w 53, 3) := by decide +kernel
theorem dX0_isTooBig_37 : decode cX0_isTooBig 37 = .ok (.lcmp, 1) := by decide +kernel
theorem dX0_isTooBig_38 : decode cX0_isTooBig 38 = .ok (.ifCond .lt 5, 3) := by decide +kernel
theorem dX0_isTooBig_41 : decode cX0_isTooBig 41 = .ok (.iconst 1, 1) := by decide +kernel
theorem dX0_isTooBig_42 : decode cX0_isTooBig 42 = .ok (.ireturn, 1) := by decide +kernel
theorem dX0_isTooBig_43 : decode cX0_isTooBig 43 = .ok (.iinc 2 1, 3) := by decide +kernel
theorem dX0_isTooBig_46 : decode cX0_isTooBig 46 = .ok (.goto (-44), 3) := by decide +kernel
theorem dX0_isTooBig_49 : decode cX0_isTooBig 49 = .ok (.iconst 0, 1) := by decide +kernel
theorem dX0_isTooBig_50 : decode cX0_isTooBig 50 = .ok (.ireturn, 1) := by decide +kernel
theorem dX0_cross_0 : decode cX0_cross 0 = .ok (.iload_n 1, 1) := by decide +kernel
theorem dX0_cross_1 : decode cX0_cross 1 = .ok (.iload_n 2, 1) := by decide +kernel
theorem dX0_cross_2 : decode cX0_cross 2 = .ok (.iadd, 1) := by decide +kernel
theorem dX0_cross_3 : decode cX0_cross 3 = .ok (.istore 4, 2) := by decide +kernel
theorem dX0_cross_5 : decode cX0_cross 5 = .ok (.iload_n 1, 1) := by decide +kernel
theorem dX0_cross_6 : decode cX0_cross 6 = .ok (.iload_n 2, 1) := by decide +kernel
theorem dX0_cross_7 : decode cX0_cross 7 = .ok (.iconst 1, 1) := by decide +kernel
theorem dX0_cross_8 : decode cX0_cross 8 = .ok (.isub, 1) := by decide +kernel
theorem dX0_cross_9 : decode cX0_cross 9 = .ok (.iand, 1) := by decide +kernel
theorem dX0_cross_10 : decode cX0_cross 10 = .ok (.bipush 16, 2) := by decide +kernel
theorem dX0_cross_12 : decode cX0_cross 12 = .ok (.imul, 1) := by decide +kernel
theorem dX0_cross_13 : decode cX0_cross 13 = .ok (.iload_n 2, 1) := by decide +kernel
theorem dX0_cross_14 : decode cX0_cross 14 = .ok (.idiv, 1) := by decide +kernel
theorem dX0_cross_15 : decode cX0_cross 15 = .ok (.istore 5, 2) := by decide +kernel
theorem dX0_cross_17 : decode cX0_cross 17 = .ok (.iload 5, 2) := by decide +kernel
theorem dX0_cross_19 : decode cX0_cross 19 = .ok (.invokestatic 55, 3) := by decide +kernel
theorem dX0_cross_22 : decode cX0_cross 22 = .ok (.lstore 6, 2) := by decide +kernel
theorem dX0_cross_24 : decode cX0_cross 24 = .ok (.iload_n 3, 1) := by decide +kernel
theorem dX0_cross_25 : decode cX0_cross 25 = .ok (.ifCond .eq 12, 3) := by decide +kernel
theorem dX0_cross_28 : decode cX0_cross 28 = .ok (.iload 5, 2) := by decide +kernel
theorem dX0_cross_30 : decode cX0_cross 30 = .ok (.invokestatic 59, 3) := by decide +kernel
theorem dX0_cross_33 : decode cX0_cross 33 = .ok (.lneg, 1) := by decide +kernel
theorem dX0_cross_34 : decode cX0_cross 34 = .ok (.goto 8, 3) := by decide +kernel
theorem dX0_cross_37 : decode cX0_cross 37 = .ok (.iload 5, 2) := by decide +kernel
theorem dX0_cross_39 : decode cX0_cross 39 = .ok (.invokestatic 59, 3) := by decide +kernel
theorem dX0_cross_42 : decode cX0_cross 42 = .ok (.lstore 8, 2) := by decide +kernel
theorem dX0_cross_44 : decode cX0_cross 44 = .ok (.aload_n 0, 1) := by decide +kernel
theorem dX0_cross_45 : decode cX0_cross 45 = .ok (.getfield 9, 3) := by decide +kernel
theorem dX0_cross_48 : decode cX0_cross 48 = .ok (.iload 4, 2) := by decide +kernel
theorem dX0_cross_50 : decode cX0_cross 50 = .ok (.iaload, 1) := by decide +kernel
theorem dX0_cross_51 : decode cX0_cross 51 = .ok (.i2l, 1) := by decide +kernel
theorem dX0_cross_52 : decode cX0_cross 52 = .ok (.lload 6, 2) := by decide +kernel
theorem dX0_cross_54 : decode cX0_cross 54 = .ok (.lmul, 1) := by decide +kernel
theorem dX0_cross_55 : decode cX0_cross 55 = .ok (.aload_n 0, 1) := by decide +kernel
theorem dX0_cross_56 : decode cX0_cross 56 = .ok (.getfield 13, 3) := by decide +kernel
theorem dX0_cross_59 : decode cX0_cross 59 = .ok (.iload 4, 2) := by decide +kernel
theorem dX0_cross_61 : decode cX0_cross 61 = .ok (.iaload, 1) := by decide +kernel
theorem dX0_cross_62 : decode cX0_cross 62 = .ok (.i2l, 1) := by decide +kernel
theorem dX0_cross_63 : decode cX0_cross 63 = .ok (.lload 8, 2) := by decide +kernel
theorem dX0_cross_65 : decode cX0_cross 65 = .ok (.lmul, 1) := by decide +kernel
theorem dX0_cross_66 : decode cX0_cross 66 = .ok (.ladd, 1) := by decide +kernel
theorem dX0_cross_67 : decode cX0_cross 67 = .ok (.bipush 31, 2) := by decide +kernel
theorem dX0_cross_69 : decode cX0_cross 69 = .ok (.invokestatic 39, 3) := by decide +kernel
theorem dX0_cross_72 : decode cX0_cross 72 = .ok (.lstore 10, 2) := by decide +kernel
theorem dX0_cross_74 : decode cX0_cross 74 = .ok (.aload_n 0, 1) := by decide +kernel
theorem dX0_cross_75 : decode cX0_cross 75 = .ok (.getfield 13, 3) := by decide +kernel
theorem dX0_cross_78 : decode cX0_cross 78 = .ok (.iload 4, 2) := by decide +kernel
theorem dX0_cross_80 : decode cX0_cross 80 = .ok (.iaload, 1) := by decide +kernel
theorem dX0_cross_81 : decode cX0_cross 81 = .ok (.i2l, 1) := by decide +kernel
theorem dX0_cross_82 : decode cX0_cross 82 = .ok (.lload 6, 2) := by decide +kernel
theorem dX0_cross_84 : decode cX0_cross 84 = .ok (.lmul, 1) := by decide +kernel
theorem dX0_cross_85 : decode cX0_cross 85 = .ok (.aload_n 0, 1) := by decide +kernel
theorem dX0_cross_86 : decode cX0_cross 86 = .ok (.getfield 9, 3) := by decide +kernel
theorem dX0_cross_89 : decode cX0_cross 89 = .ok (.iload 4, 2) := by decide +kernel
theorem dX0_cross_91 : decode cX0_cross 91 = .ok (.iaload, 1) := by decide +kernel
theorem dX0_cross_92 : decode cX0_cross 92 = .ok (.i2l, 1) := by decide +kernel
theorem dX0_cross_93 : decode cX0_cross 93 = .ok (.lload 8, 2) := by decide +kernel
theorem dX0_cross_95 : decode cX0_cross 95 = .ok (.lmul, 1) := by decide +kernel
theorem dX0_cross_96 : decode cX0_cross 96 = .ok (.lsub, 1) := by decide +kernel
theorem dX0_cross_97 : decode cX0_cross 97 = .ok (.bipush 31, 2) := by decide +kernel
theorem dX0_cross_99 : decode cX0_cross 99 = .ok (.invokestatic 39, 3) := by decide +kernel
theorem dX0_cross_102 : decode cX0_cross 102 = .ok (.lstore 12, 2) := by decide +kernel
theorem dX0_cross_104 : decode cX0_cross 104 = .ok (.aload_n 0, 1) := by decide +kernel
theorem dX0_cross_105 : decode cX0_cross 105 = .ok (.getfield 9, 3) := by decide +kernel
theorem dX0_cross_108 : decode cX0_cross 108 = .ok (.iload_n 1, 1) := by decide +kernel
theorem dX0_cross_109 : decode cX0_cross 109 = .ok (.iaload, 1) := by decide +kernel
theorem dX0_cross_110 : decode cX0_cross 110 = .ok (.i2l, 1) := by decide +kernel
theorem dX0_cross_111 : decode cX0_cross 111 = .ok (.lstore 14, 2) := by decide +kernel
theorem dX0_cross_113 : decode cX0_cross 113 = .ok (.aload_n 0, 1) := by decide +kernel
theorem dX0_cross_114 : decode cX0_cross 114 = .ok (.getfield 13, 3) := by decide +kernel
theorem dX0_cross_117 : decode cX0_cross 117 = .ok (.iload_n 1, 1) := by decide +kernel
theorem dX0_cross_118 : decode cX0_cross 118 = .ok (.iaload, 1) := by decide +kernel
theorem dX0_cross_119 : decode cX0_cross 119 = .ok (.i2l, 1) := by decide +kernel
theorem dX0_cross_120 : decode cX0_cross 120 = .ok (.lstore 16, 2) := by decide +kernel
theorem dX0_cross_122 : decode cX0_cross 122 = .ok (.aload_n 0, 1) := by decide +kernel
theorem dX0_cross_123 : decode cX0_cross 123 = .ok (.getfield 9, 3) := by decide +kernel
theorem dX0_cross_126 : decode cX0_cross 126 = .ok (.iload_n 1, 1) := by decide +kernel
theorem dX0_cross_127 : decode cX0_cross 127 = .ok (.lload 14, 2) := by decide +kernel
theorem dX0_cross_129 : decode cX0_cross 129 = .ok (.lload 10, 2) := by decide +kernel
theorem dX0_cross_131 : decode cX0_cross 131 = .ok (.ladd, 1) := by decide +kernel
theorem dX0_cross_132 : decode cX0_cross 132 = .ok (.invokestatic 62, 3) := by decide +kernel
theorem dX0_cross_135 : decode cX0_cross 135 = .ok (.iastore, 1) := by decide +kernel
theorem dX0_cross_136 : decode cX0_cross 136 = .ok (.aload_n 0, 1) := by decide +kernel
theorem dX0_cross_137 : decode cX0_cross 137 = .ok (.getfield 13, 3) := by decide +kernel
theorem dX0_cross_140 : decode cX0_cross 140 = .ok (.iload_n 1, 1) := by decide +kernel
theorem dX0_cross_141 : decode cX0_cross 141 = .ok (.lload 16, 2) := by decide +kernel
theorem dX0_cross_143 : decode cX0_cross 143 = .ok (.lload 12, 2) := by decide +kernel
theorem dX0_cross_145 : decode cX0_cross 145 = .ok (.ladd, 1) := by decide +kernel
theorem dX0_cross_146 : decode cX0_cross 146 = .ok (.invokestatic 62, 3) := by decide +kernel
theorem dX0_cross_149 : decode cX0_cross 149 = .ok (.iastore, 1) := by decide +kernel
theorem dX0_cross_150 : decode cX0_cross 150 = .ok (.aload_n 0, 1) := by decide +kernel
theorem dX0_cross_151 : decode cX0_cross 151 = .ok (.getfield 9, 3) := by decide +kernel
theorem dX0_cross_154 : decode cX0_cross 154 = .ok (.iload 4, 2) := by decide +kernel
theorem dX0_cross_156 : decode cX0_cross 156 = .ok (.lload 14, 2) := by decide +kernel
theorem dX0_cross_158 : decode cX0_cross 158 = .ok (.lload 10, 2) := by decide +kernel
theorem dX0_cross_160 : decode cX0_cross 160 = .ok (.lsub, 1) := by decide +kernel
theorem dX0_cross_161 : decode cX0_cross 161 = .ok (.invokestatic 62, 3) := by decide +kernel
theorem dX0_cross_164 : decode cX0_cross 164 = .ok (.iastore, 1) := by decide +kernel
theorem dX0_cross_165 : decode cX0_cross 165 = .ok (.aload_n 0, 1) := by decide +kernel
theorem dX0_cross_166 : decode cX0_cross 166 = .ok (.getfield 13, 3) := by decide +kernel
theorem dX0_cross_169 : decode cX0_cross 169 = .ok (.iload 4, 2) := by decide +kernel
theorem dX0_cross_171 : decode cX0_cross 171 = .ok (.lload 16, 2) := by decide +kernel
theorem dX0_cross_173 : decode cX0_cross 173 = .ok (.lload 12, 2) := by decide +kernel
theorem dX0_cross_175 : decode cX0_cross 175 = .ok (.lsub, 1) := by decide +kernel
theorem dX0_cross_176 : decode cX0_cross 176 = .ok (.invokestatic 62, 3) := by decide +kernel
theorem dX0_cross_179 : decode cX0_cross 179 = .ok (.iastore, 1) := by decide +kernel
theorem dX0_cross_180 : decode cX0_cross 180 = .ok (.return_, 1) := by decide +kernel
theorem dX0_cosineOf_0 : decode cX0_cosineOf 0 = .ok (.iload_n 0, 1) := by decide +kernel
theorem dX0_cosineOf_1 : decode cX0_cosineOf 1 = .ok (.bipush 8, 2) := by decide +kernel
theorem dX0_cosineOf_3 : decode cX0_cosineOf 3 = .ok (.if_icmp .gt 15, 3) := by decide +kernel
theorem dX0_cosineOf_6 : decode cX0_cosineOf 6 = .ok (.getstatic 66, 3) := by decide +kernel
theorem dX0_cosineOf_9 : decode cX0_cosineOf 9 = .ok (.bipush 8, 2) := by decide +kernel
theorem dX0_cosineOf_11 : decode cX0_cosineOf 11 = .ok (.iload_n 0, 1) := by decide +kernel
theorem dX0_cosineOf_12 : decode cX0_cosineOf 12 = .ok (.isub, 1) := by decide +kernel
theorem dX0_cosineOf_13 : decode cX0_cosineOf 13 = .ok (.iaload, 1) := by decide +kernel
theorem dX0_cosineOf_14 : decode cX0_cosineOf 14 = .ok (.i2l, 1) := by decide +kernel
theorem dX0_cosineOf_15 : decode cX0_cosineOf 15 = .ok (.goto 13, 3) := by decide +kernel
theorem dX0_cosineOf_18 : decode cX0_cosineOf 18 = .ok (.getstatic 66, 3) := by decide +kernel
theorem dX0_cosineOf_21 : decode cX0_cosineOf 21 = .ok (.iload_n 0, 1) := by decide +kernel
theorem dX0_cosineOf_22 : decode cX0_cosineOf 22 = .ok (.bipush 8, 2) := by decide +kernel
theorem dX0_cosineOf_24 : decode cX0_cosineOf 24 = .ok (.isub, 1) := by decide +kernel
theorem dX0_cosineOf_25 : decode cX0_cosineOf 25 = .ok (.iaload, 1) := by decide +kernel
theorem dX0_cosineOf_26 : decode cX0_cosineOf 26 = .ok (.ineg, 1) := by decide +kernel
theorem dX0_cosineOf_27 : decode cX0_cosineOf 27 = .ok (.i2l, 1) := by decide +kernel
theorem dX0_cosineOf_28 : decode cX0_cosineOf 28 = .ok (.lreturn, 1) := by decide +kernel
theorem dX0_sineOf_0 : decode cX0_sineOf 0 = .ok (.iload_n 0, 1) := by decide +kernel
theorem dX0_sineOf_1 : decode cX0_sineOf 1 = .ok (.bipush 8, 2) := by decide +kernel
theorem dX0_sineOf_3 : decode cX0_sineOf 3 = .ok (.if_icmp .gt 12, 3) := by decide +kernel
theorem dX0_sineOf_6 : decode cX0_sineOf 6 = .ok (.getstatic 66, 3) := by decide +kernel
theorem dX0_sineOf_9 : decode cX0_sineOf 9 = .ok (.iload_n 0, 1) := by decide +kernel
theorem dX0_sineOf_10 : decode cX0_sineOf 10 = .ok (.iaload, 1) := by decide +kernel
theorem dX0_sineOf_11 : decode cX0_sineOf 11 = .ok (.i2l, 1) := by decide +kernel
theorem dX0_sineOf_12 : decode cX0_sineOf 12 = .ok (.goto 12, 3) := by decide +kernel
theorem dX0_sineOf_15 : decode cX0_sineOf 15 = .ok (.getstatic 66, 3) := by decide +kernel
theorem dX0_sineOf_18 : decode cX0_sineOf 18 = .ok (.bipush 16, 2) := by decide +kernel
theorem dX0_sineOf_20 : decode cX0_sineOf 20 = .ok (.iload_n 0, 1) := by decide +kernel
theorem dX0_sineOf_21 : decode cX0_sineOf 21 = .ok (.isub, 1) := by decide +kernel
theorem dX0_sineOf_22 : decode cX0_sineOf 22 = .ok (.iaload, 1) := by decide +kernel
theorem dX0_sineOf_23 : decode cX0_sineOf 23 = .ok (.i2l, 1) := by decide +kernel
theorem dX0_sineOf_24 : decode cX0_sineOf 24 = .ok (.lreturn, 1) := by decide +kernel
theorem dX1_init_0 : decode cX1_init 0 = .ok (.aload_n 0, 1) := by decide +kernel
theorem dX1_init_1 : decode cX1_init 1 = .ok (.invokespecial 1, 3) := by decide +kernel
theorem dX1_init_4 : decode cX1_init 4 = .ok (.aload_n 0, 1) := by decide +kernel
theorem dX1_init_5 : decode cX1_init 5 = .ok (.iconst 5, 1) := by decide +kernel
theorem dX1_init_6 : decode cX1_init 6 = .ok (.newarray .int, 2) := by decide +kernel
theorem dX1_init_8 : decode cX1_init 8 = .ok (.putfield 9, 3) := by decide +kernel
theorem dX1_init_11 : decode cX1_init 11 = .ok (.aload_n 0, 1) := by decide +kernel
theorem dX1_init_12 : decode cX1_init 12 = .ok (.getfield 9, 3) := by decide +kernel
theorem dX1_init_15 : decode cX1_init 15 = .ok (.iconst 0, 1) := by decide +kernel
theorem dX1_init_16 : decode cX1_init 16 = .ok (.sipush 16384, 3) := by decide +kernel
theorem dX1_init_19 : decode cX1_init 19 = .ok (.iastore, 1) := by decide +kernel
theorem dX1_init_20 : decode cX1_init 20 = .ok (.return_, 1) := by decide +kernel
theorem dX1_answerTo_0 : decode cX1_answerTo 0 = .ok (.aload_n 0, 1) := by decide +kernel
theorem dX1_answerTo_1 : decode cX1_answerTo 1 = .ok (.getfield 9, 3) := by decide +kernel
theorem dX1_answerTo_4 : decode cX1_answerTo 4 = .ok (.iconst 0, 1) := by decide +kernel
theorem dX1_answerTo_5 : decode cX1_answerTo 5 = .ok (.iaload, 1) := by decide +kernel
theorem dX1_answerTo_6 : decode cX1_answerTo 6 = .ok (.i2l, 1) := by decide +kernel
theorem dX1_answerTo_7 : decode cX1_answerTo 7 = .ok (.iload_n 1, 1) := by decide +kernel
theorem dX1_answerTo_8 : decode cX1_answerTo 8 = .ok (.i2l, 1) := by decide +kernel
theorem dX1_answerTo_9 : decode cX1_answerTo 9 = .ok (.lmul, 1) := by decide +kernel
theorem dX1_answerTo_10 : decode cX1_answerTo 10 = .ok (.lstore_n 2, 1) := by decide +kernel
theorem dX1_answerTo_11 : decode cX1_answerTo 11 = .ok (.lload_n 2, 1) := by decide +kernel
theorem dX1_answerTo_12 : decode cX1_answerTo 12 = .ok (.aload_n 0, 1) := by decide +kernel
theorem dX1_answerTo_13 : decode cX1_answerTo 13 = .ok (.getfield 9, 3) := by decide +kernel
theorem dX1_answerTo_16 : decode cX1_answerTo 16 = .ok (.iconst 1, 1) := by decide +kernel
theorem dX1_answerTo_17 : decode cX1_answerTo 17 = .ok (.iaload, 1) := by decide +kernel
theorem dX1_answerTo_18 : decode cX1_answerTo 18 = .ok (.i2l, 1) := by decide +kernel
theorem dX1_answerTo_19 : decode cX1_answerTo 19 = .ok (.aload_n 0, 1) := by decide +kernel
theorem dX1_answerTo_20 : decode cX1_answerTo 20 = .ok (.getfield 13, 3) := by decide +kernel
theorem dX1_answerTo_23 : decode cX1_answerTo 23 = .ok (.i2l, 1) := by decide +kernel
theorem dX1_answerTo_24 : decode cX1_answerTo 24 = .ok (.lmul, 1) := by decide +kernel
theorem dX1_answerTo_25 : decode cX1_answerTo 25 = .ok (.ladd, 1) := by decide +kernel
theorem dX1_answerTo_26 : decode cX1_answerTo 26 = .ok (.lstore_n 2, 1) := by decide +kernel
theorem dX1_answerTo_27 : decode cX1_answerTo 27 = .ok (.lload_n 2, 1) := by decide +kernel
theorem dX1_answerTo_28 : decode cX1_answerTo 28 = .ok (.aload_n 0, 1) := by decide +kernel
theorem dX1_answerTo_29 : decode cX1_answerTo 29 = .ok (.getfield 9, 3) := by decide +kernel
theorem dX1_answerTo_32 : decode cX1_answerTo 32 = .ok (.iconst 2, 1) := by decide +kernel
theorem dX1_answerTo_33 : decode cX1_answerTo 33 = .ok (.iaload, 1) := by decide +kernel
theorem dX1_answerTo_34 : decode cX1_answerTo 34 = .ok (.i2l, 1) := by decide +kernel
theorem dX1_answerTo_35 : decode cX1_answerTo 35 = .ok (.aload_n 0, 1) := by decide +kernel
theorem dX1_answerTo_36 : decode cX1_answerTo 36 = .ok (.getfield 17, 3) := by decide +kernel
theorem dX1_answerTo_39 : decode cX1_answerTo 39 = .ok (.i2l, 1) := by decide +kernel
theorem dX1_answerTo_40 : decode cX1_answerTo 40 = .ok (.lmul, 1) := by decide +kernel
theorem dX1_answerTo_41 : decode cX1_answerTo 41 = .ok (.ladd, 1) := by decide +kernel
theorem dX1_answerTo_42 : decode cX1_answerTo 42 = .ok (.lstore_n 2, 1) := by decide +kernel
theorem dX1_answerTo_43 : decode cX1_answerTo 43 = .ok (.lload_n 2, 1) := by decide +kernel
theorem dX1_answerTo_44 : decode cX1_answerTo 44 = .ok (.aload_n 0, 1) := by decide +kernel
theorem dX1_answerTo_45 : decode cX1_answerTo 45 = .ok (.getfield 9, 3) := by decide +kernel
theorem dX1_answerTo_48 : decode cX1_answerTo 48 = .ok (.iconst 3, 1) := by decide +kernel
theorem dX1_answerTo_49 : decode cX1_answerTo 49 = .ok (.iaload, 1) := by decide +kernel
theorem dX1_answerTo_50 : decode cX1_answerTo 50 = .ok (.i2l, 1) := by decide +kernel
theorem dX1_answerTo_51 : decode cX1_answerTo 51 = .ok (.aload_n 0, 1) := by decide +kernel
theorem dX1_answerTo_52 : decode cX1_answerTo 52 = .ok (.getfield 20, 3) := by decide +kernel
theorem dX1_answerTo_55 : decode cX1_answerTo 55 = .ok (.i2l, 1) := by decide +kernel
theorem dX1_answerTo_56 : decode cX1_answerTo 56 = .ok (.lmul, 1) := by decide +kernel
theorem dX1_answerTo_57 : decode cX1_answerTo 57 = .ok (.lsub, 1) := by decide +kernel
theorem dX1_answerTo_58 : decode cX1_answerTo 58 = .ok (.lstore_n 2, 1) := by decide +kernel
theorem dX1_answerTo_59 : decode cX1_answerTo 59 = .ok (.lload_n 2, 1) := by decide +kernel
theorem dX1_answerTo_60 : decode cX1_answerTo 60 = .ok (.aload_n 0, 1) := by decide +kernel
theorem dX1_answerTo_61 : decode cX1_answerTo 61 = .ok (.getfield 9, 3) := by decide +kernel
theorem dX1_answerTo_64 : decode cX1_answerTo 64 = .ok (.iconst 4, 1) := by decide +kernel
theorem dX1_answerTo_65 : decode cX1_answerTo 65 = .ok (.iaload, 1) := by decide +kernel
theorem dX1_answerTo_66 : decode cX1_answerTo 66 = .ok (.i2l, 1) := by decide +kernel
theorem dX1_answerTo_67 : decode cX1_answerTo 67 = .ok (.aload_n 0, 1) := by decide +kernel
theorem dX1_answerTo_68 : decode cX1_answerTo 68 = .ok (.getfield 23, 3) := by decide +kernel
theorem dX1_answerTo_71 : decode cX1_answerTo 71 = .ok (.i2l, 1) := by decide +kernel
theorem dX1_answerTo_72 : decode cX1_answerTo 72 = .ok (.lmul, 1) := by decide +kernel
theorem dX1_answerTo_73 : decode cX1_answerTo 73 = .ok (.lsub, 1) := by decide +kernel
theorem dX1_answerTo_74 : decode cX1_answerTo 74 = .ok (.lstore_n 2, 1) := by decide +kernel
theorem dX1_answerTo_75 : decode cX1_answerTo 75 = .ok (.lload_n 2, 1) := by decide +kernel
theorem dX1_answerTo_76 : decode cX1_answerTo 76 = .ok (.bipush 14, 2) := by decide +kernel
theorem dX1_answerTo_78 : decode cX1_answerTo 78 = .ok (.invokestatic 26, 3) := by decide +kernel
theorem dX1_answerTo_81 : decode cX1_answerTo 81 = .ok (.invokestatic 32, 3) := by decide +kernel
theorem dX1_answerTo_84 : decode cX1_answerTo 84 = .ok (.istore 4, 2) := by decide +kernel
theorem dX1_answerTo_86 : decode cX1_answerTo 86 = .ok (.aload_n 0, 1) := by decide +kernel
theorem dX1_answerTo_87 : decode cX1_answerTo 87 = .ok (.aload_n 0, 1) := by decide +kernel
theorem dX1_answerTo_88 : decode cX1_answerTo 88 = .ok (.getfield 13, 3) := by decide +kernel
theorem dX1_answerTo_91 : decode cX1_answerTo 91 = .ok (.putfield 17, 3) := by decide +kernel
theorem dX1_answerTo_94 : decode cX1_answerTo 94 = .ok (.aload_n 0, 1) := by decide +kernel
theorem dX1_answerTo_95 : decode cX1_answerTo 95 = .ok (.iload_n 1, 1) := by decide +kernel
theorem dX1_answerTo_96 : decode cX1_answerTo 96 = .ok (.putfield 13, 3) := by decide +kernel
theorem dX1_answerTo_99 : decode cX1_answerTo 99 = .ok (.aload_n 0, 1) := by decide +kernel
theorem dX1_answerTo_100 : decode cX1_answerTo 100 = .ok (.aload_n 0, 1) := by decide +kernel
theorem dX1_answerTo_101 : decode cX1_answerTo 101 = .ok (.getfield 20, 3) := by decide +kernel
theorem dX1_answerTo_104 : decode cX1_answerTo 104 = .ok (.putfield 23, 3) := by decide +kernel
theorem dX1_answerTo_107 : decode cX1_answerTo 107 = .ok (.aload_n 0, 1) := by decide +kernel
theorem dX1_answerTo_108 : decode cX1_answerTo 108 = .ok (.iload 4, 2) := by decide +kernel
theorem dX1_answerTo_110 : decode cX1_answerTo 110 = .ok (.putfield 20, 3) := by decide +kernel
theorem dX1_answerTo_113 : decode cX1_answerTo 113 = .ok (.iload 4, 2) := by decide +kernel
theorem dX1_answerTo_115 : decode cX1_answerTo 115 = .ok (.ireturn, 1) := by decide +kernel
theorem dX1_forget_0 : decode cX1_forget 0 = .ok (.aload_n 0, 1) := by decide +kernel
theorem dX1_forget_1 : decode cX1_forget 1 = .ok (.iconst 0, 1) := by decide +kernel
theorem dX1_forget_2 : decode cX1_forget 2 = .ok (.putfield 13, 3) := by decide +kernel
theorem dX1_forget_5 : decode cX1_forget 5 = .ok (.aload_n 0, 1) := by decide +kernel
theorem dX1_forget_6 : decode cX1_forget 6 = .ok (.iconst 0, 1) := by decide +kernel
theorem dX1_forget_7 : decode cX1_forget 7 = .ok (.putfield 17, 3) := by decide +kernel
theorem dX1_forget_10 : decode cX1_forget 10 = .ok (.aload_n 0, 1) := by decide +kernel
theorem dX1_forget_11 : decode cX1_forget 11 = .ok (.iconst 0, 1) := by decide +kernel
theorem dX1_forget_12 : decode cX1_forget 12 = .ok (.putfield 20, 3) := by decide +kernel
theorem dX1_forget_15 : decode cX1_forget 15 = .ok (.aload_n 0, 1) := by decide +kernel
theorem dX1_forget_16 : decode cX1_forget 16 = .ok (.iconst 0, 1) := by decide +kernel
theorem dX1_forget_17 : decode cX1_forget 17 = .ok (.putfield 23, 3) := by decide +kernel
theorem dX1_forget_20 : decode cX1_forget 20 = .ok (.return_, 1) := by decide +kernel
theorem dX2_init_0 : decode cX2_init 0 = .ok (.aload_n 0, 1) := by decide +kernel
theorem dX2_init_1 : decode cX2_init 1 = .ok (.invokespecial 1, 3) := by decide +kernel
theorem dX2_init_4 : decode cX2_init 4 = .ok (.aload_n 0, 1) := by decide +kernel
theorem dX2_init_5 : decode cX2_init 5 = .ok (.bipush 16, 2) := by decide +kernel
theorem dX2_init_7 : decode cX2_init 7 = .ok (.newarray .int, 2) := by decide +kernel
theorem dX2_init_9 : decode cX2_init 9 = .ok (.putfield 9, 3) := by decide +kernel
theorem dX2_init_12 : decode cX2_init 12 = .ok (.aload_n 0, 1) := by decide +kernel
theorem dX2_init_13 : decode cX2_init 13 = .ok (.bipush 16, 2) := by decide +kernel
theorem dX2_init_15 : decode cX2_init 15 = .ok (.newarray .int, 2) := by decide +kernel
theorem dX2_init_17 : decode cX2_init 17 = .ok (.putfield 13, 3) := by decide +kernel
theorem dX2_init_20 : decode cX2_init 20 = .ok (.return_, 1) := by decide +kernel
theorem dX2_answerTo_0 : decode cX2_answerTo 0 = .ok (.aload_n 0, 1) := by decide +kernel
theorem dX2_answerTo_1 : decode cX2_answerTo 1 = .ok (.iload_n 1, 1) := by decide +kernel
theorem dX2_answerTo_2 : decode cX2_answerTo 2 = .ok (.invokevirtual 16, 3) := by decide +kernel
theorem dX2_answerTo_5 : decode cX2_answerTo 5 = .ok (.lconst 0, 1) := by decide +kernel
theorem dX2_answerTo_6 : decode cX2_answerTo 6 = .ok (.lstore_n 2, 1) := by decide +kernel
theorem dX2_answerTo_7 : decode cX2_answerTo 7 = .ok (.iconst 0, 1) := by decide +kernel
theorem dX2_answerTo_8 : decode cX2_answerTo 8 = .ok (.istore 4, 2) := by decide +kernel
theorem dX2_answerTo_10 : decode cX2_answerTo 10 = .ok (.iload 4, 2) := by decide +kernel
theorem dX2_answerTo_12 : decode cX2_answerTo 12 = .ok (.bipush 16, 2) := by decide +kernel
theorem dX2_answerTo_14 : decode cX2_answerTo 14 = .ok (.if_icmp .ge 29, 3) := by decide +kernel
theorem dX2_answerTo_17 : decode cX2_answerTo 17 = .ok (.lload_n 2, 1) := by decide +kernel
theorem dX2_answerTo_18 : decode cX2_answerTo 18 = .ok (.aload_n 0, 1) := by decide +kernel
theorem dX2_answerTo_19 : decode cX2_answerTo 19 = .ok (.getfield 9, 3) := by decide +kernel
theorem dX2_answerTo_22 : decode cX2_answerTo 22 = .ok (.iload 4, 2) := by decide +kernel
theorem dX2_answerTo_24 : decode cX2_answerTo 24 = .ok (.iaload, 1) := by decide +kernel
theorem dX2_answerTo_25 : decode cX2_answerTo 25 = .ok (.i2l, 1) := by decide +kernel
theorem dX2_answerTo_26 : decode cX2_answerTo 26 = .ok (.aload_n 0, 1) := by decide +kernel
theorem dX2_answerTo_27 : decode cX2_answerTo 27 = .ok (.getfield 13, 3) := by decide +kernel
theorem dX2_answerTo_30 : decode cX2_answerTo 30 = .ok (.iload 4, 2) := by decide +kernel
theorem dX2_answerTo_32 : decode cX2_answerTo 32 = .ok (.iaload, 1) := by decide +kernel
theorem dX2_answerTo_33 : decode cX2_answerTo 33 = .ok (.i2l, 1) := by decide +kernel
theorem dX2_answerTo_34 : decode cX2_answerTo 34 = .ok (.lmul, 1) := by decide +kernel
theorem dX2_answerTo_35 : decode cX2_answerTo 35 = .ok (.ladd, 1) := by decide +kernel
theorem dX2_answerTo_36 : decode cX2_answerTo 36 = .ok (.lstore_n 2, 1) := by decide +kernel
theorem dX2_answerTo_37 : decode cX2_answerTo 37 = .ok (.iinc 4 1, 3) := by decide +kernel
theorem dX2_answerTo_40 : decode cX2_answerTo 40 = .ok (.goto (-30), 3) := by decide +kernel
theorem dX2_answerTo_43 : decode cX2_answerTo 43 = .ok (.lload_n 2, 1) := by decide +kernel
theorem dX2_answerTo_44 : decode cX2_answerTo 44 = .ok (.bipush 15, 2) := by decide +kernel
theorem dX2_answerTo_46 : decode cX2_answerTo 46 = .ok (.invokestatic 20, 3) := by decide +kernel
theorem dX2_answerTo_49 : decode cX2_answerTo 49 = .ok (.invokestatic 26, 3) := by decide +kernel
theorem dX2_answerTo_52 : decode cX2_answerTo 52 = .ok (.ireturn, 1) := by decide +kernel
theorem dX2_takeIn_0 : decode cX2_takeIn 0 = .ok (.bipush 15, 2) := by decide +kernel
theorem dX2_takeIn_2 : decode cX2_takeIn 2 = .ok (.istore_n 2, 1) := by decide +kernel
theorem dX2_takeIn_3 : decode cX2_takeIn 3 = .ok (.iload_n 2, 1) := by decide +kernel
theorem dX2_takeIn_4 : decode cX2_takeIn 4 = .ok (.ifCond .le 23, 3) := by decide +kernel
theorem dX2_takeIn_7 : decode cX2_takeIn 7 = .ok (.aload_n 0, 1) := by decide +kernel
theorem dX2_takeIn_8 : decode cX2_takeIn 8 = .ok (.getfield 13, 3) := by decide +kernel
theorem dX2_takeIn_11 : decode cX2_takeIn 11 = .ok (.iload_n 2, 1) := by decide +kernel
theorem dX2_takeIn_12 : decode cX2_takeIn 12 = .ok (.aload_n 0, 1) := by decide +kernel
theorem dX2_takeIn_13 : decode cX2_takeIn 13 = .ok (.getfield 13, 3) := by decide +kernel
theorem dX2_takeIn_16 : decode cX2_takeIn 16 = .ok (.iload_n 2, 1) := by decide +kernel
theorem dX2_takeIn_17 : decode cX2_takeIn 17 = .ok (.iconst 1, 1) := by decide +kernel
theorem dX2_takeIn_18 : decode cX2_takeIn 18 = .ok (.isub, 1) := by decide +kernel
theorem dX2_takeIn_19 : decode cX2_takeIn 19 = .ok (.iaload, 1) := by decide +kernel
theorem dX2_takeIn_20 : decode cX2_takeIn 20 = .ok (.iastore, 1) := by decide +kernel
theorem dX2_takeIn_21 : decode cX2_takeIn 21 = .ok (.iinc 2 (-1), 3) := by decide +kernel
theorem dX2_takeIn_24 : decode cX2_takeIn 24 = .ok (.goto (-21), 3) := by decide +kernel
theorem dX2_takeIn_27 : decode cX2_takeIn 27 = .ok (.aload_n 0, 1) := by decide +kernel
theorem dX2_takeIn_28 : decode cX2_takeIn 28 = .ok (.getfield 13, 3) := by decide +kernel
theorem dX2_takeIn_31 : decode cX2_takeIn 31 = .ok (.iconst 0, 1) := by decide +kernel
theorem dX2_takeIn_32 : decode cX2_takeIn 32 = .ok (.iload_n 1, 1) := by decide +kernel
theorem dX2_takeIn_33 : decode cX2_takeIn 33 = .ok (.iastore, 1) := by decide +kernel
theorem dX2_takeIn_34 : decode cX2_takeIn 34 = .ok (.return_, 1) := by decide +kernel
theorem dX2_forget_0 : decode cX2_forget 0 = .ok (.iconst 0, 1) := by decide +kernel
theorem dX2_forget_1 : decode cX2_forget 1 = .ok (.istore_n 1, 1) := by decide +kernel
theorem dX2_forget_2 : decode cX2_forget 2 = .ok (.iload_n 1, 1) := by decide +kernel
theorem dX2_forget_3 : decode cX2_forget 3 = .ok (.bipush 16, 2) := by decide +kernel
theorem dX2_forget_5 : decode cX2_forget 5 = .ok (.if_icmp .ge 16, 3) := by decide +kernel
theorem dX2_forget_8 : decode cX2_forget 8 = .ok (.aload_n 0, 1) := by decide +kernel
theorem dX2_forget_9 : decode cX2_forget 9 = .ok (.getfield 13, 3) := by decide +kernel
theorem dX2_forget_12 : decode cX2_forget 12 = .ok (.iload_n 1, 1) := by decide +kernel
theorem dX2_forget_13 : decode cX2_forget 13 = .ok (.iconst 0, 1) := by decide +kernel
theorem dX2_forget_14 : decode cX2_forget 14 = .ok (.iastore, 1) := by decide +kernel
theorem dX2_forget_15 : decode cX2_forget 15 = .ok (.iinc 1 1, 3) := by decide +kernel
theorem dX2_forget_18 : decode cX2_forget 18 = .ok (.goto (-16), 3) := by decide +kernel
theorem dX2_forget_21 : decode cX2_forget 21 = .ok (.return_, 1) := by decide +kernel
theorem dX3_init_0 : decode cX3_init 0 = .ok (.aload_n 0, 1) := by decide +kernel
theorem dX3_init_1 : decode cX3_init 1 = .ok (.invokespecial 1, 3) := by decide +kernel
theorem dX3_init_4 : decode cX3_init 4 = .ok (.return_, 1) := by decide +kernel
theorem dX3_turnByAngle_0 : decode cX3_turnByAngle 0 = .ok (.lload_n 1, 1) := by decide +kernel
theorem dX3_turnByAngle_1 : decode cX3_turnByAngle 1 = .ok (.invokestatic 7, 3) := by decide +kernel
theorem dX3_turnByAngle_4 : decode cX3_turnByAngle 4 = .ok (.ldc2_w 15, 3) := by decide +kernel
theorem dX3_turnByAngle_7 : decode cX3_turnByAngle 7 = .ok (.lcmp, 1) := by decide +kernel
theorem dX3_turnByAngle_8 : decode cX3_turnByAngle 8 = .ok (.ifCond .le 7, 3) := by decide +kernel
theorem dX3_turnByAngle_11 : decode cX3_turnByAngle 11 = .ok (.iconst 1, 1) := by decide +kernel
theorem dX3_turnByAngle_12 : decode cX3_turnByAngle 12 = .ok (.goto 4, 3) := by decide +kernel
theorem dX3_turnByAngle_15 : decode cX3_turnByAngle 15 = .ok (.iconst 0, 1) := by decide +kernel
theorem dX3_turnByAngle_16 : decode cX3_turnByAngle 16 = .ok (.istore_n 3, 1) := by decide +kernel
theorem dX3_turnByAngle_17 : decode cX3_turnByAngle 17 = .ok (.aload_n 0, 1) := by decide +kernel
theorem dX3_turnByAngle_18 : decode cX3_turnByAngle 18 = .ok (.ldc2_w 17, 3) := by decide +kernel
theorem dX3_turnByAngle_21 : decode cX3_turnByAngle 21 = .ok (.putfield 19, 3) := by decide +kernel
theorem dX3_turnByAngle_24 : decode cX3_turnByAngle 24 = .ok (.aload_n 0, 1) := by decide +kernel
theorem dX3_turnByAngle_25 : decode cX3_turnByAngle 25 = .ok (.lconst 0, 1) := by decide +kernel
theorem dX3_turnByAngle_26 : decode cX3_turnByAngle 26 = .ok (.putfield 23, 3) := by decide +kernel
theorem dX3_turnByAngle_29 : decode cX3_turnByAngle 29 = .ok (.aload_n 0, 1) := by decide +kernel
theorem dX3_turnByAngle_30 : decode cX3_turnByAngle 30 = .ok (.lload_n 1, 1) := by decide +kernel
theorem dX3_turnByAngle_31 : decode cX3_turnByAngle 31 = .ok (.putfield 26, 3) := by decide +kernel
theorem dX3_turnByAngle_34 : decode cX3_turnByAngle 34 = .ok (.iload_n 3, 1) := by decide +kernel
theorem dX3_turnByAngle_35 : decode cX3_turnByAngle 35 = .ok (.ifCond .eq 26, 3) := by decide +kernel
theorem dX3_turnByAngle_38 : decode cX3_turnByAngle 38 = .ok (.aload_n 0, 1) := by decide +kernel
theorem dX3_turnByAngle_39 : decode cX3_turnByAngle 39 = .ok (.lload_n 1, 1) := by decide +kernel
theorem dX3_turnByAngle_40 : decode cX3_turnByAngle 40 = .ok (.lconst 0, 1) := by decide +kernel
theorem dX3_turnByAngle_41 : decode cX3_turnByAngle 41 = .ok (.lcmp, 1) := by decide +kernel
theorem dX3_turnByAngle_42 : decode cX3_turnByAngle 42 = .ok (.ifCond .ge 11, 3) := by decide +kernel
theorem dX3_turnByAngle_45 : decode cX3_turnByAngle 45 = .ok (.lload_n 1, 1) := by decide +kernel
theorem dX3_turnByAngle_46 : decode cX3_turnByAngle 46 = .ok (.ldc2_w 29, 3) := by decide +kernel
theorem dX3_turnByAngle_49 : decode cX3_turnByAngle 49 = .ok (.ladd, 1) := by decide +kernel
theorem dX3_turnByAngle_50 : decode cX3_turnByAngle 50 = .ok (.goto 8, 3) := by decide +kernel
theorem dX3_turnByAngle_53 : decode cX3_turnByAngle 53 = .ok (.lload_n 1, 1) := by decide +kernel
theorem dX3_turnByAngle_54 : decode cX3_turnByAngle 54 = .ok (.ldc2_w 29, 3) := by decide +kernel
theorem dX3_turnByAngle_57 : decode cX3_turnByAngle 57 = .ok (.lsub, 1) := by decide +kernel
theorem dX3_turnByAngle_58 : decode cX3_turnByAngle 58 = .ok (.putfield 26, 3) := by decide +kernel
theorem dX3_turnByAngle_61 : decode cX3_turnByAngle 61 = .ok (.iconst 0, 1) := by decide +kernel
theorem dX3_turnByAngle_62 : decode cX3_turnByAngle 62 = .ok (.istore 4, 2) := by decide +kernel
theorem dX3_turnByAngle_64 : decode cX3_turnByAngle 64 = .ok (.iload 4, 2) := by decide +kernel
theorem dX3_turnByAngle_66 : decode cX3_turnByAngle 66 = .ok (.bipush 30, 2) := by decide +kernel
theorem dX3_turnByAngle_68 : decode cX3_turnByAngle 68 = .ok (.if_icmp .ge 29, 3) := by decide +kernel
theorem dX3_turnByAngle_71 : decode cX3_turnByAngle 71 = .ok (.aload_n 0, 1) := by decide +kernel
theorem dX3_turnByAngle_72 : decode cX3_turnByAngle 72 = .ok (.iload 4, 2) := by decide +kernel
theorem dX3_turnByAngle_74 : decode cX3_turnByAngle 74 = .ok (.aload_n 0, 1) := by decide +kernel
theorem dX3_turnByAngle_75 : decode cX3_turnByAngle 75 = .ok (.getfield 26, 3) := by decide +kernel
theorem dX3_turnByAngle_78 : decode cX3_turnByAngle 78 = .ok (.lconst 0, 1) := by decide +kernel
theorem dX3_turnByAngle_79 : decode cX3_turnByAngle 79 = .ok (.lcmp, 1) := by decide +kernel
theorem dX3_turnByAngle_80 : decode cX3_turnByAngle 80 = .ok (.ifCond .lt 7, 3) := by decide +kernel
theorem dX3_turnByAngle_83 : decode cX3_turnByAngle 83 = .ok (.iconst 1, 1) := by decide +kernel
theorem dX3_turnByAngle_84 : decode cX3_turnByAngle 84 = .ok (.goto 4, 3) := by decide +kernel
theorem dX3_turnByAngle_87 : decode cX3_turnByAngle 87 = .ok (.iconst 0, 1) := by decide +kernel
theorem dX3_turnByAngle_88 : decode cX3_turnByAngle 88 = .ok (.invokevirtual 31, 3) := by decide +kernel
theorem dX3_turnByAngle_91 : decode cX3_turnByAngle 91 = .ok (.iinc 4 1, 3) := by decide +kernel
theorem dX3_turnByAngle_94 : decode cX3_turnByAngle 94 = .ok (.goto (-30), 3) := by decide +kernel
theorem dX3_turnByAngle_97 : decode cX3_turnByAngle 97 = .ok (.iload_n 3, 1) := by decide +kernel
theorem dX3_turnByAngle_98 : decode cX3_turnByAngle 98 = .ok (.ifCond .eq 21, 3) := by decide +kernel
theorem dX3_turnByAngle_101 : decode cX3_turnByAngle 101 = .ok (.aload_n 0, 1) := by decide +kernel
theorem dX3_turnByAngle_102 : decode cX3_turnByAngle 102 = .ok (.aload_n 0, 1) := by decide +kernel
theorem dX3_turnByAngle_103 : decode cX3_turnByAngle 103 = .ok (.getfield 19, 3) := by decide +kernel
theorem dX3_turnByAngle_106 : decode cX3_turnByAngle 106 = .ok (.lneg, 1) := by decide +kernel
theorem dX3_turnByAngle_107 : decode cX3_turnByAngle 107 = .ok (.putfield 19, 3) := by decide +kernel
theorem dX3_turnByAngle_110 : decode cX3_turnByAngle 110 = .ok (.aload_n 0, 1) := by decide +kernel
theorem dX3_turnByAngle_111 : decode cX3_turnByAngle 111 = .ok (.aload_n 0, 1) := by decide +kernel
theorem dX3_turnByAngle_112 : decode cX3_turnByAngle 112 = .ok (.getfield 23, 3) := by decide +kernel
theorem dX3_turnByAngle_115 : decode cX3_turnByAngle 115 = .ok (.lneg, 1) := by decide +kernel
theorem dX3_turnByAngle_116 : decode cX3_turnByAngle 116 = .ok (.putfield 23, 3) := by decide +kernel
theorem dX3_turnByAngle_119 : decode cX3_turnByAngle 119 = .ok (.return_, 1) := by decide +kernel
theorem dX3_turnToAxis_0 : decode cX3_turnToAxis 0 = .ok (.lload_n 1, 1) := by decide +kernel
theorem dX3_turnToAxis_1 : decode cX3_turnToAxis 1 = .ok (.lconst 0, 1) := by decide +kernel
theorem dX3_turnToAxis_2 : decode cX3_turnToAxis 2 = .ok (.lcmp, 1) := by decide +kernel
theorem dX3_turnToAxis_3 : decode cX3_turnToAxis 3 = .ok (.ifCond .ge 7, 3) := by decide +kernel
theorem dX3_turnToAxis_6 : decode cX3_turnToAxis 6 = .ok (.iconst 1, 1) := by decide +kernel
theorem dX3_turnToAxis_7 : decode cX3_turnToAxis 7 = .ok (.goto 4, 3) := by decide +kernel
theorem dX3_turnToAxis_10 : decode cX3_turnToAxis 10 = .ok (.iconst 0, 1) := by decide +kernel
theorem dX3_turnToAxis_11 : decode cX3_turnToAxis 11 = .ok (.istore 5, 2) := by decide +kernel
theorem dX3_turnToAxis_13 : decode cX3_turnToAxis 13 = .ok (.aload_n 0, 1) := by decide +kernel
theorem dX3_turnToAxis_14 : decode cX3_turnToAxis 14 = .ok (.iload 5, 2) := by decide +kernel
theorem dX3_turnToAxis_16 : decode cX3_turnToAxis 16 = .ok (.ifCond .eq 8, 3) := by decide +kernel
theorem dX3_turnToAxis_19 : decode cX3_turnToAxis 19 = .ok (.lload_n 1, 1) := by decide +kernel
theorem dX3_turnToAxis_20 : decode cX3_turnToAxis 20 = .ok (.lneg, 1) := by decide +kernel
theorem dX3_turnToAxis_21 : decode cX3_turnToAxis 21 = .ok (.goto 4, 3) := by decide +kernel
theorem dX3_turnToAxis_24 : decode cX3_turnToAxis 24 = .ok (.lload_n 1, 1) := by decide +kernel
theorem dX3_turnToAxis_25 : decode cX3_turnToAxis 25 = .ok (.putfield 19, 3) := by decide +kernel
theorem dX3_turnToAxis_28 : decode cX3_turnToAxis 28 = .ok (.aload_n 0, 1) := by decide +kernel
theorem dX3_turnToAxis_29 : decode cX3_turnToAxis 29 = .ok (.iload 5, 2) := by decide +kernel
theorem dX3_turnToAxis_31 : decode cX3_turnToAxis 31 = .ok (.ifCond .eq 8, 3) := by decide +kernel
theorem dX3_turnToAxis_34 : decode cX3_turnToAxis 34 = .ok (.lload_n 3, 1) := by decide +kernel
theorem dX3_turnToAxis_35 : decode cX3_turnToAxis 35 = .ok (.lneg, 1) := by decide +kernel
theorem dX3_turnToAxis_36 : decode cX3_turnToAxis 36 = .ok (.goto 4, 3) := by decide +kernel
theorem dX3_turnToAxis_39 : decode cX3_turnToAxis 39 = .ok (.lload_n 3, 1) := by decide +kernel
theorem dX3_turnToAxis_40 : decode cX3_turnToAxis 40 = .ok (.putfield 23, 3) := by decide +kernel
theorem dX3_turnToAxis_43 : decode cX3_turnToAxis 43 = .ok (.aload_n 0, 1) := by decide +kernel
theorem dX3_turnToAxis_44 : decode cX3_turnToAxis 44 = .ok (.iload 5, 2) := by decide +kernel
theorem dX3_turnToAxis_46 : decode cX3_turnToAxis 46 = .ok (.ifCond .eq 9, 3) := by decide +kernel
theorem dX3_turnToAxis_49 : decode cX3_turnToAxis 49 = .ok (.ldc2_w 35, 3) := by decide +kernel
theorem dX3_turnToAxis_52 : decode cX3_turnToAxis 52 = .ok (.goto 4, 3) := by decide +kernel
theorem dX3_turnToAxis_55 : decode cX3_turnToAxis 55 = .ok (.lconst 0, 1) := by decide +kernel
theorem dX3_turnToAxis_56 : decode cX3_turnToAxis 56 = .ok (.putfield 26, 3) := by decide +kernel
theorem dX3_turnToAxis_59 : decode cX3_turnToAxis 59 = .ok (.iconst 0, 1) := by decide +kernel
theorem dX3_turnToAxis_60 : decode cX3_turnToAxis 60 = .ok (.istore 6, 2) := by decide +kernel
theorem dX3_turnToAxis_62 : decode cX3_turnToAxis 62 = .ok (.iload 6, 2) := by decide +kernel
theorem dX3_turnToAxis_64 : decode cX3_turnToAxis 64 = .ok (.bipush 30, 2) := by decide +kernel
theorem dX3_turnToAxis_66 : decode cX3_turnToAxis 66 = .ok (.if_icmp .ge 29, 3) := by decide +kernel
theorem dX3_turnToAxis_69 : decode cX3_turnToAxis 69 = .ok (.aload_n 0, 1) := by decide +kernel
theorem dX3_turnToAxis_70 : decode cX3_turnToAxis 70 = .ok (.iload 6, 2) := by decide +kernel
theorem dX3_turnToAxis_72 : decode cX3_turnToAxis 72 = .ok (.aload_n 0, 1) := by decide +kernel
theorem dX3_turnToAxis_73 : decode cX3_turnToAxis 73 = .ok (.getfield 23, 3) := by decide +kernel
theorem dX3_turnToAxis_76 : decode cX3_turnToAxis 76 = .ok (.lconst 0, 1) := by decide +kernel
theorem dX3_turnToAxis_77 : decode cX3_turnToAxis 77 = .ok (.lcmp, 1) := by decide +kernel
theorem dX3_turnToAxis_78 : decode cX3_turnToAxis 78 = .ok (.ifCond .ge 7, 3) := by decide +kernel
theorem dX3_turnToAxis_81 : decode cX3_turnToAxis 81 = .ok (.iconst 1, 1) := by decide +kernel
theorem dX3_turnToAxis_82 : decode cX3_turnToAxis 82 = .ok (.goto 4, 3) := by decide +kernel
theorem dX3_turnToAxis_85 : decode cX3_turnToAxis 85 = .ok (.iconst 0, 1) := by decide +kernel
theorem dX3_turnToAxis_86 : decode cX3_turnToAxis 86 = .ok (.invokevirtual 31, 3) := by decide +kernel
theorem dX3_turnToAxis_89 : decode cX3_turnToAxis 89 = .ok (.iinc 6 1, 3) := by decide +kernel
theorem dX3_turnToAxis_92 : decode cX3_turnToAxis 92 = .ok (.goto (-30), 3) := by decide +kernel
theorem dX3_turnToAxis_95 : decode cX3_turnToAxis 95 = .ok (.return_, 1) := by decide +kernel
theorem dX3_turn_0 : decode cX3_turn 0 = .ok (.aload_n 0, 1) := by decide +kernel
theorem dX3_turn_1 : decode cX3_turn 1 = .ok (.getfield 19, 3) := by decide +kernel
theorem dX3_turn_4 : decode cX3_turn 4 = .ok (.iload_n 1, 1) := by decide +kernel
theorem dX3_turn_5 : decode cX3_turn 5 = .ok (.lshr, 1) := by decide +kernel
theorem dX3_turn_6 : decode cX3_turn 6 = .ok (.lstore_n 3, 1) := by decide +kernel
theorem dX3_turn_7 : decode cX3_turn 7 = .ok (.aload_n 0, 1) := by decide +kernel
theorem dX3_turn_8 : decode cX3_turn 8 = .ok (.getfield 23, 3) := by decide +kernel
theorem dX3_turn_11 : decode cX3_turn 11 = .ok (.iload_n 1, 1) := by decide +kernel
theorem dX3_turn_12 : decode cX3_turn 12 = .ok (.lshr, 1) := by decide +kernel
theorem dX3_turn_13 : decode cX3_turn 13 = .ok (.lstore 5, 2) := by decide +kernel
theorem dX3_turn_15 : decode cX3_turn 15 = .ok (.iload_n 2, 1) := by decide +kernel
theorem dX3_turn_16 : decode cX3_turn 16 = .ok (.ifCond .eq 42, 3) := by decide +kernel
theorem dX3_turn_19 : decode cX3_turn 19 = .ok (.aload_n 0, 1) := by decide +kernel
theorem dX3_turn_20 : decode cX3_turn 20 = .ok (.dup, 1) := by decide +kernel
theorem dX3_turn_21 : decode cX3_turn 21 = .ok (.getfield 19, 3) := by decide +kernel
theorem dX3_turn_24 : decode cX3_turn 24 = .ok (.lload 5, 2) := by decide +kernel
theorem dX3_turn_26 : decode cX3_turn 26 = .ok (.lsub, 1) := by decide +kernel
theorem dX3_turn_27 : decode cX3_turn 27 = .ok (.putfield 19, 3) := by decide +kernel
theorem dX3_turn_30 : decode cX3_turn 30 = .ok (.aload_n 0, 1) := by decide +kernel
theorem dX3_turn_31 : decode cX3_turn 31 = .ok (.dup, 1) := by decide +kernel
theorem dX3_turn_32 : decode cX3_turn 32 = .ok (.getfield 23, 3) := by decide +kernel
theorem dX3_turn_35 : decode cX3_turn 35 = .ok (.lload_n 3, 1) := by decide +kernel
theorem dX3_turn_36 : decode cX3_turn 36 = .ok (.ladd, 1) := by decide +kernel
theorem dX3_turn_37 : decode cX3_turn 37 = .ok (.putfield 23, 3) := by decide +kernel
theorem dX3_turn_40 : decode cX3_turn 40 = .ok (.aload_n 0, 1) := by decide +kernel
theorem dX3_turn_41 : decode cX3_turn 41 = .ok (.dup, 1) := by decide +kernel
theorem dX3_turn_42 : decode cX3_turn 42 = .ok (.getfield 26, 3) := by decide +kernel
theorem dX3_turn_45 : decode cX3_turn 45 = .ok (.getstatic 37, 3) := by decide +kernel
theorem dX3_turn_48 : decode cX3_turn 48 = .ok (.iload_n 1, 1) := by decide +kernel
theorem dX3_turn_49 : decode cX3_turn 49 = .ok (.iaload, 1) := by decide +kernel
theorem dX3_turn_50 : decode cX3_turn 50 = .ok (.i2l, 1) := by decide +kernel
theorem dX3_turn_51 : decode cX3_turn 51 = .ok (.lsub, 1) := by decide +kernel
theorem dX3_turn_52 : decode cX3_turn 52 = .ok (.putfield 26, 3) := by decide +kernel
theorem dX3_turn_55 : decode cX3_turn 55 = .ok (.goto 39, 3) := by decide +kernel
theorem dX3_turn_58 : decode cX3_turn 58 = .ok (.aload_n 0, 1) := by decide +kernel
theorem dX3_turn_59 : decode cX3_turn 59 = .ok (.dup, 1) := by decide +kernel
theorem dX3_turn_60 : decode cX3_turn 60 = .ok (.getfield 19, 3) := by decide +kernel
theorem dX3_turn_63 : decode cX3_turn 63 = .ok (.lload 5, 2) := by decide +kernel
theorem dX3_turn_65 : decode cX3_turn 65 = .ok (.ladd, 1) := by decide +kernel
theorem dX3_turn_66 : decode cX3_turn 66 = .ok (.putfield 19, 3) := by decide +kernel
theorem dX3_turn_69 : decode cX3_turn 69 = .ok (.aload_n 0, 1) := by decide +kernel
theorem dX3_turn_70 : decode cX3_turn 70 = .ok (.dup, 1) := by decide +kernel
theorem dX3_turn_71 : decode cX3_turn 71 = .ok (.getfield 23, 3) := by decide +kernel
theorem dX3_turn_74 : decode cX3_turn 74 = .ok (.lload_n 3, 1) := by decide +kernel
theorem dX3_turn_75 : decode cX3_turn 75 = .ok (.lsub, 1) := by decide +kernel
theorem dX3_turn_76 : decode cX3_turn 76 = .ok (.putfield 23, 3) := by decide +kernel
theorem dX3_turn_79 : decode cX3_turn 79 = .ok (.aload_n 0, 1) := by decide +kernel
theorem dX3_turn_80 : decode cX3_turn 80 = .ok (.dup, 1) := by decide +kernel
theorem dX3_turn_81 : decode cX3_turn 81 = .ok (.getfield 26, 3) := by decide +kernel
theorem dX3_turn_84 : decode cX3_turn 84 = .ok (.getstatic 37, 3) := by decide +kernel
theorem dX3_turn_87 : decode cX3_turn 87 = .ok (.iload_n 1, 1) := by decide +kernel
theorem dX3_turn_88 : decode cX3_turn 88 = .ok (.iaload, 1) := by decide +kernel
theorem dX3_turn_89 : decode cX3_turn 89 = .ok (.i2l, 1) := by decide +kernel
theorem dX3_turn_90 : decode cX3_turn 90 = .ok (.ladd, 1) := by decide +kernel
theorem dX3_turn_91 : decode cX3_turn 91 = .ok (.putfield 26, 3) := by decide +kernel
theorem dX3_turn_94 : decode cX3_turn 94 = .ok (.return_, 1) := by decide +kernel
theorem dX4_init_0 : decode cX4_init 0 = .ok (.aload_n 0, 1) := by decide +kernel
theorem dX4_init_1 : decode cX4_init 1 = .ok (.invokespecial 1, 3) := by decide +kernel
theorem dX4_init_4 : decode cX4_init 4 = .ok (.aload_n 0, 1) := by decide +kernel
theorem dX4_init_5 : decode cX4_init 5 = .ok (.new 7, 3) := by decide +kernel
theorem dX4_init_8 : decode cX4_init 8 = .ok (.dup, 1) := by decide +kernel
theorem dX4_init_9 : decode cX4_init 9 = .ok (.invokespecial 9, 3) := by decide +kernel
theorem dX4_init_12 : decode cX4_init 12 = .ok (.putfield 10, 3) := by decide +kernel
theorem dX4_init_15 : decode cX4_init 15 = .ok (.aload_n 0, 1) := by decide +kernel
theorem dX4_init_16 : decode cX4_init 16 = .ok (.iconst 4, 1) := by decide +kernel
theorem dX4_init_17 : decode cX4_init 17 = .ok (.anewarray 16, 3) := by decide +kernel
theorem dX4_init_20 : decode cX4_init 20 = .ok (.putfield 18, 3) := by decide +kernel
theorem dX4_init_23 : decode cX4_init 23 = .ok (.iconst 0, 1) := by decide +kernel
theorem dX4_init_24 : decode cX4_init 24 = .ok (.istore_n 1, 1) := by decide +kernel
theorem dX4_init_25 : decode cX4_init 25 = .ok (.iload_n 1, 1) := by decide +kernel
theorem dX4_init_26 : decode cX4_init 26 = .ok (.iconst 4, 1) := by decide +kernel
theorem dX4_init_27 : decode cX4_init 27 = .ok (.if_icmp .ge 22, 3) := by decide +kernel
theorem dX4_init_30 : decode cX4_init 30 = .ok (.aload_n 0, 1) := by decide +kernel
theorem dX4_init_31 : decode cX4_init 31 = .ok (.getfield 18, 3) := by decide +kernel
theorem dX4_init_34 : decode cX4_init 34 = .ok (.iload_n 1, 1) := by decide +kernel
theorem dX4_init_35 : decode cX4_init 35 = .ok (.new 16, 3) := by decide +kernel
theorem dX4_init_38 : decode cX4_init 38 = .ok (.dup, 1) := by decide +kernel
theorem dX4_init_39 : decode cX4_init 39 = .ok (.invokespecial 22, 3) := by decide +kernel
theorem dX4_init_42 : decode cX4_init 42 = .ok (.aastore, 1) := by decide +kernel
theorem dX4_init_43 : decode cX4_init 43 = .ok (.iinc 1 1, 3) := by decide +kernel
theorem dX4_init_46 : decode cX4_init 46 = .ok (.goto (-21), 3) := by decide +kernel
theorem dX4_init_49 : decode cX4_init 49 = .ok (.aload_n 0, 1) := by decide +kernel
theorem dX4_init_50 : decode cX4_init 50 = .ok (.new 23, 3) := by decide +kernel
theorem dX4_init_53 : decode cX4_init 53 = .ok (.dup, 1) := by decide +kernel
theorem dX4_init_54 : decode cX4_init 54 = .ok (.invokespecial 25, 3) := by decide +kernel
theorem dX4_init_57 : decode cX4_init 57 = .ok (.putfield 26, 3) := by decide +kernel
theorem dX4_init_60 : decode cX4_init 60 = .ok (.aload_n 0, 1) := by decide +kernel
theorem dX4_init_61 : decode cX4_init 61 = .ok (.new 30, 3) := by decide +kernel
theorem dX4_init_64 : decode cX4_init 64 = .ok (.dup, 1) := by decide +kernel
theorem dX4_init_65 : decode cX4_init 65 = .ok (.invokespecial 32, 3) := by decide +kernel
theorem dX4_init_68 : decode cX4_init 68 = .ok (.putfield 33, 3) := by decide +kernel
theorem dX4_init_71 : decode cX4_init 71 = .ok (.return_, 1) := by decide +kernel
theorem dX4_work_0 : decode cX4_work 0 = .ok (.iload_n 1, 1) := by decide +kernel
theorem dX4_work_1 : decode cX4_work 1 = .ok (.iload_n 3, 1) := by decide +kernel
theorem dX4_work_2 : decode cX4_work 2 = .ok (.bipush 31, 2) := by decide +kernel
theorem dX4_work_4 : decode cX4_work 4 = .ok (.invokestatic 37, 3) := by decide +kernel
theorem dX4_work_7 : decode cX4_work 7 = .ok (.ifCond .ne 11, 3) := by decide +kernel
theorem dX4_work_10 : decode cX4_work 10 = .ok (.new 41, 3) := by decide +kernel
theorem dX4_work_13 : decode cX4_work 13 = .ok (.dup, 1) := by decide +kernel
theorem dX4_work_14 : decode cX4_work 14 = .ok (.invokespecial 43, 3) := by decide +kernel
theorem dX4_work_17 : decode cX4_work 17 = .ok (.athrow, 1) := by decide +kernel
theorem dX4_work_18 : decode cX4_work 18 = .ok (.iload_n 1, 1) := by decide +kernel
theorem dX4_work_19 : decode cX4_work 19 = .ok (.iload_n 2, 1) := by decide +kernel
theorem dX4_work_20 : decode cX4_work 20 = .ok (.i2l, 1) := by decide +kernel
theorem dX4_work_21 : decode cX4_work 21 = .ok (.iload_n 3, 1) := by decide +kernel
theorem dX4_work_22 : decode cX4_work 22 = .ok (.i2l, 1) := by decide +kernel
theorem dX4_work_23 : decode cX4_work 23 = .ok (.bipush 31, 2) := by decide +kernel
theorem dX4_work_25 : decode cX4_work 25 = .ok (.invokestatic 44, 3) := by decide +kernel
theorem dX4_work_28 : decode cX4_work 28 = .ok (.invokestatic 48, 3) := by decide +kernel
theorem dX4_work_31 : decode cX4_work 31 = .ok (.ireturn, 1) := by decide +kernel
theorem dX4_small_0 : decode cX4_small 0 = .ok (.iload_n 1, 1) := by decide +kernel
theorem dX4_small_1 : decode cX4_small 1 = .ok (.iload_n 3, 1) := by decide +kernel
theorem dX4_small_2 : decode cX4_small 2 = .ok (.bipush 15, 2) := by decide +kernel
theorem dX4_small_4 : decode cX4_small 4 = .ok (.invokestatic 37, 3) := by decide +kernel
theorem dX4_small_7 : decode cX4_small 7 = .ok (.ifCond .eq 10, 3) := by decide +kernel
theorem dX4_small_10 : decode cX4_small 10 = .ok (.iload_n 2, 1) := by decide +kernel
theorem dX4_small_11 : decode cX4_small 11 = .ok (.invokestatic 52, 3) := by decide +kernel
theorem dX4_small_14 : decode cX4_small 14 = .ok (.ifCond .ne 11, 3) := by decide +kernel
theorem dX4_small_17 : decode cX4_small 17 = .ok (.new 41, 3) := by decide +kernel
theorem dX4_small_20 : decode cX4_small 20 = .ok (.dup, 1) := by decide +kernel
theorem dX4_small_21 : decode cX4_small 21 = .ok (.invokespecial 43, 3) := by decide +kernel
theorem dX4_small_24 : decode cX4_small 24 = .ok (.athrow, 1) := by decide +kernel
theorem dX4_small_25 : decode cX4_small 25 = .ok (.iload_n 1, 1) := by decide +kernel
theorem dX4_small_26 : decode cX4_small 26 = .ok (.iconst 2, 1) := by decide +kernel
theorem dX4_small_27 : decode cX4_small 27 = .ok (.if_icmp .gt 18, 3) := by decide +kernel
theorem dX4_small_30 : decode cX4_small 30 = .ok (.iload_n 3, 1) := by decide +kernel
theorem dX4_small_31 : decode cX4_small 31 = .ok (.invokestatic 52, 3) := by decide +kernel
theorem dX4_small_34 : decode cX4_small 34 = .ok (.ifCond .ne 11, 3) := by decide +kernel
theorem dX4_small_37 : decode cX4_small 37 = .ok (.new 41, 3) := by decide +kernel
theorem dX4_small_40 : decode cX4_small 40 = .ok (.dup, 1) := by decide +kernel
theorem dX4_small_41 : decode cX4_small 41 = .ok (.invokespecial 43, 3) := by decide +kernel
theorem dX4_small_44 : decode cX4_small 44 = .ok (.athrow, 1) := by decide +kernel
theorem dX4_small_45 : decode cX4_small 45 = .ok (.iload_n 1, 1) := by decide +kernel
theorem dX4_small_46 : decode cX4_small 46 = .ok (.iload_n 2, 1) := by decide +kernel
theorem dX4_small_47 : decode cX4_small 47 = .ok (.i2l, 1) := by decide +kernel
theorem dX4_small_48 : decode cX4_small 48 = .ok (.iload_n 3, 1) := by decide +kernel
theorem dX4_small_49 : decode cX4_small 49 = .ok (.i2l, 1) := by decide +kernel
theorem dX4_small_50 : decode cX4_small 50 = .ok (.bipush 15, 2) := by decide +kernel
theorem dX4_small_52 : decode cX4_small 52 = .ok (.invokestatic 44, 3) := by decide +kernel
theorem dX4_small_55 : decode cX4_small 55 = .ok (.invokestatic 56, 3) := by decide +kernel
theorem dX4_small_58 : decode cX4_small 58 = .ok (.ireturn, 1) := by decide +kernel
theorem dX4_narrow_0 : decode cX4_narrow 0 = .ok (.iload_n 1, 1) := by decide +kernel
theorem dX4_narrow_1 : decode cX4_narrow 1 = .ok (.i2l, 1) := by decide +kernel
theorem dX4_narrow_2 : decode cX4_narrow 2 = .ok (.bipush 16, 2) := by decide +kernel
theorem dX4_narrow_4 : decode cX4_narrow 4 = .ok (.invokestatic 59, 3) := by decide +kernel
theorem dX4_narrow_7 : decode cX4_narrow 7 = .ok (.invokestatic 56, 3) := by decide +kernel
theorem dX4_narrow_10 : decode cX4_narrow 10 = .ok (.ireturn, 1) := by decide +kernel
theorem dX4_tap_0 : decode cX4_tap 0 = .ok (.iload_n 1, 1) := by decide +kernel
theorem dX4_tap_1 : decode cX4_tap 1 = .ok (.bipush 16, 2) := by decide +kernel
theorem dX4_tap_3 : decode cX4_tap 3 = .ok (.invokestatic 63, 3) := by decide +kernel
theorem dX4_tap_6 : decode cX4_tap 6 = .ok (.ifCond .eq 10, 3) := by decide +kernel
theorem dX4_tap_9 : decode cX4_tap 9 = .ok (.iload_n 2, 1) := by decide +kernel
theorem dX4_tap_10 : decode cX4_tap 10 = .ok (.invokestatic 52, 3) := by decide +kernel
theorem dX4_tap_13 : decode cX4_tap 13 = .ok (.ifCond .ne 11, 3) := by decide +kernel
theorem dX4_tap_16 : decode cX4_tap 16 = .ok (.new 41, 3) := by decide +kernel
theorem dX4_tap_19 : decode cX4_tap 19 = .ok (.dup, 1) := by decide +kernel
theorem dX4_tap_20 : decode cX4_tap 20 = .ok (.invokespecial 43, 3) := by decide +kernel
theorem dX4_tap_23 : decode cX4_tap 23 = .ok (.athrow, 1) := by decide +kernel
theorem dX4_tap_24 : decode cX4_tap 24 = .ok (.aload_n 0, 1) := by decide +kernel
theorem dX4_tap_25 : decode cX4_tap 25 = .ok (.getfield 10, 3) := by decide +kernel
theorem dX4_tap_28 : decode cX4_tap 28 = .ok (.getfield 67, 3) := by decide +kernel
theorem dX4_tap_31 : decode cX4_tap 31 = .ok (.iload_n 1, 1) := by decide +kernel
theorem dX4_tap_32 : decode cX4_tap 32 = .ok (.iload_n 2, 1) := by decide +kernel
theorem dX4_tap_33 : decode cX4_tap 33 = .ok (.iastore, 1) := by decide +kernel
theorem dX4_tap_34 : decode cX4_tap 34 = .ok (.return_, 1) := by decide +kernel
theorem dX4_filter_0 : decode cX4_filter 0 = .ok (.iload_n 1, 1) := by decide +kernel
theorem dX4_filter_1 : decode cX4_filter 1 = .ok (.invokestatic 52, 3) := by decide +kernel
theorem dX4_filter_4 : decode cX4_filter 4 = .ok (.ifCond .ne 11, 3) := by decide +kernel
theorem dX4_filter_7 : decode cX4_filter 7 = .ok (.new 41, 3) := by decide +kernel
theorem dX4_filter_10 : decode cX4_filter 10 = .ok (.dup, 1) := by decide +kernel
theorem dX4_filter_11 : decode cX4_filter 11 = .ok (.invokespecial 43, 3) := by decide +kernel
theorem dX4_filter_14 : decode cX4_filter 14 = .ok (.athrow, 1) := by decide +kernel
theorem dX4_filter_15 : decode cX4_filter 15 = .ok (.aload_n 0, 1) := by decide +kernel
theorem dX4_filter_16 : decode cX4_filter 16 = .ok (.getfield 10, 3) := by decide +kernel
theorem dX4_filter_19 : decode cX4_filter 19 = .ok (.iload_n 1, 1) := by decide +kernel
theorem dX4_filter_20 : decode cX4_filter 20 = .ok (.invokevirtual 71, 3) := by decide +kernel
theorem dX4_filter_23 : decode cX4_filter 23 = .ok (.ireturn, 1) := by decide +kernel
theorem dX4_stage_0 : decode cX4_stage 0 = .ok (.iload_n 1, 1) := by decide +kernel
theorem dX4_stage_1 : decode cX4_stage 1 = .ok (.iconst 4, 1) := by decide +kernel
theorem dX4_stage_2 : decode cX4_stage 2 = .ok (.invokestatic 63, 3) := by decide +kernel
theorem dX4_stage_5 : decode cX4_stage 5 = .ok (.ifCond .eq 18, 3) := by decide +kernel
theorem dX4_stage_8 : decode cX4_stage 8 = .ok (.iload_n 2, 1) := by decide +kernel
theorem dX4_stage_9 : decode cX4_stage 9 = .ok (.iconst 5, 1) := by decide +kernel
theorem dX4_stage_10 : decode cX4_stage 10 = .ok (.invokestatic 63, 3) := by decide +kernel
theorem dX4_stage_13 : decode cX4_stage 13 = .ok (.ifCond .eq 10, 3) := by decide +kernel
theorem dX4_stage_16 : decode cX4_stage 16 = .ok (.iload_n 3, 1) := by decide +kernel
theorem dX4_stage_17 : decode cX4_stage 17 = .ok (.invokestatic 52, 3) := by decide +kernel
theorem dX4_stage_20 : decode cX4_stage 20 = .ok (.ifCond .ne 11, 3) := by decide +kernel
theorem dX4_stage_23 : decode cX4_stage 23 = .ok (.new 41, 3) := by decide +kernel
theorem dX4_stage_26 : decode cX4_stage 26 = .ok (.dup, 1) := by decide +kernel
theorem dX4_stage_27 : decode cX4_stage 27 = .ok (.invokespecial 43, 3) := by decide +kernel
theorem dX4_stage_30 : decode cX4_stage 30 = .ok (.athrow, 1) := by decide +kernel
theorem dX4_stage_31 : decode cX4_stage 31 = .ok (.aload_n 0, 1) := by decide +kernel
theorem dX4_stage_32 : decode cX4_stage 32 = .ok (.getfield 18, 3) := by decide +kernel
theorem dX4_stage_35 : decode cX4_stage 35 = .ok (.iload_n 1, 1) := by decide +kernel
theorem dX4_stage_36 : decode cX4_stage 36 = .ok (.aaload, 1) := by decide +kernel
theorem dX4_stage_37 : decode cX4_stage 37 = .ok (.getfield 75, 3) := by decide +kernel
theorem dX4_stage_40 : decode cX4_stage 40 = .ok (.iload_n 2, 1) := by decide +kernel
theorem dX4_stage_41 : decode cX4_stage 41 = .ok (.iload_n 3, 1) := by decide +kernel
theorem dX4_stage_42 : decode cX4_stage 42 = .ok (.iastore, 1) := by decide +kernel
theorem dX4_stage_43 : decode cX4_stage 43 = .ok (.return_, 1) := by decide +kernel
theorem dX4_chain_0 : decode cX4_chain 0 = .ok (.iload_n 1, 1) := by decide +kernel
theorem dX4_chain_1 : decode cX4_chain 1 = .ok (.invokestatic 52, 3) := by decide +kernel
theorem dX4_chain_4 : decode cX4_chain 4 = .ok (.ifCond .ne 11, 3) := by decide +kernel
theorem dX4_chain_7 : decode cX4_chain 7 = .ok (.new 41, 3) := by decide +kernel
theorem dX4_chain_10 : decode cX4_chain 10 = .ok (.dup, 1) := by decide +kernel
theorem dX4_chain_11 : decode cX4_chain 11 = .ok (.invokespecial 43, 3) := by decide +kernel
theorem dX4_chain_14 : decode cX4_chain 14 = .ok (.athrow, 1) := by decide +kernel
theorem dX4_chain_15 : decode cX4_chain 15 = .ok (.iload_n 1, 1) := by decide +kernel
theorem dX4_chain_16 : decode cX4_chain 16 = .ok (.istore_n 2, 1) := by decide +kernel
theorem dX4_chain_17 : decode cX4_chain 17 = .ok (.iconst 0, 1) := by decide +kernel
theorem dX4_chain_18 : decode cX4_chain 18 = .ok (.istore_n 3, 1) := by decide +kernel
theorem dX4_chain_19 : decode cX4_chain 19 = .ok (.iload_n 3, 1) := by decide +kernel
theorem dX4_chain_20 : decode cX4_chain 20 = .ok (.iconst 4, 1) := by decide +kernel
theorem dX4_chain_21 : decode cX4_chain 21 = .ok (.if_icmp .ge 20, 3) := by decide +kernel
theorem dX4_chain_24 : decode cX4_chain 24 = .ok (.aload_n 0, 1) := by decide +kernel
theorem dX4_chain_25 : decode cX4_chain 25 = .ok (.getfield 18, 3) := by decide +kernel
theorem dX4_chain_28 : decode cX4_chain 28 = .ok (.iload_n 3, 1) := by decide +kernel
theorem dX4_chain_29 : decode cX4_chain 29 = .ok (.aaload, 1) := by decide +kernel
theorem dX4_chain_30 : decode cX4_chain 30 = .ok (.iload_n 2, 1) := by decide +kernel
theorem dX4_chain_31 : decode cX4_chain 31 = .ok (.invokevirtual 78, 3) := by decide +kernel
theorem dX4_chain_34 : decode cX4_chain 34 = .ok (.istore_n 2, 1) := by decide +kernel
theorem dX4_chain_35 : decode cX4_chain 35 = .ok (.iinc 3 1, 3) := by decide +kernel
theorem dX4_chain_38 : decode cX4_chain 38 = .ok (.goto (-19), 3) := by decide +kernel
theorem dX4_chain_41 : decode cX4_chain 41 = .ok (.iload_n 2, 1) := by decide +kernel
theorem dX4_chain_42 : decode cX4_chain 42 = .ok (.ireturn, 1) := by decide +kernel
theorem dX4_calm_0 : decode cX4_calm 0 = .ok (.aload_n 0, 1) := by decide +kernel
theorem dX4_calm_1 : decode cX4_calm 1 = .ok (.getfield 10, 3) := by decide +kernel
theorem dX4_calm_4 : decode cX4_calm 4 = .ok (.invokevirtual 79, 3) := by decide +kernel
theorem dX4_calm_7 : decode cX4_calm 7 = .ok (.iconst 0, 1) := by decide +kernel
theorem dX4_calm_8 : decode cX4_calm 8 = .ok (.istore_n 1, 1) := by decide +kernel
theorem dX4_calm_9 : decode cX4_calm 9 = .ok (.iload_n 1, 1) := by decide +kernel
theorem dX4_calm_10 : decode cX4_calm 10 = .ok (.iconst 4, 1) := by decide +kernel
theorem dX4_calm_11 : decode cX4_calm 11 = .ok (.if_icmp .ge 18, 3) := by decide +kernel
theorem dX4_calm_14 : decode cX4_calm 14 = .ok (.aload_n 0, 1) := by decide +kernel
theorem dX4_calm_15 : decode cX4_calm 15 = .ok (.getfield 18, 3) := by decide +kernel
theorem dX4_calm_18 : decode cX4_calm 18 = .ok (.iload_n 1, 1) := by decide +kernel
theorem dX4_calm_19 : decode cX4_calm 19 = .ok (.aaload, 1) := by decide +kernel
theorem dX4_calm_20 : decode cX4_calm 20 = .ok (.invokevirtual 82, 3) := by decide +kernel
theorem dX4_calm_23 : decode cX4_calm 23 = .ok (.iinc 1 1, 3) := by decide +kernel
theorem dX4_calm_26 : decode cX4_calm 26 = .ok (.goto (-17), 3) := by decide +kernel
theorem dX4_calm_29 : decode cX4_calm 29 = .ok (.return_, 1) := by decide +kernel
theorem dX4_put_0 : decode cX4_put 0 = .ok (.iload_n 1, 1) := by decide +kernel
theorem dX4_put_1 : decode cX4_put 1 = .ok (.bipush 32, 2) := by decide +kernel
theorem dX4_put_3 : decode cX4_put 3 = .ok (.invokestatic 63, 3) := by decide +kernel
theorem dX4_put_6 : decode cX4_put 6 = .ok (.ifCond .ne 11, 3) := by decide +kernel
theorem dX4_put_9 : decode cX4_put 9 = .ok (.new 41, 3) := by decide +kernel
theorem dX4_put_12 : decode cX4_put 12 = .ok (.dup, 1) := by decide +kernel
theorem dX4_put_13 : decode cX4_put 13 = .ok (.invokespecial 43, 3) := by decide +kernel
theorem dX4_put_16 : decode cX4_put 16 = .ok (.athrow, 1) := by decide +kernel
theorem dX4_put_17 : decode cX4_put 17 = .ok (.aload_n 0, 1) := by decide +kernel
theorem dX4_put_18 : decode cX4_put 18 = .ok (.getfield 26, 3) := by decide +kernel
theorem dX4_put_21 : decode cX4_put 21 = .ok (.getfield 83, 3) := by decide +kernel
theorem dX4_put_24 : decode cX4_put 24 = .ok (.iload_n 1, 1) := by decide +kernel
theorem dX4_put_25 : decode cX4_put 25 = .ok (.iload_n 2, 1) := by decide +kernel
theorem dX4_put_26 : decode cX4_put 26 = .ok (.iastore, 1) := by decide +kernel
theorem dX4_put_27 : decode cX4_put 27 = .ok (.aload_n 0, 1) := by decide +kernel
theorem dX4_put_28 : decode cX4_put 28 = .ok (.getfield 26, 3) := by decide +kernel
theorem dX4_put_31 : decode cX4_put 31 = .ok (.getfield 86, 3) := by decide +kernel
theorem dX4_put_34 : decode cX4_put 34 = .ok (.iload_n 1, 1) := by decide +kernel
theorem dX4_put_35 : decode cX4_put 35 = .ok (.iload_n 3, 1) := by decide +kernel
theorem dX4_put_36 : decode cX4_put 36 = .ok (.iastore, 1) := by decide +kernel
theorem dX4_put_37 : decode cX4_put 37 = .ok (.aload_n 0, 1) := by decide +kernel
theorem dX4_put_38 : decode cX4_put 38 = .ok (.getfield 26, 3) := by decide +kernel
theorem dX4_put_41 : decode cX4_put 41 = .ok (.iconst 0, 1) := by decide +kernel
theorem dX4_put_42 : decode cX4_put 42 = .ok (.putfield 89, 3) := by decide +kernel
theorem dX4_put_45 : decode cX4_put 45 = .ok (.return_, 1) := by decide +kernel
theorem dX4_transform_0 : decode cX4_transform 0 = .ok (.iload_n 1, 1) := by decide +kernel
theorem dX4_transform_1 : decode cX4_transform 1 = .ok (.ifCond .lt 8, 3) := by decide +kernel
theorem dX4_transform_4 : decode cX4_transform 4 = .ok (.iload_n 1, 1) := by decide +kernel
theorem dX4_transform_5 : decode cX4_transform 5 = .ok (.iconst 5, 1) := by decide +kernel
theorem dX4_transform_6 : decode cX4_transform 6 = .ok (.if_icmp .le 11, 3) := by decide +kernel
theorem dX4_transform_9 : decode cX4_transform 9 = .ok (.new 41, 3) := by decide +kernel
theorem dX4_transform_12 : decode cX4_transform 12 = .ok (.dup, 1) := by decide +kernel
theorem dX4_transform_13 : decode cX4_transform 13 = .ok (.invokespecial 43, 3) := by decide +kernel
theorem dX4_transform_16 : decode cX4_transform 16 = .ok (.athrow, 1) := by decide +kernel
theorem dX4_transform_17 : decode cX4_transform 17 = .ok (.aload_n 0, 1) := by decide +kernel
theorem dX4_transform_18 : decode cX4_transform 18 = .ok (.getfield 26, 3) := by decide +kernel
theorem dX4_transform_21 : decode cX4_transform 21 = .ok (.iload_n 1, 1) := by decide +kernel
theorem dX4_transform_22 : decode cX4_transform 22 = .ok (.iload_n 2, 1) := by decide +kernel
theorem dX4_transform_23 : decode cX4_transform 23 = .ok (.invokevirtual 93, 3) := by decide +kernel
theorem dX4_transform_26 : decode cX4_transform 26 = .ok (.aload_n 0, 1) := by decide +kernel
theorem dX4_transform_27 : decode cX4_transform 27 = .ok (.getfield 26, 3) := by decide +kernel
theorem dX4_transform_30 : decode cX4_transform 30 = .ok (.getfield 89, 3) := by decide +kernel
theorem dX4_transform_33 : decode cX4_transform 33 = .ok (.ireturn, 1) := by decide +kernel
theorem dX4_get_0 : decode cX4_get 0 = .ok (.iload_n 1, 1) := by decide +kernel
theorem dX4_get_1 : decode cX4_get 1 = .ok (.bipush 32, 2) := by decide +kernel
theorem dX4_get_3 : decode cX4_get 3 = .ok (.invokestatic 63, 3) := by decide +kernel
theorem dX4_get_6 : decode cX4_get 6 = .ok (.ifCond .ne 11, 3) := by decide +kernel
theorem dX4_get_9 : decode cX4_get 9 = .ok (.new 41, 3) := by decide +kernel
theorem dX4_get_12 : decode cX4_get 12 = .ok (.dup, 1) := by decide +kernel
theorem dX4_get_13 : decode cX4_get 13 = .ok (.invokespecial 43, 3) := by decide +kernel
theorem dX4_get_16 : decode cX4_get 16 = .ok (.athrow, 1) := by decide +kernel
theorem dX4_get_17 : decode cX4_get 17 = .ok (.iload_n 2, 1) := by decide +kernel
theorem dX4_get_18 : decode cX4_get 18 = .ok (.ifCond .eq 15, 3) := by decide +kernel
theorem dX4_get_21 : decode cX4_get 21 = .ok (.aload_n 0, 1) := by decide +kernel
theorem dX4_get_22 : decode cX4_get 22 = .ok (.getfield 26, 3) := by decide +kernel
theorem dX4_get_25 : decode cX4_get 25 = .ok (.getfield 86, 3) := by decide +kernel
theorem dX4_get_28 : decode cX4_get 28 = .ok (.iload_n 1, 1) := by decide +kernel
theorem dX4_get_29 : decode cX4_get 29 = .ok (.iaload, 1) := by decide +kernel
theorem dX4_get_30 : decode cX4_get 30 = .ok (.goto 12, 3) := by decide +kernel
theorem dX4_get_33 : decode cX4_get 33 = .ok (.aload_n 0, 1) := by decide +kernel
theorem dX4_get_34 : decode cX4_get 34 = .ok (.getfield 26, 3) := by decide +kernel
theorem dX4_get_37 : decode cX4_get 37 = .ok (.getfield 83, 3) := by decide +kernel
theorem dX4_get_40 : decode cX4_get 40 = .ok (.iload_n 1, 1) := by decide +kernel
theorem dX4_get_41 : decode cX4_get 41 = .ok (.iaload, 1) := by decide +kernel
theorem dX4_get_42 : decode cX4_get 42 = .ok (.ireturn, 1) := by decide +kernel
theorem dX4_wave_0 : decode cX4_wave 0 = .ok (.aload_n 0, 1) := by decide +kernel
theorem dX4_wave_1 : decode cX4_wave 1 = .ok (.getfield 33, 3) := by decide +kernel
theorem dX4_wave_4 : decode cX4_wave 4 = .ok (.iload_n 1, 1) := by decide +kernel
theorem dX4_wave_5 : decode cX4_wave 5 = .ok (.i2l, 1) := by decide +kernel
theorem dX4_wave_6 : decode cX4_wave 6 = .ok (.invokevirtual 97, 3) := by decide +kernel
theorem dX4_wave_9 : decode cX4_wave 9 = .ok (.iload_n 2, 1) := by decide +kernel
theorem dX4_wave_10 : decode cX4_wave 10 = .ok (.ifCond .eq 13, 3) := by decide +kernel
theorem dX4_wave_13 : decode cX4_wave 13 = .ok (.aload_n 0, 1) := by decide +kernel
theorem dX4_wave_14 : decode cX4_wave 14 = .ok (.getfield 33, 3) := by decide +kernel
theorem dX4_wave_17 : decode cX4_wave 17 = .ok (.getfield 101, 3) := by decide +kernel
theorem dX4_wave_20 : decode cX4_wave 20 = .ok (.goto 10, 3) := by decide +kernel
theorem dX4_wave_23 : decode cX4_wave 23 = .ok (.aload_n 0, 1) := by decide +kernel
theorem dX4_wave_24 : decode cX4_wave 24 = .ok (.getfield 33, 3) := by decide +kernel
theorem dX4_wave_27 : decode cX4_wave 27 = .ok (.getfield 105, 3) := by decide +kernel
theorem dX4_wave_30 : decode cX4_wave 30 = .ok (.l2i, 1) := by decide +kernel
theorem dX4_wave_31 : decode cX4_wave 31 = .ok (.ireturn, 1) := by decide +kernel
theorem dX4_angle_0 : decode cX4_angle 0 = .ok (.iload_n 1, 1) := by decide +kernel
theorem dX4_angle_1 : decode cX4_angle 1 = .ok (.iload_n 2, 1) := by decide +kernel
theorem dX4_angle_2 : decode cX4_angle 2 = .ok (.invokestatic 108, 3) := by decide +kernel
theorem dX4_angle_5 : decode cX4_angle 5 = .ok (.ifCond .ne 11, 3) := by decide +kernel
theorem dX4_angle_8 : decode cX4_angle 8 = .ok (.new 41, 3) := by decide +kernel
theorem dX4_angle_11 : decode cX4_angle 11 = .ok (.dup, 1) := by decide +kernel
theorem dX4_angle_12 : decode cX4_angle 12 = .ok (.invokespecial 43, 3) := by decide +kernel
theorem dX4_angle_15 : decode cX4_angle 15 = .ok (.athrow, 1) := by decide +kernel
theorem dX4_angle_16 : decode cX4_angle 16 = .ok (.iload_n 1, 1) := by decide +kernel
theorem dX4_angle_17 : decode cX4_angle 17 = .ok (.ifCond .ne 9, 3) := by decide +kernel
theorem dX4_angle_20 : decode cX4_angle 20 = .ok (.iload_n 2, 1) := by decide +kernel
theorem dX4_angle_21 : decode cX4_angle 21 = .ok (.ifCond .ne 5, 3) := by decide +kernel
theorem dX4_angle_24 : decode cX4_angle 24 = .ok (.iconst 0, 1) := by decide +kernel
theorem dX4_angle_25 : decode cX4_angle 25 = .ok (.ireturn, 1) := by decide +kernel
theorem dX4_angle_26 : decode cX4_angle 26 = .ok (.aload_n 0, 1) := by decide +kernel
theorem dX4_angle_27 : decode cX4_angle 27 = .ok (.getfield 33, 3) := by decide +kernel
theorem dX4_angle_30 : decode cX4_angle 30 = .ok (.iload_n 1, 1) := by decide +kernel
theorem dX4_angle_31 : decode cX4_angle 31 = .ok (.i2l, 1) := by decide +kernel
theorem dX4_angle_32 : decode cX4_angle 32 = .ok (.iload_n 2, 1) := by decide +kernel
theorem dX4_angle_33 : decode cX4_angle 33 = .ok (.i2l, 1) := by decide +kernel
theorem dX4_angle_34 : decode cX4_angle 34 = .ok (.invokevirtual 111, 3) := by decide +kernel
theorem dX4_angle_37 : decode cX4_angle 37 = .ok (.aload_n 0, 1) := by decide +kernel
theorem dX4_angle_38 : decode cX4_angle 38 = .ok (.getfield 33, 3) := by decide +kernel
theorem dX4_angle_41 : decode cX4_angle 41 = .ok (.getfield 115, 3) := by decide +kernel
theorem dX4_angle_44 : decode cX4_angle 44 = .ok (.l2i, 1) := by decide +kernel
theorem dX4_angle_45 : decode cX4_angle 45 = .ok (.ireturn, 1) := by decide +kernel
theorem dX4_length_0 : decode cX4_length 0 = .ok (.iload_n 1, 1) := by decide +kernel
theorem dX4_length_1 : decode cX4_length 1 = .ok (.iload_n 2, 1) := by decide +kernel
theorem dX4_length_2 : decode cX4_length 2 = .ok (.invokestatic 108, 3) := by decide +kernel
theorem dX4_length_5 : decode cX4_length 5 = .ok (.ifCond .ne 11, 3) := by decide +kernel
theorem dX4_length_8 : decode cX4_length 8 = .ok (.new 41, 3) := by decide +kernel
theorem dX4_length_11 : decode cX4_length 11 = .ok (.dup, 1) := by decide +kernel
theorem dX4_length_12 : decode cX4_length 12 = .ok (.invokespecial 43, 3) := by decide +kernel
theorem dX4_length_15 : decode cX4_length 15 = .ok (.athrow, 1) := by decide +kernel
theorem dX4_length_16 : decode cX4_length 16 = .ok (.aload_n 0, 1) := by decide +kernel
theorem dX4_length_17 : decode cX4_length 17 = .ok (.getfield 33, 3) := by decide +kernel
theorem dX4_length_20 : decode cX4_length 20 = .ok (.iload_n 1, 1) := by decide +kernel
theorem dX4_length_21 : decode cX4_length 21 = .ok (.i2l, 1) := by decide +kernel
theorem dX4_length_22 : decode cX4_length 22 = .ok (.iload_n 2, 1) := by decide +kernel
theorem dX4_length_23 : decode cX4_length 23 = .ok (.i2l, 1) := by decide +kernel
theorem dX4_length_24 : decode cX4_length 24 = .ok (.invokevirtual 111, 3) := by decide +kernel
theorem dX4_length_27 : decode cX4_length 27 = .ok (.aload_n 0, 1) := by decide +kernel
theorem dX4_length_28 : decode cX4_length 28 = .ok (.getfield 33, 3) := by decide +kernel
theorem dX4_length_31 : decode cX4_length 31 = .ok (.getfield 101, 3) := by decide +kernel
theorem dX4_length_34 : decode cX4_length 34 = .ok (.ldc2_w 118, 3) := by decide +kernel
theorem dX4_length_37 : decode cX4_length 37 = .ok (.lmul, 1) := by decide +kernel
theorem dX4_length_38 : decode cX4_length 38 = .ok (.bipush 30, 2) := by decide +kernel
theorem dX4_length_40 : decode cX4_length 40 = .ok (.invokestatic 59, 3) := by decide +kernel
theorem dX4_length_43 : decode cX4_length 43 = .ok (.l2i, 1) := by decide +kernel
theorem dX4_length_44 : decode cX4_length 44 = .ok (.ireturn, 1) := by decide +kernel
theorem dX4_isWay_0 : decode cX4_isWay 0 = .ok (.iload_n 0, 1) := by decide +kernel
theorem dX4_isWay_1 : decode cX4_isWay 1 = .ok (.iconst 3, 1) := by decide +kernel
theorem dX4_isWay_2 : decode cX4_isWay 2 = .ok (.if_icmp .ne 20, 3) := by decide +kernel
theorem dX4_isWay_5 : decode cX4_isWay 5 = .ok (.iload_n 1, 1) := by decide +kernel
theorem dX4_isWay_6 : decode cX4_isWay 6 = .ok (.iload_n 2, 1) := by decide +kernel
theorem dX4_isWay_7 : decode cX4_isWay 7 = .ok (.ineg, 1) := by decide +kernel
theorem dX4_isWay_8 : decode cX4_isWay 8 = .ok (.if_icmp .lt 12, 3) := by decide +kernel
theorem dX4_isWay_11 : decode cX4_isWay 11 = .ok (.iload_n 1, 1) := by decide +kernel
theorem dX4_isWay_12 : decode cX4_isWay 12 = .ok (.iload_n 2, 1) := by decide +kernel
theorem dX4_isWay_13 : decode cX4_isWay 13 = .ok (.if_icmp .gt 7, 3) := by decide +kernel
theorem dX4_isWay_16 : decode cX4_isWay 16 = .ok (.iconst 1, 1) := by decide +kernel
theorem dX4_isWay_17 : decode cX4_isWay 17 = .ok (.goto 4, 3) := by decide +kernel
theorem dX4_isWay_20 : decode cX4_isWay 20 = .ok (.iconst 0, 1) := by decide +kernel
theorem dX4_isWay_21 : decode cX4_isWay 21 = .ok (.ireturn, 1) := by decide +kernel
theorem dX4_isWay_22 : decode cX4_isWay 22 = .ok (.iload_n 0, 1) := by decide +kernel
theorem dX4_isWay_23 : decode cX4_isWay 23 = .ok (.ifCond .lt 12, 3) := by decide +kernel
theorem dX4_isWay_26 : decode cX4_isWay 26 = .ok (.iload_n 0, 1) := by decide +kernel
theorem dX4_isWay_27 : decode cX4_isWay 27 = .ok (.iconst 5, 1) := by decide +kernel
theorem dX4_isWay_28 : decode cX4_isWay 28 = .ok (.if_icmp .gt 7, 3) := by decide +kernel
theorem dX4_isWay_31 : decode cX4_isWay 31 = .ok (.iconst 1, 1) := by decide +kernel
theorem dX4_isWay_32 : decode cX4_isWay 32 = .ok (.goto 4, 3) := by decide +kernel
theorem dX4_isWay_35 : decode cX4_isWay 35 = .ok (.iconst 0, 1) := by decide +kernel
theorem dX4_isWay_36 : decode cX4_isWay 36 = .ok (.ireturn, 1) := by decide +kernel
theorem dX4_isShort_0 : decode cX4_isShort 0 = .ok (.iload_n 0, 1) := by decide +kernel
theorem dX4_isShort_1 : decode cX4_isShort 1 = .ok (.sipush (-32768), 3) := by decide +kernel
theorem dX4_isShort_4 : decode cX4_isShort 4 = .ok (.if_icmp .lt 14, 3) := by decide +kernel
theorem dX4_isShort_7 : decode cX4_isShort 7 = .ok (.iload_n 0, 1) := by decide +kernel
theorem dX4_isShort_8 : decode cX4_isShort 8 = .ok (.sipush 32767, 3) := by decide +kernel
theorem dX4_isShort_11 : decode cX4_isShort 11 = .ok (.if_icmp .gt 7, 3) := by decide +kernel
theorem dX4_isShort_14 : decode cX4_isShort 14 = .ok (.iconst 1, 1) := by decide +kernel
theorem dX4_isShort_15 : decode cX4_isShort 15 = .ok (.goto 4, 3) := by decide +kernel
theorem dX4_isShort_18 : decode cX4_isShort 18 = .ok (.iconst 0, 1) := by decide +kernel
theorem dX4_isShort_19 : decode cX4_isShort 19 = .ok (.ireturn, 1) := by decide +kernel
theorem dX4_isWithin_0 : decode cX4_isWithin 0 = .ok (.iload_n 0, 1) := by decide +kernel
theorem dX4_isWithin_1 : decode cX4_isWithin 1 = .ok (.ifCond .lt 12, 3) := by decide +kernel
theorem dX4_isWithin_4 : decode cX4_isWithin 4 = .ok (.iload_n 0, 1) := by decide +kernel
theorem dX4_isWithin_5 : decode cX4_isWithin 5 = .ok (.iload_n 1, 1) := by decide +kernel
theorem dX4_isWithin_6 : decode cX4_isWithin 6 = .ok (.if_icmp .ge 7, 3) := by decide +kernel
theorem dX4_isWithin_9 : decode cX4_isWithin 9 = .ok (.iconst 1, 1) := by decide +kernel
theorem dX4_isWithin_10 : decode cX4_isWithin 10 = .ok (.goto 4, 3) := by decide +kernel
theorem dX4_isWithin_13 : decode cX4_isWithin 13 = .ok (.iconst 0, 1) := by decide +kernel
theorem dX4_isWithin_14 : decode cX4_isWithin 14 = .ok (.ireturn, 1) := by decide +kernel
theorem dX4_isPoint_0 : decode cX4_isPoint 0 = .ok (.iload_n 0, 1) := by decide +kernel
theorem dX4_isPoint_1 : decode cX4_isPoint 1 = .ok (.invokestatic 120, 3) := by decide +kernel
theorem dX4_isPoint_4 : decode cX4_isPoint 4 = .ok (.ifCond .eq 14, 3) := by decide +kernel
theorem dX4_isPoint_7 : decode cX4_isPoint 7 = .ok (.iload_n 1, 1) := by decide +kernel
theorem dX4_isPoint_8 : decode cX4_isPoint 8 = .ok (.invokestatic 120, 3) := by decide +kernel
theorem dX4_isPoint_11 : decode cX4_isPoint 11 = .ok (.ifCond .eq 7, 3) := by decide +kernel
theorem dX4_isPoint_14 : decode cX4_isPoint 14 = .ok (.iconst 1, 1) := by decide +kernel
theorem dX4_isPoint_15 : decode cX4_isPoint 15 = .ok (.goto 4, 3) := by decide +kernel
theorem dX4_isPoint_18 : decode cX4_isPoint 18 = .ok (.iconst 0, 1) := by decide +kernel
theorem dX4_isPoint_19 : decode cX4_isPoint 19 = .ok (.ireturn, 1) := by decide +kernel
theorem dX4_isCoordinate_0 : decode cX4_isCoordinate 0 = .ok (.iload_n 0, 1) := by decide +kernel
theorem dX4_isCoordinate_1 : decode cX4_isCoordinate 1 = .ok (.ldc 123, 2) := by decide +kernel
theorem dX4_isCoordinate_3 : decode cX4_isCoordinate 3 = .ok (.if_icmp .lt 13, 3) := by decide +kernel
theorem dX4_isCoordinate_6 : decode cX4_isCoordinate 6 = .ok (.iload_n 0, 1) := by decide +kernel
theorem dX4_isCoordinate_7 : decode cX4_isCoordinate 7 = .ok (.ldc 124, 2) := by decide +kernel
theorem dX4_isCoordinate_9 : decode cX4_isCoordinate 9 = .ok (.if_icmp .gt 7, 3) := by decide +kernel
theorem dX4_isCoordinate_12 : decode cX4_isCoordinate 12 = .ok (.iconst 1, 1) := by decide +kernel
theorem dX4_isCoordinate_13 : decode cX4_isCoordinate 13 = .ok (.goto 4, 3) := by decide +kernel
theorem dX4_isCoordinate_16 : decode cX4_isCoordinate 16 = .ok (.iconst 0, 1) := by decide +kernel
theorem dX4_isCoordinate_17 : decode cX4_isCoordinate 17 = .ok (.ireturn, 1) := by decide +kernel
theorem dX4_reckoned_0 : decode cX4_reckoned 0 = .ok (.iload_n 0, 1) := by decide +kernel
theorem dX4_reckoned_1 : decode cX4_reckoned 1 = .ok (.tableswitch 62 0 4 #[35, 39, 43, 52, 59], 35) := by decide +kernel
theorem dX4_reckoned_36 : decode cX4_reckoned 36 = .ok (.lload_n 1, 1) := by decide +kernel
theorem dX4_reckoned_37 : decode cX4_reckoned 37 = .ok (.lload_n 3, 1) := by decide +kernel
theorem dX4_reckoned_38 : decode cX4_reckoned 38 = .ok (.ladd, 1) := by decide +kernel
theorem dX4_reckoned_39 : decode cX4_reckoned 39 = .ok (.lreturn, 1) := by decide +kernel
theorem dX4_reckoned_40 : decode cX4_reckoned 40 = .ok (.lload_n 1, 1) := by decide +kernel
theorem dX4_reckoned_41 : decode cX4_reckoned 41 = .ok (.lload_n 3, 1) := by decide +kernel
theorem dX4_reckoned_42 : decode cX4_reckoned 42 = .ok (.lsub, 1) := by decide +kernel
theorem dX4_reckoned_43 : decode cX4_reckoned 43 = .ok (.lreturn, 1) := by decide +kernel
theorem dX4_reckoned_44 : decode cX4_reckoned 44 = .ok (.lload_n 1, 1) := by decide +kernel
theorem dX4_reckoned_45 : decode cX4_reckoned 45 = .ok (.lload_n 3, 1) := by decide +kernel
theorem dX4_reckoned_46 : decode cX4_reckoned 46 = .ok (.lmul, 1) := by decide +kernel
theorem dX4_reckoned_47 : decode cX4_reckoned 47 = .ok (.iload 5, 2) := by decide +kernel
theorem dX4_reckoned_49 : decode cX4_reckoned 49 = .ok (.invokestatic 59, 3) := by decide +kernel
theorem dX4_reckoned_52 : decode cX4_reckoned 52 = .ok (.lreturn, 1) := by decide +kernel
theorem dX4_reckoned_53 : decode cX4_reckoned 53 = .ok (.lload_n 1, 1) := by decide +kernel
theorem dX4_reckoned_54 : decode cX4_reckoned 54 = .ok (.lload_n 3, 1) := by decide +kernel
theorem dX4_reckoned_55 : decode cX4_reckoned 55 = .ok (.l2i, 1) := by decide +kernel
theorem dX4_reckoned_56 : decode cX4_reckoned 56 = .ok (.invokestatic 125, 3) := by decide +kernel
theorem dX4_reckoned_59 : decode cX4_reckoned 59 = .ok (.lreturn, 1) := by decide +kernel
theorem dX4_reckoned_60 : decode cX4_reckoned 60 = .ok (.lload_n 1, 1) := by decide +kernel
theorem dX4_reckoned_61 : decode cX4_reckoned 61 = .ok (.lneg, 1) := by decide +kernel
theorem dX4_reckoned_62 : decode cX4_reckoned 62 = .ok (.lreturn, 1) := by decide +kernel
theorem dX4_reckoned_63 : decode cX4_reckoned 63 = .ok (.lload_n 1, 1) := by decide +kernel
theorem dX4_reckoned_64 : decode cX4_reckoned 64 = .ok (.invokestatic 128, 3) := by decide +kernel
theorem dX4_reckoned_67 : decode cX4_reckoned 67 = .ok (.lreturn, 1) := by decide +kernel
theorem dX4_moved_0 : decode cX4_moved 0 = .ok (.iload_n 2, 1) := by decide +kernel
theorem dX4_moved_1 : decode cX4_moved 1 = .ok (.ifCond .lt 9, 3) := by decide +kernel
theorem dX4_moved_4 : decode cX4_moved 4 = .ok (.lload_n 0, 1) := by decide +kernel
theorem dX4_moved_5 : decode cX4_moved 5 = .ok (.iload_n 2, 1) := by decide +kernel
theorem dX4_moved_6 : decode cX4_moved 6 = .ok (.lshl, 1) := by decide +kernel
theorem dX4_moved_7 : decode cX4_moved 7 = .ok (.goto 9, 3) := by decide +kernel
theorem dX4_moved_10 : decode cX4_moved 10 = .ok (.lload_n 0, 1) := by decide +kernel
theorem dX4_moved_11 : decode cX4_moved 11 = .ok (.iload_n 2, 1) := by decide +kernel
theorem dX4_moved_12 : decode cX4_moved 12 = .ok (.ineg, 1) := by decide +kernel
theorem dX4_moved_13 : decode cX4_moved 13 = .ok (.invokestatic 59, 3) := by decide +kernel
theorem dX4_moved_16 : decode cX4_moved 16 = .ok (.lreturn, 1) := by decide +kernel
theorem dX4_sizeOf_0 : decode cX4_sizeOf 0 = .ok (.lload_n 0, 1) := by decide +kernel
theorem dX4_sizeOf_1 : decode cX4_sizeOf 1 = .ok (.lconst 0, 1) := by decide +kernel
theorem dX4_sizeOf_2 : decode cX4_sizeOf 2 = .ok (.lcmp, 1) := by decide +kernel
theorem dX4_sizeOf_3 : decode cX4_sizeOf 3 = .ok (.ifCond .ge 8, 3) := by decide +kernel
theorem dX4_sizeOf_6 : decode cX4_sizeOf 6 = .ok (.lload_n 0, 1) := by decide +kernel
theorem dX4_sizeOf_7 : decode cX4_sizeOf 7 = .ok (.lneg, 1) := by decide +kernel
theorem dX4_sizeOf_8 : decode cX4_sizeOf 8 = .ok (.goto 4, 3) := by decide +kernel
theorem dX4_sizeOf_11 : decode cX4_sizeOf 11 = .ok (.lload_n 0, 1) := by decide +kernel
theorem dX4_sizeOf_12 : decode cX4_sizeOf 12 = .ok (.lreturn, 1) := by decide +kernel
theorem dX4_rounded_0 : decode cX4_rounded 0 = .ok (.lload_n 0, 1) := by decide +kernel
theorem dX4_rounded_1 : decode cX4_rounded 1 = .ok (.lconst 1, 1) := by decide +kernel
theorem dX4_rounded_2 : decode cX4_rounded 2 = .ok (.iload_n 2, 1) := by decide +kernel
theorem dX4_rounded_3 : decode cX4_rounded 3 = .ok (.iconst 1, 1) := by decide +kernel
theorem dX4_rounded_4 : decode cX4_rounded 4 = .ok (.isub, 1) := by decide +kernel
theorem dX4_rounded_5 : decode cX4_rounded 5 = .ok (.lshl, 1) := by decide +kernel
theorem dX4_rounded_6 : decode cX4_rounded 6 = .ok (.ladd, 1) := by decide +kernel
theorem dX4_rounded_7 : decode cX4_rounded 7 = .ok (.iload_n 2, 1) := by decide +kernel
theorem dX4_rounded_8 : decode cX4_rounded 8 = .ok (.lshr, 1) := by decide +kernel
theorem dX4_rounded_9 : decode cX4_rounded 9 = .ok (.lreturn, 1) := by decide +kernel
theorem dX4_satLong_0 : decode cX4_satLong 0 = .ok (.ldc2_w 132, 3) := by decide +kernel
theorem dX4_satLong_3 : decode cX4_satLong 3 = .ok (.ldc2_w 134, 3) := by decide +kernel
theorem dX4_satLong_6 : decode cX4_satLong 6 = .ok (.lload_n 0, 1) := by decide +kernel
theorem dX4_satLong_7 : decode cX4_satLong 7 = .ok (.invokestatic 136, 3) := by decide +kernel
theorem dX4_satLong_10 : decode cX4_satLong 10 = .ok (.invokestatic 142, 3) := by decide +kernel
theorem dX4_satLong_13 : decode cX4_satLong 13 = .ok (.l2i, 1) := by decide +kernel
theorem dX4_satLong_14 : decode cX4_satLong 14 = .ok (.ireturn, 1) := by decide +kernel
theorem dX4_satShort_0 : decode cX4_satShort 0 = .ok (.ldc2_w 145, 3) := by decide +kernel
theorem dX4_satShort_3 : decode cX4_satShort 3 = .ok (.ldc2_w 147, 3) := by decide +kernel
theorem dX4_satShort_6 : decode cX4_satShort 6 = .ok (.lload_n 0, 1) := by decide +kernel
theorem dX4_satShort_7 : decode cX4_satShort 7 = .ok (.invokestatic 136, 3) := by decide +kernel
theorem dX4_satShort_10 : decode cX4_satShort 10 = .ok (.invokestatic 142, 3) := by decide +kernel
theorem dX4_satShort_13 : decode cX4_satShort 13 = .ok (.l2i, 1) := by decide +kernel
theorem dX4_satShort_14 : decode cX4_satShort 14 = .ok (.ireturn, 1) := by decide +kernel
theorem dL_work_0 : decode cL_work 0 = .ok (.aload 4, 2) := by decide +kernel
theorem dL_work_2 : decode cL_work 2 = .ok (.iconst 0, 1) := by decide +kernel
theorem dL_work_3 : decode cL_work 3 = .ok (.aload_n 0, 1) := by decide +kernel
theorem dL_work_4 : decode cL_work 4 = .ok (.iload_n 1, 1) := by decide +kernel
theorem dL_work_5 : decode cL_work 5 = .ok (.iload_n 2, 1) := by decide +kernel
theorem dL_work_6 : decode cL_work 6 = .ok (.iload_n 3, 1) := by decide +kernel
theorem dL_work_7 : decode cL_work 7 = .ok (.invokevirtual 7, 3) := by decide +kernel
theorem dL_work_10 : decode cL_work 10 = .ok (.i2l, 1) := by decide +kernel
theorem dL_work_11 : decode cL_work 11 = .ok (.lastore, 1) := by decide +kernel
theorem dL_work_12 : decode cL_work 12 = .ok (.goto 7, 3) := by decide +kernel
theorem dL_work_15 : decode cL_work 15 = .ok (.astore 5, 2) := by decide +kernel
theorem dL_work_17 : decode cL_work 17 = .ok (.iconst 1, 1) := by decide +kernel
theorem dL_work_18 : decode cL_work 18 = .ok (.ireturn, 1) := by decide +kernel
theorem dL_work_19 : decode cL_work 19 = .ok (.iconst 0, 1) := by decide +kernel
theorem dL_work_20 : decode cL_work 20 = .ok (.ireturn, 1) := by decide +kernel
theorem dL_small_0 : decode cL_small 0 = .ok (.aload 4, 2) := by decide +kernel
theorem dL_small_2 : decode cL_small 2 = .ok (.iconst 0, 1) := by decide +kernel
theorem dL_small_3 : decode cL_small 3 = .ok (.aload_n 0, 1) := by decide +kernel
theorem dL_small_4 : decode cL_small 4 = .ok (.iload_n 1, 1) := by decide +kernel
theorem dL_small_5 : decode cL_small 5 = .ok (.iload_n 2, 1) := by decide +kernel
theorem dL_small_6 : decode cL_small 6 = .ok (.iload_n 3, 1) := by decide +kernel
theorem dL_small_7 : decode cL_small 7 = .ok (.invokevirtual 15, 3) := by decide +kernel
theorem dL_small_10 : decode cL_small 10 = .ok (.i2l, 1) := by decide +kernel
theorem dL_small_11 : decode cL_small 11 = .ok (.lastore, 1) := by decide +kernel
theorem dL_small_12 : decode cL_small 12 = .ok (.goto 7, 3) := by decide +kernel
theorem dL_small_15 : decode cL_small 15 = .ok (.astore 5, 2) := by decide +kernel
theorem dL_small_17 : decode cL_small 17 = .ok (.iconst 1, 1) := by decide +kernel
theorem dL_small_18 : decode cL_small 18 = .ok (.ireturn, 1) := by decide +kernel
theorem dL_small_19 : decode cL_small 19 = .ok (.iconst 0, 1) := by decide +kernel
theorem dL_small_20 : decode cL_small 20 = .ok (.ireturn, 1) := by decide +kernel
theorem dL_tap_0 : decode cL_tap 0 = .ok (.aload_n 0, 1) := by decide +kernel
theorem dL_tap_1 : decode cL_tap 1 = .ok (.iload_n 1, 1) := by decide +kernel
theorem dL_tap_2 : decode cL_tap 2 = .ok (.iload_n 2, 1) := by decide +kernel
theorem dL_tap_3 : decode cL_tap 3 = .ok (.invokevirtual 18, 3) := by decide +kernel
theorem dL_tap_6 : decode cL_tap 6 = .ok (.goto 6, 3) := by decide +kernel
theorem dL_tap_9 : decode cL_tap 9 = .ok (.astore_n 3, 1) := by decide +kernel
theorem dL_tap_10 : decode cL_tap 10 = .ok (.iconst 1, 1) := by decide +kernel
theorem dL_tap_11 : decode cL_tap 11 = .ok (.ireturn, 1) := by decide +kernel
theorem dL_tap_12 : decode cL_tap 12 = .ok (.iconst 0, 1) := by decide +kernel
theorem dL_tap_13 : decode cL_tap 13 = .ok (.ireturn, 1) := by decide +kernel
theorem dL_filter_0 : decode cL_filter 0 = .ok (.aload_n 2, 1) := by decide +kernel
theorem dL_filter_1 : decode cL_filter 1 = .ok (.iconst 0, 1) := by decide +kernel
theorem dL_filter_2 : decode cL_filter 2 = .ok (.aload_n 0, 1) := by decide +kernel
theorem dL_filter_3 : decode cL_filter 3 = .ok (.iload_n 1, 1) := by decide +kernel
theorem dL_filter_4 : decode cL_filter 4 = .ok (.invokevirtual 22, 3) := by decide +kernel
theorem dL_filter_7 : decode cL_filter 7 = .ok (.i2l, 1) := by decide +kernel
theorem dL_filter_8 : decode cL_filter 8 = .ok (.lastore, 1) := by decide +kernel
theorem dL_filter_9 : decode cL_filter 9 = .ok (.goto 6, 3) := by decide +kernel
theorem dL_filter_12 : decode cL_filter 12 = .ok (.astore_n 3, 1) := by decide +kernel
theorem dL_filter_13 : decode cL_filter 13 = .ok (.iconst 1, 1) := by decide +kernel
theorem dL_filter_14 : decode cL_filter 14 = .ok (.ireturn, 1) := by decide +kernel
theorem dL_filter_15 : decode cL_filter 15 = .ok (.iconst 0, 1) := by decide +kernel
theorem dL_filter_16 : decode cL_filter 16 = .ok (.ireturn, 1) := by decide +kernel
theorem dL_stage_0 : decode cL_stage 0 = .ok (.aload_n 0, 1) := by decide +kernel
theorem dL_stage_1 : decode cL_stage 1 = .ok (.iload_n 1, 1) := by decide +kernel
theorem dL_stage_2 : decode cL_stage 2 = .ok (.iload_n 2, 1) := by decide +kernel
theorem dL_stage_3 : decode cL_stage 3 = .ok (.iload_n 3, 1) := by decide +kernel
theorem dL_stage_4 : decode cL_stage 4 = .ok (.invokevirtual 26, 3) := by decide +kernel
theorem dL_stage_7 : decode cL_stage 7 = .ok (.goto 7, 3) := by decide +kernel
theorem dL_stage_10 : decode cL_stage 10 = .ok (.astore 4, 2) := by decide +kernel
theorem dL_stage_12 : decode cL_stage 12 = .ok (.iconst 1, 1) := by decide +kernel
theorem dL_stage_13 : decode cL_stage 13 = .ok (.ireturn, 1) := by decide +kernel
theorem dL_stage_14 : decode cL_stage 14 = .ok (.iconst 0, 1) := by decide +kernel
theorem dL_stage_15 : decode cL_stage 15 = .ok (.ireturn, 1) := by decide +kernel
theorem dL_chain_0 : decode cL_chain 0 = .ok (.aload_n 2, 1) := by decide +kernel
theorem dL_chain_1 : decode cL_chain 1 = .ok (.iconst 0, 1) := by decide +kernel
theorem dL_chain_2 : decode cL_chain 2 = .ok (.aload_n 0, 1) := by decide +kernel
theorem dL_chain_3 : decode cL_chain 3 = .ok (.iload_n 1, 1) := by decide +kernel
theorem dL_chain_4 : decode cL_chain 4 = .ok (.invokevirtual 30, 3) := by decide +kernel
theorem dL_chain_7 : decode cL_chain 7 = .ok (.i2l, 1) := by decide +kernel
theorem dL_chain_8 : decode cL_chain 8 = .ok (.lastore, 1) := by decide +kernel
theorem dL_chain_9 : decode cL_chain 9 = .ok (.goto 6, 3) := by decide +kernel
theorem dL_chain_12 : decode cL_chain 12 = .ok (.astore_n 3, 1) := by decide +kernel
theorem dL_chain_13 : decode cL_chain 13 = .ok (.iconst 1, 1) := by decide +kernel
theorem dL_chain_14 : decode cL_chain 14 = .ok (.ireturn, 1) := by decide +kernel
theorem dL_chain_15 : decode cL_chain 15 = .ok (.iconst 0, 1) := by decide +kernel
theorem dL_chain_16 : decode cL_chain 16 = .ok (.ireturn, 1) := by decide +kernel
theorem dL_put_0 : decode cL_put 0 = .ok (.aload_n 0, 1) := by decide +kernel
theorem dL_put_1 : decode cL_put 1 = .ok (.iload_n 1, 1) := by decide +kernel
theorem dL_put_2 : decode cL_put 2 = .ok (.iload_n 2, 1) := by decide +kernel
theorem dL_put_3 : decode cL_put 3 = .ok (.iload_n 3, 1) := by decide +kernel
theorem dL_put_4 : decode cL_put 4 = .ok (.invokevirtual 33, 3) := by decide +kernel
theorem dL_put_7 : decode cL_put 7 = .ok (.goto 7, 3) := by decide +kernel
theorem dL_put_10 : decode cL_put 10 = .ok (.astore 4, 2) := by decide +kernel
theorem dL_put_12 : decode cL_put 12 = .ok (.iconst 1, 1) := by decide +kernel
theorem dL_put_13 : decode cL_put 13 = .ok (.ireturn, 1) := by decide +kernel
theorem dL_put_14 : decode cL_put 14 = .ok (.iconst 0, 1) := by decide +kernel
theorem dL_put_15 : decode cL_put 15 = .ok (.ireturn, 1) := by decide +kernel
theorem dL_transform_0 : decode cL_transform 0 = .ok (.aload_n 3, 1) := by decide +kernel
theorem dL_transform_1 : decode cL_transform 1 = .ok (.iconst 0, 1) := by decide +kernel
theorem dL_transform_2 : decode cL_transform 2 = .ok (.aload_n 0, 1) := by decide +kernel
theorem dL_transform_3 : decode cL_transform 3 = .ok (.iload_n 1, 1) := by decide +kernel
theorem dL_transform_4 : decode cL_transform 4 = .ok (.iload_n 2, 1) := by decide +kernel
theorem dL_transform_5 : decode cL_transform 5 = .ok (.invokevirtual 36, 3) := by decide +kernel
theorem dL_transform_8 : decode cL_transform 8 = .ok (.i2l, 1) := by decide +kernel
theorem dL_transform_9 : decode cL_transform 9 = .ok (.lastore, 1) := by decide +kernel
theorem dL_transform_10 : decode cL_transform 10 = .ok (.goto 7, 3) := by decide +kernel
theorem dL_transform_13 : decode cL_transform 13 = .ok (.astore 4, 2) := by decide +kernel
theorem dL_transform_15 : decode cL_transform 15 = .ok (.iconst 1, 1) := by decide +kernel
theorem dL_transform_16 : decode cL_transform 16 = .ok (.ireturn, 1) := by decide +kernel
theorem dL_transform_17 : decode cL_transform 17 = .ok (.iconst 0, 1) := by decide +kernel
theorem dL_transform_18 : decode cL_transform 18 = .ok (.ireturn, 1) := by decide +kernel
theorem dL_get_0 : decode cL_get 0 = .ok (.aload_n 3, 1) := by decide +kernel
theorem dL_get_1 : decode cL_get 1 = .ok (.iconst 0, 1) := by decide +kernel
theorem dL_get_2 : decode cL_get 2 = .ok (.aload_n 0, 1) := by decide +kernel
theorem dL_get_3 : decode cL_get 3 = .ok (.iload_n 1, 1) := by decide +kernel
theorem dL_get_4 : decode cL_get 4 = .ok (.iload_n 2, 1) := by decide +kernel
theorem dL_get_5 : decode cL_get 5 = .ok (.invokevirtual 40, 3) := by decide +kernel
theorem dL_get_8 : decode cL_get 8 = .ok (.i2l, 1) := by decide +kernel
theorem dL_get_9 : decode cL_get 9 = .ok (.lastore, 1) := by decide +kernel
theorem dL_get_10 : decode cL_get 10 = .ok (.goto 7, 3) := by decide +kernel
theorem dL_get_13 : decode cL_get 13 = .ok (.astore 4, 2) := by decide +kernel
theorem dL_get_15 : decode cL_get 15 = .ok (.iconst 1, 1) := by decide +kernel
theorem dL_get_16 : decode cL_get 16 = .ok (.ireturn, 1) := by decide +kernel
theorem dL_get_17 : decode cL_get 17 = .ok (.iconst 0, 1) := by decide +kernel
theorem dL_get_18 : decode cL_get 18 = .ok (.ireturn, 1) := by decide +kernel
theorem dL_angle_0 : decode cL_angle 0 = .ok (.aload_n 3, 1) := by decide +kernel
theorem dL_angle_1 : decode cL_angle 1 = .ok (.iconst 0, 1) := by decide +kernel
theorem dL_angle_2 : decode cL_angle 2 = .ok (.aload_n 0, 1) := by decide +kernel
theorem dL_angle_3 : decode cL_angle 3 = .ok (.iload_n 1, 1) := by decide +kernel
theorem dL_angle_4 : decode cL_angle 4 = .ok (.iload_n 2, 1) := by decide +kernel
theorem dL_angle_5 : decode cL_angle 5 = .ok (.invokevirtual 43, 3) := by decide +kernel
theorem dL_angle_8 : decode cL_angle 8 = .ok (.i2l, 1) := by decide +kernel
theorem dL_angle_9 : decode cL_angle 9 = .ok (.lastore, 1) := by decide +kernel
theorem dL_angle_10 : decode cL_angle 10 = .ok (.goto 7, 3) := by decide +kernel
theorem dL_angle_13 : decode cL_angle 13 = .ok (.astore 4, 2) := by decide +kernel
theorem dL_angle_15 : decode cL_angle 15 = .ok (.iconst 1, 1) := by decide +kernel
theorem dL_angle_16 : decode cL_angle 16 = .ok (.ireturn, 1) := by decide +kernel
theorem dL_angle_17 : decode cL_angle 17 = .ok (.iconst 0, 1) := by decide +kernel
theorem dL_angle_18 : decode cL_angle 18 = .ok (.ireturn, 1) := by decide +kernel
theorem dL_length_0 : decode cL_length 0 = .ok (.aload_n 3, 1) := by decide +kernel
theorem dL_length_1 : decode cL_length 1 = .ok (.iconst 0, 1) := by decide +kernel
theorem dL_length_2 : decode cL_length 2 = .ok (.aload_n 0, 1) := by decide +kernel
theorem dL_length_3 : decode cL_length 3 = .ok (.iload_n 1, 1) := by decide +kernel
theorem dL_length_4 : decode cL_length 4 = .ok (.iload_n 2, 1) := by decide +kernel
theorem dL_length_5 : decode cL_length 5 = .ok (.invokevirtual 47, 3) := by decide +kernel
theorem dL_length_8 : decode cL_length 8 = .ok (.i2l, 1) := by decide +kernel
theorem dL_length_9 : decode cL_length 9 = .ok (.lastore, 1) := by decide +kernel
theorem dL_length_10 : decode cL_length 10 = .ok (.goto 7, 3) := by decide +kernel
theorem dL_length_13 : decode cL_length 13 = .ok (.astore 4, 2) := by decide +kernel
theorem dL_length_15 : decode cL_length 15 = .ok (.iconst 1, 1) := by decide +kernel
theorem dL_length_16 : decode cL_length 16 = .ok (.ireturn, 1) := by decide +kernel
theorem dL_length_17 : decode cL_length 17 = .ok (.iconst 0, 1) := by decide +kernel
theorem dL_length_18 : decode cL_length 18 = .ok (.ireturn, 1) := by decide +kernel
end
section
theorem dX5_init_0 : decode cX5_init 0 = .ok (.aload_n 0, 1) := by decide +kernel
theorem dX5_init_1 : decode cX5_init 1 = .ok (.invokespecial 1, 3) := by decide +kernel
theorem dX5_init_4 : decode cX5_init 4 = .ok (.aload_n 0, 1) := by decide +kernel
theorem dX5_init_5 : decode cX5_init 5 = .ok (.bipush 16, 2) := by decide +kernel
theorem dX5_init_7 : decode cX5_init 7 = .ok (.newarray .int, 2) := by decide +kernel
theorem dX5_init_9 : decode cX5_init 9 = .ok (.putfield 7, 3) := by decide +kernel
theorem dX5_init_12 : decode cX5_init 12 = .ok (.aload_n 0, 1) := by decide +kernel
theorem dX5_init_13 : decode cX5_init 13 = .ok (.bipush 16, 2) := by decide +kernel
theorem dX5_init_15 : decode cX5_init 15 = .ok (.newarray .int, 2) := by decide +kernel
theorem dX5_init_17 : decode cX5_init 17 = .ok (.putfield 13, 3) := by decide +kernel
theorem dX5_init_20 : decode cX5_init 20 = .ok (.aload_n 0, 1) := by decide +kernel
theorem dX5_init_21 : decode cX5_init 21 = .ok (.bipush 20, 2) := by decide +kernel
theorem dX5_init_23 : decode cX5_init 23 = .ok (.newarray .int, 2) := by decide +kernel
theorem dX5_init_25 : decode cX5_init 25 = .ok (.putfield 16, 3) := by decide +kernel
theorem dX5_init_28 : decode cX5_init 28 = .ok (.aload_n 0, 1) := by decide +kernel
theorem dX5_init_29 : decode cX5_init 29 = .ok (.bipush 16, 2) := by decide +kernel
theorem dX5_init_31 : decode cX5_init 31 = .ok (.newarray .int, 2) := by decide +kernel
theorem dX5_init_33 : decode cX5_init 33 = .ok (.putfield 19, 3) := by decide +kernel
theorem dX5_init_36 : decode cX5_init 36 = .ok (.aload_n 0, 1) := by decide +kernel
theorem dX5_init_37 : decode cX5_init 37 = .ok (.bipush 64, 2) := by decide +kernel
theorem dX5_init_39 : decode cX5_init 39 = .ok (.newarray .long, 2) := by decide +kernel
theorem dX5_init_41 : decode cX5_init 41 = .ok (.putfield 22, 3) := by decide +kernel
theorem dX5_init_44 : decode cX5_init 44 = .ok (.aload_n 0, 1) := by decide +kernel
theorem dX5_init_45 : decode cX5_init 45 = .ok (.bipush 64, 2) := by decide +kernel
theorem dX5_init_47 : decode cX5_init 47 = .ok (.newarray .long, 2) := by decide +kernel
theorem dX5_init_49 : decode cX5_init 49 = .ok (.putfield 26, 3) := by decide +kernel
theorem dX5_init_52 : decode cX5_init 52 = .ok (.iconst 0, 1) := by decide +kernel
theorem dX5_init_53 : decode cX5_init 53 = .ok (.istore_n 1, 1) := by decide +kernel
theorem dX5_init_54 : decode cX5_init 54 = .ok (.iload_n 1, 1) := by decide +kernel
theorem dX5_init_55 : decode cX5_init 55 = .ok (.iconst 4, 1) := by decide +kernel
theorem dX5_init_56 : decode cX5_init 56 = .ok (.if_icmp .ge 20, 3) := by decide +kernel
theorem dX5_init_59 : decode cX5_init 59 = .ok (.aload_n 0, 1) := by decide +kernel
theorem dX5_init_60 : decode cX5_init 60 = .ok (.getfield 16, 3) := by decide +kernel
theorem dX5_init_63 : decode cX5_init 63 = .ok (.iconst 5, 1) := by decide +kernel
theorem dX5_init_64 : decode cX5_init 64 = .ok (.iload_n 1, 1) := by decide +kernel
theorem dX5_init_65 : decode cX5_init 65 = .ok (.imul, 1) := by decide +kernel
theorem dX5_init_66 : decode cX5_init 66 = .ok (.sipush 16384, 3) := by decide +kernel
theorem dX5_init_69 : decode cX5_init 69 = .ok (.iastore, 1) := by decide +kernel
theorem dX5_init_70 : decode cX5_init 70 = .ok (.iinc 1 1, 3) := by decide +kernel
theorem dX5_init_73 : decode cX5_init 73 = .ok (.goto (-19), 3) := by decide +kernel
theorem dX5_init_76 : decode cX5_init 76 = .ok (.return_, 1) := by decide +kernel
theorem dX5_thrown_0 : decode cX5_thrown 0 = .ok (.aload_n 0, 1) := by decide +kernel
theorem dX5_thrown_1 : decode cX5_thrown 1 = .ok (.getfield 29, 3) := by decide +kernel
theorem dX5_thrown_4 : decode cX5_thrown 4 = .ok (.ireturn, 1) := by decide +kernel
theorem dX5_refused_0 : decode cX5_refused 0 = .ok (.aload_n 0, 1) := by decide +kernel
theorem dX5_refused_1 : decode cX5_refused 1 = .ok (.iload_n 1, 1) := by decide +kernel
theorem dX5_refused_2 : decode cX5_refused 2 = .ok (.putfield 29, 3) := by decide +kernel
theorem dX5_refused_5 : decode cX5_refused 5 = .ok (.iload_n 1, 1) := by decide +kernel
theorem dX5_refused_6 : decode cX5_refused 6 = .ok (.ifCond .le 7, 3) := by decide +kernel
theorem dX5_refused_9 : decode cX5_refused 9 = .ok (.iconst 1, 1) := by decide +kernel
theorem dX5_refused_10 : decode cX5_refused 10 = .ok (.goto 4, 3) := by decide +kernel
theorem dX5_refused_13 : decode cX5_refused 13 = .ok (.iconst 0, 1) := by decide +kernel
theorem dX5_refused_14 : decode cX5_refused 14 = .ok (.ireturn, 1) := by decide +kernel
theorem dX5_isIn_0 : decode cX5_isIn 0 = .ok (.iload_n 0, 1) := by decide +kernel
theorem dX5_isIn_1 : decode cX5_isIn 1 = .ok (.iload_n 1, 1) := by decide +kernel
theorem dX5_isIn_2 : decode cX5_isIn 2 = .ok (.if_icmp .lt 12, 3) := by decide +kernel
theorem dX5_isIn_5 : decode cX5_isIn 5 = .ok (.iload_n 0, 1) := by decide +kernel
theorem dX5_isIn_6 : decode cX5_isIn 6 = .ok (.iload_n 2, 1) := by decide +kernel
theorem dX5_isIn_7 : decode cX5_isIn 7 = .ok (.if_icmp .gt 7, 3) := by decide +kernel
theorem dX5_isIn_10 : decode cX5_isIn 10 = .ok (.iconst 1, 1) := by decide +kernel
theorem dX5_isIn_11 : decode cX5_isIn 11 = .ok (.goto 4, 3) := by decide +kernel
theorem dX5_isIn_14 : decode cX5_isIn 14 = .ok (.iconst 0, 1) := by decide +kernel
theorem dX5_isIn_15 : decode cX5_isIn 15 = .ok (.ireturn, 1) := by decide +kernel
theorem dX5_isShort_0 : decode cX5_isShort 0 = .ok (.iload_n 0, 1) := by decide +kernel
theorem dX5_isShort_1 : decode cX5_isShort 1 = .ok (.sipush (-32768), 3) := by decide +kernel
theorem dX5_isShort_4 : decode cX5_isShort 4 = .ok (.if_icmp .lt 14, 3) := by decide +kernel
theorem dX5_isShort_7 : decode cX5_isShort 7 = .ok (.iload_n 0, 1) := by decide +kernel
theorem dX5_isShort_8 : decode cX5_isShort 8 = .ok (.sipush 32767, 3) := by decide +kernel
theorem dX5_isShort_11 : decode cX5_isShort 11 = .ok (.if_icmp .gt 7, 3) := by decide +kernel
theorem dX5_isShort_14 : decode cX5_isShort 14 = .ok (.iconst 1, 1) := by decide +kernel
theorem dX5_isShort_15 : decode cX5_isShort 15 = .ok (.goto 4, 3) := by decide +kernel
theorem dX5_isShort_18 : decode cX5_isShort 18 = .ok (.iconst 0, 1) := by decide +kernel
theorem dX5_isShort_19 : decode cX5_isShort 19 = .ok (.ireturn, 1) := by decide +kernel
theorem dX5_rounded_0 : decode cX5_rounded 0 = .ok (.iload_n 2, 1) := by decide +kernel
theorem dX5_rounded_1 : decode cX5_rounded 1 = .ok (.ifCond .ne 7, 3) := by decide +kernel
theorem dX5_rounded_4 : decode cX5_rounded 4 = .ok (.lload_n 0, 1) := by decide +kernel
theorem dX5_rounded_5 : decode cX5_rounded 5 = .ok (.goto 12, 3) := by decide +kernel
theorem dX5_rounded_8 : decode cX5_rounded 8 = .ok (.lload_n 0, 1) := by decide +kernel
theorem dX5_rounded_9 : decode cX5_rounded 9 = .ok (.lconst 1, 1) := by decide +kernel
theorem dX5_rounded_10 : decode cX5_rounded 10 = .ok (.iload_n 2, 1) := by decide +kernel
theorem dX5_rounded_11 : decode cX5_rounded 11 = .ok (.iconst 1, 1) := by decide +kernel
theorem dX5_rounded_12 : decode cX5_rounded 12 = .ok (.isub, 1) := by decide +kernel
theorem dX5_rounded_13 : decode cX5_rounded 13 = .ok (.lshl, 1) := by decide +kernel
theorem dX5_rounded_14 : decode cX5_rounded 14 = .ok (.ladd, 1) := by decide +kernel
theorem dX5_rounded_15 : decode cX5_rounded 15 = .ok (.iload_n 2, 1) := by decide +kernel
theorem dX5_rounded_16 : decode cX5_rounded 16 = .ok (.lshr, 1) := by decide +kernel
theorem dX5_rounded_17 : decode cX5_rounded 17 = .ok (.lreturn, 1) := by decide +kernel
theorem dX5_within_0 : decode cX5_within 0 = .ok (.lload_n 0, 1) := by decide +kernel
theorem dX5_within_1 : decode cX5_within 1 = .ok (.lload_n 2, 1) := by decide +kernel
theorem dX5_within_2 : decode cX5_within 2 = .ok (.lcmp, 1) := by decide +kernel
theorem dX5_within_3 : decode cX5_within 3 = .ok (.ifCond .le 7, 3) := by decide +kernel
theorem dX5_within_6 : decode cX5_within 6 = .ok (.lload_n 2, 1) := by decide +kernel
theorem dX5_within_7 : decode cX5_within 7 = .ok (.goto 20, 3) := by decide +kernel
theorem dX5_within_10 : decode cX5_within 10 = .ok (.lload_n 0, 1) := by decide +kernel
theorem dX5_within_11 : decode cX5_within 11 = .ok (.lload_n 2, 1) := by decide +kernel
theorem dX5_within_12 : decode cX5_within 12 = .ok (.lneg, 1) := by decide +kernel
theorem dX5_within_13 : decode cX5_within 13 = .ok (.lconst 1, 1) := by decide +kernel
theorem dX5_within_14 : decode cX5_within 14 = .ok (.lsub, 1) := by decide +kernel
theorem dX5_within_15 : decode cX5_within 15 = .ok (.lcmp, 1) := by decide +kernel
theorem dX5_within_16 : decode cX5_within 16 = .ok (.ifCond .ge 10, 3) := by decide +kernel
theorem dX5_within_19 : decode cX5_within 19 = .ok (.lload_n 2, 1) := by decide +kernel
theorem dX5_within_20 : decode cX5_within 20 = .ok (.lneg, 1) := by decide +kernel
theorem dX5_within_21 : decode cX5_within 21 = .ok (.lconst 1, 1) := by decide +kernel
theorem dX5_within_22 : decode cX5_within 22 = .ok (.lsub, 1) := by decide +kernel
theorem dX5_within_23 : decode cX5_within 23 = .ok (.goto 4, 3) := by decide +kernel
theorem dX5_within_26 : decode cX5_within 26 = .ok (.lload_n 0, 1) := by decide +kernel
theorem dX5_within_27 : decode cX5_within 27 = .ok (.l2i, 1) := by decide +kernel
theorem dX5_within_28 : decode cX5_within 28 = .ok (.ireturn, 1) := by decide +kernel
theorem dX5_reckoned_0 : decode cX5_reckoned 0 = .ok (.iload_n 0, 1) := by decide +kernel
theorem dX5_reckoned_1 : decode cX5_reckoned 1 = .ok (.tableswitch 100 0 4 #[35, 45, 55, 70, 92], 35) := by decide +kernel
theorem dX5_reckoned_36 : decode cX5_reckoned 36 = .ok (.lload_n 1, 1) := by decide +kernel
theorem dX5_reckoned_37 : decode cX5_reckoned 37 = .ok (.iload_n 3, 1) := by decide +kernel
theorem dX5_reckoned_38 : decode cX5_reckoned 38 = .ok (.i2l, 1) := by decide +kernel
theorem dX5_reckoned_39 : decode cX5_reckoned 39 = .ok (.ladd, 1) := by decide +kernel
theorem dX5_reckoned_40 : decode cX5_reckoned 40 = .ok (.lload 5, 2) := by decide +kernel
theorem dX5_reckoned_42 : decode cX5_reckoned 42 = .ok (.invokestatic 33, 3) := by decide +kernel
theorem dX5_reckoned_45 : decode cX5_reckoned 45 = .ok (.ireturn, 1) := by decide +kernel
theorem dX5_reckoned_46 : decode cX5_reckoned 46 = .ok (.lload_n 1, 1) := by decide +kernel
theorem dX5_reckoned_47 : decode cX5_reckoned 47 = .ok (.iload_n 3, 1) := by decide +kernel
theorem dX5_reckoned_48 : decode cX5_reckoned 48 = .ok (.i2l, 1) := by decide +kernel
theorem dX5_reckoned_49 : decode cX5_reckoned 49 = .ok (.lsub, 1) := by decide +kernel
theorem dX5_reckoned_50 : decode cX5_reckoned 50 = .ok (.lload 5, 2) := by decide +kernel
theorem dX5_reckoned_52 : decode cX5_reckoned 52 = .ok (.invokestatic 33, 3) := by decide +kernel
theorem dX5_reckoned_55 : decode cX5_reckoned 55 = .ok (.ireturn, 1) := by decide +kernel
theorem dX5_reckoned_56 : decode cX5_reckoned 56 = .ok (.lload_n 1, 1) := by decide +kernel
theorem dX5_reckoned_57 : decode cX5_reckoned 57 = .ok (.iload_n 3, 1) := by decide +kernel
theorem dX5_reckoned_58 : decode cX5_reckoned 58 = .ok (.i2l, 1) := by decide +kernel
theorem dX5_reckoned_59 : decode cX5_reckoned 59 = .ok (.lmul, 1) := by decide +kernel
theorem dX5_reckoned_60 : decode cX5_reckoned 60 = .ok (.iload 4, 2) := by decide +kernel
theorem dX5_reckoned_62 : decode cX5_reckoned 62 = .ok (.invokestatic 37, 3) := by decide +kernel
theorem dX5_reckoned_65 : decode cX5_reckoned 65 = .ok (.lload 5, 2) := by decide +kernel
theorem dX5_reckoned_67 : decode cX5_reckoned 67 = .ok (.invokestatic 33, 3) := by decide +kernel
theorem dX5_reckoned_70 : decode cX5_reckoned 70 = .ok (.ireturn, 1) := by decide +kernel
theorem dX5_reckoned_71 : decode cX5_reckoned 71 = .ok (.iload_n 3, 1) := by decide +kernel
theorem dX5_reckoned_72 : decode cX5_reckoned 72 = .ok (.ifCond .lt 9, 3) := by decide +kernel
theorem dX5_reckoned_75 : decode cX5_reckoned 75 = .ok (.lload_n 1, 1) := by decide +kernel
theorem dX5_reckoned_76 : decode cX5_reckoned 76 = .ok (.iload_n 3, 1) := by decide +kernel
theorem dX5_reckoned_77 : decode cX5_reckoned 77 = .ok (.lshl, 1) := by decide +kernel
theorem dX5_reckoned_78 : decode cX5_reckoned 78 = .ok (.goto 9, 3) := by decide +kernel
theorem dX5_reckoned_81 : decode cX5_reckoned 81 = .ok (.lload_n 1, 1) := by decide +kernel
theorem dX5_reckoned_82 : decode cX5_reckoned 82 = .ok (.iload_n 3, 1) := by decide +kernel
theorem dX5_reckoned_83 : decode cX5_reckoned 83 = .ok (.ineg, 1) := by decide +kernel
theorem dX5_reckoned_84 : decode cX5_reckoned 84 = .ok (.invokestatic 37, 3) := by decide +kernel
theorem dX5_reckoned_87 : decode cX5_reckoned 87 = .ok (.lload 5, 2) := by decide +kernel
theorem dX5_reckoned_89 : decode cX5_reckoned 89 = .ok (.invokestatic 33, 3) := by decide +kernel
theorem dX5_reckoned_92 : decode cX5_reckoned 92 = .ok (.ireturn, 1) := by decide +kernel
theorem dX5_reckoned_93 : decode cX5_reckoned 93 = .ok (.lload_n 1, 1) := by decide +kernel
theorem dX5_reckoned_94 : decode cX5_reckoned 94 = .ok (.lneg, 1) := by decide +kernel
theorem dX5_reckoned_95 : decode cX5_reckoned 95 = .ok (.lload 5, 2) := by decide +kernel
theorem dX5_reckoned_97 : decode cX5_reckoned 97 = .ok (.invokestatic 33, 3) := by decide +kernel
theorem dX5_reckoned_100 : decode cX5_reckoned 100 = .ok (.ireturn, 1) := by decide +kernel
theorem dX5_reckoned_101 : decode cX5_reckoned 101 = .ok (.lload_n 1, 1) := by decide +kernel
theorem dX5_reckoned_102 : decode cX5_reckoned 102 = .ok (.lconst 0, 1) := by decide +kernel
theorem dX5_reckoned_103 : decode cX5_reckoned 103 = .ok (.lcmp, 1) := by decide +kernel
theorem dX5_reckoned_104 : decode cX5_reckoned 104 = .ok (.ifCond .ge 8, 3) := by decide +kernel
theorem dX5_reckoned_107 : decode cX5_reckoned 107 = .ok (.lload_n 1, 1) := by decide +kernel
theorem dX5_reckoned_108 : decode cX5_reckoned 108 = .ok (.lneg, 1) := by decide +kernel
theorem dX5_reckoned_109 : decode cX5_reckoned 109 = .ok (.goto 4, 3) := by decide +kernel
theorem dX5_reckoned_112 : decode cX5_reckoned 112 = .ok (.lload_n 1, 1) := by decide +kernel
theorem dX5_reckoned_113 : decode cX5_reckoned 113 = .ok (.lload 5, 2) := by decide +kernel
theorem dX5_reckoned_115 : decode cX5_reckoned 115 = .ok (.invokestatic 33, 3) := by decide +kernel
theorem dX5_reckoned_118 : decode cX5_reckoned 118 = .ok (.ireturn, 1) := by decide +kernel
theorem dX5_work_0 : decode cX5_work 0 = .ok (.aload_n 0, 1) := by decide +kernel
theorem dX5_work_1 : decode cX5_work 1 = .ok (.iload_n 1, 1) := by decide +kernel
theorem dX5_work_2 : decode cX5_work 2 = .ok (.iconst 0, 1) := by decide +kernel
theorem dX5_work_3 : decode cX5_work 3 = .ok (.iconst 5, 1) := by decide +kernel
theorem dX5_work_4 : decode cX5_work 4 = .ok (.invokestatic 41, 3) := by decide +kernel
theorem dX5_work_7 : decode cX5_work 7 = .ok (.ifCond .eq 23, 3) := by decide +kernel
theorem dX5_work_10 : decode cX5_work 10 = .ok (.iload_n 1, 1) := by decide +kernel
theorem dX5_work_11 : decode cX5_work 11 = .ok (.iconst 3, 1) := by decide +kernel
theorem dX5_work_12 : decode cX5_work 12 = .ok (.if_icmp .ne 14, 3) := by decide +kernel
theorem dX5_work_15 : decode cX5_work 15 = .ok (.iload_n 3, 1) := by decide +kernel
theorem dX5_work_16 : decode cX5_work 16 = .ok (.bipush (-31), 2) := by decide +kernel
theorem dX5_work_18 : decode cX5_work 18 = .ok (.bipush 31, 2) := by decide +kernel
theorem dX5_work_20 : decode cX5_work 20 = .ok (.invokestatic 41, 3) := by decide +kernel
theorem dX5_work_23 : decode cX5_work 23 = .ok (.ifCond .eq 7, 3) := by decide +kernel
theorem dX5_work_26 : decode cX5_work 26 = .ok (.iconst 0, 1) := by decide +kernel
theorem dX5_work_27 : decode cX5_work 27 = .ok (.goto 4, 3) := by decide +kernel
theorem dX5_work_30 : decode cX5_work 30 = .ok (.iconst 1, 1) := by decide +kernel
theorem dX5_work_31 : decode cX5_work 31 = .ok (.invokevirtual 45, 3) := by decide +kernel
theorem dX5_work_34 : decode cX5_work 34 = .ok (.ifCond .eq 5, 3) := by decide +kernel
theorem dX5_work_37 : decode cX5_work 37 = .ok (.iconst 0, 1) := by decide +kernel
theorem dX5_work_38 : decode cX5_work 38 = .ok (.ireturn, 1) := by decide +kernel
theorem dX5_work_39 : decode cX5_work 39 = .ok (.iload_n 1, 1) := by decide +kernel
theorem dX5_work_40 : decode cX5_work 40 = .ok (.iload_n 2, 1) := by decide +kernel
theorem dX5_work_41 : decode cX5_work 41 = .ok (.i2l, 1) := by decide +kernel
theorem dX5_work_42 : decode cX5_work 42 = .ok (.iload_n 3, 1) := by decide +kernel
theorem dX5_work_43 : decode cX5_work 43 = .ok (.bipush 31, 2) := by decide +kernel
theorem dX5_work_45 : decode cX5_work 45 = .ok (.ldc2_w 49, 3) := by decide +kernel
theorem dX5_work_48 : decode cX5_work 48 = .ok (.invokestatic 51, 3) := by decide +kernel
theorem dX5_work_51 : decode cX5_work 51 = .ok (.ireturn, 1) := by decide +kernel
theorem dX5_small_0 : decode cX5_small 0 = .ok (.iload_n 1, 1) := by decide +kernel
theorem dX5_small_1 : decode cX5_small 1 = .ok (.iconst 3, 1) := by decide +kernel
theorem dX5_small_2 : decode cX5_small 2 = .ok (.if_icmp .gt 29, 3) := by decide +kernel
theorem dX5_small_5 : decode cX5_small 5 = .ok (.iload_n 1, 1) := by decide +kernel
theorem dX5_small_6 : decode cX5_small 6 = .ok (.iconst 3, 1) := by decide +kernel
theorem dX5_small_7 : decode cX5_small 7 = .ok (.if_icmp .ne 17, 3) := by decide +kernel
theorem dX5_small_10 : decode cX5_small 10 = .ok (.iload_n 3, 1) := by decide +kernel
theorem dX5_small_11 : decode cX5_small 11 = .ok (.bipush (-15), 2) := by decide +kernel
theorem dX5_small_13 : decode cX5_small 13 = .ok (.bipush 15, 2) := by decide +kernel
theorem dX5_small_15 : decode cX5_small 15 = .ok (.invokestatic 41, 3) := by decide +kernel
theorem dX5_small_18 : decode cX5_small 18 = .ok (.ifCond .eq 17, 3) := by decide +kernel
theorem dX5_small_21 : decode cX5_small 21 = .ok (.goto 10, 3) := by decide +kernel
theorem dX5_small_24 : decode cX5_small 24 = .ok (.iload_n 3, 1) := by decide +kernel
theorem dX5_small_25 : decode cX5_small 25 = .ok (.invokestatic 55, 3) := by decide +kernel
theorem dX5_small_28 : decode cX5_small 28 = .ok (.ifCond .eq 7, 3) := by decide +kernel
theorem dX5_small_31 : decode cX5_small 31 = .ok (.iconst 1, 1) := by decide +kernel
theorem dX5_small_32 : decode cX5_small 32 = .ok (.goto 4, 3) := by decide +kernel
theorem dX5_small_35 : decode cX5_small 35 = .ok (.iconst 0, 1) := by decide +kernel
theorem dX5_small_36 : decode cX5_small 36 = .ok (.istore 4, 2) := by decide +kernel
theorem dX5_small_38 : decode cX5_small 38 = .ok (.aload_n 0, 1) := by decide +kernel
theorem dX5_small_39 : decode cX5_small 39 = .ok (.iload_n 1, 1) := by decide +kernel
theorem dX5_small_40 : decode cX5_small 40 = .ok (.iconst 0, 1) := by decide +kernel
theorem dX5_small_41 : decode cX5_small 41 = .ok (.iconst 5, 1) := by decide +kernel
theorem dX5_small_42 : decode cX5_small 42 = .ok (.invokestatic 41, 3) := by decide +kernel
theorem dX5_small_45 : decode cX5_small 45 = .ok (.ifCond .eq 19, 3) := by decide +kernel
theorem dX5_small_48 : decode cX5_small 48 = .ok (.iload_n 2, 1) := by decide +kernel
theorem dX5_small_49 : decode cX5_small 49 = .ok (.invokestatic 55, 3) := by decide +kernel
theorem dX5_small_52 : decode cX5_small 52 = .ok (.ifCond .eq 12, 3) := by decide +kernel
theorem dX5_small_55 : decode cX5_small 55 = .ok (.iload 4, 2) := by decide +kernel
theorem dX5_small_57 : decode cX5_small 57 = .ok (.ifCond .eq 7, 3) := by decide +kernel
theorem dX5_small_60 : decode cX5_small 60 = .ok (.iconst 0, 1) := by decide +kernel
theorem dX5_small_61 : decode cX5_small 61 = .ok (.goto 4, 3) := by decide +kernel
theorem dX5_small_64 : decode cX5_small 64 = .ok (.iconst 1, 1) := by decide +kernel
theorem dX5_small_65 : decode cX5_small 65 = .ok (.invokevirtual 45, 3) := by decide +kernel
theorem dX5_small_68 : decode cX5_small 68 = .ok (.ifCond .eq 5, 3) := by decide +kernel
theorem dX5_small_71 : decode cX5_small 71 = .ok (.iconst 0, 1) := by decide +kernel
theorem dX5_small_72 : decode cX5_small 72 = .ok (.ireturn, 1) := by decide +kernel
theorem dX5_small_73 : decode cX5_small 73 = .ok (.iload_n 1, 1) := by decide +kernel
theorem dX5_small_74 : decode cX5_small 74 = .ok (.iload_n 2, 1) := by decide +kernel
theorem dX5_small_75 : decode cX5_small 75 = .ok (.i2l, 1) := by decide +kernel
theorem dX5_small_76 : decode cX5_small 76 = .ok (.iload_n 3, 1) := by decide +kernel
theorem dX5_small_77 : decode cX5_small 77 = .ok (.bipush 15, 2) := by decide +kernel
theorem dX5_small_79 : decode cX5_small 79 = .ok (.ldc2_w 58, 3) := by decide +kernel
theorem dX5_small_82 : decode cX5_small 82 = .ok (.invokestatic 51, 3) := by decide +kernel
theorem dX5_small_85 : decode cX5_small 85 = .ok (.ireturn, 1) := by decide +kernel
theorem dX5_narrow_0 : decode cX5_narrow 0 = .ok (.aload_n 0, 1) := by decide +kernel
theorem dX5_narrow_1 : decode cX5_narrow 1 = .ok (.iconst 0, 1) := by decide +kernel
theorem dX5_narrow_2 : decode cX5_narrow 2 = .ok (.putfield 29, 3) := by decide +kernel
theorem dX5_narrow_5 : decode cX5_narrow 5 = .ok (.iload_n 1, 1) := by decide +kernel
theorem dX5_narrow_6 : decode cX5_narrow 6 = .ok (.i2l, 1) := by decide +kernel
theorem dX5_narrow_7 : decode cX5_narrow 7 = .ok (.bipush 16, 2) := by decide +kernel
theorem dX5_narrow_9 : decode cX5_narrow 9 = .ok (.invokestatic 37, 3) := by decide +kernel
theorem dX5_narrow_12 : decode cX5_narrow 12 = .ok (.ldc2_w 58, 3) := by decide +kernel
theorem dX5_narrow_15 : decode cX5_narrow 15 = .ok (.invokestatic 33, 3) := by decide +kernel
theorem dX5_narrow_18 : decode cX5_narrow 18 = .ok (.ireturn, 1) := by decide +kernel
theorem dX5_tap_0 : decode cX5_tap 0 = .ok (.aload_n 0, 1) := by decide +kernel
theorem dX5_tap_1 : decode cX5_tap 1 = .ok (.iload_n 1, 1) := by decide +kernel
theorem dX5_tap_2 : decode cX5_tap 2 = .ok (.iconst 0, 1) := by decide +kernel
theorem dX5_tap_3 : decode cX5_tap 3 = .ok (.bipush 15, 2) := by decide +kernel
theorem dX5_tap_5 : decode cX5_tap 5 = .ok (.invokestatic 41, 3) := by decide +kernel
theorem dX5_tap_8 : decode cX5_tap 8 = .ok (.ifCond .eq 14, 3) := by decide +kernel
theorem dX5_tap_11 : decode cX5_tap 11 = .ok (.iload_n 2, 1) := by decide +kernel
theorem dX5_tap_12 : decode cX5_tap 12 = .ok (.invokestatic 55, 3) := by decide +kernel
theorem dX5_tap_15 : decode cX5_tap 15 = .ok (.ifCond .eq 7, 3) := by decide +kernel
theorem dX5_tap_18 : decode cX5_tap 18 = .ok (.iconst 0, 1) := by decide +kernel
theorem dX5_tap_19 : decode cX5_tap 19 = .ok (.goto 4, 3) := by decide +kernel
theorem dX5_tap_22 : decode cX5_tap 22 = .ok (.iconst 1, 1) := by decide +kernel
theorem dX5_tap_23 : decode cX5_tap 23 = .ok (.invokevirtual 45, 3) := by decide +kernel
theorem dX5_tap_26 : decode cX5_tap 26 = .ok (.ifCond .eq 4, 3) := by decide +kernel
theorem dX5_tap_29 : decode cX5_tap 29 = .ok (.return_, 1) := by decide +kernel
theorem dX5_tap_30 : decode cX5_tap 30 = .ok (.aload_n 0, 1) := by decide +kernel
theorem dX5_tap_31 : decode cX5_tap 31 = .ok (.getfield 7, 3) := by decide +kernel
theorem dX5_tap_34 : decode cX5_tap 34 = .ok (.iload_n 1, 1) := by decide +kernel
theorem dX5_tap_35 : decode cX5_tap 35 = .ok (.iload_n 2, 1) := by decide +kernel
theorem dX5_tap_36 : decode cX5_tap 36 = .ok (.iastore, 1) := by decide +kernel
theorem dX5_tap_37 : decode cX5_tap 37 = .ok (.return_, 1) := by decide +kernel
theorem dX5_filter_0 : decode cX5_filter 0 = .ok (.aload_n 0, 1) := by decide +kernel
theorem dX5_filter_1 : decode cX5_filter 1 = .ok (.iload_n 1, 1) := by decide +kernel
theorem dX5_filter_2 : decode cX5_filter 2 = .ok (.invokestatic 55, 3) := by decide +kernel
theorem dX5_filter_5 : decode cX5_filter 5 = .ok (.ifCond .eq 7, 3) := by decide +kernel
theorem dX5_filter_8 : decode cX5_filter 8 = .ok (.iconst 0, 1) := by decide +kernel
theorem dX5_filter_9 : decode cX5_filter 9 = .ok (.goto 4, 3) := by decide +kernel
theorem dX5_filter_12 : decode cX5_filter 12 = .ok (.iconst 1, 1) := by decide +kernel
theorem dX5_filter_13 : decode cX5_filter 13 = .ok (.invokevirtual 45, 3) := by decide +kernel
theorem dX5_filter_16 : decode cX5_filter 16 = .ok (.ifCond .eq 5, 3) := by decide +kernel
theorem dX5_filter_19 : decode cX5_filter 19 = .ok (.iconst 0, 1) := by decide +kernel
theorem dX5_filter_20 : decode cX5_filter 20 = .ok (.ireturn, 1) := by decide +kernel
theorem dX5_filter_21 : decode cX5_filter 21 = .ok (.lconst 0, 1) := by decide +kernel
theorem dX5_filter_22 : decode cX5_filter 22 = .ok (.lstore_n 2, 1) := by decide +kernel
theorem dX5_filter_23 : decode cX5_filter 23 = .ok (.bipush 15, 2) := by decide +kernel
theorem dX5_filter_25 : decode cX5_filter 25 = .ok (.istore 4, 2) := by decide +kernel
theorem dX5_filter_27 : decode cX5_filter 27 = .ok (.iload 4, 2) := by decide +kernel
theorem dX5_filter_29 : decode cX5_filter 29 = .ok (.ifCond .le 44, 3) := by decide +kernel
theorem dX5_filter_32 : decode cX5_filter 32 = .ok (.aload_n 0, 1) := by decide +kernel
theorem dX5_filter_33 : decode cX5_filter 33 = .ok (.getfield 13, 3) := by decide +kernel
theorem dX5_filter_36 : decode cX5_filter 36 = .ok (.iload 4, 2) := by decide +kernel
theorem dX5_filter_38 : decode cX5_filter 38 = .ok (.aload_n 0, 1) := by decide +kernel
theorem dX5_filter_39 : decode cX5_filter 39 = .ok (.getfield 13, 3) := by decide +kernel
theorem dX5_filter_42 : decode cX5_filter 42 = .ok (.iload 4, 2) := by decide +kernel
theorem dX5_filter_44 : decode cX5_filter 44 = .ok (.iconst 1, 1) := by decide +kernel
theorem dX5_filter_45 : decode cX5_filter 45 = .ok (.isub, 1) := by decide +kernel
theorem dX5_filter_46 : decode cX5_filter 46 = .ok (.iaload, 1) := by decide +kernel
theorem dX5_filter_47 : decode cX5_filter 47 = .ok (.iastore, 1) := by decide +kernel
theorem dX5_filter_48 : decode cX5_filter 48 = .ok (.lload_n 2, 1) := by decide +kernel
theorem dX5_filter_49 : decode cX5_filter 49 = .ok (.aload_n 0, 1) := by decide +kernel
theorem dX5_filter_50 : decode cX5_filter 50 = .ok (.getfield 7, 3) := by decide +kernel
theorem dX5_filter_53 : decode cX5_filter 53 = .ok (.iload 4, 2) := by decide +kernel
theorem dX5_filter_55 : decode cX5_filter 55 = .ok (.iaload, 1) := by decide +kernel
theorem dX5_filter_56 : decode cX5_filter 56 = .ok (.aload_n 0, 1) := by decide +kernel
theorem dX5_filter_57 : decode cX5_filter 57 = .ok (.getfield 13, 3) := by decide +kernel
theorem dX5_filter_60 : decode cX5_filter 60 = .ok (.iload 4, 2) := by decide +kernel
theorem dX5_filter_62 : decode cX5_filter 62 = .ok (.iaload, 1) := by decide +kernel
theorem dX5_filter_63 : decode cX5_filter 63 = .ok (.imul, 1) := by decide +kernel
theorem dX5_filter_64 : decode cX5_filter 64 = .ok (.i2l, 1) := by decide +kernel
theorem dX5_filter_65 : decode cX5_filter 65 = .ok (.ladd, 1) := by decide +kernel
theorem dX5_filter_66 : decode cX5_filter 66 = .ok (.lstore_n 2, 1) := by decide +kernel
theorem dX5_filter_67 : decode cX5_filter 67 = .ok (.iinc 4 (-1), 3) := by decide +kernel
theorem dX5_filter_70 : decode cX5_filter 70 = .ok (.goto (-43), 3) := by decide +kernel
theorem dX5_filter_73 : decode cX5_filter 73 = .ok (.aload_n 0, 1) := by decide +kernel
theorem dX5_filter_74 : decode cX5_filter 74 = .ok (.getfield 13, 3) := by decide +kernel
theorem dX5_filter_77 : decode cX5_filter 77 = .ok (.iconst 0, 1) := by decide +kernel
theorem dX5_filter_78 : decode cX5_filter 78 = .ok (.iload_n 1, 1) := by decide +kernel
theorem dX5_filter_79 : decode cX5_filter 79 = .ok (.iastore, 1) := by decide +kernel
theorem dX5_filter_80 : decode cX5_filter 80 = .ok (.lload_n 2, 1) := by decide +kernel
theorem dX5_filter_81 : decode cX5_filter 81 = .ok (.aload_n 0, 1) := by decide +kernel
theorem dX5_filter_82 : decode cX5_filter 82 = .ok (.getfield 7, 3) := by decide +kernel
theorem dX5_filter_85 : decode cX5_filter 85 = .ok (.iconst 0, 1) := by decide +kernel
theorem dX5_filter_86 : decode cX5_filter 86 = .ok (.iaload, 1) := by decide +kernel
theorem dX5_filter_87 : decode cX5_filter 87 = .ok (.iload_n 1, 1) := by decide +kernel
theorem dX5_filter_88 : decode cX5_filter 88 = .ok (.imul, 1) := by decide +kernel
theorem dX5_filter_89 : decode cX5_filter 89 = .ok (.i2l, 1) := by decide +kernel
theorem dX5_filter_90 : decode cX5_filter 90 = .ok (.ladd, 1) := by decide +kernel
theorem dX5_filter_91 : decode cX5_filter 91 = .ok (.lstore_n 2, 1) := by decide +kernel
theorem dX5_filter_92 : decode cX5_filter 92 = .ok (.lload_n 2, 1) := by decide +kernel
theorem dX5_filter_93 : decode cX5_filter 93 = .ok (.bipush 15, 2) := by decide +kernel
theorem dX5_filter_95 : decode cX5_filter 95 = .ok (.invokestatic 37, 3) := by decide +kernel
theorem dX5_filter_98 : decode cX5_filter 98 = .ok (.ldc2_w 58, 3) := by decide +kernel
theorem dX5_filter_101 : decode cX5_filter 101 = .ok (.invokestatic 33, 3) := by decide +kernel
theorem dX5_filter_104 : decode cX5_filter 104 = .ok (.ireturn, 1) := by decide +kernel
theorem dX5_stage_0 : decode cX5_stage 0 = .ok (.aload_n 0, 1) := by decide +kernel
theorem dX5_stage_1 : decode cX5_stage 1 = .ok (.iload_n 1, 1) := by decide +kernel
theorem dX5_stage_2 : decode cX5_stage 2 = .ok (.iconst 0, 1) := by decide +kernel
theorem dX5_stage_3 : decode cX5_stage 3 = .ok (.iconst 3, 1) := by decide +kernel
theorem dX5_stage_4 : decode cX5_stage 4 = .ok (.invokestatic 41, 3) := by decide +kernel
theorem dX5_stage_7 : decode cX5_stage 7 = .ok (.ifCond .eq 23, 3) := by decide +kernel
theorem dX5_stage_10 : decode cX5_stage 10 = .ok (.iload_n 2, 1) := by decide +kernel
theorem dX5_stage_11 : decode cX5_stage 11 = .ok (.iconst 0, 1) := by decide +kernel
theorem dX5_stage_12 : decode cX5_stage 12 = .ok (.iconst 4, 1) := by decide +kernel
theorem dX5_stage_13 : decode cX5_stage 13 = .ok (.invokestatic 41, 3) := by decide +kernel
theorem dX5_stage_16 : decode cX5_stage 16 = .ok (.ifCond .eq 14, 3) := by decide +kernel
theorem dX5_stage_19 : decode cX5_stage 19 = .ok (.iload_n 3, 1) := by decide +kernel
theorem dX5_stage_20 : decode cX5_stage 20 = .ok (.invokestatic 55, 3) := by decide +kernel
theorem dX5_stage_23 : decode cX5_stage 23 = .ok (.ifCond .eq 7, 3) := by decide +kernel
theorem dX5_stage_26 : decode cX5_stage 26 = .ok (.iconst 0, 1) := by decide +kernel
theorem dX5_stage_27 : decode cX5_stage 27 = .ok (.goto 4, 3) := by decide +kernel
theorem dX5_stage_30 : decode cX5_stage 30 = .ok (.iconst 1, 1) := by decide +kernel
theorem dX5_stage_31 : decode cX5_stage 31 = .ok (.invokevirtual 45, 3) := by decide +kernel
theorem dX5_stage_34 : decode cX5_stage 34 = .ok (.ifCond .eq 4, 3) := by decide +kernel
theorem dX5_stage_37 : decode cX5_stage 37 = .ok (.return_, 1) := by decide +kernel
theorem dX5_stage_38 : decode cX5_stage 38 = .ok (.aload_n 0, 1) := by decide +kernel
theorem dX5_stage_39 : decode cX5_stage 39 = .ok (.getfield 16, 3) := by decide +kernel
theorem dX5_stage_42 : decode cX5_stage 42 = .ok (.iconst 5, 1) := by decide +kernel
theorem dX5_stage_43 : decode cX5_stage 43 = .ok (.iload_n 1, 1) := by decide +kernel
theorem dX5_stage_44 : decode cX5_stage 44 = .ok (.imul, 1) := by decide +kernel
theorem dX5_stage_45 : decode cX5_stage 45 = .ok (.iload_n 2, 1) := by decide +kernel
theorem dX5_stage_46 : decode cX5_stage 46 = .ok (.iadd, 1) := by decide +kernel
theorem dX5_stage_47 : decode cX5_stage 47 = .ok (.iload_n 3, 1) := by decide +kernel
theorem dX5_stage_48 : decode cX5_stage 48 = .ok (.iastore, 1) := by decide +kernel
theorem dX5_stage_49 : decode cX5_stage 49 = .ok (.return_, 1) := by decide +kernel
theorem dX5_chain_0 : decode cX5_chain 0 = .ok (.aload_n 0, 1) := by decide +kernel
theorem dX5_chain_1 : decode cX5_chain 1 = .ok (.iload_n 1, 1) := by decide +kernel
theorem dX5_chain_2 : decode cX5_chain 2 = .ok (.invokestatic 55, 3) := by decide +kernel
theorem dX5_chain_5 : decode cX5_chain 5 = .ok (.ifCond .eq 7, 3) := by decide +kernel
theorem dX5_chain_8 : decode cX5_chain 8 = .ok (.iconst 0, 1) := by decide +kernel
theorem dX5_chain_9 : decode cX5_chain 9 = .ok (.goto 4, 3) := by decide +kernel
theorem dX5_chain_12 : decode cX5_chain 12 = .ok (.iconst 1, 1) := by decide +kernel
theorem dX5_chain_13 : decode cX5_chain 13 = .ok (.invokevirtual 45, 3) := by decide +kernel
theorem dX5_chain_16 : decode cX5_chain 16 = .ok (.ifCond .eq 5, 3) := by decide +kernel
theorem dX5_chain_19 : decode cX5_chain 19 = .ok (.iconst 0, 1) := by decide +kernel
theorem dX5_chain_20 : decode cX5_chain 20 = .ok (.ireturn, 1) := by decide +kernel
theorem dX5_chain_21 : decode cX5_chain 21 = .ok (.iload_n 1, 1) := by decide +kernel
theorem dX5_chain_22 : decode cX5_chain 22 = .ok (.i2l, 1) := by decide +kernel
theorem dX5_chain_23 : decode cX5_chain 23 = .ok (.lstore_n 2, 1) := by decide +kernel
theorem dX5_chain_24 : decode cX5_chain 24 = .ok (.iconst 0, 1) := by decide +kernel
theorem dX5_chain_25 : decode cX5_chain 25 = .ok (.istore 4, 2) := by decide +kernel
theorem dX5_chain_27 : decode cX5_chain 27 = .ok (.iload 4, 2) := by decide +kernel
theorem dX5_chain_29 : decode cX5_chain 29 = .ok (.iconst 4, 1) := by decide +kernel
theorem dX5_chain_30 : decode cX5_chain 30 = .ok (.if_icmp .ge 171, 3) := by decide +kernel
theorem dX5_chain_33 : decode cX5_chain 33 = .ok (.aload_n 0, 1) := by decide +kernel
theorem dX5_chain_34 : decode cX5_chain 34 = .ok (.getfield 16, 3) := by decide +kernel
theorem dX5_chain_37 : decode cX5_chain 37 = .ok (.iconst 5, 1) := by decide +kernel
theorem dX5_chain_38 : decode cX5_chain 38 = .ok (.iload 4, 2) := by decide +kernel
theorem dX5_chain_40 : decode cX5_chain 40 = .ok (.imul, 1) := by decide +kernel
theorem dX5_chain_41 : decode cX5_chain 41 = .ok (.iaload, 1) := by decide +kernel
theorem dX5_chain_42 : decode cX5_chain 42 = .ok (.i2l, 1) := by decide +kernel
theorem dX5_chain_43 : decode cX5_chain 43 = .ok (.lload_n 2, 1) := by decide +kernel
theorem dX5_chain_44 : decode cX5_chain 44 = .ok (.lmul, 1) := by decide +kernel
theorem dX5_chain_45 : decode cX5_chain 45 = .ok (.lstore 5, 2) := by decide +kernel
theorem dX5_chain_47 : decode cX5_chain 47 = .ok (.iconst 0, 1) := by decide +kernel
theorem dX5_chain_48 : decode cX5_chain 48 = .ok (.istore 7, 2) := by decide +kernel
theorem dX5_chain_50 : decode cX5_chain 50 = .ok (.iload 7, 2) := by decide +kernel
theorem dX5_chain_52 : decode cX5_chain 52 = .ok (.iconst 4, 1) := by decide +kernel
theorem dX5_chain_53 : decode cX5_chain 53 = .ok (.if_icmp .ge 61, 3) := by decide +kernel
theorem dX5_chain_56 : decode cX5_chain 56 = .ok (.aload_n 0, 1) := by decide +kernel
theorem dX5_chain_57 : decode cX5_chain 57 = .ok (.getfield 16, 3) := by decide +kernel
theorem dX5_chain_60 : decode cX5_chain 60 = .ok (.iconst 5, 1) := by decide +kernel
theorem dX5_chain_61 : decode cX5_chain 61 = .ok (.iload 4, 2) := by decide +kernel
theorem dX5_chain_63 : decode cX5_chain 63 = .ok (.imul, 1) := by decide +kernel
theorem dX5_chain_64 : decode cX5_chain 64 = .ok (.iconst 1, 1) := by decide +kernel
theorem dX5_chain_65 : decode cX5_chain 65 = .ok (.iadd, 1) := by decide +kernel
theorem dX5_chain_66 : decode cX5_chain 66 = .ok (.iload 7, 2) := by decide +kernel
theorem dX5_chain_68 : decode cX5_chain 68 = .ok (.iadd, 1) := by decide +kernel
theorem dX5_chain_69 : decode cX5_chain 69 = .ok (.iaload, 1) := by decide +kernel
theorem dX5_chain_70 : decode cX5_chain 70 = .ok (.i2l, 1) := by decide +kernel
theorem dX5_chain_71 : decode cX5_chain 71 = .ok (.aload_n 0, 1) := by decide +kernel
theorem dX5_chain_72 : decode cX5_chain 72 = .ok (.getfield 19, 3) := by decide +kernel
theorem dX5_chain_75 : decode cX5_chain 75 = .ok (.iconst 4, 1) := by decide +kernel
theorem dX5_chain_76 : decode cX5_chain 76 = .ok (.iload 4, 2) := by decide +kernel
theorem dX5_chain_78 : decode cX5_chain 78 = .ok (.imul, 1) := by decide +kernel
theorem dX5_chain_79 : decode cX5_chain 79 = .ok (.iload 7, 2) := by decide +kernel
theorem dX5_chain_81 : decode cX5_chain 81 = .ok (.iadd, 1) := by decide +kernel
theorem dX5_chain_82 : decode cX5_chain 82 = .ok (.iaload, 1) := by decide +kernel
theorem dX5_chain_83 : decode cX5_chain 83 = .ok (.i2l, 1) := by decide +kernel
theorem dX5_chain_84 : decode cX5_chain 84 = .ok (.lmul, 1) := by decide +kernel
theorem dX5_chain_85 : decode cX5_chain 85 = .ok (.lstore 8, 2) := by decide +kernel
theorem dX5_chain_87 : decode cX5_chain 87 = .ok (.iload 7, 2) := by decide +kernel
theorem dX5_chain_89 : decode cX5_chain 89 = .ok (.iconst 2, 1) := by decide +kernel
theorem dX5_chain_90 : decode cX5_chain 90 = .ok (.if_icmp .ge 11, 3) := by decide +kernel
theorem dX5_chain_93 : decode cX5_chain 93 = .ok (.lload 5, 2) := by decide +kernel
theorem dX5_chain_95 : decode cX5_chain 95 = .ok (.lload 8, 2) := by decide +kernel
theorem dX5_chain_97 : decode cX5_chain 97 = .ok (.ladd, 1) := by decide +kernel
theorem dX5_chain_98 : decode cX5_chain 98 = .ok (.goto 8, 3) := by decide +kernel
theorem dX5_chain_101 : decode cX5_chain 101 = .ok (.lload 5, 2) := by decide +kernel
theorem dX5_chain_103 : decode cX5_chain 103 = .ok (.lload 8, 2) := by decide +kernel
theorem dX5_chain_105 : decode cX5_chain 105 = .ok (.lsub, 1) := by decide +kernel
theorem dX5_chain_106 : decode cX5_chain 106 = .ok (.lstore 5, 2) := by decide +kernel
theorem dX5_chain_108 : decode cX5_chain 108 = .ok (.iinc 7 1, 3) := by decide +kernel
theorem dX5_chain_111 : decode cX5_chain 111 = .ok (.goto (-61), 3) := by decide +kernel
theorem dX5_chain_114 : decode cX5_chain 114 = .ok (.aload_n 0, 1) := by decide +kernel
theorem dX5_chain_115 : decode cX5_chain 115 = .ok (.getfield 19, 3) := by decide +kernel
theorem dX5_chain_118 : decode cX5_chain 118 = .ok (.iconst 4, 1) := by decide +kernel
theorem dX5_chain_119 : decode cX5_chain 119 = .ok (.iload 4, 2) := by decide +kernel
theorem dX5_chain_121 : decode cX5_chain 121 = .ok (.imul, 1) := by decide +kernel
theorem dX5_chain_122 : decode cX5_chain 122 = .ok (.iconst 1, 1) := by decide +kernel
theorem dX5_chain_123 : decode cX5_chain 123 = .ok (.iadd, 1) := by decide +kernel
theorem dX5_chain_124 : decode cX5_chain 124 = .ok (.aload_n 0, 1) := by decide +kernel
theorem dX5_chain_125 : decode cX5_chain 125 = .ok (.getfield 19, 3) := by decide +kernel
theorem dX5_chain_128 : decode cX5_chain 128 = .ok (.iconst 4, 1) := by decide +kernel
theorem dX5_chain_129 : decode cX5_chain 129 = .ok (.iload 4, 2) := by decide +kernel
theorem dX5_chain_131 : decode cX5_chain 131 = .ok (.imul, 1) := by decide +kernel
theorem dX5_chain_132 : decode cX5_chain 132 = .ok (.iaload, 1) := by decide +kernel
theorem dX5_chain_133 : decode cX5_chain 133 = .ok (.iastore, 1) := by decide +kernel
theorem dX5_chain_134 : decode cX5_chain 134 = .ok (.aload_n 0, 1) := by decide +kernel
theorem dX5_chain_135 : decode cX5_chain 135 = .ok (.getfield 19, 3) := by decide +kernel
theorem dX5_chain_138 : decode cX5_chain 138 = .ok (.iconst 4, 1) := by decide +kernel
theorem dX5_chain_139 : decode cX5_chain 139 = .ok (.iload 4, 2) := by decide +kernel
theorem dX5_chain_141 : decode cX5_chain 141 = .ok (.imul, 1) := by decide +kernel
theorem dX5_chain_142 : decode cX5_chain 142 = .ok (.lload_n 2, 1) := by decide +kernel
theorem dX5_chain_143 : decode cX5_chain 143 = .ok (.l2i, 1) := by decide +kernel
theorem dX5_chain_144 : decode cX5_chain 144 = .ok (.iastore, 1) := by decide +kernel
theorem dX5_chain_145 : decode cX5_chain 145 = .ok (.aload_n 0, 1) := by decide +kernel
theorem dX5_chain_146 : decode cX5_chain 146 = .ok (.getfield 19, 3) := by decide +kernel
theorem dX5_chain_149 : decode cX5_chain 149 = .ok (.iconst 4, 1) := by decide +kernel
theorem dX5_chain_150 : decode cX5_chain 150 = .ok (.iload 4, 2) := by decide +kernel
theorem dX5_chain_152 : decode cX5_chain 152 = .ok (.imul, 1) := by decide +kernel
theorem dX5_chain_153 : decode cX5_chain 153 = .ok (.iconst 3, 1) := by decide +kernel
theorem dX5_chain_154 : decode cX5_chain 154 = .ok (.iadd, 1) := by decide +kernel
theorem dX5_chain_155 : decode cX5_chain 155 = .ok (.aload_n 0, 1) := by decide +kernel
theorem dX5_chain_156 : decode cX5_chain 156 = .ok (.getfield 19, 3) := by decide +kernel
theorem dX5_chain_159 : decode cX5_chain 159 = .ok (.iconst 4, 1) := by decide +kernel
theorem dX5_chain_160 : decode cX5_chain 160 = .ok (.iload 4, 2) := by decide +kernel
theorem dX5_chain_162 : decode cX5_chain 162 = .ok (.imul, 1) := by decide +kernel
theorem dX5_chain_163 : decode cX5_chain 163 = .ok (.iconst 2, 1) := by decide +kernel
theorem dX5_chain_164 : decode cX5_chain 164 = .ok (.iadd, 1) := by decide +kernel
theorem dX5_chain_165 : decode cX5_chain 165 = .ok (.iaload, 1) := by decide +kernel
theorem dX5_chain_166 : decode cX5_chain 166 = .ok (.iastore, 1) := by decide +kernel
theorem dX5_chain_167 : decode cX5_chain 167 = .ok (.lload 5, 2) := by decide +kernel
theorem dX5_chain_169 : decode cX5_chain 169 = .ok (.bipush 14, 2) := by decide +kernel
theorem dX5_chain_171 : decode cX5_chain 171 = .ok (.invokestatic 37, 3) := by decide +kernel
theorem dX5_chain_174 : decode cX5_chain 174 = .ok (.ldc2_w 58, 3) := by decide +kernel
theorem dX5_chain_177 : decode cX5_chain 177 = .ok (.invokestatic 33, 3) := by decide +kernel
theorem dX5_chain_180 : decode cX5_chain 180 = .ok (.i2l, 1) := by decide +kernel
theorem dX5_chain_181 : decode cX5_chain 181 = .ok (.lstore_n 2, 1) := by decide +kernel
theorem dX5_chain_182 : decode cX5_chain 182 = .ok (.aload_n 0, 1) := by decide +kernel
theorem dX5_chain_183 : decode cX5_chain 183 = .ok (.getfield 19, 3) := by decide +kernel
theorem dX5_chain_186 : decode cX5_chain 186 = .ok (.iconst 4, 1) := by decide +kernel
theorem dX5_chain_187 : decode cX5_chain 187 = .ok (.iload 4, 2) := by decide +kernel
theorem dX5_chain_189 : decode cX5_chain 189 = .ok (.imul, 1) := by decide +kernel
theorem dX5_chain_190 : decode cX5_chain 190 = .ok (.iconst 2, 1) := by decide +kernel
theorem dX5_chain_191 : decode cX5_chain 191 = .ok (.iadd, 1) := by decide +kernel
theorem dX5_chain_192 : decode cX5_chain 192 = .ok (.lload_n 2, 1) := by decide +kernel
theorem dX5_chain_193 : decode cX5_chain 193 = .ok (.l2i, 1) := by decide +kernel
theorem dX5_chain_194 : decode cX5_chain 194 = .ok (.iastore, 1) := by decide +kernel
theorem dX5_chain_195 : decode cX5_chain 195 = .ok (.iinc 4 1, 3) := by decide +kernel
theorem dX5_chain_198 : decode cX5_chain 198 = .ok (.goto (-171), 3) := by decide +kernel
theorem dX5_chain_201 : decode cX5_chain 201 = .ok (.lload_n 2, 1) := by decide +kernel
theorem dX5_chain_202 : decode cX5_chain 202 = .ok (.l2i, 1) := by decide +kernel
theorem dX5_chain_203 : decode cX5_chain 203 = .ok (.ireturn, 1) := by decide +kernel
theorem dX5_calm_0 : decode cX5_calm 0 = .ok (.aload_n 0, 1) := by decide +kernel
theorem dX5_calm_1 : decode cX5_calm 1 = .ok (.iconst 0, 1) := by decide +kernel
theorem dX5_calm_2 : decode cX5_calm 2 = .ok (.putfield 29, 3) := by decide +kernel
theorem dX5_calm_5 : decode cX5_calm 5 = .ok (.iconst 0, 1) := by decide +kernel
theorem dX5_calm_6 : decode cX5_calm 6 = .ok (.istore_n 1, 1) := by decide +kernel
theorem dX5_calm_7 : decode cX5_calm 7 = .ok (.iload_n 1, 1) := by decide +kernel
theorem dX5_calm_8 : decode cX5_calm 8 = .ok (.bipush 16, 2) := by decide +kernel
theorem dX5_calm_10 : decode cX5_calm 10 = .ok (.if_icmp .ge 23, 3) := by decide +kernel
theorem dX5_calm_13 : decode cX5_calm 13 = .ok (.aload_n 0, 1) := by decide +kernel
theorem dX5_calm_14 : decode cX5_calm 14 = .ok (.getfield 13, 3) := by decide +kernel
theorem dX5_calm_17 : decode cX5_calm 17 = .ok (.iload_n 1, 1) := by decide +kernel
theorem dX5_calm_18 : decode cX5_calm 18 = .ok (.iconst 0, 1) := by decide +kernel
theorem dX5_calm_19 : decode cX5_calm 19 = .ok (.iastore, 1) := by decide +kernel
theorem dX5_calm_20 : decode cX5_calm 20 = .ok (.aload_n 0, 1) := by decide +kernel
theorem dX5_calm_21 : decode cX5_calm 21 = .ok (.getfield 19, 3) := by decide +kernel
theorem dX5_calm_24 : decode cX5_calm 24 = .ok (.iload_n 1, 1) := by decide +kernel
theorem dX5_calm_25 : decode cX5_calm 25 = .ok (.iconst 0, 1) := by decide +kernel
theorem dX5_calm_26 : decode cX5_calm 26 = .ok (.iastore, 1) := by decide +kernel
theorem dX5_calm_27 : decode cX5_calm 27 = .ok (.iinc 1 1, 3) := by decide +kernel
theorem dX5_calm_30 : decode cX5_calm 30 = .ok (.goto (-23), 3) := by decide +kernel
theorem dX5_calm_33 : decode cX5_calm 33 = .ok (.return_, 1) := by decide +kernel
theorem dX5_eighth_0 : decode cX5_eighth 0 = .ok (.iload_n 0, 1) := by decide +kernel
theorem dX5_eighth_1 : decode cX5_eighth 1 = .ok (.tableswitch 77 0 7 #[47, 49, 53, 57, 61, 65, 69, 73], 47) := by decide +kernel
theorem dX5_eighth_48 : decode cX5_eighth 48 = .ok (.lconst 0, 1) := by decide +kernel
theorem dX5_eighth_49 : decode cX5_eighth 49 = .ok (.lreturn, 1) := by decide +kernel
theorem dX5_eighth_50 : decode cX5_eighth 50 = .ok (.ldc2_w 60, 3) := by decide +kernel
theorem dX5_eighth_53 : decode cX5_eighth 53 = .ok (.lreturn, 1) := by decide +kernel
theorem dX5_eighth_54 : decode cX5_eighth 54 = .ok (.ldc2_w 62, 3) := by decide +kernel
theorem dX5_eighth_57 : decode cX5_eighth 57 = .ok (.lreturn, 1) := by decide +kernel
theorem dX5_eighth_58 : decode cX5_eighth 58 = .ok (.ldc2_w 64, 3) := by decide +kernel
theorem dX5_eighth_61 : decode cX5_eighth 61 = .ok (.lreturn, 1) := by decide +kernel
theorem dX5_eighth_62 : decode cX5_eighth 62 = .ok (.ldc2_w 66, 3) := by decide +kernel
theorem dX5_eighth_65 : decode cX5_eighth 65 = .ok (.lreturn, 1) := by decide +kernel
theorem dX5_eighth_66 : decode cX5_eighth 66 = .ok (.ldc2_w 68, 3) := by decide +kernel
theorem dX5_eighth_69 : decode cX5_eighth 69 = .ok (.lreturn, 1) := by decide +kernel
theorem dX5_eighth_70 : decode cX5_eighth 70 = .ok (.ldc2_w 70, 3) := by decide +kernel
theorem dX5_eighth_73 : decode cX5_eighth 73 = .ok (.lreturn, 1) := by decide +kernel
theorem dX5_eighth_74 : decode cX5_eighth 74 = .ok (.ldc2_w 72, 3) := by decide +kernel
theorem dX5_eighth_77 : decode cX5_eighth 77 = .ok (.lreturn, 1) := by decide +kernel
theorem dX5_eighth_78 : decode cX5_eighth 78 = .ok (.ldc2_w 49, 3) := by decide +kernel
theorem dX5_eighth_81 : decode cX5_eighth 81 = .ok (.lreturn, 1) := by decide +kernel
theorem dX5_put_0 : decode cX5_put 0 = .ok (.aload_n 0, 1) := by decide +kernel
theorem dX5_put_1 : decode cX5_put 1 = .ok (.iload_n 1, 1) := by decide +kernel
theorem dX5_put_2 : decode cX5_put 2 = .ok (.iconst 0, 1) := by decide +kernel
theorem dX5_put_3 : decode cX5_put 3 = .ok (.bipush 31, 2) := by decide +kernel
theorem dX5_put_5 : decode cX5_put 5 = .ok (.invokestatic 41, 3) := by decide +kernel
theorem dX5_put_8 : decode cX5_put 8 = .ok (.ifCond .eq 7, 3) := by decide +kernel
theorem dX5_put_11 : decode cX5_put 11 = .ok (.iconst 0, 1) := by decide +kernel
theorem dX5_put_12 : decode cX5_put 12 = .ok (.goto 4, 3) := by decide +kernel
theorem dX5_put_15 : decode cX5_put 15 = .ok (.iconst 1, 1) := by decide +kernel
theorem dX5_put_16 : decode cX5_put 16 = .ok (.invokevirtual 45, 3) := by decide +kernel
theorem dX5_put_19 : decode cX5_put 19 = .ok (.ifCond .eq 4, 3) := by decide +kernel
theorem dX5_put_22 : decode cX5_put 22 = .ok (.return_, 1) := by decide +kernel
theorem dX5_put_23 : decode cX5_put 23 = .ok (.aload_n 0, 1) := by decide +kernel
theorem dX5_put_24 : decode cX5_put 24 = .ok (.getfield 22, 3) := by decide +kernel
theorem dX5_put_27 : decode cX5_put 27 = .ok (.iconst 2, 1) := by decide +kernel
theorem dX5_put_28 : decode cX5_put 28 = .ok (.iload_n 1, 1) := by decide +kernel
theorem dX5_put_29 : decode cX5_put 29 = .ok (.imul, 1) := by decide +kernel
theorem dX5_put_30 : decode cX5_put 30 = .ok (.iload_n 2, 1) := by decide +kernel
theorem dX5_put_31 : decode cX5_put 31 = .ok (.i2l, 1) := by decide +kernel
theorem dX5_put_32 : decode cX5_put 32 = .ok (.lastore, 1) := by decide +kernel
theorem dX5_put_33 : decode cX5_put 33 = .ok (.aload_n 0, 1) := by decide +kernel
theorem dX5_put_34 : decode cX5_put 34 = .ok (.getfield 22, 3) := by decide +kernel
theorem dX5_put_37 : decode cX5_put 37 = .ok (.iconst 2, 1) := by decide +kernel
theorem dX5_put_38 : decode cX5_put 38 = .ok (.iload_n 1, 1) := by decide +kernel
theorem dX5_put_39 : decode cX5_put 39 = .ok (.imul, 1) := by decide +kernel
theorem dX5_put_40 : decode cX5_put 40 = .ok (.iconst 1, 1) := by decide +kernel
theorem dX5_put_41 : decode cX5_put 41 = .ok (.iadd, 1) := by decide +kernel
theorem dX5_put_42 : decode cX5_put 42 = .ok (.iload_n 3, 1) := by decide +kernel
theorem dX5_put_43 : decode cX5_put 43 = .ok (.i2l, 1) := by decide +kernel
theorem dX5_put_44 : decode cX5_put 44 = .ok (.lastore, 1) := by decide +kernel
theorem dX5_put_45 : decode cX5_put 45 = .ok (.aload_n 0, 1) := by decide +kernel
theorem dX5_put_46 : decode cX5_put 46 = .ok (.iconst 0, 1) := by decide +kernel
theorem dX5_put_47 : decode cX5_put 47 = .ok (.putfield 74, 3) := by decide +kernel
theorem dX5_put_50 : decode cX5_put 50 = .ok (.return_, 1) := by decide +kernel
theorem dX5_mirrored_0 : decode cX5_mirrored 0 = .ok (.iconst 0, 1) := by decide +kernel
theorem dX5_mirrored_1 : decode cX5_mirrored 1 = .ok (.istore_n 2, 1) := by decide +kernel
theorem dX5_mirrored_2 : decode cX5_mirrored 2 = .ok (.iconst 0, 1) := by decide +kernel
theorem dX5_mirrored_3 : decode cX5_mirrored 3 = .ok (.istore_n 3, 1) := by decide +kernel
theorem dX5_mirrored_4 : decode cX5_mirrored 4 = .ok (.iload_n 3, 1) := by decide +kernel
theorem dX5_mirrored_5 : decode cX5_mirrored 5 = .ok (.iload_n 1, 1) := by decide +kernel
theorem dX5_mirrored_6 : decode cX5_mirrored 6 = .ok (.if_icmp .ge 19, 3) := by decide +kernel
theorem dX5_mirrored_9 : decode cX5_mirrored 9 = .ok (.iconst 2, 1) := by decide +kernel
theorem dX5_mirrored_10 : decode cX5_mirrored 10 = .ok (.iload_n 2, 1) := by decide +kernel
theorem dX5_mirrored_11 : decode cX5_mirrored 11 = .ok (.imul, 1) := by decide +kernel
theorem dX5_mirrored_12 : decode cX5_mirrored 12 = .ok (.iload_n 0, 1) := by decide +kernel
theorem dX5_mirrored_13 : decode cX5_mirrored 13 = .ok (.iload_n 3, 1) := by decide +kernel
theorem dX5_mirrored_14 : decode cX5_mirrored 14 = .ok (.ishr, 1) := by decide +kernel
theorem dX5_mirrored_15 : decode cX5_mirrored 15 = .ok (.iconst 1, 1) := by decide +kernel
theorem dX5_mirrored_16 : decode cX5_mirrored 16 = .ok (.iand, 1) := by decide +kernel
theorem dX5_mirrored_17 : decode cX5_mirrored 17 = .ok (.iadd, 1) := by decide +kernel
theorem dX5_mirrored_18 : decode cX5_mirrored 18 = .ok (.istore_n 2, 1) := by decide +kernel
theorem dX5_mirrored_19 : decode cX5_mirrored 19 = .ok (.iinc 3 1, 3) := by decide +kernel
theorem dX5_mirrored_22 : decode cX5_mirrored 22 = .ok (.goto (-18), 3) := by decide +kernel
theorem dX5_mirrored_25 : decode cX5_mirrored 25 = .ok (.iload_n 2, 1) := by decide +kernel
theorem dX5_mirrored_26 : decode cX5_mirrored 26 = .ok (.ireturn, 1) := by decide +kernel
theorem dX5_isHigh_0 : decode cX5_isHigh 0 = .ok (.iconst 0, 1) := by decide +kernel
theorem dX5_isHigh_1 : decode cX5_isHigh 1 = .ok (.istore_n 2, 1) := by decide +kernel
theorem dX5_isHigh_2 : decode cX5_isHigh 2 = .ok (.iconst 0, 1) := by decide +kernel
theorem dX5_isHigh_3 : decode cX5_isHigh 3 = .ok (.istore_n 3, 1) := by decide +kernel
theorem dX5_isHigh_4 : decode cX5_isHigh 4 = .ok (.iload_n 3, 1) := by decide +kernel
theorem dX5_isHigh_5 : decode cX5_isHigh 5 = .ok (.iconst 2, 1) := by decide +kernel
theorem dX5_isHigh_6 : decode cX5_isHigh 6 = .ok (.iload_n 1, 1) := by decide +kernel
theorem dX5_isHigh_7 : decode cX5_isHigh 7 = .ok (.imul, 1) := by decide +kernel
theorem dX5_isHigh_8 : decode cX5_isHigh 8 = .ok (.if_icmp .ge 45, 3) := by decide +kernel
theorem dX5_isHigh_11 : decode cX5_isHigh 11 = .ok (.aload_n 0, 1) := by decide +kernel
theorem dX5_isHigh_12 : decode cX5_isHigh 12 = .ok (.getfield 22, 3) := by decide +kernel
theorem dX5_isHigh_15 : decode cX5_isHigh 15 = .ok (.iload_n 3, 1) := by decide +kernel
theorem dX5_isHigh_16 : decode cX5_isHigh 16 = .ok (.laload, 1) := by decide +kernel
theorem dX5_isHigh_17 : decode cX5_isHigh 17 = .ok (.lstore 4, 2) := by decide +kernel
theorem dX5_isHigh_19 : decode cX5_isHigh 19 = .ok (.iload_n 2, 1) := by decide +kernel
theorem dX5_isHigh_20 : decode cX5_isHigh 20 = .ok (.ifCond .ne 21, 3) := by decide +kernel
theorem dX5_isHigh_23 : decode cX5_isHigh 23 = .ok (.lload 4, 2) := by decide +kernel
theorem dX5_isHigh_25 : decode cX5_isHigh 25 = .ok (.ldc2_w 77, 3) := by decide +kernel
theorem dX5_isHigh_28 : decode cX5_isHigh 28 = .ok (.lcmp, 1) := by decide +kernel
theorem dX5_isHigh_29 : decode cX5_isHigh 29 = .ok (.ifCond .ge 12, 3) := by decide +kernel
theorem dX5_isHigh_32 : decode cX5_isHigh 32 = .ok (.lload 4, 2) := by decide +kernel
theorem dX5_isHigh_34 : decode cX5_isHigh 34 = .ok (.ldc2_w 79, 3) := by decide +kernel
theorem dX5_isHigh_37 : decode cX5_isHigh 37 = .ok (.lcmp, 1) := by decide +kernel
theorem dX5_isHigh_38 : decode cX5_isHigh 38 = .ok (.ifCond .gt 7, 3) := by decide +kernel
theorem dX5_isHigh_41 : decode cX5_isHigh 41 = .ok (.iconst 1, 1) := by decide +kernel
theorem dX5_isHigh_42 : decode cX5_isHigh 42 = .ok (.goto 4, 3) := by decide +kernel
theorem dX5_isHigh_45 : decode cX5_isHigh 45 = .ok (.iconst 0, 1) := by decide +kernel
theorem dX5_isHigh_46 : decode cX5_isHigh 46 = .ok (.istore_n 2, 1) := by decide +kernel
theorem dX5_isHigh_47 : decode cX5_isHigh 47 = .ok (.iinc 3 1, 3) := by decide +kernel
theorem dX5_isHigh_50 : decode cX5_isHigh 50 = .ok (.goto (-46), 3) := by decide +kernel
theorem dX5_isHigh_53 : decode cX5_isHigh 53 = .ok (.iload_n 2, 1) := by decide +kernel
theorem dX5_isHigh_54 : decode cX5_isHigh 54 = .ok (.ireturn, 1) := by decide +kernel
theorem dX5_lower_0 : decode cX5_lower 0 = .ok (.iconst 0, 1) := by decide +kernel
theorem dX5_lower_1 : decode cX5_lower 1 = .ok (.istore_n 2, 1) := by decide +kernel
theorem dX5_lower_2 : decode cX5_lower 2 = .ok (.iload_n 2, 1) := by decide +kernel
theorem dX5_lower_3 : decode cX5_lower 3 = .ok (.iconst 2, 1) := by decide +kernel
theorem dX5_lower_4 : decode cX5_lower 4 = .ok (.if_icmp .ge 58, 3) := by decide +kernel
theorem dX5_lower_7 : decode cX5_lower 7 = .ok (.aload_n 0, 1) := by decide +kernel
theorem dX5_lower_8 : decode cX5_lower 8 = .ok (.iload_n 1, 1) := by decide +kernel
theorem dX5_lower_9 : decode cX5_lower 9 = .ok (.invokevirtual 81, 3) := by decide +kernel
theorem dX5_lower_12 : decode cX5_lower 12 = .ok (.ifCond .eq 50, 3) := by decide +kernel
theorem dX5_lower_15 : decode cX5_lower 15 = .ok (.iconst 0, 1) := by decide +kernel
theorem dX5_lower_16 : decode cX5_lower 16 = .ok (.istore_n 3, 1) := by decide +kernel
theorem dX5_lower_17 : decode cX5_lower 17 = .ok (.iload_n 3, 1) := by decide +kernel
theorem dX5_lower_18 : decode cX5_lower 18 = .ok (.iconst 2, 1) := by decide +kernel
theorem dX5_lower_19 : decode cX5_lower 19 = .ok (.iload_n 1, 1) := by decide +kernel
theorem dX5_lower_20 : decode cX5_lower 20 = .ok (.imul, 1) := by decide +kernel
theorem dX5_lower_21 : decode cX5_lower 21 = .ok (.if_icmp .ge 25, 3) := by decide +kernel
theorem dX5_lower_24 : decode cX5_lower 24 = .ok (.aload_n 0, 1) := by decide +kernel
theorem dX5_lower_25 : decode cX5_lower 25 = .ok (.getfield 22, 3) := by decide +kernel
theorem dX5_lower_28 : decode cX5_lower 28 = .ok (.iload_n 3, 1) := by decide +kernel
theorem dX5_lower_29 : decode cX5_lower 29 = .ok (.aload_n 0, 1) := by decide +kernel
theorem dX5_lower_30 : decode cX5_lower 30 = .ok (.getfield 22, 3) := by decide +kernel
theorem dX5_lower_33 : decode cX5_lower 33 = .ok (.iload_n 3, 1) := by decide +kernel
theorem dX5_lower_34 : decode cX5_lower 34 = .ok (.laload, 1) := by decide +kernel
theorem dX5_lower_35 : decode cX5_lower 35 = .ok (.iconst 1, 1) := by decide +kernel
theorem dX5_lower_36 : decode cX5_lower 36 = .ok (.invokestatic 37, 3) := by decide +kernel
theorem dX5_lower_39 : decode cX5_lower 39 = .ok (.lastore, 1) := by decide +kernel
theorem dX5_lower_40 : decode cX5_lower 40 = .ok (.iinc 3 1, 3) := by decide +kernel
theorem dX5_lower_43 : decode cX5_lower 43 = .ok (.goto (-26), 3) := by decide +kernel
theorem dX5_lower_46 : decode cX5_lower 46 = .ok (.aload_n 0, 1) := by decide +kernel
theorem dX5_lower_47 : decode cX5_lower 47 = .ok (.dup, 1) := by decide +kernel
theorem dX5_lower_48 : decode cX5_lower 48 = .ok (.getfield 74, 3) := by decide +kernel
theorem dX5_lower_51 : decode cX5_lower 51 = .ok (.iconst 1, 1) := by decide +kernel
theorem dX5_lower_52 : decode cX5_lower 52 = .ok (.iadd, 1) := by decide +kernel
theorem dX5_lower_53 : decode cX5_lower 53 = .ok (.putfield 74, 3) := by decide +kernel
theorem dX5_lower_56 : decode cX5_lower 56 = .ok (.iinc 2 1, 3) := by decide +kernel
theorem dX5_lower_59 : decode cX5_lower 59 = .ok (.goto (-57), 3) := by decide +kernel
theorem dX5_lower_62 : decode cX5_lower 62 = .ok (.return_, 1) := by decide +kernel
theorem dX5_pair_0 : decode cX5_pair 0 = .ok (.iload_n 3, 1) := by decide +kernel
theorem dX5_pair_1 : decode cX5_pair 1 = .ok (.bipush 8, 2) := by decide +kernel
theorem dX5_pair_3 : decode cX5_pair 3 = .ok (.if_icmp .gt 13, 3) := by decide +kernel
theorem dX5_pair_6 : decode cX5_pair 6 = .ok (.bipush 8, 2) := by decide +kernel
theorem dX5_pair_8 : decode cX5_pair 8 = .ok (.iload_n 3, 1) := by decide +kernel
theorem dX5_pair_9 : decode cX5_pair 9 = .ok (.isub, 1) := by decide +kernel
theorem dX5_pair_10 : decode cX5_pair 10 = .ok (.invokestatic 84, 3) := by decide +kernel
theorem dX5_pair_13 : decode cX5_pair 13 = .ok (.goto 11, 3) := by decide +kernel
theorem dX5_pair_16 : decode cX5_pair 16 = .ok (.iload_n 3, 1) := by decide +kernel
theorem dX5_pair_17 : decode cX5_pair 17 = .ok (.bipush 8, 2) := by decide +kernel
theorem dX5_pair_19 : decode cX5_pair 19 = .ok (.isub, 1) := by decide +kernel
theorem dX5_pair_20 : decode cX5_pair 20 = .ok (.invokestatic 84, 3) := by decide +kernel
theorem dX5_pair_23 : decode cX5_pair 23 = .ok (.lneg, 1) := by decide +kernel
theorem dX5_pair_24 : decode cX5_pair 24 = .ok (.lstore 5, 2) := by decide +kernel
theorem dX5_pair_26 : decode cX5_pair 26 = .ok (.iload_n 3, 1) := by decide +kernel
theorem dX5_pair_27 : decode cX5_pair 27 = .ok (.bipush 8, 2) := by decide +kernel
theorem dX5_pair_29 : decode cX5_pair 29 = .ok (.if_icmp .gt 10, 3) := by decide +kernel
theorem dX5_pair_32 : decode cX5_pair 32 = .ok (.iload_n 3, 1) := by decide +kernel
theorem dX5_pair_33 : decode cX5_pair 33 = .ok (.invokestatic 84, 3) := by decide +kernel
theorem dX5_pair_36 : decode cX5_pair 36 = .ok (.goto 10, 3) := by decide +kernel
theorem dX5_pair_39 : decode cX5_pair 39 = .ok (.bipush 16, 2) := by decide +kernel
theorem dX5_pair_41 : decode cX5_pair 41 = .ok (.iload_n 3, 1) := by decide +kernel
theorem dX5_pair_42 : decode cX5_pair 42 = .ok (.isub, 1) := by decide +kernel
theorem dX5_pair_43 : decode cX5_pair 43 = .ok (.invokestatic 84, 3) := by decide +kernel
theorem dX5_pair_46 : decode cX5_pair 46 = .ok (.lstore 7, 2) := by decide +kernel
theorem dX5_pair_48 : decode cX5_pair 48 = .ok (.iload 4, 2) := by decide +kernel
theorem dX5_pair_50 : decode cX5_pair 50 = .ok (.ifCond .eq 9, 3) := by decide +kernel
theorem dX5_pair_53 : decode cX5_pair 53 = .ok (.lload 7, 2) := by decide +kernel
theorem dX5_pair_55 : decode cX5_pair 55 = .ok (.lneg, 1) := by decide +kernel
theorem dX5_pair_56 : decode cX5_pair 56 = .ok (.goto 5, 3) := by decide +kernel
theorem dX5_pair_59 : decode cX5_pair 59 = .ok (.lload 7, 2) := by decide +kernel
theorem dX5_pair_61 : decode cX5_pair 61 = .ok (.lstore 7, 2) := by decide +kernel
theorem dX5_pair_63 : decode cX5_pair 63 = .ok (.aload_n 0, 1) := by decide +kernel
theorem dX5_pair_64 : decode cX5_pair 64 = .ok (.getfield 22, 3) := by decide +kernel
theorem dX5_pair_67 : decode cX5_pair 67 = .ok (.iconst 2, 1) := by decide +kernel
theorem dX5_pair_68 : decode cX5_pair 68 = .ok (.iload_n 2, 1) := by decide +kernel
theorem dX5_pair_69 : decode cX5_pair 69 = .ok (.imul, 1) := by decide +kernel
theorem dX5_pair_70 : decode cX5_pair 70 = .ok (.laload, 1) := by decide +kernel
theorem dX5_pair_71 : decode cX5_pair 71 = .ok (.lstore 9, 2) := by decide +kernel
theorem dX5_pair_73 : decode cX5_pair 73 = .ok (.aload_n 0, 1) := by decide +kernel
theorem dX5_pair_74 : decode cX5_pair 74 = .ok (.getfield 22, 3) := by decide +kernel
theorem dX5_pair_77 : decode cX5_pair 77 = .ok (.iconst 2, 1) := by decide +kernel
theorem dX5_pair_78 : decode cX5_pair 78 = .ok (.iload_n 2, 1) := by decide +kernel
theorem dX5_pair_79 : decode cX5_pair 79 = .ok (.imul, 1) := by decide +kernel
theorem dX5_pair_80 : decode cX5_pair 80 = .ok (.iconst 1, 1) := by decide +kernel
theorem dX5_pair_81 : decode cX5_pair 81 = .ok (.iadd, 1) := by decide +kernel
theorem dX5_pair_82 : decode cX5_pair 82 = .ok (.laload, 1) := by decide +kernel
theorem dX5_pair_83 : decode cX5_pair 83 = .ok (.lstore 11, 2) := by decide +kernel
theorem dX5_pair_85 : decode cX5_pair 85 = .ok (.lload 9, 2) := by decide +kernel
theorem dX5_pair_87 : decode cX5_pair 87 = .ok (.lload 5, 2) := by decide +kernel
theorem dX5_pair_89 : decode cX5_pair 89 = .ok (.lmul, 1) := by decide +kernel
theorem dX5_pair_90 : decode cX5_pair 90 = .ok (.lload 11, 2) := by decide +kernel
theorem dX5_pair_92 : decode cX5_pair 92 = .ok (.lload 7, 2) := by decide +kernel
theorem dX5_pair_94 : decode cX5_pair 94 = .ok (.lmul, 1) := by decide +kernel
theorem dX5_pair_95 : decode cX5_pair 95 = .ok (.ladd, 1) := by decide +kernel
theorem dX5_pair_96 : decode cX5_pair 96 = .ok (.bipush 31, 2) := by decide +kernel
theorem dX5_pair_98 : decode cX5_pair 98 = .ok (.invokestatic 37, 3) := by decide +kernel
theorem dX5_pair_101 : decode cX5_pair 101 = .ok (.lstore 13, 2) := by decide +kernel
theorem dX5_pair_103 : decode cX5_pair 103 = .ok (.lload 11, 2) := by decide +kernel
theorem dX5_pair_105 : decode cX5_pair 105 = .ok (.lload 5, 2) := by decide +kernel
theorem dX5_pair_107 : decode cX5_pair 107 = .ok (.lmul, 1) := by decide +kernel
theorem dX5_pair_108 : decode cX5_pair 108 = .ok (.lload 9, 2) := by decide +kernel
theorem dX5_pair_110 : decode cX5_pair 110 = .ok (.lload 7, 2) := by decide +kernel
theorem dX5_pair_112 : decode cX5_pair 112 = .ok (.lmul, 1) := by decide +kernel
theorem dX5_pair_113 : decode cX5_pair 113 = .ok (.lsub, 1) := by decide +kernel
theorem dX5_pair_114 : decode cX5_pair 114 = .ok (.bipush 31, 2) := by decide +kernel
theorem dX5_pair_116 : decode cX5_pair 116 = .ok (.invokestatic 37, 3) := by decide +kernel
theorem dX5_pair_119 : decode cX5_pair 119 = .ok (.lstore 15, 2) := by decide +kernel
theorem dX5_pair_121 : decode cX5_pair 121 = .ok (.aload_n 0, 1) := by decide +kernel
theorem dX5_pair_122 : decode cX5_pair 122 = .ok (.getfield 22, 3) := by decide +kernel
theorem dX5_pair_125 : decode cX5_pair 125 = .ok (.iconst 2, 1) := by decide +kernel
theorem dX5_pair_126 : decode cX5_pair 126 = .ok (.iload_n 2, 1) := by decide +kernel
theorem dX5_pair_127 : decode cX5_pair 127 = .ok (.imul, 1) := by decide +kernel
theorem dX5_pair_128 : decode cX5_pair 128 = .ok (.aload_n 0, 1) := by decide +kernel
theorem dX5_pair_129 : decode cX5_pair 129 = .ok (.getfield 22, 3) := by decide +kernel
theorem dX5_pair_132 : decode cX5_pair 132 = .ok (.iconst 2, 1) := by decide +kernel
theorem dX5_pair_133 : decode cX5_pair 133 = .ok (.iload_n 1, 1) := by decide +kernel
theorem dX5_pair_134 : decode cX5_pair 134 = .ok (.imul, 1) := by decide +kernel
theorem dX5_pair_135 : decode cX5_pair 135 = .ok (.laload, 1) := by decide +kernel
theorem dX5_pair_136 : decode cX5_pair 136 = .ok (.lload 13, 2) := by decide +kernel
theorem dX5_pair_138 : decode cX5_pair 138 = .ok (.lsub, 1) := by decide +kernel
theorem dX5_pair_139 : decode cX5_pair 139 = .ok (.ldc2_w 49, 3) := by decide +kernel
theorem dX5_pair_142 : decode cX5_pair 142 = .ok (.invokestatic 33, 3) := by decide +kernel
theorem dX5_pair_145 : decode cX5_pair 145 = .ok (.i2l, 1) := by decide +kernel
theorem dX5_pair_146 : decode cX5_pair 146 = .ok (.lastore, 1) := by decide +kernel
theorem dX5_pair_147 : decode cX5_pair 147 = .ok (.aload_n 0, 1) := by decide +kernel
theorem dX5_pair_148 : decode cX5_pair 148 = .ok (.getfield 22, 3) := by decide +kernel
theorem dX5_pair_151 : decode cX5_pair 151 = .ok (.iconst 2, 1) := by decide +kernel
theorem dX5_pair_152 : decode cX5_pair 152 = .ok (.iload_n 2, 1) := by decide +kernel
theorem dX5_pair_153 : decode cX5_pair 153 = .ok (.imul, 1) := by decide +kernel
theorem dX5_pair_154 : decode cX5_pair 154 = .ok (.iconst 1, 1) := by decide +kernel
theorem dX5_pair_155 : decode cX5_pair 155 = .ok (.iadd, 1) := by decide +kernel
theorem dX5_pair_156 : decode cX5_pair 156 = .ok (.aload_n 0, 1) := by decide +kernel
theorem dX5_pair_157 : decode cX5_pair 157 = .ok (.getfield 22, 3) := by decide +kernel
theorem dX5_pair_160 : decode cX5_pair 160 = .ok (.iconst 2, 1) := by decide +kernel
theorem dX5_pair_161 : decode cX5_pair 161 = .ok (.iload_n 1, 1) := by decide +kernel
theorem dX5_pair_162 : decode cX5_pair 162 = .ok (.imul, 1) := by decide +kernel
theorem dX5_pair_163 : decode cX5_pair 163 = .ok (.iconst 1, 1) := by decide +kernel
theorem dX5_pair_164 : decode cX5_pair 164 = .ok (.iadd, 1) := by decide +kernel
theorem dX5_pair_165 : decode cX5_pair 165 = .ok (.laload, 1) := by decide +kernel
theorem dX5_pair_166 : decode cX5_pair 166 = .ok (.lload 15, 2) := by decide +kernel
theorem dX5_pair_168 : decode cX5_pair 168 = .ok (.lsub, 1) := by decide +kernel
theorem dX5_pair_169 : decode cX5_pair 169 = .ok (.ldc2_w 49, 3) := by decide +kernel
theorem dX5_pair_172 : decode cX5_pair 172 = .ok (.invokestatic 33, 3) := by decide +kernel
theorem dX5_pair_175 : decode cX5_pair 175 = .ok (.i2l, 1) := by decide +kernel
theorem dX5_pair_176 : decode cX5_pair 176 = .ok (.lastore, 1) := by decide +kernel
theorem dX5_pair_177 : decode cX5_pair 177 = .ok (.aload_n 0, 1) := by decide +kernel
theorem dX5_pair_178 : decode cX5_pair 178 = .ok (.getfield 22, 3) := by decide +kernel
theorem dX5_pair_181 : decode cX5_pair 181 = .ok (.iconst 2, 1) := by decide +kernel
theorem dX5_pair_182 : decode cX5_pair 182 = .ok (.iload_n 1, 1) := by decide +kernel
theorem dX5_pair_183 : decode cX5_pair 183 = .ok (.imul, 1) := by decide +kernel
theorem dX5_pair_184 : decode cX5_pair 184 = .ok (.aload_n 0, 1) := by decide +kernel
theorem dX5_pair_185 : decode cX5_pair 185 = .ok (.getfield 22, 3) := by decide +kernel
theorem dX5_pair_188 : decode cX5_pair 188 = .ok (.iconst 2, 1) := by decide +kernel
theorem dX5_pair_189 : decode cX5_pair 189 = .ok (.iload_n 1, 1) := by decide +kernel
theorem dX5_pair_190 : decode cX5_pair 190 = .ok (.imul, 1) := by decide +kernel
theorem dX5_pair_191 : decode cX5_pair 191 = .ok (.laload, 1) := by decide +kernel
theorem dX5_pair_192 : decode cX5_pair 192 = .ok (.lload 13, 2) := by decide +kernel
theorem dX5_pair_194 : decode cX5_pair 194 = .ok (.ladd, 1) := by decide +kernel
theorem dX5_pair_195 : decode cX5_pair 195 = .ok (.ldc2_w 49, 3) := by decide +kernel
theorem dX5_pair_198 : decode cX5_pair 198 = .ok (.invokestatic 33, 3) := by decide +kernel
theorem dX5_pair_201 : decode cX5_pair 201 = .ok (.i2l, 1) := by decide +kernel
theorem dX5_pair_202 : decode cX5_pair 202 = .ok (.lastore, 1) := by decide +kernel
theorem dX5_pair_203 : decode cX5_pair 203 = .ok (.aload_n 0, 1) := by decide +kernel
theorem dX5_pair_204 : decode cX5_pair 204 = .ok (.getfield 22, 3) := by decide +kernel
theorem dX5_pair_207 : decode cX5_pair 207 = .ok (.iconst 2, 1) := by decide +kernel
theorem dX5_pair_208 : decode cX5_pair 208 = .ok (.iload_n 1, 1) := by decide +kernel
theorem dX5_pair_209 : decode cX5_pair 209 = .ok (.imul, 1) := by decide +kernel
theorem dX5_pair_210 : decode cX5_pair 210 = .ok (.iconst 1, 1) := by decide +kernel
theorem dX5_pair_211 : decode cX5_pair 211 = .ok (.iadd, 1) := by decide +kernel
theorem dX5_pair_212 : decode cX5_pair 212 = .ok (.aload_n 0, 1) := by decide +kernel
theorem dX5_pair_213 : decode cX5_pair 213 = .ok (.getfield 22, 3) := by decide +kernel
theorem dX5_pair_216 : decode cX5_pair 216 = .ok (.iconst 2, 1) := by decide +kernel
theorem dX5_pair_217 : decode cX5_pair 217 = .ok (.iload_n 1, 1) := by decide +kernel
theorem dX5_pair_218 : decode cX5_pair 218 = .ok (.imul, 1) := by decide +kernel
theorem dX5_pair_219 : decode cX5_pair 219 = .ok (.iconst 1, 1) := by decide +kernel
theorem dX5_pair_220 : decode cX5_pair 220 = .ok (.iadd, 1) := by decide +kernel
theorem dX5_pair_221 : decode cX5_pair 221 = .ok (.laload, 1) := by decide +kernel
theorem dX5_pair_222 : decode cX5_pair 222 = .ok (.lload 15, 2) := by decide +kernel
theorem dX5_pair_224 : decode cX5_pair 224 = .ok (.ladd, 1) := by decide +kernel
theorem dX5_pair_225 : decode cX5_pair 225 = .ok (.ldc2_w 49, 3) := by decide +kernel
theorem dX5_pair_228 : decode cX5_pair 228 = .ok (.invokestatic 33, 3) := by decide +kernel
theorem dX5_pair_231 : decode cX5_pair 231 = .ok (.i2l, 1) := by decide +kernel
theorem dX5_pair_232 : decode cX5_pair 232 = .ok (.lastore, 1) := by decide +kernel
theorem dX5_pair_233 : decode cX5_pair 233 = .ok (.return_, 1) := by decide +kernel
theorem dX5_transform_0 : decode cX5_transform 0 = .ok (.aload_n 0, 1) := by decide +kernel
theorem dX5_transform_1 : decode cX5_transform 1 = .ok (.iload_n 1, 1) := by decide +kernel
theorem dX5_transform_2 : decode cX5_transform 2 = .ok (.iconst 0, 1) := by decide +kernel
theorem dX5_transform_3 : decode cX5_transform 3 = .ok (.iconst 5, 1) := by decide +kernel
theorem dX5_transform_4 : decode cX5_transform 4 = .ok (.invokestatic 41, 3) := by decide +kernel
theorem dX5_transform_7 : decode cX5_transform 7 = .ok (.ifCond .eq 7, 3) := by decide +kernel
theorem dX5_transform_10 : decode cX5_transform 10 = .ok (.iconst 0, 1) := by decide +kernel
theorem dX5_transform_11 : decode cX5_transform 11 = .ok (.goto 4, 3) := by decide +kernel
theorem dX5_transform_14 : decode cX5_transform 14 = .ok (.iconst 1, 1) := by decide +kernel
theorem dX5_transform_15 : decode cX5_transform 15 = .ok (.invokevirtual 45, 3) := by decide +kernel
theorem dX5_transform_18 : decode cX5_transform 18 = .ok (.ifCond .eq 5, 3) := by decide +kernel
theorem dX5_transform_21 : decode cX5_transform 21 = .ok (.iconst 0, 1) := by decide +kernel
theorem dX5_transform_22 : decode cX5_transform 22 = .ok (.ireturn, 1) := by decide +kernel
theorem dX5_transform_23 : decode cX5_transform 23 = .ok (.iconst 1, 1) := by decide +kernel
theorem dX5_transform_24 : decode cX5_transform 24 = .ok (.iload_n 1, 1) := by decide +kernel
theorem dX5_transform_25 : decode cX5_transform 25 = .ok (.ishl, 1) := by decide +kernel
theorem dX5_transform_26 : decode cX5_transform 26 = .ok (.istore_n 3, 1) := by decide +kernel
theorem dX5_transform_27 : decode cX5_transform 27 = .ok (.iconst 0, 1) := by decide +kernel
theorem dX5_transform_28 : decode cX5_transform 28 = .ok (.istore 4, 2) := by decide +kernel
theorem dX5_transform_30 : decode cX5_transform 30 = .ok (.iload 4, 2) := by decide +kernel
theorem dX5_transform_32 : decode cX5_transform 32 = .ok (.iload_n 3, 1) := by decide +kernel
theorem dX5_transform_33 : decode cX5_transform 33 = .ok (.if_icmp .ge 57, 3) := by decide +kernel
theorem dX5_transform_36 : decode cX5_transform 36 = .ok (.iload 4, 2) := by decide +kernel
theorem dX5_transform_38 : decode cX5_transform 38 = .ok (.iload_n 1, 1) := by decide +kernel
theorem dX5_transform_39 : decode cX5_transform 39 = .ok (.invokestatic 88, 3) := by decide +kernel
theorem dX5_transform_42 : decode cX5_transform 42 = .ok (.istore 5, 2) := by decide +kernel
theorem dX5_transform_44 : decode cX5_transform 44 = .ok (.aload_n 0, 1) := by decide +kernel
theorem dX5_transform_45 : decode cX5_transform 45 = .ok (.getfield 26, 3) := by decide +kernel
theorem dX5_transform_48 : decode cX5_transform 48 = .ok (.iconst 2, 1) := by decide +kernel
theorem dX5_transform_49 : decode cX5_transform 49 = .ok (.iload 4, 2) := by decide +kernel
theorem dX5_transform_51 : decode cX5_transform 51 = .ok (.imul, 1) := by decide +kernel
theorem dX5_transform_52 : decode cX5_transform 52 = .ok (.aload_n 0, 1) := by decide +kernel
theorem dX5_transform_53 : decode cX5_transform 53 = .ok (.getfield 22, 3) := by decide +kernel
theorem dX5_transform_56 : decode cX5_transform 56 = .ok (.iconst 2, 1) := by decide +kernel
theorem dX5_transform_57 : decode cX5_transform 57 = .ok (.iload 5, 2) := by decide +kernel
theorem dX5_transform_59 : decode cX5_transform 59 = .ok (.imul, 1) := by decide +kernel
theorem dX5_transform_60 : decode cX5_transform 60 = .ok (.laload, 1) := by decide +kernel
theorem dX5_transform_61 : decode cX5_transform 61 = .ok (.lastore, 1) := by decide +kernel
theorem dX5_transform_62 : decode cX5_transform 62 = .ok (.aload_n 0, 1) := by decide +kernel
theorem dX5_transform_63 : decode cX5_transform 63 = .ok (.getfield 26, 3) := by decide +kernel
theorem dX5_transform_66 : decode cX5_transform 66 = .ok (.iconst 2, 1) := by decide +kernel
theorem dX5_transform_67 : decode cX5_transform 67 = .ok (.iload 4, 2) := by decide +kernel
theorem dX5_transform_69 : decode cX5_transform 69 = .ok (.imul, 1) := by decide +kernel
theorem dX5_transform_70 : decode cX5_transform 70 = .ok (.iconst 1, 1) := by decide +kernel
theorem dX5_transform_71 : decode cX5_transform 71 = .ok (.iadd, 1) := by decide +kernel
theorem dX5_transform_72 : decode cX5_transform 72 = .ok (.aload_n 0, 1) := by decide +kernel
theorem dX5_transform_73 : decode cX5_transform 73 = .ok (.getfield 22, 3) := by decide +kernel
theorem dX5_transform_76 : decode cX5_transform 76 = .ok (.iconst 2, 1) := by decide +kernel
theorem dX5_transform_77 : decode cX5_transform 77 = .ok (.iload 5, 2) := by decide +kernel
theorem dX5_transform_79 : decode cX5_transform 79 = .ok (.imul, 1) := by decide +kernel
theorem dX5_transform_80 : decode cX5_transform 80 = .ok (.iconst 1, 1) := by decide +kernel
theorem dX5_transform_81 : decode cX5_transform 81 = .ok (.iadd, 1) := by decide +kernel
theorem dX5_transform_82 : decode cX5_transform 82 = .ok (.laload, 1) := by decide +kernel
theorem dX5_transform_83 : decode cX5_transform 83 = .ok (.lastore, 1) := by decide +kernel
theorem dX5_transform_84 : decode cX5_transform 84 = .ok (.iinc 4 1, 3) := by decide +kernel
theorem dX5_transform_87 : decode cX5_transform 87 = .ok (.goto (-57), 3) := by decide +kernel
theorem dX5_transform_90 : decode cX5_transform 90 = .ok (.iconst 0, 1) := by decide +kernel
theorem dX5_transform_91 : decode cX5_transform 91 = .ok (.istore 4, 2) := by decide +kernel
theorem dX5_transform_93 : decode cX5_transform 93 = .ok (.iload 4, 2) := by decide +kernel
theorem dX5_transform_95 : decode cX5_transform 95 = .ok (.iconst 2, 1) := by decide +kernel
theorem dX5_transform_96 : decode cX5_transform 96 = .ok (.iload_n 3, 1) := by decide +kernel
theorem dX5_transform_97 : decode cX5_transform 97 = .ok (.imul, 1) := by decide +kernel
theorem dX5_transform_98 : decode cX5_transform 98 = .ok (.if_icmp .ge 23, 3) := by decide +kernel
theorem dX5_transform_101 : decode cX5_transform 101 = .ok (.aload_n 0, 1) := by decide +kernel
theorem dX5_transform_102 : decode cX5_transform 102 = .ok (.getfield 22, 3) := by decide +kernel
theorem dX5_transform_105 : decode cX5_transform 105 = .ok (.iload 4, 2) := by decide +kernel
theorem dX5_transform_107 : decode cX5_transform 107 = .ok (.aload_n 0, 1) := by decide +kernel
theorem dX5_transform_108 : decode cX5_transform 108 = .ok (.getfield 26, 3) := by decide +kernel
theorem dX5_transform_111 : decode cX5_transform 111 = .ok (.iload 4, 2) := by decide +kernel
theorem dX5_transform_113 : decode cX5_transform 113 = .ok (.laload, 1) := by decide +kernel
theorem dX5_transform_114 : decode cX5_transform 114 = .ok (.lastore, 1) := by decide +kernel
theorem dX5_transform_115 : decode cX5_transform 115 = .ok (.iinc 4 1, 3) := by decide +kernel
theorem dX5_transform_118 : decode cX5_transform 118 = .ok (.goto (-25), 3) := by decide +kernel
theorem dX5_transform_121 : decode cX5_transform 121 = .ok (.iconst 1, 1) := by decide +kernel
theorem dX5_transform_122 : decode cX5_transform 122 = .ok (.istore 4, 2) := by decide +kernel
theorem dX5_transform_124 : decode cX5_transform 124 = .ok (.iload 4, 2) := by decide +kernel
theorem dX5_transform_126 : decode cX5_transform 126 = .ok (.iload_n 3, 1) := by decide +kernel
theorem dX5_transform_127 : decode cX5_transform 127 = .ok (.if_icmp .ge 65, 3) := by decide +kernel
theorem dX5_transform_130 : decode cX5_transform 130 = .ok (.aload_n 0, 1) := by decide +kernel
theorem dX5_transform_131 : decode cX5_transform 131 = .ok (.iload_n 3, 1) := by decide +kernel
theorem dX5_transform_132 : decode cX5_transform 132 = .ok (.invokevirtual 92, 3) := by decide +kernel
theorem dX5_transform_135 : decode cX5_transform 135 = .ok (.iconst 0, 1) := by decide +kernel
theorem dX5_transform_136 : decode cX5_transform 136 = .ok (.istore 5, 2) := by decide +kernel
theorem dX5_transform_138 : decode cX5_transform 138 = .ok (.iload 5, 2) := by decide +kernel
theorem dX5_transform_140 : decode cX5_transform 140 = .ok (.iload_n 3, 1) := by decide +kernel
theorem dX5_transform_141 : decode cX5_transform 141 = .ok (.if_icmp .ge 42, 3) := by decide +kernel
theorem dX5_transform_144 : decode cX5_transform 144 = .ok (.iload 5, 2) := by decide +kernel
theorem dX5_transform_146 : decode cX5_transform 146 = .ok (.iload 4, 2) := by decide +kernel
theorem dX5_transform_148 : decode cX5_transform 148 = .ok (.idiv, 1) := by decide +kernel
theorem dX5_transform_149 : decode cX5_transform 149 = .ok (.iconst 2, 1) := by decide +kernel
theorem dX5_transform_150 : decode cX5_transform 150 = .ok (.irem, 1) := by decide +kernel
theorem dX5_transform_151 : decode cX5_transform 151 = .ok (.ifCond .ne 26, 3) := by decide +kernel
theorem dX5_transform_154 : decode cX5_transform 154 = .ok (.aload_n 0, 1) := by decide +kernel
theorem dX5_transform_155 : decode cX5_transform 155 = .ok (.iload 5, 2) := by decide +kernel
theorem dX5_transform_157 : decode cX5_transform 157 = .ok (.iload 5, 2) := by decide +kernel
theorem dX5_transform_159 : decode cX5_transform 159 = .ok (.iload 4, 2) := by decide +kernel
theorem dX5_transform_161 : decode cX5_transform 161 = .ok (.iadd, 1) := by decide +kernel
theorem dX5_transform_162 : decode cX5_transform 162 = .ok (.iload 5, 2) := by decide +kernel
theorem dX5_transform_164 : decode cX5_transform 164 = .ok (.iload 4, 2) := by decide +kernel
theorem dX5_transform_166 : decode cX5_transform 166 = .ok (.irem, 1) := by decide +kernel
theorem dX5_transform_167 : decode cX5_transform 167 = .ok (.bipush 16, 2) := by decide +kernel
theorem dX5_transform_169 : decode cX5_transform 169 = .ok (.imul, 1) := by decide +kernel
theorem dX5_transform_170 : decode cX5_transform 170 = .ok (.iload 4, 2) := by decide +kernel
theorem dX5_transform_172 : decode cX5_transform 172 = .ok (.idiv, 1) := by decide +kernel
theorem dX5_transform_173 : decode cX5_transform 173 = .ok (.iload_n 2, 1) := by decide +kernel
theorem dX5_transform_174 : decode cX5_transform 174 = .ok (.invokevirtual 96, 3) := by decide +kernel
theorem dX5_transform_177 : decode cX5_transform 177 = .ok (.iinc 5 1, 3) := by decide +kernel
theorem dX5_transform_180 : decode cX5_transform 180 = .ok (.goto (-42), 3) := by decide +kernel
theorem dX5_transform_183 : decode cX5_transform 183 = .ok (.iconst 2, 1) := by decide +kernel
theorem dX5_transform_184 : decode cX5_transform 184 = .ok (.iload 4, 2) := by decide +kernel
theorem dX5_transform_186 : decode cX5_transform 186 = .ok (.imul, 1) := by decide +kernel
theorem dX5_transform_187 : decode cX5_transform 187 = .ok (.istore 4, 2) := by decide +kernel
theorem dX5_transform_189 : decode cX5_transform 189 = .ok (.goto (-65), 3) := by decide +kernel
theorem dX5_transform_192 : decode cX5_transform 192 = .ok (.aload_n 0, 1) := by decide +kernel
theorem dX5_transform_193 : decode cX5_transform 193 = .ok (.getfield 74, 3) := by decide +kernel
theorem dX5_transform_196 : decode cX5_transform 196 = .ok (.ireturn, 1) := by decide +kernel
theorem dX5_get_0 : decode cX5_get 0 = .ok (.aload_n 0, 1) := by decide +kernel
theorem dX5_get_1 : decode cX5_get 1 = .ok (.iload_n 1, 1) := by decide +kernel
theorem dX5_get_2 : decode cX5_get 2 = .ok (.iconst 0, 1) := by decide +kernel
theorem dX5_get_3 : decode cX5_get 3 = .ok (.bipush 31, 2) := by decide +kernel
theorem dX5_get_5 : decode cX5_get 5 = .ok (.invokestatic 41, 3) := by decide +kernel
theorem dX5_get_8 : decode cX5_get 8 = .ok (.ifCond .eq 7, 3) := by decide +kernel
theorem dX5_get_11 : decode cX5_get 11 = .ok (.iconst 0, 1) := by decide +kernel
theorem dX5_get_12 : decode cX5_get 12 = .ok (.goto 4, 3) := by decide +kernel
theorem dX5_get_15 : decode cX5_get 15 = .ok (.iconst 1, 1) := by decide +kernel
theorem dX5_get_16 : decode cX5_get 16 = .ok (.invokevirtual 45, 3) := by decide +kernel
theorem dX5_get_19 : decode cX5_get 19 = .ok (.ifCond .eq 5, 3) := by decide +kernel
theorem dX5_get_22 : decode cX5_get 22 = .ok (.iconst 0, 1) := by decide +kernel
theorem dX5_get_23 : decode cX5_get 23 = .ok (.ireturn, 1) := by decide +kernel
theorem dX5_get_24 : decode cX5_get 24 = .ok (.aload_n 0, 1) := by decide +kernel
theorem dX5_get_25 : decode cX5_get 25 = .ok (.getfield 22, 3) := by decide +kernel
theorem dX5_get_28 : decode cX5_get 28 = .ok (.iload_n 2, 1) := by decide +kernel
theorem dX5_get_29 : decode cX5_get 29 = .ok (.ifCond .eq 11, 3) := by decide +kernel
theorem dX5_get_32 : decode cX5_get 32 = .ok (.iconst 2, 1) := by decide +kernel
theorem dX5_get_33 : decode cX5_get 33 = .ok (.iload_n 1, 1) := by decide +kernel
theorem dX5_get_34 : decode cX5_get 34 = .ok (.imul, 1) := by decide +kernel
theorem dX5_get_35 : decode cX5_get 35 = .ok (.iconst 1, 1) := by decide +kernel
theorem dX5_get_36 : decode cX5_get 36 = .ok (.iadd, 1) := by decide +kernel
theorem dX5_get_37 : decode cX5_get 37 = .ok (.goto 6, 3) := by decide +kernel
theorem dX5_get_40 : decode cX5_get 40 = .ok (.iconst 2, 1) := by decide +kernel
theorem dX5_get_41 : decode cX5_get 41 = .ok (.iload_n 1, 1) := by decide +kernel
theorem dX5_get_42 : decode cX5_get 42 = .ok (.imul, 1) := by decide +kernel
theorem dX5_get_43 : decode cX5_get 43 = .ok (.laload, 1) := by decide +kernel
theorem dX5_get_44 : decode cX5_get 44 = .ok (.l2i, 1) := by decide +kernel
theorem dX5_get_45 : decode cX5_get 45 = .ok (.ireturn, 1) := by decide +kernel
theorem dX5_arc_0 : decode cX5_arc 0 = .ok (.iload_n 0, 1) := by decide +kernel
theorem dX5_arc_1 : decode cX5_arc 1 = .ok (.tableswitch 135 0 14 #[75, 79, 83, 87, 91, 95, 99, 103, 107, 111, 115, 119, 123, 127, 131], 75) := by decide +kernel
theorem dX5_arc_76 : decode cX5_arc 76 = .ok (.ldc2_w 77, 3) := by decide +kernel
theorem dX5_arc_79 : decode cX5_arc 79 = .ok (.lreturn, 1) := by decide +kernel
theorem dX5_arc_80 : decode cX5_arc 80 = .ok (.ldc2_w 100, 3) := by decide +kernel
theorem dX5_arc_83 : decode cX5_arc 83 = .ok (.lreturn, 1) := by decide +kernel
theorem dX5_arc_84 : decode cX5_arc 84 = .ok (.ldc2_w 102, 3) := by decide +kernel
theorem dX5_arc_87 : decode cX5_arc 87 = .ok (.lreturn, 1) := by decide +kernel
theorem dX5_arc_88 : decode cX5_arc 88 = .ok (.ldc2_w 104, 3) := by decide +kernel
theorem dX5_arc_91 : decode cX5_arc 91 = .ok (.lreturn, 1) := by decide +kernel
theorem dX5_arc_92 : decode cX5_arc 92 = .ok (.ldc2_w 106, 3) := by decide +kernel
theorem dX5_arc_95 : decode cX5_arc 95 = .ok (.lreturn, 1) := by decide +kernel
theorem dX5_arc_96 : decode cX5_arc 96 = .ok (.ldc2_w 108, 3) := by decide +kernel
theorem dX5_arc_99 : decode cX5_arc 99 = .ok (.lreturn, 1) := by decide +kernel
theorem dX5_arc_100 : decode cX5_arc 100 = .ok (.ldc2_w 110, 3) := by decide +kernel
theorem dX5_arc_103 : decode cX5_arc 103 = .ok (.lreturn, 1) := by decide +kernel
theorem dX5_arc_104 : decode cX5_arc 104 = .ok (.ldc2_w 112, 3) := by decide +kernel
theorem dX5_arc_107 : decode cX5_arc 107 = .ok (.lreturn, 1) := by decide +kernel
theorem dX5_arc_108 : decode cX5_arc 108 = .ok (.ldc2_w 114, 3) := by decide +kernel
theorem dX5_arc_111 : decode cX5_arc 111 = .ok (.lreturn, 1) := by decide +kernel
theorem dX5_arc_112 : decode cX5_arc 112 = .ok (.ldc2_w 116, 3) := by decide +kernel
theorem dX5_arc_115 : decode cX5_arc 115 = .ok (.lreturn, 1) := by decide +kernel
theorem dX5_arc_116 : decode cX5_arc 116 = .ok (.ldc2_w 118, 3) := by decide +kernel
theorem dX5_arc_119 : decode cX5_arc 119 = .ok (.lreturn, 1) := by decide +kernel
theorem dX5_arc_120 : decode cX5_arc 120 = .ok (.ldc2_w 120, 3) := by decide +kernel
theorem dX5_arc_123 : decode cX5_arc 123 = .ok (.lreturn, 1) := by decide +kernel
theorem dX5_arc_124 : decode cX5_arc 124 = .ok (.ldc2_w 122, 3) := by decide +kernel
theorem dX5_arc_127 : decode cX5_arc 127 = .ok (.lreturn, 1) := by decide +kernel
theorem dX5_arc_128 : decode cX5_arc 128 = .ok (.ldc2_w 124, 3) := by decide +kernel
theorem dX5_arc_131 : decode cX5_arc 131 = .ok (.lreturn, 1) := by decide +kernel
theorem dX5_arc_132 : decode cX5_arc 132 = .ok (.ldc2_w 126, 3) := by decide +kernel
theorem dX5_arc_135 : decode cX5_arc 135 = .ok (.lreturn, 1) := by decide +kernel
theorem dX5_arc_136 : decode cX5_arc 136 = .ok (.iload_n 0, 1) := by decide +kernel
theorem dX5_arc_137 : decode cX5_arc 137 = .ok (.invokestatic 128, 3) := by decide +kernel
theorem dX5_arc_140 : decode cX5_arc 140 = .ok (.lreturn, 1) := by decide +kernel
theorem dX5_smaller_0 : decode cX5_smaller 0 = .ok (.iload_n 0, 1) := by decide +kernel
theorem dX5_smaller_1 : decode cX5_smaller 1 = .ok (.tableswitch 127 15 28 #[71, 75, 79, 83, 87, 91, 95, 99, 103, 107, 111, 115, 119, 123], 71) := by decide +kernel
theorem dX5_smaller_72 : decode cX5_smaller 72 = .ok (.ldc2_w 131, 3) := by decide +kernel
theorem dX5_smaller_75 : decode cX5_smaller 75 = .ok (.lreturn, 1) := by decide +kernel
theorem dX5_smaller_76 : decode cX5_smaller 76 = .ok (.ldc2_w 133, 3) := by decide +kernel
theorem dX5_smaller_79 : decode cX5_smaller 79 = .ok (.lreturn, 1) := by decide +kernel
theorem dX5_smaller_80 : decode cX5_smaller 80 = .ok (.ldc2_w 135, 3) := by decide +kernel
theorem dX5_smaller_83 : decode cX5_smaller 83 = .ok (.lreturn, 1) := by decide +kernel
theorem dX5_smaller_84 : decode cX5_smaller 84 = .ok (.ldc2_w 137, 3) := by decide +kernel
theorem dX5_smaller_87 : decode cX5_smaller 87 = .ok (.lreturn, 1) := by decide +kernel
theorem dX5_smaller_88 : decode cX5_smaller 88 = .ok (.ldc2_w 139, 3) := by decide +kernel
theorem dX5_smaller_91 : decode cX5_smaller 91 = .ok (.lreturn, 1) := by decide +kernel
theorem dX5_smaller_92 : decode cX5_smaller 92 = .ok (.ldc2_w 141, 3) := by decide +kernel
theorem dX5_smaller_95 : decode cX5_smaller 95 = .ok (.lreturn, 1) := by decide +kernel
theorem dX5_smaller_96 : decode cX5_smaller 96 = .ok (.ldc2_w 143, 3) := by decide +kernel
theorem dX5_smaller_99 : decode cX5_smaller 99 = .ok (.lreturn, 1) := by decide +kernel
theorem dX5_smaller_100 : decode cX5_smaller 100 = .ok (.ldc2_w 145, 3) := by decide +kernel
theorem dX5_smaller_103 : decode cX5_smaller 103 = .ok (.lreturn, 1) := by decide +kernel
theorem dX5_smaller_104 : decode cX5_smaller 104 = .ok (.ldc2_w 147, 3) := by decide +kernel
theorem dX5_smaller_107 : decode cX5_smaller 107 = .ok (.lreturn, 1) := by decide +kernel
theorem dX5_smaller_108 : decode cX5_smaller 108 = .ok (.ldc2_w 149, 3) := by decide +kernel
theorem dX5_smaller_111 : decode cX5_smaller 111 = .ok (.lreturn, 1) := by decide +kernel
theorem dX5_smaller_112 : decode cX5_smaller 112 = .ok (.ldc2_w 151, 3) := by decide +kernel
theorem dX5_smaller_115 : decode cX5_smaller 115 = .ok (.lreturn, 1) := by decide +kernel
theorem dX5_smaller_116 : decode cX5_smaller 116 = .ok (.ldc2_w 153, 3) := by decide +kernel
theorem dX5_smaller_119 : decode cX5_smaller 119 = .ok (.lreturn, 1) := by decide +kernel
theorem dX5_smaller_120 : decode cX5_smaller 120 = .ok (.ldc2_w 155, 3) := by decide +kernel
theorem dX5_smaller_123 : decode cX5_smaller 123 = .ok (.lreturn, 1) := by decide +kernel
theorem dX5_smaller_124 : decode cX5_smaller 124 = .ok (.ldc2_w 157, 3) := by decide +kernel
theorem dX5_smaller_127 : decode cX5_smaller 127 = .ok (.lreturn, 1) := by decide +kernel
theorem dX5_smaller_128 : decode cX5_smaller 128 = .ok (.lconst 1, 1) := by decide +kernel
theorem dX5_smaller_129 : decode cX5_smaller 129 = .ok (.lreturn, 1) := by decide +kernel
theorem dX5_wave_0 : decode cX5_wave 0 = .ok (.aload_n 0, 1) := by decide +kernel
theorem dX5_wave_1 : decode cX5_wave 1 = .ok (.iconst 0, 1) := by decide +kernel
theorem dX5_wave_2 : decode cX5_wave 2 = .ok (.putfield 29, 3) := by decide +kernel
theorem dX5_wave_5 : decode cX5_wave 5 = .ok (.iload_n 1, 1) := by decide +kernel
theorem dX5_wave_6 : decode cX5_wave 6 = .ok (.i2l, 1) := by decide +kernel
theorem dX5_wave_7 : decode cX5_wave 7 = .ok (.lstore_n 3, 1) := by decide +kernel
theorem dX5_wave_8 : decode cX5_wave 8 = .ok (.lload_n 3, 1) := by decide +kernel
theorem dX5_wave_9 : decode cX5_wave 9 = .ok (.ldc2_w 159, 3) := by decide +kernel
theorem dX5_wave_12 : decode cX5_wave 12 = .ok (.lcmp, 1) := by decide +kernel
theorem dX5_wave_13 : decode cX5_wave 13 = .ok (.ifCond .gt 11, 3) := by decide +kernel
theorem dX5_wave_16 : decode cX5_wave 16 = .ok (.lload_n 3, 1) := by decide +kernel
theorem dX5_wave_17 : decode cX5_wave 17 = .ok (.ldc2_w 161, 3) := by decide +kernel
theorem dX5_wave_20 : decode cX5_wave 20 = .ok (.lcmp, 1) := by decide +kernel
theorem dX5_wave_21 : decode cX5_wave 21 = .ok (.ifCond .ge 7, 3) := by decide +kernel
theorem dX5_wave_24 : decode cX5_wave 24 = .ok (.iconst 1, 1) := by decide +kernel
theorem dX5_wave_25 : decode cX5_wave 25 = .ok (.goto 4, 3) := by decide +kernel
theorem dX5_wave_28 : decode cX5_wave 28 = .ok (.iconst 0, 1) := by decide +kernel
theorem dX5_wave_29 : decode cX5_wave 29 = .ok (.istore 5, 2) := by decide +kernel
theorem dX5_wave_31 : decode cX5_wave 31 = .ok (.iload 5, 2) := by decide +kernel
theorem dX5_wave_33 : decode cX5_wave 33 = .ok (.ifCond .ne 7, 3) := by decide +kernel
theorem dX5_wave_36 : decode cX5_wave 36 = .ok (.lload_n 3, 1) := by decide +kernel
theorem dX5_wave_37 : decode cX5_wave 37 = .ok (.goto 22, 3) := by decide +kernel
theorem dX5_wave_40 : decode cX5_wave 40 = .ok (.lload_n 3, 1) := by decide +kernel
theorem dX5_wave_41 : decode cX5_wave 41 = .ok (.lconst 0, 1) := by decide +kernel
theorem dX5_wave_42 : decode cX5_wave 42 = .ok (.lcmp, 1) := by decide +kernel
theorem dX5_wave_43 : decode cX5_wave 43 = .ok (.ifCond .le 11, 3) := by decide +kernel
theorem dX5_wave_46 : decode cX5_wave 46 = .ok (.lload_n 3, 1) := by decide +kernel
theorem dX5_wave_47 : decode cX5_wave 47 = .ok (.ldc2_w 163, 3) := by decide +kernel
theorem dX5_wave_50 : decode cX5_wave 50 = .ok (.lsub, 1) := by decide +kernel
theorem dX5_wave_51 : decode cX5_wave 51 = .ok (.goto 8, 3) := by decide +kernel
theorem dX5_wave_54 : decode cX5_wave 54 = .ok (.lload_n 3, 1) := by decide +kernel
theorem dX5_wave_55 : decode cX5_wave 55 = .ok (.ldc2_w 163, 3) := by decide +kernel
theorem dX5_wave_58 : decode cX5_wave 58 = .ok (.ladd, 1) := by decide +kernel
theorem dX5_wave_59 : decode cX5_wave 59 = .ok (.lstore_n 3, 1) := by decide +kernel
theorem dX5_wave_60 : decode cX5_wave 60 = .ok (.ldc2_w 165, 3) := by decide +kernel
theorem dX5_wave_63 : decode cX5_wave 63 = .ok (.lstore 6, 2) := by decide +kernel
theorem dX5_wave_65 : decode cX5_wave 65 = .ok (.lconst 0, 1) := by decide +kernel
theorem dX5_wave_66 : decode cX5_wave 66 = .ok (.lstore 8, 2) := by decide +kernel
theorem dX5_wave_68 : decode cX5_wave 68 = .ok (.iconst 0, 1) := by decide +kernel
theorem dX5_wave_69 : decode cX5_wave 69 = .ok (.istore 10, 2) := by decide +kernel
theorem dX5_wave_71 : decode cX5_wave 71 = .ok (.iload 10, 2) := by decide +kernel
theorem dX5_wave_73 : decode cX5_wave 73 = .ok (.bipush 30, 2) := by decide +kernel
theorem dX5_wave_75 : decode cX5_wave 75 = .ok (.if_icmp .ge 65, 3) := by decide +kernel
theorem dX5_wave_78 : decode cX5_wave 78 = .ok (.lload_n 3, 1) := by decide +kernel
theorem dX5_wave_79 : decode cX5_wave 79 = .ok (.lconst 0, 1) := by decide +kernel
theorem dX5_wave_80 : decode cX5_wave 80 = .ok (.lcmp, 1) := by decide +kernel
theorem dX5_wave_81 : decode cX5_wave 81 = .ok (.ifCond .ge 9, 3) := by decide +kernel
theorem dX5_wave_84 : decode cX5_wave 84 = .ok (.ldc2_w 167, 3) := by decide +kernel
theorem dX5_wave_87 : decode cX5_wave 87 = .ok (.goto 4, 3) := by decide +kernel
theorem dX5_wave_90 : decode cX5_wave 90 = .ok (.lconst 1, 1) := by decide +kernel
theorem dX5_wave_91 : decode cX5_wave 91 = .ok (.lstore 11, 2) := by decide +kernel
theorem dX5_wave_93 : decode cX5_wave 93 = .ok (.lload 6, 2) := by decide +kernel
theorem dX5_wave_95 : decode cX5_wave 95 = .ok (.lstore 13, 2) := by decide +kernel
theorem dX5_wave_97 : decode cX5_wave 97 = .ok (.lload 6, 2) := by decide +kernel
theorem dX5_wave_99 : decode cX5_wave 99 = .ok (.lload 11, 2) := by decide +kernel
theorem dX5_wave_101 : decode cX5_wave 101 = .ok (.lload 8, 2) := by decide +kernel
theorem dX5_wave_103 : decode cX5_wave 103 = .ok (.iload 10, 2) := by decide +kernel
theorem dX5_wave_105 : decode cX5_wave 105 = .ok (.lshr, 1) := by decide +kernel
theorem dX5_wave_106 : decode cX5_wave 106 = .ok (.lmul, 1) := by decide +kernel
theorem dX5_wave_107 : decode cX5_wave 107 = .ok (.lsub, 1) := by decide +kernel
theorem dX5_wave_108 : decode cX5_wave 108 = .ok (.lstore 6, 2) := by decide +kernel
theorem dX5_wave_110 : decode cX5_wave 110 = .ok (.lload 8, 2) := by decide +kernel
theorem dX5_wave_112 : decode cX5_wave 112 = .ok (.lload 11, 2) := by decide +kernel
theorem dX5_wave_114 : decode cX5_wave 114 = .ok (.lload 13, 2) := by decide +kernel
theorem dX5_wave_116 : decode cX5_wave 116 = .ok (.iload 10, 2) := by decide +kernel
theorem dX5_wave_118 : decode cX5_wave 118 = .ok (.lshr, 1) := by decide +kernel
theorem dX5_wave_119 : decode cX5_wave 119 = .ok (.lmul, 1) := by decide +kernel
theorem dX5_wave_120 : decode cX5_wave 120 = .ok (.ladd, 1) := by decide +kernel
theorem dX5_wave_121 : decode cX5_wave 121 = .ok (.lstore 8, 2) := by decide +kernel
theorem dX5_wave_123 : decode cX5_wave 123 = .ok (.lload_n 3, 1) := by decide +kernel
theorem dX5_wave_124 : decode cX5_wave 124 = .ok (.lload 11, 2) := by decide +kernel
theorem dX5_wave_126 : decode cX5_wave 126 = .ok (.iload 10, 2) := by decide +kernel
theorem dX5_wave_128 : decode cX5_wave 128 = .ok (.invokestatic 169, 3) := by decide +kernel
theorem dX5_wave_131 : decode cX5_wave 131 = .ok (.lmul, 1) := by decide +kernel
theorem dX5_wave_132 : decode cX5_wave 132 = .ok (.lsub, 1) := by decide +kernel
theorem dX5_wave_133 : decode cX5_wave 133 = .ok (.lstore_n 3, 1) := by decide +kernel
theorem dX5_wave_134 : decode cX5_wave 134 = .ok (.iinc 10 1, 3) := by decide +kernel
theorem dX5_wave_137 : decode cX5_wave 137 = .ok (.goto (-66), 3) := by decide +kernel
theorem dX5_wave_140 : decode cX5_wave 140 = .ok (.iload_n 2, 1) := by decide +kernel
theorem dX5_wave_141 : decode cX5_wave 141 = .ok (.ifCond .eq 8, 3) := by decide +kernel
theorem dX5_wave_144 : decode cX5_wave 144 = .ok (.lload 6, 2) := by decide +kernel
theorem dX5_wave_146 : decode cX5_wave 146 = .ok (.goto 5, 3) := by decide +kernel
theorem dX5_wave_149 : decode cX5_wave 149 = .ok (.lload 8, 2) := by decide +kernel
theorem dX5_wave_151 : decode cX5_wave 151 = .ok (.lstore 10, 2) := by decide +kernel
theorem dX5_wave_153 : decode cX5_wave 153 = .ok (.iload 5, 2) := by decide +kernel
theorem dX5_wave_155 : decode cX5_wave 155 = .ok (.ifCond .eq 9, 3) := by decide +kernel
theorem dX5_wave_158 : decode cX5_wave 158 = .ok (.lload 10, 2) := by decide +kernel
theorem dX5_wave_160 : decode cX5_wave 160 = .ok (.lneg, 1) := by decide +kernel
theorem dX5_wave_161 : decode cX5_wave 161 = .ok (.goto 5, 3) := by decide +kernel
theorem dX5_wave_164 : decode cX5_wave 164 = .ok (.lload 10, 2) := by decide +kernel
theorem dX5_wave_166 : decode cX5_wave 166 = .ok (.l2i, 1) := by decide +kernel
theorem dX5_wave_167 : decode cX5_wave 167 = .ok (.ireturn, 1) := by decide +kernel
theorem dX5_isNear_0 : decode cX5_isNear 0 = .ok (.iload_n 0, 1) := by decide +kernel
theorem dX5_isNear_1 : decode cX5_isNear 1 = .ok (.ldc 172, 2) := by decide +kernel
theorem dX5_isNear_3 : decode cX5_isNear 3 = .ok (.if_icmp .lt 13, 3) := by decide +kernel
theorem dX5_isNear_6 : decode cX5_isNear 6 = .ok (.iload_n 0, 1) := by decide +kernel
theorem dX5_isNear_7 : decode cX5_isNear 7 = .ok (.ldc 173, 2) := by decide +kernel
theorem dX5_isNear_9 : decode cX5_isNear 9 = .ok (.if_icmp .gt 7, 3) := by decide +kernel
theorem dX5_isNear_12 : decode cX5_isNear 12 = .ok (.iconst 1, 1) := by decide +kernel
theorem dX5_isNear_13 : decode cX5_isNear 13 = .ok (.goto 4, 3) := by decide +kernel
theorem dX5_isNear_16 : decode cX5_isNear 16 = .ok (.iconst 0, 1) := by decide +kernel
theorem dX5_isNear_17 : decode cX5_isNear 17 = .ok (.ireturn, 1) := by decide +kernel
theorem dX5_turn_0 : decode cX5_turn 0 = .ok (.iload_n 1, 1) := by decide +kernel
theorem dX5_turn_1 : decode cX5_turn 1 = .ok (.ifCond .ge 7, 3) := by decide +kernel
theorem dX5_turn_4 : decode cX5_turn 4 = .ok (.iconst 1, 1) := by decide +kernel
theorem dX5_turn_5 : decode cX5_turn 5 = .ok (.goto 4, 3) := by decide +kernel
theorem dX5_turn_8 : decode cX5_turn 8 = .ok (.iconst 0, 1) := by decide +kernel
theorem dX5_turn_9 : decode cX5_turn 9 = .ok (.istore_n 3, 1) := by decide +kernel
theorem dX5_turn_10 : decode cX5_turn 10 = .ok (.iload_n 3, 1) := by decide +kernel
theorem dX5_turn_11 : decode cX5_turn 11 = .ok (.ifCond .eq 9, 3) := by decide +kernel
theorem dX5_turn_14 : decode cX5_turn 14 = .ok (.iload_n 1, 1) := by decide +kernel
theorem dX5_turn_15 : decode cX5_turn 15 = .ok (.i2l, 1) := by decide +kernel
theorem dX5_turn_16 : decode cX5_turn 16 = .ok (.lneg, 1) := by decide +kernel
theorem dX5_turn_17 : decode cX5_turn 17 = .ok (.goto 5, 3) := by decide +kernel
theorem dX5_turn_20 : decode cX5_turn 20 = .ok (.iload_n 1, 1) := by decide +kernel
theorem dX5_turn_21 : decode cX5_turn 21 = .ok (.i2l, 1) := by decide +kernel
theorem dX5_turn_22 : decode cX5_turn 22 = .ok (.lstore 4, 2) := by decide +kernel
theorem dX5_turn_24 : decode cX5_turn 24 = .ok (.iload_n 3, 1) := by decide +kernel
theorem dX5_turn_25 : decode cX5_turn 25 = .ok (.ifCond .eq 9, 3) := by decide +kernel
theorem dX5_turn_28 : decode cX5_turn 28 = .ok (.iload_n 2, 1) := by decide +kernel
theorem dX5_turn_29 : decode cX5_turn 29 = .ok (.i2l, 1) := by decide +kernel
theorem dX5_turn_30 : decode cX5_turn 30 = .ok (.lneg, 1) := by decide +kernel
theorem dX5_turn_31 : decode cX5_turn 31 = .ok (.goto 5, 3) := by decide +kernel
theorem dX5_turn_34 : decode cX5_turn 34 = .ok (.iload_n 2, 1) := by decide +kernel
theorem dX5_turn_35 : decode cX5_turn 35 = .ok (.i2l, 1) := by decide +kernel
theorem dX5_turn_36 : decode cX5_turn 36 = .ok (.lstore 6, 2) := by decide +kernel
theorem dX5_turn_38 : decode cX5_turn 38 = .ok (.iload_n 3, 1) := by decide +kernel
theorem dX5_turn_39 : decode cX5_turn 39 = .ok (.ifCond .eq 9, 3) := by decide +kernel
theorem dX5_turn_42 : decode cX5_turn 42 = .ok (.ldc2_w 174, 3) := by decide +kernel
theorem dX5_turn_45 : decode cX5_turn 45 = .ok (.goto 4, 3) := by decide +kernel
theorem dX5_turn_48 : decode cX5_turn 48 = .ok (.lconst 0, 1) := by decide +kernel
theorem dX5_turn_49 : decode cX5_turn 49 = .ok (.lstore 8, 2) := by decide +kernel
theorem dX5_turn_51 : decode cX5_turn 51 = .ok (.iconst 0, 1) := by decide +kernel
theorem dX5_turn_52 : decode cX5_turn 52 = .ok (.istore 10, 2) := by decide +kernel
theorem dX5_turn_54 : decode cX5_turn 54 = .ok (.iload 10, 2) := by decide +kernel
theorem dX5_turn_56 : decode cX5_turn 56 = .ok (.bipush 30, 2) := by decide +kernel
theorem dX5_turn_58 : decode cX5_turn 58 = .ok (.if_icmp .ge 68, 3) := by decide +kernel
theorem dX5_turn_61 : decode cX5_turn 61 = .ok (.lload 6, 2) := by decide +kernel
theorem dX5_turn_63 : decode cX5_turn 63 = .ok (.lconst 0, 1) := by decide +kernel
theorem dX5_turn_64 : decode cX5_turn 64 = .ok (.lcmp, 1) := by decide +kernel
theorem dX5_turn_65 : decode cX5_turn 65 = .ok (.ifCond .ge 9, 3) := by decide +kernel
theorem dX5_turn_68 : decode cX5_turn 68 = .ok (.ldc2_w 167, 3) := by decide +kernel
theorem dX5_turn_71 : decode cX5_turn 71 = .ok (.goto 4, 3) := by decide +kernel
theorem dX5_turn_74 : decode cX5_turn 74 = .ok (.lconst 1, 1) := by decide +kernel
theorem dX5_turn_75 : decode cX5_turn 75 = .ok (.lstore 11, 2) := by decide +kernel
theorem dX5_turn_77 : decode cX5_turn 77 = .ok (.lload 4, 2) := by decide +kernel
theorem dX5_turn_79 : decode cX5_turn 79 = .ok (.lstore 13, 2) := by decide +kernel
theorem dX5_turn_81 : decode cX5_turn 81 = .ok (.lload 4, 2) := by decide +kernel
theorem dX5_turn_83 : decode cX5_turn 83 = .ok (.lload 11, 2) := by decide +kernel
theorem dX5_turn_85 : decode cX5_turn 85 = .ok (.lload 6, 2) := by decide +kernel
theorem dX5_turn_87 : decode cX5_turn 87 = .ok (.iload 10, 2) := by decide +kernel
theorem dX5_turn_89 : decode cX5_turn 89 = .ok (.lshr, 1) := by decide +kernel
theorem dX5_turn_90 : decode cX5_turn 90 = .ok (.lmul, 1) := by decide +kernel
theorem dX5_turn_91 : decode cX5_turn 91 = .ok (.ladd, 1) := by decide +kernel
theorem dX5_turn_92 : decode cX5_turn 92 = .ok (.lstore 4, 2) := by decide +kernel
theorem dX5_turn_94 : decode cX5_turn 94 = .ok (.lload 6, 2) := by decide +kernel
theorem dX5_turn_96 : decode cX5_turn 96 = .ok (.lload 11, 2) := by decide +kernel
theorem dX5_turn_98 : decode cX5_turn 98 = .ok (.lload 13, 2) := by decide +kernel
theorem dX5_turn_100 : decode cX5_turn 100 = .ok (.iload 10, 2) := by decide +kernel
theorem dX5_turn_102 : decode cX5_turn 102 = .ok (.lshr, 1) := by decide +kernel
theorem dX5_turn_103 : decode cX5_turn 103 = .ok (.lmul, 1) := by decide +kernel
theorem dX5_turn_104 : decode cX5_turn 104 = .ok (.lsub, 1) := by decide +kernel
theorem dX5_turn_105 : decode cX5_turn 105 = .ok (.lstore 6, 2) := by decide +kernel
theorem dX5_turn_107 : decode cX5_turn 107 = .ok (.lload 8, 2) := by decide +kernel
theorem dX5_turn_109 : decode cX5_turn 109 = .ok (.lload 11, 2) := by decide +kernel
theorem dX5_turn_111 : decode cX5_turn 111 = .ok (.iload 10, 2) := by decide +kernel
theorem dX5_turn_113 : decode cX5_turn 113 = .ok (.invokestatic 169, 3) := by decide +kernel
theorem dX5_turn_116 : decode cX5_turn 116 = .ok (.lmul, 1) := by decide +kernel
theorem dX5_turn_117 : decode cX5_turn 117 = .ok (.ladd, 1) := by decide +kernel
theorem dX5_turn_118 : decode cX5_turn 118 = .ok (.lstore 8, 2) := by decide +kernel
theorem dX5_turn_120 : decode cX5_turn 120 = .ok (.iinc 10 1, 3) := by decide +kernel
theorem dX5_turn_123 : decode cX5_turn 123 = .ok (.goto (-69), 3) := by decide +kernel
theorem dX5_turn_126 : decode cX5_turn 126 = .ok (.aload_n 0, 1) := by decide +kernel
theorem dX5_turn_127 : decode cX5_turn 127 = .ok (.lload 4, 2) := by decide +kernel
theorem dX5_turn_129 : decode cX5_turn 129 = .ok (.putfield 176, 3) := by decide +kernel
theorem dX5_turn_132 : decode cX5_turn 132 = .ok (.aload_n 0, 1) := by decide +kernel
theorem dX5_turn_133 : decode cX5_turn 133 = .ok (.lload 8, 2) := by decide +kernel
theorem dX5_turn_135 : decode cX5_turn 135 = .ok (.putfield 180, 3) := by decide +kernel
theorem dX5_turn_138 : decode cX5_turn 138 = .ok (.return_, 1) := by decide +kernel
theorem dX5_angle_0 : decode cX5_angle 0 = .ok (.aload_n 0, 1) := by decide +kernel
theorem dX5_angle_1 : decode cX5_angle 1 = .ok (.iload_n 1, 1) := by decide +kernel
theorem dX5_angle_2 : decode cX5_angle 2 = .ok (.invokestatic 183, 3) := by decide +kernel
theorem dX5_angle_5 : decode cX5_angle 5 = .ok (.ifCond .eq 14, 3) := by decide +kernel
theorem dX5_angle_8 : decode cX5_angle 8 = .ok (.iload_n 2, 1) := by decide +kernel
theorem dX5_angle_9 : decode cX5_angle 9 = .ok (.invokestatic 183, 3) := by decide +kernel
theorem dX5_angle_12 : decode cX5_angle 12 = .ok (.ifCond .eq 7, 3) := by decide +kernel
theorem dX5_angle_15 : decode cX5_angle 15 = .ok (.iconst 0, 1) := by decide +kernel
theorem dX5_angle_16 : decode cX5_angle 16 = .ok (.goto 4, 3) := by decide +kernel
theorem dX5_angle_19 : decode cX5_angle 19 = .ok (.iconst 1, 1) := by decide +kernel
theorem dX5_angle_20 : decode cX5_angle 20 = .ok (.invokevirtual 45, 3) := by decide +kernel
theorem dX5_angle_23 : decode cX5_angle 23 = .ok (.ifCond .eq 5, 3) := by decide +kernel
theorem dX5_angle_26 : decode cX5_angle 26 = .ok (.iconst 0, 1) := by decide +kernel
theorem dX5_angle_27 : decode cX5_angle 27 = .ok (.ireturn, 1) := by decide +kernel
theorem dX5_angle_28 : decode cX5_angle 28 = .ok (.aload_n 0, 1) := by decide +kernel
theorem dX5_angle_29 : decode cX5_angle 29 = .ok (.iload_n 1, 1) := by decide +kernel
theorem dX5_angle_30 : decode cX5_angle 30 = .ok (.iload_n 2, 1) := by decide +kernel
theorem dX5_angle_31 : decode cX5_angle 31 = .ok (.invokevirtual 186, 3) := by decide +kernel
theorem dX5_angle_34 : decode cX5_angle 34 = .ok (.iload_n 1, 1) := by decide +kernel
theorem dX5_angle_35 : decode cX5_angle 35 = .ok (.ifCond .ne 11, 3) := by decide +kernel
theorem dX5_angle_38 : decode cX5_angle 38 = .ok (.iload_n 2, 1) := by decide +kernel
theorem dX5_angle_39 : decode cX5_angle 39 = .ok (.ifCond .ne 7, 3) := by decide +kernel
theorem dX5_angle_42 : decode cX5_angle 42 = .ok (.iconst 0, 1) := by decide +kernel
theorem dX5_angle_43 : decode cX5_angle 43 = .ok (.goto 8, 3) := by decide +kernel
theorem dX5_angle_46 : decode cX5_angle 46 = .ok (.aload_n 0, 1) := by decide +kernel
theorem dX5_angle_47 : decode cX5_angle 47 = .ok (.getfield 180, 3) := by decide +kernel
theorem dX5_angle_50 : decode cX5_angle 50 = .ok (.l2i, 1) := by decide +kernel
theorem dX5_angle_51 : decode cX5_angle 51 = .ok (.ireturn, 1) := by decide +kernel
theorem dX5_length_0 : decode cX5_length 0 = .ok (.aload_n 0, 1) := by decide +kernel
theorem dX5_length_1 : decode cX5_length 1 = .ok (.iload_n 1, 1) := by decide +kernel
theorem dX5_length_2 : decode cX5_length 2 = .ok (.invokestatic 183, 3) := by decide +kernel
theorem dX5_length_5 : decode cX5_length 5 = .ok (.ifCond .eq 14, 3) := by decide +kernel
theorem dX5_length_8 : decode cX5_length 8 = .ok (.iload_n 2, 1) := by decide +kernel
theorem dX5_length_9 : decode cX5_length 9 = .ok (.invokestatic 183, 3) := by decide +kernel
theorem dX5_length_12 : decode cX5_length 12 = .ok (.ifCond .eq 7, 3) := by decide +kernel
theorem dX5_length_15 : decode cX5_length 15 = .ok (.iconst 0, 1) := by decide +kernel
theorem dX5_length_16 : decode cX5_length 16 = .ok (.goto 4, 3) := by decide +kernel
theorem dX5_length_19 : decode cX5_length 19 = .ok (.iconst 1, 1) := by decide +kernel
theorem dX5_length_20 : decode cX5_length 20 = .ok (.invokevirtual 45, 3) := by decide +kernel
theorem dX5_length_23 : decode cX5_length 23 = .ok (.ifCond .eq 5, 3) := by decide +kernel
theorem dX5_length_26 : decode cX5_length 26 = .ok (.iconst 0, 1) := by decide +kernel
theorem dX5_length_27 : decode cX5_length 27 = .ok (.ireturn, 1) := by decide +kernel
theorem dX5_length_28 : decode cX5_length 28 = .ok (.aload_n 0, 1) := by decide +kernel
theorem dX5_length_29 : decode cX5_length 29 = .ok (.iload_n 1, 1) := by decide +kernel
theorem dX5_length_30 : decode cX5_length 30 = .ok (.iload_n 2, 1) := by decide +kernel
theorem dX5_length_31 : decode cX5_length 31 = .ok (.invokevirtual 186, 3) := by decide +kernel
theorem dX5_length_34 : decode cX5_length 34 = .ok (.aload_n 0, 1) := by decide +kernel
theorem dX5_length_35 : decode cX5_length 35 = .ok (.getfield 176, 3) := by decide +kernel
theorem dX5_length_38 : decode cX5_length 38 = .ok (.ldc2_w 165, 3) := by decide +kernel
theorem dX5_length_41 : decode cX5_length 41 = .ok (.lmul, 1) := by decide +kernel
theorem dX5_length_42 : decode cX5_length 42 = .ok (.bipush 30, 2) := by decide +kernel
theorem dX5_length_44 : decode cX5_length 44 = .ok (.invokestatic 37, 3) := by decide +kernel
theorem dX5_length_47 : decode cX5_length 47 = .ok (.l2i, 1) := by decide +kernel
theorem dX5_length_48 : decode cX5_length 48 = .ok (.ireturn, 1) := by decide +kernel
end
section
theorem dL_law_0 : decode cL_law 0 = .ok (.new 8, 3) := by decide +kernel
theorem dL_law_3 : decode cL_law 3 = .ok (.dup, 1) := by decide +kernel
theorem dL_law_4 : decode cL_law 4 = .ok (.invokespecial 50, 3) := by decide +kernel
theorem dL_law_7 : decode cL_law 7 = .ok (.astore_n 1, 1) := by decide +kernel
theorem dL_law_8 : decode cL_law 8 = .ok (.new 51, 3) := by decide +kernel
theorem dL_law_11 : decode cL_law 11 = .ok (.dup, 1) := by decide +kernel
theorem dL_law_12 : decode cL_law 12 = .ok (.invokespecial 53, 3) := by decide +kernel
theorem dL_law_15 : decode cL_law 15 = .ok (.astore_n 2, 1) := by decide +kernel
theorem dL_law_16 : decode cL_law 16 = .ok (.iconst 1, 1) := by decide +kernel
theorem dL_law_17 : decode cL_law 17 = .ok (.newarray .long, 2) := by decide +kernel
theorem dL_law_19 : decode cL_law 19 = .ok (.astore_n 3, 1) := by decide +kernel
theorem dL_law_20 : decode cL_law 20 = .ok (.iconst 0, 1) := by decide +kernel
theorem dL_law_21 : decode cL_law 21 = .ok (.istore 4, 2) := by decide +kernel
theorem dL_law_23 : decode cL_law 23 = .ok (.iload 4, 2) := by decide +kernel
theorem dL_law_25 : decode cL_law 25 = .ok (.aload_n 0, 1) := by decide +kernel
theorem dL_law_26 : decode cL_law 26 = .ok (.arraylength, 1) := by decide +kernel
theorem dL_law_27 : decode cL_law 27 = .ok (.iconst 4, 1) := by decide +kernel
theorem dL_law_28 : decode cL_law 28 = .ok (.isub, 1) := by decide +kernel
theorem dL_law_29 : decode cL_law 29 = .ok (.if_icmp .gt 918, 3) := by decide +kernel
theorem dL_law_32 : decode cL_law 32 = .ok (.aload_n 0, 1) := by decide +kernel
theorem dL_law_33 : decode cL_law 33 = .ok (.iload 4, 2) := by decide +kernel
theorem dL_law_35 : decode cL_law 35 = .ok (.iaload, 1) := by decide +kernel
theorem dL_law_36 : decode cL_law 36 = .ok (.bipush 15, 2) := by decide +kernel
theorem dL_law_38 : decode cL_law 38 = .ok (.iand, 1) := by decide +kernel
theorem dL_law_39 : decode cL_law 39 = .ok (.tableswitch 902 0 13 #[69, 149, 229, 254, 302, 358, 418, 474, 485, 545, 629, 713, 766, 834], 69) := by decide +kernel
theorem dL_law_108 : decode cL_law 108 = .ok (.aload_n 1, 1) := by decide +kernel
theorem dL_law_109 : decode cL_law 109 = .ok (.aload_n 0, 1) := by decide +kernel
theorem dL_law_110 : decode cL_law 110 = .ok (.iload 4, 2) := by decide +kernel
theorem dL_law_112 : decode cL_law 112 = .ok (.iconst 1, 1) := by decide +kernel
theorem dL_law_113 : decode cL_law 113 = .ok (.iadd, 1) := by decide +kernel
theorem dL_law_114 : decode cL_law 114 = .ok (.iaload, 1) := by decide +kernel
theorem dL_law_115 : decode cL_law 115 = .ok (.aload_n 0, 1) := by decide +kernel
theorem dL_law_116 : decode cL_law 116 = .ok (.iload 4, 2) := by decide +kernel
theorem dL_law_118 : decode cL_law 118 = .ok (.iconst 2, 1) := by decide +kernel
theorem dL_law_119 : decode cL_law 119 = .ok (.iadd, 1) := by decide +kernel
theorem dL_law_120 : decode cL_law 120 = .ok (.iaload, 1) := by decide +kernel
theorem dL_law_121 : decode cL_law 121 = .ok (.aload_n 0, 1) := by decide +kernel
theorem dL_law_122 : decode cL_law 122 = .ok (.iload 4, 2) := by decide +kernel
theorem dL_law_124 : decode cL_law 124 = .ok (.iconst 3, 1) := by decide +kernel
theorem dL_law_125 : decode cL_law 125 = .ok (.iadd, 1) := by decide +kernel
theorem dL_law_126 : decode cL_law 126 = .ok (.iaload, 1) := by decide +kernel
theorem dL_law_127 : decode cL_law 127 = .ok (.aload_n 3, 1) := by decide +kernel
theorem dL_law_128 : decode cL_law 128 = .ok (.invokestatic 54, 3) := by decide +kernel
theorem dL_law_131 : decode cL_law 131 = .ok (.istore 5, 2) := by decide +kernel
theorem dL_law_133 : decode cL_law 133 = .ok (.aload_n 2, 1) := by decide +kernel
theorem dL_law_134 : decode cL_law 134 = .ok (.aload_n 0, 1) := by decide +kernel
theorem dL_law_135 : decode cL_law 135 = .ok (.iload 4, 2) := by decide +kernel
theorem dL_law_137 : decode cL_law 137 = .ok (.iconst 1, 1) := by decide +kernel
theorem dL_law_138 : decode cL_law 138 = .ok (.iadd, 1) := by decide +kernel
theorem dL_law_139 : decode cL_law 139 = .ok (.iaload, 1) := by decide +kernel
theorem dL_law_140 : decode cL_law 140 = .ok (.aload_n 0, 1) := by decide +kernel
theorem dL_law_141 : decode cL_law 141 = .ok (.iload 4, 2) := by decide +kernel
theorem dL_law_143 : decode cL_law 143 = .ok (.iconst 2, 1) := by decide +kernel
theorem dL_law_144 : decode cL_law 144 = .ok (.iadd, 1) := by decide +kernel
theorem dL_law_145 : decode cL_law 145 = .ok (.iaload, 1) := by decide +kernel
theorem dL_law_146 : decode cL_law 146 = .ok (.aload_n 0, 1) := by decide +kernel
theorem dL_law_147 : decode cL_law 147 = .ok (.iload 4, 2) := by decide +kernel
theorem dL_law_149 : decode cL_law 149 = .ok (.iconst 3, 1) := by decide +kernel
theorem dL_law_150 : decode cL_law 150 = .ok (.iadd, 1) := by decide +kernel
theorem dL_law_151 : decode cL_law 151 = .ok (.iaload, 1) := by decide +kernel
theorem dL_law_152 : decode cL_law 152 = .ok (.invokevirtual 59, 3) := by decide +kernel
theorem dL_law_155 : decode cL_law 155 = .ok (.istore 6, 2) := by decide +kernel
theorem dL_law_157 : decode cL_law 157 = .ok (.aload_n 2, 1) := by decide +kernel
theorem dL_law_158 : decode cL_law 158 = .ok (.invokevirtual 60, 3) := by decide +kernel
theorem dL_law_161 : decode cL_law 161 = .ok (.iload 5, 2) := by decide +kernel
theorem dL_law_163 : decode cL_law 163 = .ok (.if_icmp .eq 5, 3) := by decide +kernel
theorem dL_law_166 : decode cL_law 166 = .ok (.iconst 0, 1) := by decide +kernel
theorem dL_law_167 : decode cL_law 167 = .ok (.ireturn, 1) := by decide +kernel
theorem dL_law_168 : decode cL_law 168 = .ok (.iload 5, 2) := by decide +kernel
theorem dL_law_170 : decode cL_law 170 = .ok (.ifCond .ne 15, 3) := by decide +kernel
theorem dL_law_173 : decode cL_law 173 = .ok (.aload_n 3, 1) := by decide +kernel
theorem dL_law_174 : decode cL_law 174 = .ok (.iconst 0, 1) := by decide +kernel
theorem dL_law_175 : decode cL_law 175 = .ok (.laload, 1) := by decide +kernel
theorem dL_law_176 : decode cL_law 176 = .ok (.iload 6, 2) := by decide +kernel
theorem dL_law_178 : decode cL_law 178 = .ok (.i2l, 1) := by decide +kernel
theorem dL_law_179 : decode cL_law 179 = .ok (.lcmp, 1) := by decide +kernel
theorem dL_law_180 : decode cL_law 180 = .ok (.ifCond .eq 5, 3) := by decide +kernel
theorem dL_law_183 : decode cL_law 183 = .ok (.iconst 0, 1) := by decide +kernel
theorem dL_law_184 : decode cL_law 184 = .ok (.ireturn, 1) := by decide +kernel
theorem dL_law_185 : decode cL_law 185 = .ok (.goto 756, 3) := by decide +kernel
theorem dL_law_188 : decode cL_law 188 = .ok (.aload_n 1, 1) := by decide +kernel
theorem dL_law_189 : decode cL_law 189 = .ok (.aload_n 0, 1) := by decide +kernel
theorem dL_law_190 : decode cL_law 190 = .ok (.iload 4, 2) := by decide +kernel
theorem dL_law_192 : decode cL_law 192 = .ok (.iconst 1, 1) := by decide +kernel
theorem dL_law_193 : decode cL_law 193 = .ok (.iadd, 1) := by decide +kernel
theorem dL_law_194 : decode cL_law 194 = .ok (.iaload, 1) := by decide +kernel
theorem dL_law_195 : decode cL_law 195 = .ok (.aload_n 0, 1) := by decide +kernel
theorem dL_law_196 : decode cL_law 196 = .ok (.iload 4, 2) := by decide +kernel
theorem dL_law_198 : decode cL_law 198 = .ok (.iconst 2, 1) := by decide +kernel
theorem dL_law_199 : decode cL_law 199 = .ok (.iadd, 1) := by decide +kernel
theorem dL_law_200 : decode cL_law 200 = .ok (.iaload, 1) := by decide +kernel
theorem dL_law_201 : decode cL_law 201 = .ok (.aload_n 0, 1) := by decide +kernel
theorem dL_law_202 : decode cL_law 202 = .ok (.iload 4, 2) := by decide +kernel
theorem dL_law_204 : decode cL_law 204 = .ok (.iconst 3, 1) := by decide +kernel
theorem dL_law_205 : decode cL_law 205 = .ok (.iadd, 1) := by decide +kernel
theorem dL_law_206 : decode cL_law 206 = .ok (.iaload, 1) := by decide +kernel
theorem dL_law_207 : decode cL_law 207 = .ok (.aload_n 3, 1) := by decide +kernel
theorem dL_law_208 : decode cL_law 208 = .ok (.invokestatic 64, 3) := by decide +kernel
theorem dL_law_211 : decode cL_law 211 = .ok (.istore 5, 2) := by decide +kernel
theorem dL_law_213 : decode cL_law 213 = .ok (.aload_n 2, 1) := by decide +kernel
theorem dL_law_214 : decode cL_law 214 = .ok (.aload_n 0, 1) := by decide +kernel
theorem dL_law_215 : decode cL_law 215 = .ok (.iload 4, 2) := by decide +kernel
theorem dL_law_217 : decode cL_law 217 = .ok (.iconst 1, 1) := by decide +kernel
theorem dL_law_218 : decode cL_law 218 = .ok (.iadd, 1) := by decide +kernel
theorem dL_law_219 : decode cL_law 219 = .ok (.iaload, 1) := by decide +kernel
theorem dL_law_220 : decode cL_law 220 = .ok (.aload_n 0, 1) := by decide +kernel
theorem dL_law_221 : decode cL_law 221 = .ok (.iload 4, 2) := by decide +kernel
theorem dL_law_223 : decode cL_law 223 = .ok (.iconst 2, 1) := by decide +kernel
theorem dL_law_224 : decode cL_law 224 = .ok (.iadd, 1) := by decide +kernel
theorem dL_law_225 : decode cL_law 225 = .ok (.iaload, 1) := by decide +kernel
theorem dL_law_226 : decode cL_law 226 = .ok (.aload_n 0, 1) := by decide +kernel
theorem dL_law_227 : decode cL_law 227 = .ok (.iload 4, 2) := by decide +kernel
theorem dL_law_229 : decode cL_law 229 = .ok (.iconst 3, 1) := by decide +kernel
theorem dL_law_230 : decode cL_law 230 = .ok (.iadd, 1) := by decide +kernel
theorem dL_law_231 : decode cL_law 231 = .ok (.iaload, 1) := by decide +kernel
theorem dL_law_232 : decode cL_law 232 = .ok (.invokevirtual 66, 3) := by decide +kernel
theorem dL_law_235 : decode cL_law 235 = .ok (.istore 6, 2) := by decide +kernel
theorem dL_law_237 : decode cL_law 237 = .ok (.aload_n 2, 1) := by decide +kernel
theorem dL_law_238 : decode cL_law 238 = .ok (.invokevirtual 60, 3) := by decide +kernel
theorem dL_law_241 : decode cL_law 241 = .ok (.iload 5, 2) := by decide +kernel
theorem dL_law_243 : decode cL_law 243 = .ok (.if_icmp .eq 5, 3) := by decide +kernel
theorem dL_law_246 : decode cL_law 246 = .ok (.iconst 0, 1) := by decide +kernel
theorem dL_law_247 : decode cL_law 247 = .ok (.ireturn, 1) := by decide +kernel
theorem dL_law_248 : decode cL_law 248 = .ok (.iload 5, 2) := by decide +kernel
theorem dL_law_250 : decode cL_law 250 = .ok (.ifCond .ne 15, 3) := by decide +kernel
theorem dL_law_253 : decode cL_law 253 = .ok (.aload_n 3, 1) := by decide +kernel
theorem dL_law_254 : decode cL_law 254 = .ok (.iconst 0, 1) := by decide +kernel
theorem dL_law_255 : decode cL_law 255 = .ok (.laload, 1) := by decide +kernel
theorem dL_law_256 : decode cL_law 256 = .ok (.iload 6, 2) := by decide +kernel
theorem dL_law_258 : decode cL_law 258 = .ok (.i2l, 1) := by decide +kernel
theorem dL_law_259 : decode cL_law 259 = .ok (.lcmp, 1) := by decide +kernel
theorem dL_law_260 : decode cL_law 260 = .ok (.ifCond .eq 5, 3) := by decide +kernel
theorem dL_law_263 : decode cL_law 263 = .ok (.iconst 0, 1) := by decide +kernel
theorem dL_law_264 : decode cL_law 264 = .ok (.ireturn, 1) := by decide +kernel
theorem dL_law_265 : decode cL_law 265 = .ok (.goto 676, 3) := by decide +kernel
theorem dL_law_268 : decode cL_law 268 = .ok (.aload_n 1, 1) := by decide +kernel
theorem dL_law_269 : decode cL_law 269 = .ok (.aload_n 0, 1) := by decide +kernel
theorem dL_law_270 : decode cL_law 270 = .ok (.iload 4, 2) := by decide +kernel
theorem dL_law_272 : decode cL_law 272 = .ok (.iconst 1, 1) := by decide +kernel
theorem dL_law_273 : decode cL_law 273 = .ok (.iadd, 1) := by decide +kernel
theorem dL_law_274 : decode cL_law 274 = .ok (.iaload, 1) := by decide +kernel
theorem dL_law_275 : decode cL_law 275 = .ok (.invokevirtual 67, 3) := by decide +kernel
theorem dL_law_278 : decode cL_law 278 = .ok (.aload_n 2, 1) := by decide +kernel
theorem dL_law_279 : decode cL_law 279 = .ok (.aload_n 0, 1) := by decide +kernel
theorem dL_law_280 : decode cL_law 280 = .ok (.iload 4, 2) := by decide +kernel
theorem dL_law_282 : decode cL_law 282 = .ok (.iconst 1, 1) := by decide +kernel
theorem dL_law_283 : decode cL_law 283 = .ok (.iadd, 1) := by decide +kernel
theorem dL_law_284 : decode cL_law 284 = .ok (.iaload, 1) := by decide +kernel
theorem dL_law_285 : decode cL_law 285 = .ok (.invokevirtual 70, 3) := by decide +kernel
theorem dL_law_288 : decode cL_law 288 = .ok (.if_icmp .eq 653, 3) := by decide +kernel
theorem dL_law_291 : decode cL_law 291 = .ok (.iconst 0, 1) := by decide +kernel
theorem dL_law_292 : decode cL_law 292 = .ok (.ireturn, 1) := by decide +kernel
theorem dL_law_293 : decode cL_law 293 = .ok (.aload_n 1, 1) := by decide +kernel
theorem dL_law_294 : decode cL_law 294 = .ok (.aload_n 0, 1) := by decide +kernel
theorem dL_law_295 : decode cL_law 295 = .ok (.iload 4, 2) := by decide +kernel
theorem dL_law_297 : decode cL_law 297 = .ok (.iconst 1, 1) := by decide +kernel
theorem dL_law_298 : decode cL_law 298 = .ok (.iadd, 1) := by decide +kernel
theorem dL_law_299 : decode cL_law 299 = .ok (.iaload, 1) := by decide +kernel
theorem dL_law_300 : decode cL_law 300 = .ok (.aload_n 0, 1) := by decide +kernel
theorem dL_law_301 : decode cL_law 301 = .ok (.iload 4, 2) := by decide +kernel
theorem dL_law_303 : decode cL_law 303 = .ok (.iconst 2, 1) := by decide +kernel
theorem dL_law_304 : decode cL_law 304 = .ok (.iadd, 1) := by decide +kernel
theorem dL_law_305 : decode cL_law 305 = .ok (.iaload, 1) := by decide +kernel
theorem dL_law_306 : decode cL_law 306 = .ok (.invokestatic 71, 3) := by decide +kernel
theorem dL_law_309 : decode cL_law 309 = .ok (.istore 5, 2) := by decide +kernel
theorem dL_law_311 : decode cL_law 311 = .ok (.aload_n 2, 1) := by decide +kernel
theorem dL_law_312 : decode cL_law 312 = .ok (.aload_n 0, 1) := by decide +kernel
theorem dL_law_313 : decode cL_law 313 = .ok (.iload 4, 2) := by decide +kernel
theorem dL_law_315 : decode cL_law 315 = .ok (.iconst 1, 1) := by decide +kernel
theorem dL_law_316 : decode cL_law 316 = .ok (.iadd, 1) := by decide +kernel
theorem dL_law_317 : decode cL_law 317 = .ok (.iaload, 1) := by decide +kernel
theorem dL_law_318 : decode cL_law 318 = .ok (.aload_n 0, 1) := by decide +kernel
theorem dL_law_319 : decode cL_law 319 = .ok (.iload 4, 2) := by decide +kernel
theorem dL_law_321 : decode cL_law 321 = .ok (.iconst 2, 1) := by decide +kernel
theorem dL_law_322 : decode cL_law 322 = .ok (.iadd, 1) := by decide +kernel
theorem dL_law_323 : decode cL_law 323 = .ok (.iaload, 1) := by decide +kernel
theorem dL_law_324 : decode cL_law 324 = .ok (.invokevirtual 74, 3) := by decide +kernel
theorem dL_law_327 : decode cL_law 327 = .ok (.aload_n 2, 1) := by decide +kernel
theorem dL_law_328 : decode cL_law 328 = .ok (.invokevirtual 60, 3) := by decide +kernel
theorem dL_law_331 : decode cL_law 331 = .ok (.iload 5, 2) := by decide +kernel
theorem dL_law_333 : decode cL_law 333 = .ok (.if_icmp .eq 5, 3) := by decide +kernel
theorem dL_law_336 : decode cL_law 336 = .ok (.iconst 0, 1) := by decide +kernel
theorem dL_law_337 : decode cL_law 337 = .ok (.ireturn, 1) := by decide +kernel
theorem dL_law_338 : decode cL_law 338 = .ok (.goto 603, 3) := by decide +kernel
theorem dL_law_341 : decode cL_law 341 = .ok (.aload_n 1, 1) := by decide +kernel
theorem dL_law_342 : decode cL_law 342 = .ok (.aload_n 0, 1) := by decide +kernel
theorem dL_law_343 : decode cL_law 343 = .ok (.iload 4, 2) := by decide +kernel
theorem dL_law_345 : decode cL_law 345 = .ok (.iconst 1, 1) := by decide +kernel
theorem dL_law_346 : decode cL_law 346 = .ok (.iadd, 1) := by decide +kernel
theorem dL_law_347 : decode cL_law 347 = .ok (.iaload, 1) := by decide +kernel
theorem dL_law_348 : decode cL_law 348 = .ok (.aload_n 3, 1) := by decide +kernel
theorem dL_law_349 : decode cL_law 349 = .ok (.invokestatic 75, 3) := by decide +kernel
theorem dL_law_352 : decode cL_law 352 = .ok (.istore 5, 2) := by decide +kernel
theorem dL_law_354 : decode cL_law 354 = .ok (.aload_n 2, 1) := by decide +kernel
theorem dL_law_355 : decode cL_law 355 = .ok (.aload_n 0, 1) := by decide +kernel
theorem dL_law_356 : decode cL_law 356 = .ok (.iload 4, 2) := by decide +kernel
theorem dL_law_358 : decode cL_law 358 = .ok (.iconst 1, 1) := by decide +kernel
theorem dL_law_359 : decode cL_law 359 = .ok (.iadd, 1) := by decide +kernel
theorem dL_law_360 : decode cL_law 360 = .ok (.iaload, 1) := by decide +kernel
theorem dL_law_361 : decode cL_law 361 = .ok (.invokevirtual 78, 3) := by decide +kernel
theorem dL_law_364 : decode cL_law 364 = .ok (.istore 6, 2) := by decide +kernel
theorem dL_law_366 : decode cL_law 366 = .ok (.aload_n 2, 1) := by decide +kernel
theorem dL_law_367 : decode cL_law 367 = .ok (.invokevirtual 60, 3) := by decide +kernel
theorem dL_law_370 : decode cL_law 370 = .ok (.iload 5, 2) := by decide +kernel
theorem dL_law_372 : decode cL_law 372 = .ok (.if_icmp .eq 5, 3) := by decide +kernel
theorem dL_law_375 : decode cL_law 375 = .ok (.iconst 0, 1) := by decide +kernel
theorem dL_law_376 : decode cL_law 376 = .ok (.ireturn, 1) := by decide +kernel
theorem dL_law_377 : decode cL_law 377 = .ok (.iload 5, 2) := by decide +kernel
theorem dL_law_379 : decode cL_law 379 = .ok (.ifCond .ne 15, 3) := by decide +kernel
theorem dL_law_382 : decode cL_law 382 = .ok (.aload_n 3, 1) := by decide +kernel
theorem dL_law_383 : decode cL_law 383 = .ok (.iconst 0, 1) := by decide +kernel
theorem dL_law_384 : decode cL_law 384 = .ok (.laload, 1) := by decide +kernel
theorem dL_law_385 : decode cL_law 385 = .ok (.iload 6, 2) := by decide +kernel
theorem dL_law_387 : decode cL_law 387 = .ok (.i2l, 1) := by decide +kernel
theorem dL_law_388 : decode cL_law 388 = .ok (.lcmp, 1) := by decide +kernel
theorem dL_law_389 : decode cL_law 389 = .ok (.ifCond .eq 5, 3) := by decide +kernel
theorem dL_law_392 : decode cL_law 392 = .ok (.iconst 0, 1) := by decide +kernel
theorem dL_law_393 : decode cL_law 393 = .ok (.ireturn, 1) := by decide +kernel
theorem dL_law_394 : decode cL_law 394 = .ok (.goto 547, 3) := by decide +kernel
theorem dL_law_397 : decode cL_law 397 = .ok (.aload_n 1, 1) := by decide +kernel
theorem dL_law_398 : decode cL_law 398 = .ok (.aload_n 0, 1) := by decide +kernel
theorem dL_law_399 : decode cL_law 399 = .ok (.iload 4, 2) := by decide +kernel
theorem dL_law_401 : decode cL_law 401 = .ok (.iconst 1, 1) := by decide +kernel
theorem dL_law_402 : decode cL_law 402 = .ok (.iadd, 1) := by decide +kernel
theorem dL_law_403 : decode cL_law 403 = .ok (.iaload, 1) := by decide +kernel
theorem dL_law_404 : decode cL_law 404 = .ok (.aload_n 0, 1) := by decide +kernel
theorem dL_law_405 : decode cL_law 405 = .ok (.iload 4, 2) := by decide +kernel
theorem dL_law_407 : decode cL_law 407 = .ok (.iconst 2, 1) := by decide +kernel
theorem dL_law_408 : decode cL_law 408 = .ok (.iadd, 1) := by decide +kernel
theorem dL_law_409 : decode cL_law 409 = .ok (.iaload, 1) := by decide +kernel
theorem dL_law_410 : decode cL_law 410 = .ok (.aload_n 0, 1) := by decide +kernel
theorem dL_law_411 : decode cL_law 411 = .ok (.iload 4, 2) := by decide +kernel
theorem dL_law_413 : decode cL_law 413 = .ok (.iconst 3, 1) := by decide +kernel
theorem dL_law_414 : decode cL_law 414 = .ok (.iadd, 1) := by decide +kernel
theorem dL_law_415 : decode cL_law 415 = .ok (.iaload, 1) := by decide +kernel
theorem dL_law_416 : decode cL_law 416 = .ok (.invokestatic 79, 3) := by decide +kernel
theorem dL_law_419 : decode cL_law 419 = .ok (.istore 5, 2) := by decide +kernel
theorem dL_law_421 : decode cL_law 421 = .ok (.aload_n 2, 1) := by decide +kernel
theorem dL_law_422 : decode cL_law 422 = .ok (.aload_n 0, 1) := by decide +kernel
theorem dL_law_423 : decode cL_law 423 = .ok (.iload 4, 2) := by decide +kernel
theorem dL_law_425 : decode cL_law 425 = .ok (.iconst 1, 1) := by decide +kernel
theorem dL_law_426 : decode cL_law 426 = .ok (.iadd, 1) := by decide +kernel
theorem dL_law_427 : decode cL_law 427 = .ok (.iaload, 1) := by decide +kernel
theorem dL_law_428 : decode cL_law 428 = .ok (.aload_n 0, 1) := by decide +kernel
theorem dL_law_429 : decode cL_law 429 = .ok (.iload 4, 2) := by decide +kernel
theorem dL_law_431 : decode cL_law 431 = .ok (.iconst 2, 1) := by decide +kernel
theorem dL_law_432 : decode cL_law 432 = .ok (.iadd, 1) := by decide +kernel
theorem dL_law_433 : decode cL_law 433 = .ok (.iaload, 1) := by decide +kernel
theorem dL_law_434 : decode cL_law 434 = .ok (.aload_n 0, 1) := by decide +kernel
theorem dL_law_435 : decode cL_law 435 = .ok (.iload 4, 2) := by decide +kernel
theorem dL_law_437 : decode cL_law 437 = .ok (.iconst 3, 1) := by decide +kernel
theorem dL_law_438 : decode cL_law 438 = .ok (.iadd, 1) := by decide +kernel
theorem dL_law_439 : decode cL_law 439 = .ok (.iaload, 1) := by decide +kernel
theorem dL_law_440 : decode cL_law 440 = .ok (.invokevirtual 82, 3) := by decide +kernel
theorem dL_law_443 : decode cL_law 443 = .ok (.aload_n 2, 1) := by decide +kernel
theorem dL_law_444 : decode cL_law 444 = .ok (.invokevirtual 60, 3) := by decide +kernel
theorem dL_law_447 : decode cL_law 447 = .ok (.iload 5, 2) := by decide +kernel
theorem dL_law_449 : decode cL_law 449 = .ok (.if_icmp .eq 5, 3) := by decide +kernel
theorem dL_law_452 : decode cL_law 452 = .ok (.iconst 0, 1) := by decide +kernel
theorem dL_law_453 : decode cL_law 453 = .ok (.ireturn, 1) := by decide +kernel
theorem dL_law_454 : decode cL_law 454 = .ok (.goto 487, 3) := by decide +kernel
theorem dL_law_457 : decode cL_law 457 = .ok (.aload_n 1, 1) := by decide +kernel
theorem dL_law_458 : decode cL_law 458 = .ok (.aload_n 0, 1) := by decide +kernel
theorem dL_law_459 : decode cL_law 459 = .ok (.iload 4, 2) := by decide +kernel
theorem dL_law_461 : decode cL_law 461 = .ok (.iconst 1, 1) := by decide +kernel
theorem dL_law_462 : decode cL_law 462 = .ok (.iadd, 1) := by decide +kernel
theorem dL_law_463 : decode cL_law 463 = .ok (.iaload, 1) := by decide +kernel
theorem dL_law_464 : decode cL_law 464 = .ok (.aload_n 3, 1) := by decide +kernel
theorem dL_law_465 : decode cL_law 465 = .ok (.invokestatic 83, 3) := by decide +kernel
theorem dL_law_468 : decode cL_law 468 = .ok (.istore 5, 2) := by decide +kernel
theorem dL_law_470 : decode cL_law 470 = .ok (.aload_n 2, 1) := by decide +kernel
theorem dL_law_471 : decode cL_law 471 = .ok (.aload_n 0, 1) := by decide +kernel
theorem dL_law_472 : decode cL_law 472 = .ok (.iload 4, 2) := by decide +kernel
theorem dL_law_474 : decode cL_law 474 = .ok (.iconst 1, 1) := by decide +kernel
theorem dL_law_475 : decode cL_law 475 = .ok (.iadd, 1) := by decide +kernel
theorem dL_law_476 : decode cL_law 476 = .ok (.iaload, 1) := by decide +kernel
theorem dL_law_477 : decode cL_law 477 = .ok (.invokevirtual 85, 3) := by decide +kernel
theorem dL_law_480 : decode cL_law 480 = .ok (.istore 6, 2) := by decide +kernel
theorem dL_law_482 : decode cL_law 482 = .ok (.aload_n 2, 1) := by decide +kernel
theorem dL_law_483 : decode cL_law 483 = .ok (.invokevirtual 60, 3) := by decide +kernel
theorem dL_law_486 : decode cL_law 486 = .ok (.iload 5, 2) := by decide +kernel
theorem dL_law_488 : decode cL_law 488 = .ok (.if_icmp .eq 5, 3) := by decide +kernel
theorem dL_law_491 : decode cL_law 491 = .ok (.iconst 0, 1) := by decide +kernel
theorem dL_law_492 : decode cL_law 492 = .ok (.ireturn, 1) := by decide +kernel
theorem dL_law_493 : decode cL_law 493 = .ok (.iload 5, 2) := by decide +kernel
theorem dL_law_495 : decode cL_law 495 = .ok (.ifCond .ne 15, 3) := by decide +kernel
theorem dL_law_498 : decode cL_law 498 = .ok (.aload_n 3, 1) := by decide +kernel
theorem dL_law_499 : decode cL_law 499 = .ok (.iconst 0, 1) := by decide +kernel
theorem dL_law_500 : decode cL_law 500 = .ok (.laload, 1) := by decide +kernel
theorem dL_law_501 : decode cL_law 501 = .ok (.iload 6, 2) := by decide +kernel
theorem dL_law_503 : decode cL_law 503 = .ok (.i2l, 1) := by decide +kernel
theorem dL_law_504 : decode cL_law 504 = .ok (.lcmp, 1) := by decide +kernel
theorem dL_law_505 : decode cL_law 505 = .ok (.ifCond .eq 5, 3) := by decide +kernel
theorem dL_law_508 : decode cL_law 508 = .ok (.iconst 0, 1) := by decide +kernel
theorem dL_law_509 : decode cL_law 509 = .ok (.ireturn, 1) := by decide +kernel
theorem dL_law_510 : decode cL_law 510 = .ok (.goto 431, 3) := by decide +kernel
theorem dL_law_513 : decode cL_law 513 = .ok (.aload_n 1, 1) := by decide +kernel
theorem dL_law_514 : decode cL_law 514 = .ok (.invokevirtual 86, 3) := by decide +kernel
theorem dL_law_517 : decode cL_law 517 = .ok (.aload_n 2, 1) := by decide +kernel
theorem dL_law_518 : decode cL_law 518 = .ok (.invokevirtual 89, 3) := by decide +kernel
theorem dL_law_521 : decode cL_law 521 = .ok (.goto 420, 3) := by decide +kernel
theorem dL_law_524 : decode cL_law 524 = .ok (.aload_n 1, 1) := by decide +kernel
theorem dL_law_525 : decode cL_law 525 = .ok (.aload_n 0, 1) := by decide +kernel
theorem dL_law_526 : decode cL_law 526 = .ok (.iload 4, 2) := by decide +kernel
theorem dL_law_528 : decode cL_law 528 = .ok (.iconst 1, 1) := by decide +kernel
theorem dL_law_529 : decode cL_law 529 = .ok (.iadd, 1) := by decide +kernel
theorem dL_law_530 : decode cL_law 530 = .ok (.iaload, 1) := by decide +kernel
theorem dL_law_531 : decode cL_law 531 = .ok (.aload_n 0, 1) := by decide +kernel
theorem dL_law_532 : decode cL_law 532 = .ok (.iload 4, 2) := by decide +kernel
theorem dL_law_534 : decode cL_law 534 = .ok (.iconst 2, 1) := by decide +kernel
theorem dL_law_535 : decode cL_law 535 = .ok (.iadd, 1) := by decide +kernel
theorem dL_law_536 : decode cL_law 536 = .ok (.iaload, 1) := by decide +kernel
theorem dL_law_537 : decode cL_law 537 = .ok (.aload_n 0, 1) := by decide +kernel
theorem dL_law_538 : decode cL_law 538 = .ok (.iload 4, 2) := by decide +kernel
theorem dL_law_540 : decode cL_law 540 = .ok (.iconst 3, 1) := by decide +kernel
theorem dL_law_541 : decode cL_law 541 = .ok (.iadd, 1) := by decide +kernel
theorem dL_law_542 : decode cL_law 542 = .ok (.iaload, 1) := by decide +kernel
theorem dL_law_543 : decode cL_law 543 = .ok (.invokestatic 90, 3) := by decide +kernel
theorem dL_law_546 : decode cL_law 546 = .ok (.istore 5, 2) := by decide +kernel
theorem dL_law_548 : decode cL_law 548 = .ok (.aload_n 2, 1) := by decide +kernel
theorem dL_law_549 : decode cL_law 549 = .ok (.aload_n 0, 1) := by decide +kernel
theorem dL_law_550 : decode cL_law 550 = .ok (.iload 4, 2) := by decide +kernel
theorem dL_law_552 : decode cL_law 552 = .ok (.iconst 1, 1) := by decide +kernel
theorem dL_law_553 : decode cL_law 553 = .ok (.iadd, 1) := by decide +kernel
theorem dL_law_554 : decode cL_law 554 = .ok (.iaload, 1) := by decide +kernel
theorem dL_law_555 : decode cL_law 555 = .ok (.aload_n 0, 1) := by decide +kernel
theorem dL_law_556 : decode cL_law 556 = .ok (.iload 4, 2) := by decide +kernel
theorem dL_law_558 : decode cL_law 558 = .ok (.iconst 2, 1) := by decide +kernel
theorem dL_law_559 : decode cL_law 559 = .ok (.iadd, 1) := by decide +kernel
theorem dL_law_560 : decode cL_law 560 = .ok (.iaload, 1) := by decide +kernel
theorem dL_law_561 : decode cL_law 561 = .ok (.aload_n 0, 1) := by decide +kernel
theorem dL_law_562 : decode cL_law 562 = .ok (.iload 4, 2) := by decide +kernel
theorem dL_law_564 : decode cL_law 564 = .ok (.iconst 3, 1) := by decide +kernel
theorem dL_law_565 : decode cL_law 565 = .ok (.iadd, 1) := by decide +kernel
theorem dL_law_566 : decode cL_law 566 = .ok (.iaload, 1) := by decide +kernel
theorem dL_law_567 : decode cL_law 567 = .ok (.invokevirtual 92, 3) := by decide +kernel
theorem dL_law_570 : decode cL_law 570 = .ok (.aload_n 2, 1) := by decide +kernel
theorem dL_law_571 : decode cL_law 571 = .ok (.invokevirtual 60, 3) := by decide +kernel
theorem dL_law_574 : decode cL_law 574 = .ok (.iload 5, 2) := by decide +kernel
theorem dL_law_576 : decode cL_law 576 = .ok (.if_icmp .eq 5, 3) := by decide +kernel
theorem dL_law_579 : decode cL_law 579 = .ok (.iconst 0, 1) := by decide +kernel
theorem dL_law_580 : decode cL_law 580 = .ok (.ireturn, 1) := by decide +kernel
theorem dL_law_581 : decode cL_law 581 = .ok (.goto 360, 3) := by decide +kernel
theorem dL_law_584 : decode cL_law 584 = .ok (.aload_n 1, 1) := by decide +kernel
theorem dL_law_585 : decode cL_law 585 = .ok (.aload_n 0, 1) := by decide +kernel
theorem dL_law_586 : decode cL_law 586 = .ok (.iload 4, 2) := by decide +kernel
theorem dL_law_588 : decode cL_law 588 = .ok (.iconst 1, 1) := by decide +kernel
theorem dL_law_589 : decode cL_law 589 = .ok (.iadd, 1) := by decide +kernel
theorem dL_law_590 : decode cL_law 590 = .ok (.iaload, 1) := by decide +kernel
theorem dL_law_591 : decode cL_law 591 = .ok (.aload_n 0, 1) := by decide +kernel
theorem dL_law_592 : decode cL_law 592 = .ok (.iload 4, 2) := by decide +kernel
theorem dL_law_594 : decode cL_law 594 = .ok (.iconst 2, 1) := by decide +kernel
theorem dL_law_595 : decode cL_law 595 = .ok (.iadd, 1) := by decide +kernel
theorem dL_law_596 : decode cL_law 596 = .ok (.iaload, 1) := by decide +kernel
theorem dL_law_597 : decode cL_law 597 = .ok (.ifCond .eq 7, 3) := by decide +kernel
theorem dL_law_600 : decode cL_law 600 = .ok (.iconst 1, 1) := by decide +kernel
theorem dL_law_601 : decode cL_law 601 = .ok (.goto 4, 3) := by decide +kernel
theorem dL_law_604 : decode cL_law 604 = .ok (.iconst 0, 1) := by decide +kernel
theorem dL_law_605 : decode cL_law 605 = .ok (.aload_n 3, 1) := by decide +kernel
theorem dL_law_606 : decode cL_law 606 = .ok (.invokestatic 93, 3) := by decide +kernel
theorem dL_law_609 : decode cL_law 609 = .ok (.istore 5, 2) := by decide +kernel
theorem dL_law_611 : decode cL_law 611 = .ok (.aload_n 2, 1) := by decide +kernel
theorem dL_law_612 : decode cL_law 612 = .ok (.aload_n 0, 1) := by decide +kernel
theorem dL_law_613 : decode cL_law 613 = .ok (.iload 4, 2) := by decide +kernel
theorem dL_law_615 : decode cL_law 615 = .ok (.iconst 1, 1) := by decide +kernel
theorem dL_law_616 : decode cL_law 616 = .ok (.iadd, 1) := by decide +kernel
theorem dL_law_617 : decode cL_law 617 = .ok (.iaload, 1) := by decide +kernel
theorem dL_law_618 : decode cL_law 618 = .ok (.aload_n 0, 1) := by decide +kernel
theorem dL_law_619 : decode cL_law 619 = .ok (.iload 4, 2) := by decide +kernel
theorem dL_law_621 : decode cL_law 621 = .ok (.iconst 2, 1) := by decide +kernel
theorem dL_law_622 : decode cL_law 622 = .ok (.iadd, 1) := by decide +kernel
theorem dL_law_623 : decode cL_law 623 = .ok (.iaload, 1) := by decide +kernel
theorem dL_law_624 : decode cL_law 624 = .ok (.ifCond .eq 7, 3) := by decide +kernel
theorem dL_law_627 : decode cL_law 627 = .ok (.iconst 1, 1) := by decide +kernel
theorem dL_law_628 : decode cL_law 628 = .ok (.goto 4, 3) := by decide +kernel
theorem dL_law_631 : decode cL_law 631 = .ok (.iconst 0, 1) := by decide +kernel
theorem dL_law_632 : decode cL_law 632 = .ok (.invokevirtual 96, 3) := by decide +kernel
theorem dL_law_635 : decode cL_law 635 = .ok (.istore 6, 2) := by decide +kernel
theorem dL_law_637 : decode cL_law 637 = .ok (.aload_n 2, 1) := by decide +kernel
theorem dL_law_638 : decode cL_law 638 = .ok (.invokevirtual 60, 3) := by decide +kernel
theorem dL_law_641 : decode cL_law 641 = .ok (.iload 5, 2) := by decide +kernel
theorem dL_law_643 : decode cL_law 643 = .ok (.if_icmp .eq 5, 3) := by decide +kernel
theorem dL_law_646 : decode cL_law 646 = .ok (.iconst 0, 1) := by decide +kernel
theorem dL_law_647 : decode cL_law 647 = .ok (.ireturn, 1) := by decide +kernel
theorem dL_law_648 : decode cL_law 648 = .ok (.iload 5, 2) := by decide +kernel
theorem dL_law_650 : decode cL_law 650 = .ok (.ifCond .ne 15, 3) := by decide +kernel
theorem dL_law_653 : decode cL_law 653 = .ok (.aload_n 3, 1) := by decide +kernel
theorem dL_law_654 : decode cL_law 654 = .ok (.iconst 0, 1) := by decide +kernel
theorem dL_law_655 : decode cL_law 655 = .ok (.laload, 1) := by decide +kernel
theorem dL_law_656 : decode cL_law 656 = .ok (.iload 6, 2) := by decide +kernel
theorem dL_law_658 : decode cL_law 658 = .ok (.i2l, 1) := by decide +kernel
theorem dL_law_659 : decode cL_law 659 = .ok (.lcmp, 1) := by decide +kernel
theorem dL_law_660 : decode cL_law 660 = .ok (.ifCond .eq 5, 3) := by decide +kernel
theorem dL_law_663 : decode cL_law 663 = .ok (.iconst 0, 1) := by decide +kernel
theorem dL_law_664 : decode cL_law 664 = .ok (.ireturn, 1) := by decide +kernel
theorem dL_law_665 : decode cL_law 665 = .ok (.goto 276, 3) := by decide +kernel
theorem dL_law_668 : decode cL_law 668 = .ok (.aload_n 1, 1) := by decide +kernel
theorem dL_law_669 : decode cL_law 669 = .ok (.aload_n 0, 1) := by decide +kernel
theorem dL_law_670 : decode cL_law 670 = .ok (.iload 4, 2) := by decide +kernel
theorem dL_law_672 : decode cL_law 672 = .ok (.iconst 1, 1) := by decide +kernel
theorem dL_law_673 : decode cL_law 673 = .ok (.iadd, 1) := by decide +kernel
theorem dL_law_674 : decode cL_law 674 = .ok (.iaload, 1) := by decide +kernel
theorem dL_law_675 : decode cL_law 675 = .ok (.aload_n 0, 1) := by decide +kernel
theorem dL_law_676 : decode cL_law 676 = .ok (.iload 4, 2) := by decide +kernel
theorem dL_law_678 : decode cL_law 678 = .ok (.iconst 2, 1) := by decide +kernel
theorem dL_law_679 : decode cL_law 679 = .ok (.iadd, 1) := by decide +kernel
theorem dL_law_680 : decode cL_law 680 = .ok (.iaload, 1) := by decide +kernel
theorem dL_law_681 : decode cL_law 681 = .ok (.ifCond .eq 7, 3) := by decide +kernel
theorem dL_law_684 : decode cL_law 684 = .ok (.iconst 1, 1) := by decide +kernel
theorem dL_law_685 : decode cL_law 685 = .ok (.goto 4, 3) := by decide +kernel
theorem dL_law_688 : decode cL_law 688 = .ok (.iconst 0, 1) := by decide +kernel
theorem dL_law_689 : decode cL_law 689 = .ok (.aload_n 3, 1) := by decide +kernel
theorem dL_law_690 : decode cL_law 690 = .ok (.invokestatic 97, 3) := by decide +kernel
theorem dL_law_693 : decode cL_law 693 = .ok (.istore 5, 2) := by decide +kernel
theorem dL_law_695 : decode cL_law 695 = .ok (.aload_n 2, 1) := by decide +kernel
theorem dL_law_696 : decode cL_law 696 = .ok (.aload_n 0, 1) := by decide +kernel
theorem dL_law_697 : decode cL_law 697 = .ok (.iload 4, 2) := by decide +kernel
theorem dL_law_699 : decode cL_law 699 = .ok (.iconst 1, 1) := by decide +kernel
theorem dL_law_700 : decode cL_law 700 = .ok (.iadd, 1) := by decide +kernel
theorem dL_law_701 : decode cL_law 701 = .ok (.iaload, 1) := by decide +kernel
theorem dL_law_702 : decode cL_law 702 = .ok (.aload_n 0, 1) := by decide +kernel
theorem dL_law_703 : decode cL_law 703 = .ok (.iload 4, 2) := by decide +kernel
theorem dL_law_705 : decode cL_law 705 = .ok (.iconst 2, 1) := by decide +kernel
theorem dL_law_706 : decode cL_law 706 = .ok (.iadd, 1) := by decide +kernel
theorem dL_law_707 : decode cL_law 707 = .ok (.iaload, 1) := by decide +kernel
theorem dL_law_708 : decode cL_law 708 = .ok (.ifCond .eq 7, 3) := by decide +kernel
theorem dL_law_711 : decode cL_law 711 = .ok (.iconst 1, 1) := by decide +kernel
theorem dL_law_712 : decode cL_law 712 = .ok (.goto 4, 3) := by decide +kernel
theorem dL_law_715 : decode cL_law 715 = .ok (.iconst 0, 1) := by decide +kernel
theorem dL_law_716 : decode cL_law 716 = .ok (.invokevirtual 99, 3) := by decide +kernel
theorem dL_law_719 : decode cL_law 719 = .ok (.istore 6, 2) := by decide +kernel
theorem dL_law_721 : decode cL_law 721 = .ok (.aload_n 2, 1) := by decide +kernel
theorem dL_law_722 : decode cL_law 722 = .ok (.invokevirtual 60, 3) := by decide +kernel
theorem dL_law_725 : decode cL_law 725 = .ok (.iload 5, 2) := by decide +kernel
theorem dL_law_727 : decode cL_law 727 = .ok (.if_icmp .eq 5, 3) := by decide +kernel
theorem dL_law_730 : decode cL_law 730 = .ok (.iconst 0, 1) := by decide +kernel
theorem dL_law_731 : decode cL_law 731 = .ok (.ireturn, 1) := by decide +kernel
theorem dL_law_732 : decode cL_law 732 = .ok (.iload 5, 2) := by decide +kernel
theorem dL_law_734 : decode cL_law 734 = .ok (.ifCond .ne 15, 3) := by decide +kernel
theorem dL_law_737 : decode cL_law 737 = .ok (.aload_n 3, 1) := by decide +kernel
theorem dL_law_738 : decode cL_law 738 = .ok (.iconst 0, 1) := by decide +kernel
theorem dL_law_739 : decode cL_law 739 = .ok (.laload, 1) := by decide +kernel
theorem dL_law_740 : decode cL_law 740 = .ok (.iload 6, 2) := by decide +kernel
theorem dL_law_742 : decode cL_law 742 = .ok (.i2l, 1) := by decide +kernel
theorem dL_law_743 : decode cL_law 743 = .ok (.lcmp, 1) := by decide +kernel
theorem dL_law_744 : decode cL_law 744 = .ok (.ifCond .eq 5, 3) := by decide +kernel
theorem dL_law_747 : decode cL_law 747 = .ok (.iconst 0, 1) := by decide +kernel
theorem dL_law_748 : decode cL_law 748 = .ok (.ireturn, 1) := by decide +kernel
theorem dL_law_749 : decode cL_law 749 = .ok (.goto 192, 3) := by decide +kernel
theorem dL_law_752 : decode cL_law 752 = .ok (.aload_n 1, 1) := by decide +kernel
theorem dL_law_753 : decode cL_law 753 = .ok (.aload_n 0, 1) := by decide +kernel
theorem dL_law_754 : decode cL_law 754 = .ok (.iload 4, 2) := by decide +kernel
theorem dL_law_756 : decode cL_law 756 = .ok (.iconst 1, 1) := by decide +kernel
theorem dL_law_757 : decode cL_law 757 = .ok (.iadd, 1) := by decide +kernel
theorem dL_law_758 : decode cL_law 758 = .ok (.iaload, 1) := by decide +kernel
theorem dL_law_759 : decode cL_law 759 = .ok (.aload_n 0, 1) := by decide +kernel
theorem dL_law_760 : decode cL_law 760 = .ok (.iload 4, 2) := by decide +kernel
theorem dL_law_762 : decode cL_law 762 = .ok (.iconst 2, 1) := by decide +kernel
theorem dL_law_763 : decode cL_law 763 = .ok (.iadd, 1) := by decide +kernel
theorem dL_law_764 : decode cL_law 764 = .ok (.iaload, 1) := by decide +kernel
theorem dL_law_765 : decode cL_law 765 = .ok (.ifCond .eq 7, 3) := by decide +kernel
theorem dL_law_768 : decode cL_law 768 = .ok (.iconst 1, 1) := by decide +kernel
theorem dL_law_769 : decode cL_law 769 = .ok (.goto 4, 3) := by decide +kernel
theorem dL_law_772 : decode cL_law 772 = .ok (.iconst 0, 1) := by decide +kernel
theorem dL_law_773 : decode cL_law 773 = .ok (.invokevirtual 100, 3) := by decide +kernel
theorem dL_law_776 : decode cL_law 776 = .ok (.aload_n 2, 1) := by decide +kernel
theorem dL_law_777 : decode cL_law 777 = .ok (.aload_n 0, 1) := by decide +kernel
theorem dL_law_778 : decode cL_law 778 = .ok (.iload 4, 2) := by decide +kernel
theorem dL_law_780 : decode cL_law 780 = .ok (.iconst 1, 1) := by decide +kernel
theorem dL_law_781 : decode cL_law 781 = .ok (.iadd, 1) := by decide +kernel
theorem dL_law_782 : decode cL_law 782 = .ok (.iaload, 1) := by decide +kernel
theorem dL_law_783 : decode cL_law 783 = .ok (.aload_n 0, 1) := by decide +kernel
theorem dL_law_784 : decode cL_law 784 = .ok (.iload 4, 2) := by decide +kernel
theorem dL_law_786 : decode cL_law 786 = .ok (.iconst 2, 1) := by decide +kernel
theorem dL_law_787 : decode cL_law 787 = .ok (.iadd, 1) := by decide +kernel
theorem dL_law_788 : decode cL_law 788 = .ok (.iaload, 1) := by decide +kernel
theorem dL_law_789 : decode cL_law 789 = .ok (.ifCond .eq 7, 3) := by decide +kernel
theorem dL_law_792 : decode cL_law 792 = .ok (.iconst 1, 1) := by decide +kernel
theorem dL_law_793 : decode cL_law 793 = .ok (.goto 4, 3) := by decide +kernel
theorem dL_law_796 : decode cL_law 796 = .ok (.iconst 0, 1) := by decide +kernel
theorem dL_law_797 : decode cL_law 797 = .ok (.invokevirtual 103, 3) := by decide +kernel
theorem dL_law_800 : decode cL_law 800 = .ok (.if_icmp .eq 141, 3) := by decide +kernel
theorem dL_law_803 : decode cL_law 803 = .ok (.iconst 0, 1) := by decide +kernel
theorem dL_law_804 : decode cL_law 804 = .ok (.ireturn, 1) := by decide +kernel
theorem dL_law_805 : decode cL_law 805 = .ok (.aload_n 1, 1) := by decide +kernel
theorem dL_law_806 : decode cL_law 806 = .ok (.aload_n 0, 1) := by decide +kernel
theorem dL_law_807 : decode cL_law 807 = .ok (.iload 4, 2) := by decide +kernel
theorem dL_law_809 : decode cL_law 809 = .ok (.iconst 1, 1) := by decide +kernel
theorem dL_law_810 : decode cL_law 810 = .ok (.iadd, 1) := by decide +kernel
theorem dL_law_811 : decode cL_law 811 = .ok (.iaload, 1) := by decide +kernel
theorem dL_law_812 : decode cL_law 812 = .ok (.aload_n 0, 1) := by decide +kernel
theorem dL_law_813 : decode cL_law 813 = .ok (.iload 4, 2) := by decide +kernel
theorem dL_law_815 : decode cL_law 815 = .ok (.iconst 2, 1) := by decide +kernel
theorem dL_law_816 : decode cL_law 816 = .ok (.iadd, 1) := by decide +kernel
theorem dL_law_817 : decode cL_law 817 = .ok (.iaload, 1) := by decide +kernel
theorem dL_law_818 : decode cL_law 818 = .ok (.aload_n 3, 1) := by decide +kernel
theorem dL_law_819 : decode cL_law 819 = .ok (.invokestatic 104, 3) := by decide +kernel
theorem dL_law_822 : decode cL_law 822 = .ok (.istore 5, 2) := by decide +kernel
theorem dL_law_824 : decode cL_law 824 = .ok (.aload_n 2, 1) := by decide +kernel
theorem dL_law_825 : decode cL_law 825 = .ok (.aload_n 0, 1) := by decide +kernel
theorem dL_law_826 : decode cL_law 826 = .ok (.iload 4, 2) := by decide +kernel
theorem dL_law_828 : decode cL_law 828 = .ok (.iconst 1, 1) := by decide +kernel
theorem dL_law_829 : decode cL_law 829 = .ok (.iadd, 1) := by decide +kernel
theorem dL_law_830 : decode cL_law 830 = .ok (.iaload, 1) := by decide +kernel
theorem dL_law_831 : decode cL_law 831 = .ok (.aload_n 0, 1) := by decide +kernel
theorem dL_law_832 : decode cL_law 832 = .ok (.iload 4, 2) := by decide +kernel
theorem dL_law_834 : decode cL_law 834 = .ok (.iconst 2, 1) := by decide +kernel
theorem dL_law_835 : decode cL_law 835 = .ok (.iadd, 1) := by decide +kernel
theorem dL_law_836 : decode cL_law 836 = .ok (.iaload, 1) := by decide +kernel
theorem dL_law_837 : decode cL_law 837 = .ok (.invokevirtual 107, 3) := by decide +kernel
theorem dL_law_840 : decode cL_law 840 = .ok (.istore 6, 2) := by decide +kernel
theorem dL_law_842 : decode cL_law 842 = .ok (.aload_n 2, 1) := by decide +kernel
theorem dL_law_843 : decode cL_law 843 = .ok (.invokevirtual 60, 3) := by decide +kernel
theorem dL_law_846 : decode cL_law 846 = .ok (.iload 5, 2) := by decide +kernel
theorem dL_law_848 : decode cL_law 848 = .ok (.if_icmp .eq 5, 3) := by decide +kernel
theorem dL_law_851 : decode cL_law 851 = .ok (.iconst 0, 1) := by decide +kernel
theorem dL_law_852 : decode cL_law 852 = .ok (.ireturn, 1) := by decide +kernel
theorem dL_law_853 : decode cL_law 853 = .ok (.iload 5, 2) := by decide +kernel
theorem dL_law_855 : decode cL_law 855 = .ok (.ifCond .ne 15, 3) := by decide +kernel
theorem dL_law_858 : decode cL_law 858 = .ok (.aload_n 3, 1) := by decide +kernel
theorem dL_law_859 : decode cL_law 859 = .ok (.iconst 0, 1) := by decide +kernel
theorem dL_law_860 : decode cL_law 860 = .ok (.laload, 1) := by decide +kernel
theorem dL_law_861 : decode cL_law 861 = .ok (.iload 6, 2) := by decide +kernel
theorem dL_law_863 : decode cL_law 863 = .ok (.i2l, 1) := by decide +kernel
theorem dL_law_864 : decode cL_law 864 = .ok (.lcmp, 1) := by decide +kernel
theorem dL_law_865 : decode cL_law 865 = .ok (.ifCond .eq 5, 3) := by decide +kernel
theorem dL_law_868 : decode cL_law 868 = .ok (.iconst 0, 1) := by decide +kernel
theorem dL_law_869 : decode cL_law 869 = .ok (.ireturn, 1) := by decide +kernel
theorem dL_law_870 : decode cL_law 870 = .ok (.goto 71, 3) := by decide +kernel
theorem dL_law_873 : decode cL_law 873 = .ok (.aload_n 1, 1) := by decide +kernel
theorem dL_law_874 : decode cL_law 874 = .ok (.aload_n 0, 1) := by decide +kernel
theorem dL_law_875 : decode cL_law 875 = .ok (.iload 4, 2) := by decide +kernel
theorem dL_law_877 : decode cL_law 877 = .ok (.iconst 1, 1) := by decide +kernel
theorem dL_law_878 : decode cL_law 878 = .ok (.iadd, 1) := by decide +kernel
theorem dL_law_879 : decode cL_law 879 = .ok (.iaload, 1) := by decide +kernel
theorem dL_law_880 : decode cL_law 880 = .ok (.aload_n 0, 1) := by decide +kernel
theorem dL_law_881 : decode cL_law 881 = .ok (.iload 4, 2) := by decide +kernel
theorem dL_law_883 : decode cL_law 883 = .ok (.iconst 2, 1) := by decide +kernel
theorem dL_law_884 : decode cL_law 884 = .ok (.iadd, 1) := by decide +kernel
theorem dL_law_885 : decode cL_law 885 = .ok (.iaload, 1) := by decide +kernel
theorem dL_law_886 : decode cL_law 886 = .ok (.aload_n 3, 1) := by decide +kernel
theorem dL_law_887 : decode cL_law 887 = .ok (.invokestatic 108, 3) := by decide +kernel
theorem dL_law_890 : decode cL_law 890 = .ok (.istore 5, 2) := by decide +kernel
theorem dL_law_892 : decode cL_law 892 = .ok (.aload_n 2, 1) := by decide +kernel
theorem dL_law_893 : decode cL_law 893 = .ok (.aload_n 0, 1) := by decide +kernel
theorem dL_law_894 : decode cL_law 894 = .ok (.iload 4, 2) := by decide +kernel
theorem dL_law_896 : decode cL_law 896 = .ok (.iconst 1, 1) := by decide +kernel
theorem dL_law_897 : decode cL_law 897 = .ok (.iadd, 1) := by decide +kernel
theorem dL_law_898 : decode cL_law 898 = .ok (.iaload, 1) := by decide +kernel
theorem dL_law_899 : decode cL_law 899 = .ok (.aload_n 0, 1) := by decide +kernel
theorem dL_law_900 : decode cL_law 900 = .ok (.iload 4, 2) := by decide +kernel
theorem dL_law_902 : decode cL_law 902 = .ok (.iconst 2, 1) := by decide +kernel
theorem dL_law_903 : decode cL_law 903 = .ok (.iadd, 1) := by decide +kernel
theorem dL_law_904 : decode cL_law 904 = .ok (.iaload, 1) := by decide +kernel
theorem dL_law_905 : decode cL_law 905 = .ok (.invokevirtual 110, 3) := by decide +kernel
theorem dL_law_908 : decode cL_law 908 = .ok (.istore 6, 2) := by decide +kernel
theorem dL_law_910 : decode cL_law 910 = .ok (.aload_n 2, 1) := by decide +kernel
theorem dL_law_911 : decode cL_law 911 = .ok (.invokevirtual 60, 3) := by decide +kernel
theorem dL_law_914 : decode cL_law 914 = .ok (.iload 5, 2) := by decide +kernel
theorem dL_law_916 : decode cL_law 916 = .ok (.if_icmp .eq 5, 3) := by decide +kernel
theorem dL_law_919 : decode cL_law 919 = .ok (.iconst 0, 1) := by decide +kernel
theorem dL_law_920 : decode cL_law 920 = .ok (.ireturn, 1) := by decide +kernel
theorem dL_law_921 : decode cL_law 921 = .ok (.iload 5, 2) := by decide +kernel
theorem dL_law_923 : decode cL_law 923 = .ok (.ifCond .ne 15, 3) := by decide +kernel
theorem dL_law_926 : decode cL_law 926 = .ok (.aload_n 3, 1) := by decide +kernel
theorem dL_law_927 : decode cL_law 927 = .ok (.iconst 0, 1) := by decide +kernel
theorem dL_law_928 : decode cL_law 928 = .ok (.laload, 1) := by decide +kernel
theorem dL_law_929 : decode cL_law 929 = .ok (.iload 6, 2) := by decide +kernel
theorem dL_law_931 : decode cL_law 931 = .ok (.i2l, 1) := by decide +kernel
theorem dL_law_932 : decode cL_law 932 = .ok (.lcmp, 1) := by decide +kernel
theorem dL_law_933 : decode cL_law 933 = .ok (.ifCond .eq 5, 3) := by decide +kernel
theorem dL_law_936 : decode cL_law 936 = .ok (.iconst 0, 1) := by decide +kernel
theorem dL_law_937 : decode cL_law 937 = .ok (.ireturn, 1) := by decide +kernel
theorem dL_law_938 : decode cL_law 938 = .ok (.goto 3, 3) := by decide +kernel
theorem dL_law_941 : decode cL_law 941 = .ok (.iinc 4 4, 3) := by decide +kernel
theorem dL_law_944 : decode cL_law 944 = .ok (.goto (-921), 3) := by decide +kernel
theorem dL_law_947 : decode cL_law 947 = .ok (.iconst 1, 1) := by decide +kernel
theorem dL_law_948 : decode cL_law 948 = .ok (.ireturn, 1) := by decide +kernel
end
section
def fs_G : List Cond := lw_tbl.filter goodWord
theorem fs_G_sub : ∀ w ∈ fs_G, w ∈ lw_tbl := fun w h => (List.mem_filter.mp h).1
theorem fs_in0 {w : Cond} (i : Nat) (h : (k2_sels lw_privs)[i]? = some w) (g : goodWord w = true) : w ∈ fs_G := List.mem_filter.mpr ⟨List.mem_append_left _ (List.mem_of_getElem? h), g⟩
theorem fs_in1 {w : Cond} (i : Nat) (h : tables_1_1[i]? = some w) (g : goodWord w = true) : w ∈ fs_G := List.mem_filter.mpr ⟨List.mem_append_right _ (List.mem_append_left _ (List.mem_of_getElem? h)), g⟩
theorem fs_in2 {w : Cond} (i : Nat) (h : tables_1_2[i]? = some w) (g : goodWord w = true) : w ∈ fs_G := List.mem_filter.mpr ⟨List.mem_append_right _ (List.mem_append_right _ (List.mem_append_left _ (List.mem_of_getElem? h))), g⟩
theorem fs_in3 {w : Cond} (i : Nat) (h : tables_1_3[i]? = some w) (g : goodWord w = true) : w ∈ fs_G := List.mem_filter.mpr ⟨List.mem_append_right _ (List.mem_append_right _ (List.mem_append_right _ (List.mem_of_getElem? h))), g⟩
theorem fs_tb1 {w : Cond} (i : Nat) (h : tables_1_1[i]? = some w) : w ∈ lw_tbl := List.mem_append_right _ (List.mem_append_left _ (List.mem_of_getElem? h))
theorem fs_tb2 {w : Cond} (i : Nat) (h : tables_1_2[i]? = some w) : w ∈ lw_tbl := List.mem_append_right _ (List.mem_append_right _ (List.mem_append_left _ (List.mem_of_getElem? h)))
theorem fs_tb3 {w : Cond} (i : Nat) (h : tables_1_3[i]? = some w) : w ∈ lw_tbl := List.mem_append_right _ (List.mem_append_right _ (List.mem_append_right _ (List.mem_of_getElem? h)))
theorem mw_0 : Cond.initialized RL ∈ fs_G := fs_in1 0 rfl rfl
theorem mw_1 : Cond.initialized RX4 ∈ fs_G := fs_in1 1 rfl rfl
theorem mw_2 : Cond.initialized RX2 ∈ fs_G := fs_in1 2 rfl rfl
theorem mw_3 : Cond.initialized RX1 ∈ fs_G := fs_in1 3 rfl rfl
theorem mw_4 : Cond.initialized RX0 ∈ fs_G := fs_in1 4 rfl rfl
theorem mw_5 : Cond.initialized RX3 ∈ fs_G := fs_in1 5 rfl rfl
theorem mw_6 : Cond.initialized RX5 ∈ fs_G := fs_in1 6 rfl rfl
theorem mw_7 : Cond.initialized "java/lang/Throwable" ∈ fs_G := fs_in1 7 rfl rfl
theorem mw_8 : Cond.initialized "java/lang/Exception" ∈ fs_G := fs_in1 8 rfl rfl
theorem mw_9 : Cond.initialized "java/lang/RuntimeException" ∈ fs_G := fs_in1 9 rfl rfl
theorem mw_10 : Cond.initialized "java/lang/IllegalArgumentException" ∈ fs_G := fs_in1 10 rfl rfl
theorem mw_11 : Cond.initialized "java/lang/Math" ∈ fs_G := fs_in1 11 rfl rfl
theorem mw_12 : Cond.classLink RL 8 RX4 ∈ fs_G := fs_in1 12 rfl rfl
theorem mw_13 : Cond.instantiable RX4 4 ∈ fs_G := fs_in1 13 rfl rfl
theorem mw_14 : Cond.methodLink RL 50 yX4_init ∈ fs_G := fs_in1 14 rfl rfl
theorem mw_15 : Cond.instanceMethod yX4_init ∈ fs_G := fs_in1 15 rfl rfl
theorem mw_16 : Cond.code yX4_init cX4_init 2 none ∈ fs_G := fs_in1 16 rfl rfl
theorem mw_17 : Cond.methodLink RX4 1 objectInit ∈ fs_G := fs_in1 17 rfl rfl
theorem mw_18 : Cond.instanceMethod objectInit ∈ fs_G := fs_in1 18 rfl rfl
theorem mw_19 : Cond.code objectInit ⟨#[0xb1]⟩ 1 none ∈ fs_G := fs_in1 19 rfl rfl
theorem mw_20 : Cond.classLink RX4 7 RX2 ∈ fs_G := fs_in1 20 rfl rfl
theorem mw_21 : Cond.instantiable RX2 2 ∈ fs_G := fs_in1 21 rfl rfl
theorem mw_22 : Cond.instanceMethod yX2_init ∈ fs_G := fs_in1 23 rfl rfl
theorem mw_23 : Cond.code yX2_init cX2_init 1 none ∈ fs_G := fs_in1 24 rfl rfl
theorem mw_24 : Cond.methodLink RX2 1 objectInit ∈ fs_G := fs_in1 25 rfl rfl
theorem mw_25 : Cond.fieldLink RX2 9 RX2 "taps" "[I" ∈ fs_G := fs_in1 26 rfl rfl
theorem mw_26 : Cond.fieldLink RX2 13 RX2 "inputs" "[I" ∈ fs_G := fs_in1 28 rfl rfl
theorem mw_27 : Cond.laysFinal RX2 RX2 "taps" "[I" ∈ fs_G := fs_in1 29 rfl rfl
theorem mw_28 : Cond.laysFinal RX2 RX2 "inputs" "[I" ∈ fs_G := fs_in1 31 rfl rfl
theorem mw_29 : Cond.arrayClass .int ∈ fs_G := fs_in1 34 rfl rfl
theorem mw_30 : Cond.classLink RX4 16 RX1 ∈ fs_G := fs_in1 35 rfl rfl
theorem mw_31 : Cond.instantiable RX1 5 ∈ fs_G := fs_in1 37 rfl rfl
theorem mw_32 : Cond.instanceMethod yX1_init ∈ fs_G := fs_in1 39 rfl rfl
theorem mw_33 : Cond.code yX1_init cX1_init 1 none ∈ fs_G := fs_in1 40 rfl rfl
theorem mw_34 : Cond.methodLink RX1 1 objectInit ∈ fs_G := fs_in1 41 rfl rfl
theorem mw_35 : Cond.fieldLink RX1 9 RX1 "coefficients" "[I" ∈ fs_G := fs_in1 42 rfl rfl
theorem mw_36 : Cond.fieldLink RX1 13 RX1 "x1" "I" ∈ fs_G := fs_in1 44 rfl rfl
theorem mw_37 : Cond.fieldLink RX1 17 RX1 "x2" "I" ∈ fs_G := fs_in1 45 rfl rfl
theorem mw_38 : Cond.fieldLink RX1 20 RX1 "y1" "I" ∈ fs_G := fs_in1 46 rfl rfl
theorem mw_39 : Cond.fieldLink RX1 23 RX1 "y2" "I" ∈ fs_G := fs_in1 47 rfl rfl
theorem mw_40 : Cond.laysFinal RX1 RX1 "coefficients" "[I" ∈ fs_G := fs_in1 48 rfl rfl
theorem mw_41 : Cond.lays RX1 RX1 "x1" "I" ∈ fs_G := fs_in1 50 rfl rfl
theorem mw_42 : Cond.lays RX1 RX1 "x2" "I" ∈ fs_G := fs_in1 52 rfl rfl
theorem mw_43 : Cond.lays RX1 RX1 "y1" "I" ∈ fs_G := fs_in1 54 rfl rfl
theorem mw_44 : Cond.lays RX1 RX1 "y2" "I" ∈ fs_G := fs_in1 56 rfl rfl
theorem mw_45 : Cond.classLink RX4 23 RX0 ∈ fs_G := fs_in1 59 rfl rfl
theorem mw_46 : Cond.instantiable RX0 3 ∈ fs_G := fs_in1 60 rfl rfl
theorem mw_47 : Cond.instanceMethod yX0_init ∈ fs_G := fs_in1 62 rfl rfl
theorem mw_48 : Cond.code yX0_init cX0_init 1 none ∈ fs_G := fs_in1 63 rfl rfl
theorem mw_49 : Cond.methodLink RX0 3 objectInit ∈ fs_G := fs_in1 64 rfl rfl
theorem mw_50 : Cond.fieldLink RX0 9 RX0 "re" "[I" ∈ fs_G := fs_in1 65 rfl rfl
theorem mw_51 : Cond.fieldLink RX0 13 RX0 "im" "[I" ∈ fs_G := fs_in1 67 rfl rfl
theorem mw_52 : Cond.fieldLink RX0 45 RX0 "exponent" "I" ∈ fs_G := fs_in1 69 rfl rfl
theorem mw_53 : Cond.laysFinal RX0 RX0 "re" "[I" ∈ fs_G := fs_in1 71 rfl rfl
theorem mw_54 : Cond.laysFinal RX0 RX0 "im" "[I" ∈ fs_G := fs_in1 73 rfl rfl
theorem mw_55 : Cond.lays RX0 RX0 "exponent" "I" ∈ fs_G := fs_in1 75 rfl rfl
theorem mw_56 : Cond.classLink RX4 30 RX3 ∈ fs_G := fs_in1 78 rfl rfl
theorem mw_57 : Cond.instantiable RX3 3 ∈ fs_G := fs_in1 79 rfl rfl
theorem mw_58 : Cond.instanceMethod yX3_init ∈ fs_G := fs_in1 81 rfl rfl
theorem mw_59 : Cond.code yX3_init cX3_init 1 none ∈ fs_G := fs_in1 82 rfl rfl
theorem mw_60 : Cond.methodLink RX3 1 objectInit ∈ fs_G := fs_in1 83 rfl rfl
theorem mw_61 : Cond.fieldLink RX3 19 RX3 "x" "J" ∈ fs_G := fs_in1 84 rfl rfl
theorem mw_62 : Cond.fieldLink RX3 23 RX3 "y" "J" ∈ fs_G := fs_in1 86 rfl rfl
theorem mw_63 : Cond.fieldLink RX3 26 RX3 "z" "J" ∈ fs_G := fs_in1 88 rfl rfl
theorem mw_64 : Cond.lays RX3 RX3 "x" "J" ∈ fs_G := fs_in1 90 rfl rfl
theorem mw_65 : Cond.lays RX3 RX3 "y" "J" ∈ fs_G := fs_in1 92 rfl rfl
theorem mw_66 : Cond.lays RX3 RX3 "z" "J" ∈ fs_G := fs_in1 94 rfl rfl
theorem mw_67 : Cond.fieldLink RX4 10 RX4 "tapFilter" "LFixedSignals$TapFilter;" ∈ fs_G := fs_in1 97 rfl rfl
theorem mw_68 : Cond.fieldLink RX4 18 RX4 "stages" "[LFixedSignals$Stage;" ∈ fs_G := fs_in1 98 rfl rfl
theorem mw_69 : Cond.fieldLink RX4 26 RX4 "block" "LFixedSignals$Block;" ∈ fs_G := fs_in1 99 rfl rfl
theorem mw_70 : Cond.fieldLink RX4 33 RX4 "turner" "LFixedSignals$Turner;" ∈ fs_G := fs_in1 100 rfl rfl
theorem mw_71 : Cond.laysFinal RX4 RX4 "tapFilter" "LFixedSignals$TapFilter;" ∈ fs_G := fs_in1 101 rfl rfl
theorem mw_72 : Cond.laysFinal RX4 RX4 "stages" "[LFixedSignals$Stage;" ∈ fs_G := fs_in1 103 rfl rfl
theorem mw_73 : Cond.laysFinal RX4 RX4 "block" "LFixedSignals$Block;" ∈ fs_G := fs_in1 105 rfl rfl
theorem mw_74 : Cond.laysFinal RX4 RX4 "turner" "LFixedSignals$Turner;" ∈ fs_G := fs_in1 107 rfl rfl
theorem mw_75 : Cond.methodLink RL 67 yX4_narrow ∈ fs_G := fs_in1 110 rfl rfl
theorem mw_76 : Cond.instanceMethod yX4_narrow ∈ fs_G := fs_in1 111 rfl rfl
theorem mw_77 : Cond.selects RX4 yX4_narrow yX4_narrow ∈ fs_G := fs_in1 112 rfl rfl
theorem mw_78 : Cond.code yX4_narrow cX4_narrow 2 (some .int) ∈ fs_G := fs_in1 113 rfl rfl
theorem mw_79 : Cond.methodLink RX4 59 yX4_rounded ∈ fs_G := fs_in1 114 rfl rfl
theorem mw_80 : Cond.static yX4_rounded ∈ fs_G := fs_in1 115 rfl rfl
theorem mw_81 : Cond.code yX4_rounded cX4_rounded 3 (some .long) ∈ fs_G := fs_in1 116 rfl rfl
theorem mw_82 : Cond.methodLink RX4 56 yX4_satShort ∈ fs_G := fs_in1 117 rfl rfl
theorem mw_83 : Cond.static yX4_satShort ∈ fs_G := fs_in1 118 rfl rfl
theorem mw_84 : Cond.code yX4_satShort cX4_satShort 2 (some .int) ∈ fs_G := fs_in1 119 rfl rfl
theorem mw_85 : Cond.constantLong RX4 145 (-32768) ∈ fs_G := fs_in1 120 rfl rfl
theorem mw_86 : Cond.constantLong RX4 147 32767 ∈ fs_G := fs_in1 121 rfl rfl
theorem mw_87 : Cond.methodLink RX4 136 Lib.MathLoose.min_long.x ∈ fs_G := fs_in1 122 rfl rfl
theorem mw_88 : Cond.static Lib.MathLoose.min_long.x ∈ fs_G := fs_in1 123 rfl rfl
theorem mw_89 : Cond.code Lib.MathLoose.min_long.x Lib.MathLoose.min_long.code 4 (some .long) ∈ fs_G := fs_in1 124 rfl rfl
theorem mw_90 : Cond.methodLink RX4 142 Lib.MathLoose.max_long.x ∈ fs_G := fs_in1 125 rfl rfl
theorem mw_91 : Cond.static Lib.MathLoose.max_long.x ∈ fs_G := fs_in1 126 rfl rfl
theorem mw_92 : Cond.code Lib.MathLoose.max_long.x Lib.MathLoose.max_long.code 4 (some .long) ∈ fs_G := fs_in1 127 rfl rfl
theorem mw_93 : Cond.methodLink RL 86 yX4_calm ∈ fs_G := fs_in1 128 rfl rfl
theorem mw_94 : Cond.instanceMethod yX4_calm ∈ fs_G := fs_in1 129 rfl rfl
theorem mw_95 : Cond.selects RX4 yX4_calm yX4_calm ∈ fs_G := fs_in1 130 rfl rfl
theorem mw_96 : Cond.code yX4_calm cX4_calm 2 none ∈ fs_G := fs_in1 131 rfl rfl
theorem mw_97 : Cond.instanceMethod yX2_forget ∈ fs_G := fs_in1 134 rfl rfl
theorem mw_98 : Cond.code yX2_forget cX2_forget 2 none ∈ fs_G := fs_in1 135 rfl rfl
theorem mw_99 : Cond.instanceMethod yX1_forget ∈ fs_G := fs_in1 138 rfl rfl
theorem mw_100 : Cond.code yX1_forget cX1_forget 1 none ∈ fs_G := fs_in1 139 rfl rfl
theorem mw_101 : Cond.methodLink RL 100 yX4_wave ∈ fs_G := fs_in1 140 rfl rfl
theorem mw_102 : Cond.instanceMethod yX4_wave ∈ fs_G := fs_in1 141 rfl rfl
theorem mw_103 : Cond.selects RX4 yX4_wave yX4_wave ∈ fs_G := fs_in1 142 rfl rfl
theorem mw_104 : Cond.code yX4_wave cX4_wave 3 (some .int) ∈ fs_G := fs_in1 143 rfl rfl
theorem mw_105 : Cond.instanceMethod yX3_turnByAngle ∈ fs_G := fs_in1 146 rfl rfl
theorem mw_106 : Cond.code yX3_turnByAngle cX3_turnByAngle 5 none ∈ fs_G := fs_in1 147 rfl rfl
theorem mw_107 : Cond.static yX4_sizeOf ∈ fs_G := fs_in1 149 rfl rfl
theorem mw_108 : Cond.code yX4_sizeOf cX4_sizeOf 2 (some .long) ∈ fs_G := fs_in1 150 rfl rfl
theorem mw_109 : Cond.constantLong RX3 15 1073741824 ∈ fs_G := fs_in1 151 rfl rfl
theorem mw_110 : Cond.constantLong RX3 17 652032874 ∈ fs_G := fs_in1 152 rfl rfl
theorem mw_111 : Cond.constantLong RX3 29 2147483648 ∈ fs_G := fs_in1 153 rfl rfl
theorem mw_112 : Cond.methodLink RX3 31 yX3_turn ∈ fs_G := fs_in1 154 rfl rfl
theorem mw_113 : Cond.instanceMethod yX3_turn ∈ fs_G := fs_in1 156 rfl rfl
theorem mw_114 : Cond.code yX3_turn cX3_turn 7 none ∈ fs_G := fs_in1 157 rfl rfl
theorem mw_115 : Cond.fieldLink RX3 37 RX3 "ARCS" "[I" ∈ fs_G := fs_in1 158 rfl rfl
theorem mw_116 : Cond.methodLink RL 54 yL_work ∈ fs_G := fs_in1 160 rfl rfl
theorem mw_117 : Cond.static yL_work ∈ fs_G := fs_in1 161 rfl rfl
theorem mw_118 : Cond.codeWith yL_work cL_work 6 (some .int) [(0, 12, 15, 13)] ∈ fs_G := fs_in1 162 rfl rfl
theorem mw_119 : Cond.classLink RL 13 "java/lang/IllegalArgumentException" ∈ fs_G := fs_in1 163 rfl rfl
theorem mw_120 : Cond.methodLink RL 7 yX4_work ∈ fs_G := fs_in1 164 rfl rfl
theorem mw_121 : Cond.instanceMethod yX4_work ∈ fs_G := fs_in1 165 rfl rfl
theorem mw_122 : Cond.selects RX4 yX4_work yX4_work ∈ fs_G := fs_in1 166 rfl rfl
theorem mw_123 : Cond.code yX4_work cX4_work 4 (some .int) ∈ fs_G := fs_in1 167 rfl rfl
theorem mw_124 : Cond.methodLink RX4 37 yX4_isWay ∈ fs_G := fs_in1 168 rfl rfl
theorem mw_125 : Cond.static yX4_isWay ∈ fs_G := fs_in1 169 rfl rfl
theorem mw_126 : Cond.code yX4_isWay cX4_isWay 3 (some .boolean) ∈ fs_G := fs_in1 170 rfl rfl
theorem mw_127 : Cond.classLink RX4 41 "java/lang/IllegalArgumentException" ∈ fs_G := fs_in1 171 rfl rfl
theorem mw_128 : Cond.instantiable "java/lang/IllegalArgumentException" 6 ∈ fs_G := fs_in1 172 rfl rfl
theorem mw_129 : Cond.selects "java/lang/IllegalArgumentException" ⟨"java/lang/Throwable", "fillInStackTrace", "(I)Ljava/lang/Throwable;"⟩ ⟨"java/lang/Throwable", "fillInStackTrace", "(I)Ljava/lang/Throwable;"⟩ ∈ fs_G := fs_in1 180 rfl rfl
theorem mw_130 : Cond.selects "java/lang/IllegalArgumentException" ⟨"java/lang/Throwable", "fillInStackTrace", "()Ljava/lang/Throwable;"⟩ ⟨"java/lang/Throwable", "fillInStackTrace", "()Ljava/lang/Throwable;"⟩ ∈ fs_G := fs_in1 181 rfl rfl
theorem mw_131 : Cond.lays "java/lang/IllegalArgumentException" "java/lang/Throwable" "cause" "Ljava/lang/Throwable;" ∈ fs_G := fs_in1 182 rfl rfl
theorem mw_132 : Cond.lays "java/lang/Throwable" "java/lang/Throwable" "cause" "Ljava/lang/Throwable;" ∈ fs_G := fs_in1 183 rfl rfl
theorem mw_133 : Cond.lays "java/lang/IllegalArgumentException" "java/lang/Throwable" "stackTrace" "[Ljava/lang/StackTraceElement;" ∈ fs_G := fs_in1 184 rfl rfl
theorem mw_134 : Cond.lays "java/lang/Throwable" "java/lang/Throwable" "stackTrace" "[Ljava/lang/StackTraceElement;" ∈ fs_G := fs_in1 185 rfl rfl
theorem mw_135 : Cond.lays "java/lang/IllegalArgumentException" "java/lang/Throwable" "suppressedExceptions" "Ljava/util/List;" ∈ fs_G := fs_in1 186 rfl rfl
theorem mw_136 : Cond.lays "java/lang/Throwable" "java/lang/Throwable" "suppressedExceptions" "Ljava/util/List;" ∈ fs_G := fs_in1 187 rfl rfl
theorem mw_137 : Cond.lays "java/lang/IllegalArgumentException" "java/lang/Throwable" "detailMessage" "Ljava/lang/String;" ∈ fs_G := fs_in1 188 rfl rfl
theorem mw_138 : Cond.lays "java/lang/Throwable" "java/lang/Throwable" "detailMessage" "Ljava/lang/String;" ∈ fs_G := fs_in1 189 rfl rfl
theorem mw_139 : Cond.lays "java/lang/IllegalArgumentException" "java/lang/Throwable" "backtrace" "Ljava/lang/Object;" ∈ fs_G := fs_in1 190 rfl rfl
theorem mw_140 : Cond.lays "java/lang/Throwable" "java/lang/Throwable" "backtrace" "Ljava/lang/Object;" ∈ fs_G := fs_in1 191 rfl rfl
theorem mw_141 : Cond.fieldLink "java/lang/Throwable" 198 "java/lang/Throwable" "backtrace" "Ljava/lang/Object;" ∈ fs_G := fs_in1 192 rfl rfl
theorem mw_142 : Cond.instanceMethod ⟨"java/lang/Throwable", "<init>", "()V"⟩ ∈ fs_G := fs_in1 194 rfl rfl
theorem mw_143 : Cond.code ⟨"java/lang/Throwable", "<init>", "()V"⟩ prog_12_method_1_code 1 none ∈ fs_G := fs_in1 195 rfl rfl
theorem mw_144 : Cond.methodLink "java/lang/Throwable" 1 objectInit ∈ fs_G := fs_in1 196 rfl rfl
theorem mw_145 : Cond.fieldLink "java/lang/Throwable" 13 "java/lang/Throwable" "UNASSIGNED_STACK" "[Ljava/lang/StackTraceElement;" ∈ fs_G := fs_in1 197 rfl rfl
theorem mw_146 : Cond.fieldLink "java/lang/Throwable" 20 "java/lang/Throwable" "SUPPRESSED_SENTINEL" "Ljava/util/List;" ∈ fs_G := fs_in1 199 rfl rfl
theorem mw_147 : Cond.methodLink "java/lang/Throwable" 27 ⟨"java/lang/Throwable", "fillInStackTrace", "()Ljava/lang/Throwable;"⟩ ∈ fs_G := fs_in1 201 rfl rfl
theorem mw_148 : Cond.instanceMethod ⟨"java/lang/Throwable", "fillInStackTrace", "()Ljava/lang/Throwable;"⟩ ∈ fs_G := fs_in1 202 rfl rfl
theorem mw_149 : Cond.methodLink "java/lang/Throwable" 202 ⟨"java/lang/Throwable", "fillInStackTrace", "(I)Ljava/lang/Throwable;"⟩ ∈ fs_G := fs_in1 205 rfl rfl
theorem mw_150 : Cond.instanceMethod ⟨"java/lang/Throwable", "fillInStackTrace", "(I)Ljava/lang/Throwable;"⟩ ∈ fs_G := fs_in1 207 rfl rfl
theorem mw_151 : Cond.instantiable "java/lang/Throwable" 6 ∈ fs_G := fs_in1 208 rfl rfl
theorem mw_152 : Cond.methodLink RX4 43 ⟨"java/lang/IllegalArgumentException", "<init>", "()V"⟩ ∈ fs_G := fs_in1 210 rfl rfl
theorem mw_153 : Cond.instanceMethod ⟨"java/lang/IllegalArgumentException", "<init>", "()V"⟩ ∈ fs_G := fs_in1 211 rfl rfl
theorem mw_154 : Cond.code ⟨"java/lang/IllegalArgumentException", "<init>", "()V"⟩ prog_9_method_1_code 1 none ∈ fs_G := fs_in1 212 rfl rfl
theorem mw_155 : Cond.methodLink "java/lang/IllegalArgumentException" 1 ⟨"java/lang/RuntimeException", "<init>", "()V"⟩ ∈ fs_G := fs_in1 213 rfl rfl
theorem mw_156 : Cond.instanceMethod ⟨"java/lang/RuntimeException", "<init>", "()V"⟩ ∈ fs_G := fs_in1 214 rfl rfl
theorem mw_157 : Cond.code ⟨"java/lang/RuntimeException", "<init>", "()V"⟩ prog_11_method_1_code 1 none ∈ fs_G := fs_in1 215 rfl rfl
theorem mw_158 : Cond.methodLink "java/lang/RuntimeException" 1 ⟨"java/lang/Exception", "<init>", "()V"⟩ ∈ fs_G := fs_in1 216 rfl rfl
theorem mw_159 : Cond.instanceMethod ⟨"java/lang/Exception", "<init>", "()V"⟩ ∈ fs_G := fs_in1 217 rfl rfl
theorem mw_160 : Cond.code ⟨"java/lang/Exception", "<init>", "()V"⟩ prog_8_method_1_code 1 none ∈ fs_G := fs_in1 218 rfl rfl
theorem mw_161 : Cond.methodLink "java/lang/Exception" 1 ⟨"java/lang/Throwable", "<init>", "()V"⟩ ∈ fs_G := fs_in1 219 rfl rfl
theorem mw_162 : Cond.fieldLink "java/lang/Throwable" 7 "java/lang/Throwable" "cause" "Ljava/lang/Throwable;" ∈ fs_G := fs_in1 221 rfl rfl
theorem mw_163 : Cond.fieldLink "java/lang/Throwable" 17 "java/lang/Throwable" "stackTrace" "[Ljava/lang/StackTraceElement;" ∈ fs_G := fs_in1 222 rfl rfl
theorem mw_164 : Cond.fieldLink "java/lang/Throwable" 24 "java/lang/Throwable" "suppressedExceptions" "Ljava/util/List;" ∈ fs_G := fs_in1 223 rfl rfl
theorem mw_165 : Cond.lays "java/lang/IllegalArgumentException" "java/lang/Throwable" "depth" "I" ∈ fs_G := fs_in1 228 rfl rfl
theorem mw_166 : Cond.methodLink RX4 44 yX4_reckoned ∈ fs_G := fs_in1 232 rfl rfl
theorem mw_167 : Cond.static yX4_reckoned ∈ fs_G := fs_in1 233 rfl rfl
theorem mw_168 : Cond.code yX4_reckoned cX4_reckoned 6 (some .long) ∈ fs_G := fs_in1 234 rfl rfl
theorem mw_169 : Cond.methodLink RX4 125 yX4_moved ∈ fs_G := fs_in1 235 rfl rfl
theorem mw_170 : Cond.static yX4_moved ∈ fs_G := fs_in1 236 rfl rfl
theorem mw_171 : Cond.code yX4_moved cX4_moved 3 (some .long) ∈ fs_G := fs_in1 237 rfl rfl
theorem mw_172 : Cond.methodLink RX4 128 yX4_sizeOf ∈ fs_G := fs_in1 238 rfl rfl
theorem mw_173 : Cond.methodLink RX4 48 yX4_satLong ∈ fs_G := fs_in1 239 rfl rfl
theorem mw_174 : Cond.static yX4_satLong ∈ fs_G := fs_in2 0 rfl rfl
theorem mw_175 : Cond.code yX4_satLong cX4_satLong 2 (some .int) ∈ fs_G := fs_in2 1 rfl rfl
theorem mw_176 : Cond.constantLong RX4 132 (-2147483648) ∈ fs_G := fs_in2 2 rfl rfl
theorem mw_177 : Cond.constantLong RX4 134 2147483647 ∈ fs_G := fs_in2 3 rfl rfl
theorem mw_178 : Cond.methodLink RL 64 yL_small ∈ fs_G := fs_in2 4 rfl rfl
theorem mw_179 : Cond.static yL_small ∈ fs_G := fs_in2 5 rfl rfl
theorem mw_180 : Cond.codeWith yL_small cL_small 6 (some .int) [(0, 12, 15, 13)] ∈ fs_G := fs_in2 6 rfl rfl
theorem mw_181 : Cond.methodLink RL 15 yX4_small ∈ fs_G := fs_in2 7 rfl rfl
theorem mw_182 : Cond.instanceMethod yX4_small ∈ fs_G := fs_in2 8 rfl rfl
theorem mw_183 : Cond.selects RX4 yX4_small yX4_small ∈ fs_G := fs_in2 9 rfl rfl
theorem mw_184 : Cond.code yX4_small cX4_small 4 (some .int) ∈ fs_G := fs_in2 10 rfl rfl
theorem mw_185 : Cond.methodLink RX4 52 yX4_isShort ∈ fs_G := fs_in2 11 rfl rfl
theorem mw_186 : Cond.static yX4_isShort ∈ fs_G := fs_in2 12 rfl rfl
theorem mw_187 : Cond.code yX4_isShort cX4_isShort 1 (some .boolean) ∈ fs_G := fs_in2 13 rfl rfl
theorem mw_188 : Cond.methodLink RL 71 yL_tap ∈ fs_G := fs_in2 14 rfl rfl
theorem mw_189 : Cond.static yL_tap ∈ fs_G := fs_in2 15 rfl rfl
theorem mw_190 : Cond.codeWith yL_tap cL_tap 4 (some .int) [(0, 6, 9, 13)] ∈ fs_G := fs_in2 16 rfl rfl
theorem mw_191 : Cond.methodLink RL 18 yX4_tap ∈ fs_G := fs_in2 17 rfl rfl
theorem mw_192 : Cond.instanceMethod yX4_tap ∈ fs_G := fs_in2 18 rfl rfl
theorem mw_193 : Cond.selects RX4 yX4_tap yX4_tap ∈ fs_G := fs_in2 19 rfl rfl
theorem mw_194 : Cond.code yX4_tap cX4_tap 3 none ∈ fs_G := fs_in2 20 rfl rfl
theorem mw_195 : Cond.methodLink RX4 63 yX4_isWithin ∈ fs_G := fs_in2 21 rfl rfl
theorem mw_196 : Cond.static yX4_isWithin ∈ fs_G := fs_in2 22 rfl rfl
theorem mw_197 : Cond.code yX4_isWithin cX4_isWithin 2 (some .boolean) ∈ fs_G := fs_in2 23 rfl rfl
theorem mw_198 : Cond.methodLink RL 75 yL_filter ∈ fs_G := fs_in2 24 rfl rfl
theorem mw_199 : Cond.static yL_filter ∈ fs_G := fs_in2 25 rfl rfl
theorem mw_200 : Cond.codeWith yL_filter cL_filter 4 (some .int) [(0, 9, 12, 13)] ∈ fs_G := fs_in2 26 rfl rfl
theorem mw_201 : Cond.methodLink RL 22 yX4_filter ∈ fs_G := fs_in2 27 rfl rfl
theorem mw_202 : Cond.instanceMethod yX4_filter ∈ fs_G := fs_in2 28 rfl rfl
theorem mw_203 : Cond.selects RX4 yX4_filter yX4_filter ∈ fs_G := fs_in2 29 rfl rfl
theorem mw_204 : Cond.code yX4_filter cX4_filter 2 (some .int) ∈ fs_G := fs_in2 30 rfl rfl
theorem mw_205 : Cond.instanceMethod yX2_answerTo ∈ fs_G := fs_in2 33 rfl rfl
theorem mw_206 : Cond.code yX2_answerTo cX2_answerTo 5 (some .int) ∈ fs_G := fs_in2 34 rfl rfl
theorem mw_207 : Cond.methodLink RX2 16 yX2_takeIn ∈ fs_G := fs_in2 35 rfl rfl
theorem mw_208 : Cond.instanceMethod yX2_takeIn ∈ fs_G := fs_in2 37 rfl rfl
theorem mw_209 : Cond.code yX2_takeIn cX2_takeIn 3 none ∈ fs_G := fs_in2 38 rfl rfl
theorem mw_210 : Cond.methodLink RL 79 yL_stage ∈ fs_G := fs_in2 41 rfl rfl
theorem mw_211 : Cond.static yL_stage ∈ fs_G := fs_in2 42 rfl rfl
theorem mw_212 : Cond.codeWith yL_stage cL_stage 5 (some .int) [(0, 7, 10, 13)] ∈ fs_G := fs_in2 43 rfl rfl
theorem mw_213 : Cond.methodLink RL 26 yX4_stage ∈ fs_G := fs_in2 44 rfl rfl
theorem mw_214 : Cond.instanceMethod yX4_stage ∈ fs_G := fs_in2 45 rfl rfl
theorem mw_215 : Cond.selects RX4 yX4_stage yX4_stage ∈ fs_G := fs_in2 46 rfl rfl
theorem mw_216 : Cond.code yX4_stage cX4_stage 4 none ∈ fs_G := fs_in2 47 rfl rfl
theorem mw_217 : Cond.methodLink RL 83 yL_chain ∈ fs_G := fs_in2 48 rfl rfl
theorem mw_218 : Cond.static yL_chain ∈ fs_G := fs_in2 49 rfl rfl
theorem mw_219 : Cond.codeWith yL_chain cL_chain 4 (some .int) [(0, 9, 12, 13)] ∈ fs_G := fs_in2 50 rfl rfl
theorem mw_220 : Cond.methodLink RL 30 yX4_chain ∈ fs_G := fs_in2 51 rfl rfl
theorem mw_221 : Cond.instanceMethod yX4_chain ∈ fs_G := fs_in2 52 rfl rfl
theorem mw_222 : Cond.selects RX4 yX4_chain yX4_chain ∈ fs_G := fs_in2 53 rfl rfl
theorem mw_223 : Cond.code yX4_chain cX4_chain 4 (some .int) ∈ fs_G := fs_in2 54 rfl rfl
theorem mw_224 : Cond.instanceMethod yX1_answerTo ∈ fs_G := fs_in2 57 rfl rfl
theorem mw_225 : Cond.code yX1_answerTo cX1_answerTo 5 (some .int) ∈ fs_G := fs_in2 58 rfl rfl
theorem mw_226 : Cond.methodLink RL 90 yL_put ∈ fs_G := fs_in2 61 rfl rfl
theorem mw_227 : Cond.static yL_put ∈ fs_G := fs_in2 62 rfl rfl
theorem mw_228 : Cond.codeWith yL_put cL_put 5 (some .int) [(0, 7, 10, 13)] ∈ fs_G := fs_in2 63 rfl rfl
theorem mw_229 : Cond.methodLink RL 33 yX4_put ∈ fs_G := fs_in2 64 rfl rfl
theorem mw_230 : Cond.instanceMethod yX4_put ∈ fs_G := fs_in2 65 rfl rfl
theorem mw_231 : Cond.selects RX4 yX4_put yX4_put ∈ fs_G := fs_in2 66 rfl rfl
theorem mw_232 : Cond.code yX4_put cX4_put 4 none ∈ fs_G := fs_in2 67 rfl rfl
theorem mw_233 : Cond.methodLink RL 93 yL_transform ∈ fs_G := fs_in2 68 rfl rfl
theorem mw_234 : Cond.static yL_transform ∈ fs_G := fs_in2 69 rfl rfl
theorem mw_235 : Cond.codeWith yL_transform cL_transform 5 (some .int) [(0, 10, 13, 13)] ∈ fs_G := fs_in2 70 rfl rfl
theorem mw_236 : Cond.methodLink RL 36 yX4_transform ∈ fs_G := fs_in2 71 rfl rfl
theorem mw_237 : Cond.instanceMethod yX4_transform ∈ fs_G := fs_in2 72 rfl rfl
theorem mw_238 : Cond.selects RX4 yX4_transform yX4_transform ∈ fs_G := fs_in2 73 rfl rfl
theorem mw_239 : Cond.code yX4_transform cX4_transform 3 (some .int) ∈ fs_G := fs_in2 74 rfl rfl
theorem mw_240 : Cond.instanceMethod yX0_intoWaves ∈ fs_G := fs_in2 77 rfl rfl
theorem mw_241 : Cond.code yX0_intoWaves cX0_intoWaves 6 none ∈ fs_G := fs_in2 78 rfl rfl
theorem mw_242 : Cond.methodLink RX0 16 yX0_reorder ∈ fs_G := fs_in2 79 rfl rfl
theorem mw_243 : Cond.instanceMethod yX0_reorder ∈ fs_G := fs_in2 81 rfl rfl
theorem mw_244 : Cond.code yX0_reorder cX0_reorder 4 none ∈ fs_G := fs_in2 82 rfl rfl
theorem mw_245 : Cond.methodLink RX0 27 yX0_bitsTurnedRound ∈ fs_G := fs_in2 83 rfl rfl
theorem mw_246 : Cond.static yX0_bitsTurnedRound ∈ fs_G := fs_in2 84 rfl rfl
theorem mw_247 : Cond.code yX0_bitsTurnedRound cX0_bitsTurnedRound 4 (some .int) ∈ fs_G := fs_in2 85 rfl rfl
theorem mw_248 : Cond.methodLink RX0 31 yX0_swap ∈ fs_G := fs_in2 86 rfl rfl
theorem mw_249 : Cond.static yX0_swap ∈ fs_G := fs_in2 87 rfl rfl
theorem mw_250 : Cond.code yX0_swap cX0_swap 4 none ∈ fs_G := fs_in2 88 rfl rfl
theorem mw_251 : Cond.methodLink RX0 20 yX0_makeRoom ∈ fs_G := fs_in2 89 rfl rfl
theorem mw_252 : Cond.instanceMethod yX0_makeRoom ∈ fs_G := fs_in2 91 rfl rfl
theorem mw_253 : Cond.code yX0_makeRoom cX0_makeRoom 4 none ∈ fs_G := fs_in2 92 rfl rfl
theorem mw_254 : Cond.methodLink RX0 35 yX0_isTooBig ∈ fs_G := fs_in2 93 rfl rfl
theorem mw_255 : Cond.instanceMethod yX0_isTooBig ∈ fs_G := fs_in2 95 rfl rfl
theorem mw_256 : Cond.code yX0_isTooBig cX0_isTooBig 3 (some .boolean) ∈ fs_G := fs_in2 96 rfl rfl
theorem mw_257 : Cond.constantLong RX0 53 536870912 ∈ fs_G := fs_in2 98 rfl rfl
theorem mw_258 : Cond.methodLink RX0 23 yX0_cross ∈ fs_G := fs_in2 100 rfl rfl
theorem mw_259 : Cond.instanceMethod yX0_cross ∈ fs_G := fs_in2 102 rfl rfl
theorem mw_260 : Cond.code yX0_cross cX0_cross 18 none ∈ fs_G := fs_in2 103 rfl rfl
theorem mw_261 : Cond.methodLink RX0 55 yX0_cosineOf ∈ fs_G := fs_in2 104 rfl rfl
theorem mw_262 : Cond.static yX0_cosineOf ∈ fs_G := fs_in2 105 rfl rfl
theorem mw_263 : Cond.code yX0_cosineOf cX0_cosineOf 1 (some .long) ∈ fs_G := fs_in2 106 rfl rfl
theorem mw_264 : Cond.fieldLink RX0 66 RX0 "QUARTER" "[I" ∈ fs_G := fs_in2 107 rfl rfl
theorem mw_265 : Cond.methodLink RX0 59 yX0_sineOf ∈ fs_G := fs_in2 109 rfl rfl
theorem mw_266 : Cond.static yX0_sineOf ∈ fs_G := fs_in2 110 rfl rfl
theorem mw_267 : Cond.code yX0_sineOf cX0_sineOf 1 (some .long) ∈ fs_G := fs_in2 111 rfl rfl
theorem mw_268 : Cond.methodLink RL 97 yL_get ∈ fs_G := fs_in2 113 rfl rfl
theorem mw_269 : Cond.static yL_get ∈ fs_G := fs_in2 114 rfl rfl
theorem mw_270 : Cond.codeWith yL_get cL_get 5 (some .int) [(0, 10, 13, 13)] ∈ fs_G := fs_in2 115 rfl rfl
theorem mw_271 : Cond.methodLink RL 40 yX4_get ∈ fs_G := fs_in2 116 rfl rfl
theorem mw_272 : Cond.instanceMethod yX4_get ∈ fs_G := fs_in2 117 rfl rfl
theorem mw_273 : Cond.selects RX4 yX4_get yX4_get ∈ fs_G := fs_in2 118 rfl rfl
theorem mw_274 : Cond.code yX4_get cX4_get 3 (some .int) ∈ fs_G := fs_in2 119 rfl rfl
theorem mw_275 : Cond.methodLink RL 104 yL_angle ∈ fs_G := fs_in2 120 rfl rfl
theorem mw_276 : Cond.static yL_angle ∈ fs_G := fs_in2 121 rfl rfl
theorem mw_277 : Cond.codeWith yL_angle cL_angle 5 (some .int) [(0, 10, 13, 13)] ∈ fs_G := fs_in2 122 rfl rfl
theorem mw_278 : Cond.methodLink RL 43 yX4_angle ∈ fs_G := fs_in2 123 rfl rfl
theorem mw_279 : Cond.instanceMethod yX4_angle ∈ fs_G := fs_in2 124 rfl rfl
theorem mw_280 : Cond.selects RX4 yX4_angle yX4_angle ∈ fs_G := fs_in2 125 rfl rfl
theorem mw_281 : Cond.code yX4_angle cX4_angle 3 (some .int) ∈ fs_G := fs_in2 126 rfl rfl
theorem mw_282 : Cond.methodLink RX4 108 yX4_isPoint ∈ fs_G := fs_in2 127 rfl rfl
theorem mw_283 : Cond.static yX4_isPoint ∈ fs_G := fs_in2 128 rfl rfl
theorem mw_284 : Cond.code yX4_isPoint cX4_isPoint 2 (some .boolean) ∈ fs_G := fs_in2 129 rfl rfl
theorem mw_285 : Cond.methodLink RX4 120 yX4_isCoordinate ∈ fs_G := fs_in2 130 rfl rfl
theorem mw_286 : Cond.static yX4_isCoordinate ∈ fs_G := fs_in2 131 rfl rfl
theorem mw_287 : Cond.code yX4_isCoordinate cX4_isCoordinate 1 (some .boolean) ∈ fs_G := fs_in2 132 rfl rfl
theorem mw_288 : Cond.constant RX4 123 (-536870912) ∈ fs_G := fs_in2 133 rfl rfl
theorem mw_289 : Cond.constant RX4 124 536870912 ∈ fs_G := fs_in2 134 rfl rfl
theorem mw_290 : Cond.instanceMethod yX3_turnToAxis ∈ fs_G := fs_in2 137 rfl rfl
theorem mw_291 : Cond.code yX3_turnToAxis cX3_turnToAxis 7 none ∈ fs_G := fs_in2 138 rfl rfl
theorem mw_292 : Cond.constantLong RX3 35 (-2147483648) ∈ fs_G := fs_in2 139 rfl rfl
theorem mw_293 : Cond.methodLink RL 108 yL_length ∈ fs_G := fs_in2 140 rfl rfl
theorem mw_294 : Cond.static yL_length ∈ fs_G := fs_in2 141 rfl rfl
theorem mw_295 : Cond.codeWith yL_length cL_length 5 (some .int) [(0, 10, 13, 13)] ∈ fs_G := fs_in2 142 rfl rfl
theorem mw_296 : Cond.methodLink RL 47 yX4_length ∈ fs_G := fs_in2 143 rfl rfl
theorem mw_297 : Cond.instanceMethod yX4_length ∈ fs_G := fs_in2 144 rfl rfl
theorem mw_298 : Cond.selects RX4 yX4_length yX4_length ∈ fs_G := fs_in2 145 rfl rfl
theorem mw_299 : Cond.code yX4_length cX4_length 3 (some .int) ∈ fs_G := fs_in2 146 rfl rfl
theorem mw_300 : Cond.constantLong RX4 118 652032874 ∈ fs_G := fs_in2 147 rfl rfl
theorem mw_301 : Cond.classLink RL 51 RX5 ∈ fs_G := fs_in2 148 rfl rfl
theorem mw_302 : Cond.instantiable RX5 10 ∈ fs_G := fs_in2 149 rfl rfl
theorem mw_303 : Cond.methodLink RL 53 yX5_init ∈ fs_G := fs_in2 150 rfl rfl
theorem mw_304 : Cond.instanceMethod yX5_init ∈ fs_G := fs_in2 151 rfl rfl
theorem mw_305 : Cond.code yX5_init cX5_init 2 none ∈ fs_G := fs_in2 152 rfl rfl
theorem mw_306 : Cond.methodLink RX5 1 objectInit ∈ fs_G := fs_in2 153 rfl rfl
theorem mw_307 : Cond.fieldLink RX5 29 RX5 "refusal" "I" ∈ fs_G := fs_in2 154 rfl rfl
theorem mw_308 : Cond.fieldLink RX5 7 RX5 "tap" "[I" ∈ fs_G := fs_in2 155 rfl rfl
theorem mw_309 : Cond.fieldLink RX5 13 RX5 "past" "[I" ∈ fs_G := fs_in2 156 rfl rfl
theorem mw_310 : Cond.fieldLink RX5 16 RX5 "factor" "[I" ∈ fs_G := fs_in2 157 rfl rfl
theorem mw_311 : Cond.fieldLink RX5 19 RX5 "before" "[I" ∈ fs_G := fs_in2 158 rfl rfl
theorem mw_312 : Cond.fieldLink RX5 22 RX5 "block" "[J" ∈ fs_G := fs_in2 159 rfl rfl
theorem mw_313 : Cond.fieldLink RX5 26 RX5 "turned" "[J" ∈ fs_G := fs_in2 160 rfl rfl
theorem mw_314 : Cond.fieldLink RX5 74 RX5 "exponent" "I" ∈ fs_G := fs_in2 161 rfl rfl
theorem mw_315 : Cond.fieldLink RX5 176 RX5 "endX" "J" ∈ fs_G := fs_in2 162 rfl rfl
theorem mw_316 : Cond.fieldLink RX5 180 RX5 "endZ" "J" ∈ fs_G := fs_in2 163 rfl rfl
theorem mw_317 : Cond.lays RX5 RX5 "refusal" "I" ∈ fs_G := fs_in2 164 rfl rfl
theorem mw_318 : Cond.laysFinal RX5 RX5 "tap" "[I" ∈ fs_G := fs_in2 166 rfl rfl
theorem mw_319 : Cond.laysFinal RX5 RX5 "past" "[I" ∈ fs_G := fs_in2 168 rfl rfl
theorem mw_320 : Cond.laysFinal RX5 RX5 "factor" "[I" ∈ fs_G := fs_in2 170 rfl rfl
theorem mw_321 : Cond.laysFinal RX5 RX5 "before" "[I" ∈ fs_G := fs_in2 172 rfl rfl
theorem mw_322 : Cond.laysFinal RX5 RX5 "block" "[J" ∈ fs_G := fs_in2 174 rfl rfl
theorem mw_323 : Cond.laysFinal RX5 RX5 "turned" "[J" ∈ fs_G := fs_in2 176 rfl rfl
theorem mw_324 : Cond.lays RX5 RX5 "exponent" "I" ∈ fs_G := fs_in2 178 rfl rfl
theorem mw_325 : Cond.lays RX5 RX5 "endX" "J" ∈ fs_G := fs_in2 180 rfl rfl
theorem mw_326 : Cond.lays RX5 RX5 "endZ" "J" ∈ fs_G := fs_in2 182 rfl rfl
theorem mw_327 : Cond.arrayClass .long ∈ fs_G := fs_in2 185 rfl rfl
theorem mw_328 : Cond.methodLink RL 60 yX5_thrown ∈ fs_G := fs_in2 186 rfl rfl
theorem mw_329 : Cond.instanceMethod yX5_thrown ∈ fs_G := fs_in2 187 rfl rfl
theorem mw_330 : Cond.selects RX5 yX5_thrown yX5_thrown ∈ fs_G := fs_in2 188 rfl rfl
theorem mw_331 : Cond.code yX5_thrown cX5_thrown 1 (some .int) ∈ fs_G := fs_in2 189 rfl rfl
theorem mw_332 : Cond.methodLink RL 59 yX5_work ∈ fs_G := fs_in2 190 rfl rfl
theorem mw_333 : Cond.instanceMethod yX5_work ∈ fs_G := fs_in2 191 rfl rfl
theorem mw_334 : Cond.selects RX5 yX5_work yX5_work ∈ fs_G := fs_in2 192 rfl rfl
theorem mw_335 : Cond.code yX5_work cX5_work 4 (some .int) ∈ fs_G := fs_in2 193 rfl rfl
theorem mw_336 : Cond.methodLink RX5 41 yX5_isIn ∈ fs_G := fs_in2 194 rfl rfl
theorem mw_337 : Cond.static yX5_isIn ∈ fs_G := fs_in2 195 rfl rfl
theorem mw_338 : Cond.code yX5_isIn cX5_isIn 3 (some .boolean) ∈ fs_G := fs_in2 196 rfl rfl
theorem mw_339 : Cond.methodLink RX5 45 yX5_refused ∈ fs_G := fs_in2 197 rfl rfl
theorem mw_340 : Cond.instanceMethod yX5_refused ∈ fs_G := fs_in2 199 rfl rfl
theorem mw_341 : Cond.code yX5_refused cX5_refused 2 (some .boolean) ∈ fs_G := fs_in2 200 rfl rfl
theorem mw_342 : Cond.constantLong RX5 49 2147483647 ∈ fs_G := fs_in2 201 rfl rfl
theorem mw_343 : Cond.methodLink RX5 51 yX5_reckoned ∈ fs_G := fs_in2 202 rfl rfl
theorem mw_344 : Cond.static yX5_reckoned ∈ fs_G := fs_in2 203 rfl rfl
theorem mw_345 : Cond.code yX5_reckoned cX5_reckoned 7 (some .int) ∈ fs_G := fs_in2 204 rfl rfl
theorem mw_346 : Cond.methodLink RX5 33 yX5_within ∈ fs_G := fs_in2 205 rfl rfl
theorem mw_347 : Cond.static yX5_within ∈ fs_G := fs_in2 206 rfl rfl
theorem mw_348 : Cond.code yX5_within cX5_within 4 (some .int) ∈ fs_G := fs_in2 207 rfl rfl
theorem mw_349 : Cond.methodLink RX5 37 yX5_rounded ∈ fs_G := fs_in2 208 rfl rfl
theorem mw_350 : Cond.static yX5_rounded ∈ fs_G := fs_in2 209 rfl rfl
theorem mw_351 : Cond.code yX5_rounded cX5_rounded 3 (some .long) ∈ fs_G := fs_in2 210 rfl rfl
theorem mw_352 : Cond.methodLink RL 66 yX5_small ∈ fs_G := fs_in2 211 rfl rfl
theorem mw_353 : Cond.instanceMethod yX5_small ∈ fs_G := fs_in2 212 rfl rfl
theorem mw_354 : Cond.selects RX5 yX5_small yX5_small ∈ fs_G := fs_in2 213 rfl rfl
theorem mw_355 : Cond.code yX5_small cX5_small 5 (some .int) ∈ fs_G := fs_in2 214 rfl rfl
theorem mw_356 : Cond.methodLink RX5 55 yX5_isShort ∈ fs_G := fs_in2 215 rfl rfl
theorem mw_357 : Cond.static yX5_isShort ∈ fs_G := fs_in2 216 rfl rfl
theorem mw_358 : Cond.code yX5_isShort cX5_isShort 1 (some .boolean) ∈ fs_G := fs_in2 217 rfl rfl
theorem mw_359 : Cond.constantLong RX5 58 32767 ∈ fs_G := fs_in2 218 rfl rfl
theorem mw_360 : Cond.methodLink RL 70 yX5_narrow ∈ fs_G := fs_in2 219 rfl rfl
theorem mw_361 : Cond.instanceMethod yX5_narrow ∈ fs_G := fs_in2 220 rfl rfl
theorem mw_362 : Cond.selects RX5 yX5_narrow yX5_narrow ∈ fs_G := fs_in2 221 rfl rfl
theorem mw_363 : Cond.code yX5_narrow cX5_narrow 2 (some .int) ∈ fs_G := fs_in2 222 rfl rfl
theorem mw_364 : Cond.methodLink RL 74 yX5_tap ∈ fs_G := fs_in2 223 rfl rfl
theorem mw_365 : Cond.instanceMethod yX5_tap ∈ fs_G := fs_in2 224 rfl rfl
theorem mw_366 : Cond.selects RX5 yX5_tap yX5_tap ∈ fs_G := fs_in2 225 rfl rfl
theorem mw_367 : Cond.code yX5_tap cX5_tap 3 none ∈ fs_G := fs_in2 226 rfl rfl
theorem mw_368 : Cond.methodLink RL 78 yX5_filter ∈ fs_G := fs_in2 227 rfl rfl
theorem mw_369 : Cond.instanceMethod yX5_filter ∈ fs_G := fs_in2 228 rfl rfl
theorem mw_370 : Cond.selects RX5 yX5_filter yX5_filter ∈ fs_G := fs_in2 229 rfl rfl
theorem mw_371 : Cond.code yX5_filter cX5_filter 5 (some .int) ∈ fs_G := fs_in2 230 rfl rfl
theorem mw_372 : Cond.methodLink RL 82 yX5_stage ∈ fs_G := fs_in2 231 rfl rfl
theorem mw_373 : Cond.instanceMethod yX5_stage ∈ fs_G := fs_in2 232 rfl rfl
theorem mw_374 : Cond.selects RX5 yX5_stage yX5_stage ∈ fs_G := fs_in2 233 rfl rfl
theorem mw_375 : Cond.code yX5_stage cX5_stage 4 none ∈ fs_G := fs_in2 234 rfl rfl
theorem mw_376 : Cond.methodLink RL 85 yX5_chain ∈ fs_G := fs_in2 235 rfl rfl
theorem mw_377 : Cond.instanceMethod yX5_chain ∈ fs_G := fs_in2 236 rfl rfl
theorem mw_378 : Cond.selects RX5 yX5_chain yX5_chain ∈ fs_G := fs_in2 237 rfl rfl
theorem mw_379 : Cond.code yX5_chain cX5_chain 10 (some .int) ∈ fs_G := fs_in2 238 rfl rfl
theorem mw_380 : Cond.methodLink RL 89 yX5_calm ∈ fs_G := fs_in2 239 rfl rfl
theorem mw_381 : Cond.instanceMethod yX5_calm ∈ fs_G := fs_in3 0 rfl rfl
theorem mw_382 : Cond.selects RX5 yX5_calm yX5_calm ∈ fs_G := fs_in3 1 rfl rfl
theorem mw_383 : Cond.code yX5_calm cX5_calm 2 none ∈ fs_G := fs_in3 2 rfl rfl
theorem mw_384 : Cond.methodLink RL 92 yX5_put ∈ fs_G := fs_in3 3 rfl rfl
theorem mw_385 : Cond.instanceMethod yX5_put ∈ fs_G := fs_in3 4 rfl rfl
theorem mw_386 : Cond.selects RX5 yX5_put yX5_put ∈ fs_G := fs_in3 5 rfl rfl
theorem mw_387 : Cond.code yX5_put cX5_put 4 none ∈ fs_G := fs_in3 6 rfl rfl
theorem mw_388 : Cond.methodLink RL 96 yX5_transform ∈ fs_G := fs_in3 7 rfl rfl
theorem mw_389 : Cond.instanceMethod yX5_transform ∈ fs_G := fs_in3 8 rfl rfl
theorem mw_390 : Cond.selects RX5 yX5_transform yX5_transform ∈ fs_G := fs_in3 9 rfl rfl
theorem mw_391 : Cond.code yX5_transform cX5_transform 6 (some .int) ∈ fs_G := fs_in3 10 rfl rfl
theorem mw_392 : Cond.methodLink RX5 88 yX5_mirrored ∈ fs_G := fs_in3 11 rfl rfl
theorem mw_393 : Cond.static yX5_mirrored ∈ fs_G := fs_in3 12 rfl rfl
theorem mw_394 : Cond.code yX5_mirrored cX5_mirrored 4 (some .int) ∈ fs_G := fs_in3 13 rfl rfl
theorem mw_395 : Cond.methodLink RX5 92 yX5_lower ∈ fs_G := fs_in3 14 rfl rfl
theorem mw_396 : Cond.instanceMethod yX5_lower ∈ fs_G := fs_in3 16 rfl rfl
theorem mw_397 : Cond.code yX5_lower cX5_lower 4 none ∈ fs_G := fs_in3 17 rfl rfl
theorem mw_398 : Cond.methodLink RX5 81 yX5_isHigh ∈ fs_G := fs_in3 18 rfl rfl
theorem mw_399 : Cond.instanceMethod yX5_isHigh ∈ fs_G := fs_in3 20 rfl rfl
theorem mw_400 : Cond.code yX5_isHigh cX5_isHigh 6 (some .boolean) ∈ fs_G := fs_in3 21 rfl rfl
theorem mw_401 : Cond.constantLong RX5 77 536870912 ∈ fs_G := fs_in3 22 rfl rfl
theorem mw_402 : Cond.constantLong RX5 79 (-536870912) ∈ fs_G := fs_in3 23 rfl rfl
theorem mw_403 : Cond.methodLink RX5 96 yX5_pair ∈ fs_G := fs_in3 24 rfl rfl
theorem mw_404 : Cond.instanceMethod yX5_pair ∈ fs_G := fs_in3 26 rfl rfl
theorem mw_405 : Cond.code yX5_pair cX5_pair 17 none ∈ fs_G := fs_in3 27 rfl rfl
theorem mw_406 : Cond.methodLink RX5 84 yX5_eighth ∈ fs_G := fs_in3 28 rfl rfl
theorem mw_407 : Cond.static yX5_eighth ∈ fs_G := fs_in3 29 rfl rfl
theorem mw_408 : Cond.code yX5_eighth cX5_eighth 1 (some .long) ∈ fs_G := fs_in3 30 rfl rfl
theorem mw_409 : Cond.constantLong RX5 60 418953276 ∈ fs_G := fs_in3 31 rfl rfl
theorem mw_410 : Cond.constantLong RX5 62 821806413 ∈ fs_G := fs_in3 32 rfl rfl
theorem mw_411 : Cond.constantLong RX5 64 1193077991 ∈ fs_G := fs_in3 33 rfl rfl
theorem mw_412 : Cond.constantLong RX5 66 1518500250 ∈ fs_G := fs_in3 34 rfl rfl
theorem mw_413 : Cond.constantLong RX5 68 1785567396 ∈ fs_G := fs_in3 35 rfl rfl
theorem mw_414 : Cond.constantLong RX5 70 1984016189 ∈ fs_G := fs_in3 36 rfl rfl
theorem mw_415 : Cond.constantLong RX5 72 2106220352 ∈ fs_G := fs_in3 37 rfl rfl
theorem mw_416 : Cond.methodLink RL 99 yX5_get ∈ fs_G := fs_in3 38 rfl rfl
theorem mw_417 : Cond.instanceMethod yX5_get ∈ fs_G := fs_in3 39 rfl rfl
theorem mw_418 : Cond.selects RX5 yX5_get yX5_get ∈ fs_G := fs_in3 40 rfl rfl
theorem mw_419 : Cond.code yX5_get cX5_get 3 (some .int) ∈ fs_G := fs_in3 41 rfl rfl
theorem mw_420 : Cond.methodLink RL 103 yX5_wave ∈ fs_G := fs_in3 42 rfl rfl
theorem mw_421 : Cond.instanceMethod yX5_wave ∈ fs_G := fs_in3 43 rfl rfl
theorem mw_422 : Cond.selects RX5 yX5_wave yX5_wave ∈ fs_G := fs_in3 44 rfl rfl
theorem mw_423 : Cond.code yX5_wave cX5_wave 15 (some .int) ∈ fs_G := fs_in3 45 rfl rfl
theorem mw_424 : Cond.constantLong RX5 159 1073741824 ∈ fs_G := fs_in3 46 rfl rfl
theorem mw_425 : Cond.constantLong RX5 161 (-1073741824) ∈ fs_G := fs_in3 47 rfl rfl
theorem mw_426 : Cond.constantLong RX5 163 2147483648 ∈ fs_G := fs_in3 48 rfl rfl
theorem mw_427 : Cond.constantLong RX5 165 652032874 ∈ fs_G := fs_in3 49 rfl rfl
theorem mw_428 : Cond.constantLong RX5 167 (-1) ∈ fs_G := fs_in3 50 rfl rfl
theorem mw_429 : Cond.methodLink RX5 169 yX5_arc ∈ fs_G := fs_in3 51 rfl rfl
theorem mw_430 : Cond.static yX5_arc ∈ fs_G := fs_in3 52 rfl rfl
theorem mw_431 : Cond.code yX5_arc cX5_arc 1 (some .long) ∈ fs_G := fs_in3 53 rfl rfl
theorem mw_432 : Cond.constantLong RX5 100 316933406 ∈ fs_G := fs_in3 54 rfl rfl
theorem mw_433 : Cond.constantLong RX5 102 167458907 ∈ fs_G := fs_in3 55 rfl rfl
theorem mw_434 : Cond.constantLong RX5 104 85004756 ∈ fs_G := fs_in3 56 rfl rfl
theorem mw_435 : Cond.constantLong RX5 106 42667331 ∈ fs_G := fs_in3 57 rfl rfl
theorem mw_436 : Cond.constantLong RX5 108 21354465 ∈ fs_G := fs_in3 58 rfl rfl
theorem mw_437 : Cond.constantLong RX5 110 10679838 ∈ fs_G := fs_in3 59 rfl rfl
theorem mw_438 : Cond.constantLong RX5 112 5340245 ∈ fs_G := fs_in3 60 rfl rfl
theorem mw_439 : Cond.constantLong RX5 114 2670163 ∈ fs_G := fs_in3 61 rfl rfl
theorem mw_440 : Cond.constantLong RX5 116 1335087 ∈ fs_G := fs_in3 62 rfl rfl
theorem mw_441 : Cond.constantLong RX5 118 667544 ∈ fs_G := fs_in3 63 rfl rfl
theorem mw_442 : Cond.constantLong RX5 120 333772 ∈ fs_G := fs_in3 64 rfl rfl
theorem mw_443 : Cond.constantLong RX5 122 166886 ∈ fs_G := fs_in3 65 rfl rfl
theorem mw_444 : Cond.constantLong RX5 124 83443 ∈ fs_G := fs_in3 66 rfl rfl
theorem mw_445 : Cond.constantLong RX5 126 41722 ∈ fs_G := fs_in3 67 rfl rfl
theorem mw_446 : Cond.methodLink RX5 128 yX5_smaller ∈ fs_G := fs_in3 68 rfl rfl
theorem mw_447 : Cond.static yX5_smaller ∈ fs_G := fs_in3 69 rfl rfl
theorem mw_448 : Cond.code yX5_smaller cX5_smaller 1 (some .long) ∈ fs_G := fs_in3 70 rfl rfl
theorem mw_449 : Cond.constantLong RX5 131 20861 ∈ fs_G := fs_in3 71 rfl rfl
theorem mw_450 : Cond.constantLong RX5 133 10430 ∈ fs_G := fs_in3 72 rfl rfl
theorem mw_451 : Cond.constantLong RX5 135 5215 ∈ fs_G := fs_in3 73 rfl rfl
theorem mw_452 : Cond.constantLong RX5 137 2608 ∈ fs_G := fs_in3 74 rfl rfl
theorem mw_453 : Cond.constantLong RX5 139 1304 ∈ fs_G := fs_in3 75 rfl rfl
theorem mw_454 : Cond.constantLong RX5 141 652 ∈ fs_G := fs_in3 76 rfl rfl
theorem mw_455 : Cond.constantLong RX5 143 326 ∈ fs_G := fs_in3 77 rfl rfl
theorem mw_456 : Cond.constantLong RX5 145 163 ∈ fs_G := fs_in3 78 rfl rfl
theorem mw_457 : Cond.constantLong RX5 147 81 ∈ fs_G := fs_in3 79 rfl rfl
theorem mw_458 : Cond.constantLong RX5 149 41 ∈ fs_G := fs_in3 80 rfl rfl
theorem mw_459 : Cond.constantLong RX5 151 20 ∈ fs_G := fs_in3 81 rfl rfl
theorem mw_460 : Cond.constantLong RX5 153 10 ∈ fs_G := fs_in3 82 rfl rfl
theorem mw_461 : Cond.constantLong RX5 155 5 ∈ fs_G := fs_in3 83 rfl rfl
theorem mw_462 : Cond.constantLong RX5 157 3 ∈ fs_G := fs_in3 84 rfl rfl
theorem mw_463 : Cond.methodLink RL 107 yX5_angle ∈ fs_G := fs_in3 85 rfl rfl
theorem mw_464 : Cond.instanceMethod yX5_angle ∈ fs_G := fs_in3 86 rfl rfl
theorem mw_465 : Cond.selects RX5 yX5_angle yX5_angle ∈ fs_G := fs_in3 87 rfl rfl
theorem mw_466 : Cond.code yX5_angle cX5_angle 3 (some .int) ∈ fs_G := fs_in3 88 rfl rfl
theorem mw_467 : Cond.methodLink RX5 183 yX5_isNear ∈ fs_G := fs_in3 89 rfl rfl
theorem mw_468 : Cond.static yX5_isNear ∈ fs_G := fs_in3 90 rfl rfl
theorem mw_469 : Cond.code yX5_isNear cX5_isNear 1 (some .boolean) ∈ fs_G := fs_in3 91 rfl rfl
theorem mw_470 : Cond.constant RX5 172 (-536870912) ∈ fs_G := fs_in3 92 rfl rfl
theorem mw_471 : Cond.constant RX5 173 536870912 ∈ fs_G := fs_in3 93 rfl rfl
theorem mw_472 : Cond.methodLink RX5 186 yX5_turn ∈ fs_G := fs_in3 94 rfl rfl
theorem mw_473 : Cond.instanceMethod yX5_turn ∈ fs_G := fs_in3 96 rfl rfl
theorem mw_474 : Cond.code yX5_turn cX5_turn 15 none ∈ fs_G := fs_in3 97 rfl rfl
theorem mw_475 : Cond.constantLong RX5 174 (-2147483648) ∈ fs_G := fs_in3 98 rfl rfl
theorem mw_476 : Cond.methodLink RL 110 yX5_length ∈ fs_G := fs_in3 99 rfl rfl
theorem mw_477 : Cond.instanceMethod yX5_length ∈ fs_G := fs_in3 100 rfl rfl
theorem mw_478 : Cond.selects RX5 yX5_length yX5_length ∈ fs_G := fs_in3 101 rfl rfl
theorem mw_479 : Cond.code yX5_length cX5_length 3 (some .int) ∈ fs_G := fs_in3 102 rfl rfl
theorem mw_480 : Cond.selects RX2 yX2_forget yX2_forget ∈ fs_G := fs_in0 0 rfl rfl
theorem mw_481 : Cond.selects RX1 yX1_forget yX1_forget ∈ fs_G := fs_in0 1 rfl rfl
theorem mw_482 : Cond.selects RX3 yX3_turnByAngle yX3_turnByAngle ∈ fs_G := fs_in0 2 rfl rfl
theorem mw_483 : Cond.selects RX3 yX3_turn yX3_turn ∈ fs_G := fs_in0 3 rfl rfl
theorem mw_484 : Cond.selects RX2 yX2_answerTo yX2_answerTo ∈ fs_G := fs_in0 5 rfl rfl
theorem mw_485 : Cond.selects RX2 yX2_takeIn yX2_takeIn ∈ fs_G := fs_in0 6 rfl rfl
theorem mw_486 : Cond.selects RX1 yX1_answerTo yX1_answerTo ∈ fs_G := fs_in0 7 rfl rfl
theorem mw_487 : Cond.selects RX0 yX0_intoWaves yX0_intoWaves ∈ fs_G := fs_in0 8 rfl rfl
theorem mw_488 : Cond.selects RX0 yX0_reorder yX0_reorder ∈ fs_G := fs_in0 9 rfl rfl
theorem mw_489 : Cond.selects RX0 yX0_makeRoom yX0_makeRoom ∈ fs_G := fs_in0 10 rfl rfl
theorem mw_490 : Cond.selects RX0 yX0_isTooBig yX0_isTooBig ∈ fs_G := fs_in0 11 rfl rfl
theorem mw_491 : Cond.selects RX0 yX0_cross yX0_cross ∈ fs_G := fs_in0 12 rfl rfl
theorem mw_492 : Cond.selects RX3 yX3_turnToAxis yX3_turnToAxis ∈ fs_G := fs_in0 13 rfl rfl
theorem mw_493 : Cond.selects RX5 yX5_refused yX5_refused ∈ fs_G := fs_in0 14 rfl rfl
theorem mw_494 : Cond.selects RX5 yX5_lower yX5_lower ∈ fs_G := fs_in0 15 rfl rfl
theorem mw_495 : Cond.selects RX5 yX5_isHigh yX5_isHigh ∈ fs_G := fs_in0 16 rfl rfl
theorem mw_496 : Cond.selects RX5 yX5_pair yX5_pair ∈ fs_G := fs_in0 17 rfl rfl
theorem mw_497 : Cond.selects RX5 yX5_turn yX5_turn ∈ fs_G := fs_in0 18 rfl rfl
abbrev fs_NM : List (String × Nat × MethodName) := [(RX4, 9, yX2_init), (RX4, 22, yX1_init), (RX4, 25, yX0_init), (RX4, 32, yX3_init), (RX4, 79, yX2_forget), (RX4, 82, yX1_forget), (RX4, 97, yX3_turnByAngle), (RX3, 7, yX4_sizeOf), (RX4, 71, yX2_answerTo), (RX2, 20, yX4_rounded), (RX2, 26, yX4_satShort), (RX4, 78, yX1_answerTo), (RX1, 26, yX4_rounded), (RX1, 32, yX4_satShort), (RX4, 93, yX0_intoWaves), (RX0, 49, yX4_sizeOf), (RX0, 39, yX4_rounded), (RX0, 62, yX4_satLong), (RX4, 111, yX3_turnToAxis)]
abbrev fs_NF : List (String × Nat × String × String × String) := [(RX4, 67, RX2, "taps", "[I"), (RX4, 75, RX1, "coefficients", "[I"), (RX4, 83, RX0, "re", "[I"), (RX4, 86, RX0, "im", "[I"), (RX4, 89, RX0, "exponent", "I"), (RX4, 101, RX3, "x", "J"), (RX4, 105, RX3, "y", "J"), (RX4, 115, RX3, "z", "J")]
theorem fs_NM_in : ∀ q ∈ fs_NM, Cond.methodLinkNest q.1 q.2.1 q.2.2 RX4 ∈ lw_tbl := List.forall_mem_cons.mpr ⟨fs_tb1 22 rfl, List.forall_mem_cons.mpr ⟨fs_tb1 38 rfl, List.forall_mem_cons.mpr ⟨fs_tb1 61 rfl, List.forall_mem_cons.mpr ⟨fs_tb1 80 rfl, List.forall_mem_cons.mpr ⟨fs_tb1 132 rfl, List.forall_mem_cons.mpr ⟨fs_tb1 136 rfl, List.forall_mem_cons.mpr ⟨fs_tb1 144 rfl, List.forall_mem_cons.mpr ⟨fs_tb1 148 rfl, List.forall_mem_cons.mpr ⟨fs_tb2 31 rfl, List.forall_mem_cons.mpr ⟨fs_tb2 39 rfl, List.forall_mem_cons.mpr ⟨fs_tb2 40 rfl, List.forall_mem_cons.mpr ⟨fs_tb2 55 rfl, List.forall_mem_cons.mpr ⟨fs_tb2 59 rfl, List.forall_mem_cons.mpr ⟨fs_tb2 60 rfl, List.forall_mem_cons.mpr ⟨fs_tb2 75 rfl, List.forall_mem_cons.mpr ⟨fs_tb2 97 rfl, List.forall_mem_cons.mpr ⟨fs_tb2 99 rfl, List.forall_mem_cons.mpr ⟨fs_tb2 112 rfl, List.forall_mem_cons.mpr ⟨fs_tb2 135 rfl, fun _ h => absurd h List.not_mem_nil⟩⟩⟩⟩⟩⟩⟩⟩⟩⟩⟩⟩⟩⟩⟩⟩⟩⟩⟩
theorem fs_NF_in : ∀ q ∈ fs_NF, Cond.fieldLinkNest q.1 q.2.1 q.2.2.1 q.2.2.2.1 q.2.2.2.2 RX4 ∈ lw_tbl := List.forall_mem_cons.mpr ⟨fs_tb1 27 rfl, List.forall_mem_cons.mpr ⟨fs_tb1 43 rfl, List.forall_mem_cons.mpr ⟨fs_tb1 66 rfl, List.forall_mem_cons.mpr ⟨fs_tb1 68 rfl, List.forall_mem_cons.mpr ⟨fs_tb1 70 rfl, List.forall_mem_cons.mpr ⟨fs_tb1 85 rfl, List.forall_mem_cons.mpr ⟨fs_tb1 87 rfl, List.forall_mem_cons.mpr ⟨fs_tb1 89 rfl, fun _ h => absurd h List.not_mem_nil⟩⟩⟩⟩⟩⟩⟩⟩
theorem in_0 : ∀ w ∈ u_ws RX0 TX0 3, w ∈ fs_G := List.forall_mem_cons.mpr ⟨mw_53, List.forall_mem_cons.mpr ⟨mw_54, List.forall_mem_cons.mpr ⟨mw_55, fun _ h => absurd h List.not_mem_nil⟩⟩⟩
theorem in_1 : ∀ w ∈ u_ws RX1 TX1 5, w ∈ fs_G := List.forall_mem_cons.mpr ⟨mw_40, List.forall_mem_cons.mpr ⟨mw_41, List.forall_mem_cons.mpr ⟨mw_42, List.forall_mem_cons.mpr ⟨mw_43, List.forall_mem_cons.mpr ⟨mw_44, fun _ h => absurd h List.not_mem_nil⟩⟩⟩⟩⟩
theorem in_2 : ∀ w ∈ u_ws RX2 TX2 2, w ∈ fs_G := List.forall_mem_cons.mpr ⟨mw_27, List.forall_mem_cons.mpr ⟨mw_28, fun _ h => absurd h List.not_mem_nil⟩⟩
theorem in_3 : ∀ w ∈ u_ws RX3 TX3 3, w ∈ fs_G := List.forall_mem_cons.mpr ⟨mw_64, List.forall_mem_cons.mpr ⟨mw_65, List.forall_mem_cons.mpr ⟨mw_66, fun _ h => absurd h List.not_mem_nil⟩⟩⟩
theorem in_4 : ∀ w ∈ u_ws RX4 TX4 4, w ∈ fs_G := List.forall_mem_cons.mpr ⟨mw_71, List.forall_mem_cons.mpr ⟨mw_72, List.forall_mem_cons.mpr ⟨mw_73, List.forall_mem_cons.mpr ⟨mw_74, fun _ h => absurd h List.not_mem_nil⟩⟩⟩⟩
theorem in_5 : ∀ w ∈ u_ws RX5 TX5 10, w ∈ fs_G := List.forall_mem_cons.mpr ⟨mw_317, List.forall_mem_cons.mpr ⟨mw_318, List.forall_mem_cons.mpr ⟨mw_319, List.forall_mem_cons.mpr ⟨mw_320, List.forall_mem_cons.mpr ⟨mw_321, List.forall_mem_cons.mpr ⟨mw_322, List.forall_mem_cons.mpr ⟨mw_323, List.forall_mem_cons.mpr ⟨mw_324, List.forall_mem_cons.mpr ⟨mw_325, List.forall_mem_cons.mpr ⟨mw_326, fun _ h => absurd h List.not_mem_nil⟩⟩⟩⟩⟩⟩⟩⟩⟩⟩
end
section
-- OUR OWN KIT: one environment (fs_X), one form of contract (fs_M), one judgement of the world (fs_H)
abbrev fs_X : Type := va_G × Nat × ClassId × ClassId × ClassId × Nat × Nat
abbrev fs_B (X : fs_X) : Nat → Prop := fun q => X.2.1 ≤ q
abbrev fs_cI (X : fs_X) : ClassId := X.2.2.1
abbrev fs_cJ (X : fs_X) : ClassId := X.2.2.2.1
abbrev fs_cS (X : fs_X) : ClassId := X.2.2.2.2.1
abbrev fs_tQ (X : fs_X) : Nat := X.2.2.2.2.2.1
abbrev fs_tA (X : fs_X) : Nat := X.2.2.2.2.2.2
abbrev fs_TY (X : fs_X) : List (ClassId × FieldType) := [(fs_cI X, .int), (fs_cJ X, .long), (fs_cS X, .object "FixedSignals$Stage")]
abbrev fs_ai (X : fs_X) (n : Nat) (f : Nat → Int32) : va_E := .inl (fs_cI X, n, .inl f)
abbrev fs_al (X : fs_X) (n : Nat) (f : Nat → Int64) : va_E := .inl (fs_cJ X, n, .inr (.inl f))
abbrev fs_aq (X : fs_X) (n : Nat) (f : Nat → Option Nat) : va_E := .inl (fs_cS X, n, .inr (.inr (.inr (.inr f))))
def fs_C : Nat → Int32 | 0 => 0 | 1 => 418953276 | 2 => 821806413 | 3 => 1193077991 | 4 => 1518500250 | 5 => 1785567396 | 6 => 1984016189 | 7 => 2106220352 | _ => 2147483647
def fs_arc : Nat → Int32 | 0 => 536870912 | 1 => 316933406 | 2 => 167458907 | 3 => 85004756 | 4 => 42667331 | 5 => 21354465 | 6 => 10679838 | 7 => 5340245 | 8 => 2670163 | 9 => 1335087 | 10 => 667544 | 11 => 333772 | 12 => 166886 | 13 => 83443 | 14 => 41722 | 15 => 20861 | 16 => 10430 | 17 => 5215 | 18 => 2608 | 19 => 1304 | 20 => 652 | 21 => 326 | 22 => 163 | 23 => 81 | 24 => 41 | 25 => 20 | 26 => 10 | 27 => 5 | 28 => 3 | _ => 1
abbrev fs_ND : List MethodName := [⟨"java/lang/RuntimeException", "<init>", "()V"⟩, ⟨"java/lang/Exception", "<init>", "()V"⟩, ⟨"java/lang/Throwable", "<init>", "()V"⟩]
def fs_N (U : State) : Prop := (∀ q ∈ fs_NM, va_Nw (.methodLinkNest q.1 q.2.1 q.2.2 RX4) U) ∧ (∀ q ∈ fs_NF, va_Nw (.fieldLinkNest q.1 q.2.1 q.2.2.1 q.2.2.2.1 q.2.2.2.2 RX4) U) ∧ (va_Nw (.castable "java/lang/IllegalArgumentException" "java/lang/IllegalArgumentException") U ∧ ∀ y ∈ fs_ND, va_Nw (.declares y) U) ∧ va_AO "FixedSignals$Stage" U
theorem fs_N.warm {s U : State} (hW : s.WarmedH U.vm) (h : fs_N s) : fs_N U := ⟨fun q hq => va_Nw.warmM hW (h.1 q hq), fun q hq => va_Nw.warmF hW (h.2.1 q hq), ⟨va_Nw.warmC hW h.2.2.1.1, fun y hy => va_Nw.warmD hW (h.2.2.1.2 y hy)⟩, va_AO.moved hW.alike h.2.2.2⟩
def fs_Env (X : fs_X) (U : State) : Prop :=
  va_K X.1 vwCl (fs_TY X) U ∧ fs_N U ∧
  (va_Z "FixedSignals$Block" "QUARTER" "[I" (.ref (fs_tQ X)) (fs_B X) U U.heap ∧ va_T .int (fs_tQ X) 9 (fun j => .int (fs_C j)) (fs_B X) U U.heap) ∧
  (va_Z "FixedSignals$Turner" "ARCS" "[I" (.ref (fs_tA X)) (fs_B X) U U.heap ∧ va_T .int (fs_tA X) 30 (fun j => .int (fs_arc j)) (fs_B X) U U.heap) ∧
  vx_Zq Bundle.tN "UNASSIGNED_STACK" Bundle.steD (fs_B X) U U.heap ∧ vx_Zq Bundle.tN "SUPPRESSED_SENTINEL" Bundle.listD (fs_B X) U U.heap
theorem fs_Env.at {X : fs_X} {s U : State} {A : Nat → Prop} {H : Heap} {locs : List Loc} (h : fs_Env X s) (hS : va_S A s.heap H locs) (hAB : ∀ q, A q → fs_B X q) (hU : U.heap = H) (hW : s.WarmedH U.vm) : fs_Env X U := by
  have hk : ∀ a : Nat, a < s.heap.size → ¬ fs_B X a → U.heap[a]? = s.heap[a]? := fun a h1 h2 => by rw [hU]; exact hS.2.1 a h1 (fun z => h2 (hAB a z))
  obtain ⟨h1, h2, ⟨h3, h4⟩, ⟨h5, h6⟩, h7, h8⟩ := h
  exact ⟨va_K.moved hW.alike h1, fs_N.warm hW h2, ⟨(va_Z.moved hW.alike h3).kept hk, (va_T.moved hW.alike h4).kept hk⟩, ⟨(va_Z.moved hW.alike h5).kept hk, (va_T.moved hW.alike h6).kept hk⟩, (vx_Zq.moved hW.alike h7).kept hk, (vx_Zq.moved hW.alike h8).kept hk⟩
def fs_H (X : fs_X) (A : Nat → Prop) (s : State) (ws : va_W) (H : Heap) (locs : List Loc) : Prop := va_P X.1 vwCl ws H ∧ va_D A ws ∧ va_S A s.heap H locs
theorem fs_H.sub {X : fs_X} {A : Nat → Prop} {s : State} {ws ws' : va_W} {H : Heap} {locs : List Loc} (h : fs_H X A s ws H locs) (is : List Nat) (hn : va_nd is = true) (hs : is.map (fun i => ws[i]?) = ws'.map some) : fs_H X A s ws' H locs := by
  refine ⟨h.1.sub is ?_, h.2.1.sub is hn hs, h.2.2⟩
  have : ∀ (l : List Nat) (w : va_W), l.map (fun i => ws[i]?) = w.map some → l.filterMap (fun i => ws[i]?) = w := by
    intro l
    induction l with
    | nil => intro w h; cases w with | nil => rfl | cons a b => simp at h
    | cons i t ih =>
      intro w h
      cases w with
      | nil => simp at h
      | cons a b =>
        simp only [List.map_cons, List.cons.injEq] at h
        rw [List.filterMap_cons, h.1]
        simp only [ih b h.2]
  exact this is ws' hs
def fs_Pc (X : fs_X) (av : List Value) (ws : va_W) (sz : Nat) : Array Value → State → Prop := va_Pc av (fun U => U.heap.size = sz ∧ va_P X.1 vwCl ws U.heap ∧ fs_Env X U ∧ va_D (fs_B X) ws ∧ X.2.1 ≤ sz)
theorem fs_blind {X : fs_X} {av : List Value} {ws : va_W} {sz : Nat} : FrameBlind (fs_Pc X av ws sz) := by
  intro a U g mk h
  obtain ⟨h0, h1, hP, hE, hD, hB⟩ := h
  exact ⟨h0, h1, hP, hE.at (A := fun _ => False) (H := U.heap) (locs := []) va_S.rf (fun _ h => h.elim) rfl (State.WarmedH.refl U), hD, hB⟩
def fs_Bd (X : fs_X) (A : Nat → Prop) {S : Type} (wf : S → va_W) : S → State → Prop := fun u t => va_P X.1 vwCl (wf u) t.heap ∧ va_D A (wf u)
def fs_Qi (X : fs_X) {S : Type} (post : Int32 → S → Prop) (wf : S → va_W) (A : Nat → Prop) : Array Value → State → Outcome → State → Prop := va_Qi post (fs_Bd X A wf) A
def fs_Ql (X : fs_X) {S : Type} (post : Int64 → S → Prop) (wf : S → va_W) (A : Nat → Prop) : Array Value → State → Outcome → State → Prop := va_Ql post (fs_Bd X A wf) A
def fs_Qv (X : fs_X) {S : Type} (post : S → Prop) (wf : S → va_W) (A : Nat → Prop) : Array Value → State → Outcome → State → Prop := va_Qv post (fs_Bd X A wf) A
/-- a contract of our one form -/
def fs_M (l : Launch) (X : fs_X) (y : MethodName) (cc : ByteArray) (maxL : Nat) (ret : Option FieldType) (rm : Room) (av : List Value) (ws : va_W) (sz : Nat) (Qc : (Nat → Prop) → Array Value → State → Outcome → State → Prop) (mc ms : Nat) : Prop :=
  Met l y (Cond.code y cc maxL ret :: fs_G) rm (fs_Pc X av ws sz) (Qc (va_A ws sz)) mc ms (va_A ws sz)
/-- what holds at a method's entry and stays -/
def fs_At (X : fs_X) (A : Nat → Prop) (p : Program) (s : State) (m : MethodId) (args : Array Value) (meth : Method) (c : Code) (cc : ByteArray) (maxL : Nat) (ret : Option FieldType) (own nm : String) : Prop :=
  p.tables.exec = Jvm.exec ∧ c.code = cc ∧ meth.sig.returnType = ret ∧ c.maxLocals = maxL ∧ s.vm.findClass own = some m.cls ∧ (∀ w ∈ fs_G, w.before args s = true) ∧ meth.locks = false ∧ meth.name = nm ∧ fs_Env X s ∧ (∀ q, s.heap.size ≤ q → A q) ∧ (∀ q, A q → fs_B X q)
theorem fs_ofW {l : Launch} {X : fs_X} {y : MethodName} {cc : ByteArray} {maxL : Nat} {ret : Option FieldType} {rm : Room} {av : List Value} {ws : va_W} {sz : Nat} {Qc : (Nat → Prop) → Array Value → State → Outcome → State → Prop} {mc ms : Nat} (hy : plainName y.cls = true) (hlen : (lg_sl av).length ≤ maxL)
    (body : ∀ (p : Program) (e : Env) (s : State) (m : MethodId) (args : Array Value) (below : List Frame) (meth : Method) (c : Code) (A : Nat → Prop) (ls : Array Slot), fs_At X A p s m args meth c cc maxL ret y.cls y.name → fs_H X A s ws s.heap [] → lv_has ls maxL (lv_args 0 av) →
      W p l e rm s m args below meth c s.heap [] 0 0 (MQ below (Qc A) args s mc ms A) (F0 m 0 ls [])) : fs_M l X y cc maxL ret rm av ws sz Qc mc ms := by
  refine Met.ofW (cc := cc) (maxL := maxL) (ret := ret) hy rfl ?_
  intro p e s m args below meth c s₁ B hml hv
  obtain ⟨rfl, hsz, hP, hE, hD, hB⟩ := hv
  have hts := atoms_spec (ws := Cond.code y cc maxL ret :: fs_G) B.pre
  have hl := lv_entry av (n := maxL) hlen
  rw [lg_entry_eq]
  generalize (lg_sl av ++ List.replicate (maxL - (lg_sl av).length) Slot.unset).toArray = ls at hl ⊢
  refine body p e s m _ below meth c (va_A ws sz) ls ⟨B.exec, B.bytes, B.returns, hml, findClass_of_methodNamed B.named, fun w hw => hts w (List.mem_cons_of_mem _ hw), B.notSynchronized, (name_of_methodNamed B.named B.method).1, hE, ?_, ?_⟩ ⟨hP, hD.self, va_S.rf⟩ hl
  · intro q hq; rw [hsz] at hq; exact Or.inr hq
  · intro q hq
    rcases hq with ⟨k, e9, h9⟩ | h9
    · exact hD.2 k _ h9
    · exact Nat.le_trans hB h9
section FSR
variable {p : Program} {l : Launch} {e : Env} {R : Room} {s : State} {m : MethodId} {args : Array Value} {below : List Frame} {meth : Method} {c : Code} {H : Heap} {locs : List Loc} {cells slots : Nat} {Q : State → Prop}
variable {cc : ByteArray} {pc : Nat} {ls : Array Slot} {rest : List Value} {A : Nat → Prop} {a : Nat} {ws : va_W} {X : fs_X} {maxL : Nat} {ret : Option FieldType} {own nm : String}
theorem fs_get (C : fs_At X A p s m args meth c cc maxL ret own nm) {C9 : String} {T : u_T} {N ci index : Nat} (hin : ∀ w ∈ u_ws C9 T N, w ∈ fs_G) (hH : fs_H X A s ws H locs) (q0 : Nat) {fs : List Value} (he : ws[q0]? = some (a, .inr (ci, fs))) (hc : vwCl[ci]? = some (C9, T, N)) (k : Nat) (hk : k < N) (hlink : Cond.fieldLink own index (T k).1 (T k).2.1 (T k).2.2.1 ∈ fs_G) {v : Value} (hv : fs[k]? = some v) (hdg : decode cc pc = .ok (.getfield index, 3))
    (kk : W p l e R s m args below meth c H locs cells slots Q (F0 m (pc + 3) ls (v :: rest))) : W p l e R s m args below meth c H locs cells slots Q (F0 m pc ls (.ref a :: rest)) := by
  obtain ⟨hx, hb, -, -, hown, hts, -, -, hE, -, -⟩ := C
  exact va_get hx hb hts hin hown hE.1 hH.1 q0 he hc k hk (hts _ hlink) (fun _ h => h) hv hdg kk
theorem fs_getN (C : fs_At X A p s m args meth c cc maxL ret own nm) {C9 : String} {T : u_T} {N ci index : Nat} (hin : ∀ w ∈ u_ws C9 T N, w ∈ fs_G) (hH : fs_H X A s ws H locs) (q0 : Nat) {fs : List Value} (he : ws[q0]? = some (a, .inr (ci, fs))) (hc : vwCl[ci]? = some (C9, T, N)) (k : Nat) (hk : k < N) (hlink : (own, index, (T k).1, (T k).2.1, (T k).2.2.1) ∈ fs_NF) {v : Value} (hv : fs[k]? = some v) (hdg : decode cc pc = .ok (.getfield index, 3))
    (kk : W p l e R s m args below meth c H locs cells slots Q (F0 m (pc + 3) ls (v :: rest))) : W p l e R s m args below meth c H locs cells slots Q (F0 m pc ls (.ref a :: rest)) := by
  obtain ⟨hx, hb, -, -, hown, hts, -, -, hE, -, -⟩ := C
  exact va_getN hx hb hts hin hown hE.1 hH.1 q0 he hc k hk (va_Nw.use rfl (hE.2.1.2.1 _ hlink)) (fun _ h => h) hv hdg kk
theorem fs_put (C : fs_At X A p s m args meth c cc maxL ret own nm) {C9 : String} {T : u_T} {N ci index : Nat} (hin : ∀ w ∈ u_ws C9 T N, w ∈ fs_G) (ty0 : Nat → FieldType) (hty : ∀ k, k < N → parseFieldDescriptor (T k).2.2.1 = some (ty0 k)) (hnm : ∀ a, a < N → ∀ b, b < N → a ≠ b → (T a).2.1 ≠ (T b).2.1) (hH : fs_H X A s ws H locs) (q0 : Nat) {fs : List Value} (he : ws[q0]? = some (a, .inr (ci, fs))) (hc : vwCl[ci]? = some (C9, T, N)) (k : Nat) (hk : k < N) (hlink : Cond.fieldLink own index (T k).1 (T k).2.1 (T k).2.2.1 ∈ fs_G) (hfin : (T k).2.2.2 = false) {v : Value} (hn : narrow (ty0 k) v = v) (hfit : fits (ty0 k) v = true) (hl : k < fs.length) {ws' : va_W} (hw : ws.set q0 (a, .inr (ci, fs.set k v)) = ws')
    (hdg : decode cc pc = .ok (.putfield index, 3)) (kk : ∀ (H1 : Heap) (locs1 : List Loc), fs_H X A s ws' H1 locs1 → W p l e R s m args below meth c H1 locs1 cells slots Q (F0 m (pc + 3) ls rest)) : W p l e R s m args below meth c H locs cells slots Q (F0 m pc ls (v :: .ref a :: rest)) := by
  obtain ⟨hx, hb, -, -, hown, hts, -, -, hE, -, -⟩ := C
  subst hw
  exact va_put hx hb hts hin ty0 hty hnm hown hE.1 hH.1 hH.2.1 hH.2.2 q0 he hc k hk (hts _ hlink) (fun _ h => h) hfin (hty k hk) hn hfit hl hdg (fun H1 locs1 h1 h2 h3 => kk H1 locs1 ⟨h1, h2, h3⟩)
theorem fs_putN (C : fs_At X A p s m args meth c cc maxL ret own nm) {C9 : String} {T : u_T} {N ci index : Nat} (hin : ∀ w ∈ u_ws C9 T N, w ∈ fs_G) (ty0 : Nat → FieldType) (hty : ∀ k, k < N → parseFieldDescriptor (T k).2.2.1 = some (ty0 k)) (hnm : ∀ a, a < N → ∀ b, b < N → a ≠ b → (T a).2.1 ≠ (T b).2.1) (hH : fs_H X A s ws H locs) (q0 : Nat) {fs : List Value} (he : ws[q0]? = some (a, .inr (ci, fs))) (hc : vwCl[ci]? = some (C9, T, N)) (k : Nat) (hk : k < N) (hlink : (own, index, (T k).1, (T k).2.1, (T k).2.2.1) ∈ fs_NF) (hfin : (T k).2.2.2 = false) {v : Value} (hn : narrow (ty0 k) v = v) (hfit : fits (ty0 k) v = true) (hl : k < fs.length) {ws' : va_W} (hw : ws.set q0 (a, .inr (ci, fs.set k v)) = ws')
    (hdg : decode cc pc = .ok (.putfield index, 3)) (kk : ∀ (H1 : Heap) (locs1 : List Loc), fs_H X A s ws' H1 locs1 → W p l e R s m args below meth c H1 locs1 cells slots Q (F0 m (pc + 3) ls rest)) : W p l e R s m args below meth c H locs cells slots Q (F0 m pc ls (v :: .ref a :: rest)) := by
  obtain ⟨hx, hb, -, -, hown, hts, -, -, hE, -, -⟩ := C
  subst hw
  exact va_putN hx hb hts hin ty0 hty hnm hown hE.1 hH.1 hH.2.1 hH.2.2 q0 he hc k hk (va_Nw.use rfl (hE.2.1.2.1 _ hlink)) (fun _ h => h) hfin (hty k hk) hn hfit hl hdg (fun H1 locs1 h1 h2 h3 => kk H1 locs1 ⟨h1, h2, h3⟩)
theorem fs_putF (C : fs_At X A p s m args meth c cc maxL ret own "<init>") {C9 : String} {T : u_T} {N ci index : Nat} (hin : ∀ w ∈ u_ws C9 T N, w ∈ fs_G) (ty0 : Nat → FieldType) (hty : ∀ k, k < N → parseFieldDescriptor (T k).2.2.1 = some (ty0 k)) (hnm : ∀ a, a < N → ∀ b, b < N → a ≠ b → (T a).2.1 ≠ (T b).2.1) (hH : fs_H X A s ws H locs) (q0 : Nat) {fs : List Value} (he : ws[q0]? = some (a, .inr (ci, fs))) (hc : vwCl[ci]? = some (C9, T, N)) (k : Nat) (hk : k < N) (hlink : Cond.fieldLink own index (T k).1 (T k).2.1 (T k).2.2.1 ∈ fs_G) (hfin : (T k).2.2.2 = true) (hdecl : (T k).1 = own) {v : Value} (hn : narrow (ty0 k) v = v) (hfit : fits (ty0 k) v = true) (hl : k < fs.length) {ws' : va_W} (hw : ws.set q0 (a, .inr (ci, fs.set k v)) = ws')
    (hdg : decode cc pc = .ok (.putfield index, 3)) (kk : ∀ (H1 : Heap) (locs1 : List Loc), fs_H X A s ws' H1 locs1 → W p l e R s m args below meth c H1 locs1 cells slots Q (F0 m (pc + 3) ls rest)) : W p l e R s m args below meth c H locs cells slots Q (F0 m pc ls (v :: .ref a :: rest)) := by
  obtain ⟨hx, hb, -, -, hown, hts, -, hin2, hE, -, -⟩ := C
  subst hw
  exact va_putF hx hb hts hin ty0 hty hnm hown hE.1 hH.1 hH.2.1 hH.2.2 q0 he hc k hk (hts _ hlink) (fun _ h => h) hfin hin2 hdecl (hty k hk) hn hfit hl hdg (fun H1 locs1 h1 h2 h3 => kk H1 locs1 ⟨h1, h2, h3⟩)
theorem fs_iald (C : fs_At X A p s m args meth c cc maxL ret own nm) (hH : fs_H X A s ws H locs) (q0 : Nat) {n : Nat} {f : Nat → Int32} (ha : ws[q0]? = some (a, fs_ai X n f)) {i : Int32} {k : Nat} (hi : i = nI k) (hk : k < n) (hn : n < 2 ^ 31) (hdg : decode cc pc = .ok (.iaload, 1))
    (kk : W p l e R s m args below meth c H locs cells slots Q (F0 m (pc + 1) ls (.int (f k) :: rest))) : W p l e R s m args below meth c H locs cells slots Q (F0 m pc ls (.int i :: .ref a :: rest)) := by
  obtain ⟨hx, hb, -, -, hown, hts, -, -, hE, -, -⟩ := C
  subst hi
  exact va_iald hx hb hE.1 hH.1 q0 0 ha rfl (vp_in_nI hk hn) hdg (by rw [nI_clamp (Nat.lt_trans hk hn)]; exact kk)
theorem fs_iast (C : fs_At X A p s m args meth c cc maxL ret own nm) (hH : fs_H X A s ws H locs) (q0 : Nat) {n : Nat} {f : Nat → Int32} (ha : ws[q0]? = some (a, fs_ai X n f)) {i x : Int32} {k : Nat} (hi : i = nI k) (hk : k < n) (hn : n < 2 ^ 31) {ws' : va_W} (hw : ws.set q0 (a, fs_ai X n (upd f k x)) = ws') (hdg : decode cc pc = .ok (.iastore, 1))
    (kk : ∀ (H1 : Heap) (locs1 : List Loc), fs_H X A s ws' H1 locs1 → W p l e R s m args below meth c H1 locs1 cells slots Q (F0 m (pc + 1) ls rest)) : W p l e R s m args below meth c H locs cells slots Q (F0 m pc ls (.int x :: .int i :: .ref a :: rest)) := by
  obtain ⟨hx, hb, -, -, hown, hts, -, -, hE, -, -⟩ := C
  subst hi; subst hw
  exact va_iast hx hb hE.1 hH.1 hH.2.1 hH.2.2 q0 0 ha rfl (vp_in_nI hk hn) hdg (by rw [nI_clamp (Nat.lt_trans hk hn)]; exact fun H1 locs1 h1 h2 h3 => kk H1 locs1 ⟨h1, h2, h3⟩)
theorem fs_lald (C : fs_At X A p s m args meth c cc maxL ret own nm) (hH : fs_H X A s ws H locs) (q0 : Nat) {n : Nat} {f : Nat → Int64} (ha : ws[q0]? = some (a, fs_al X n f)) {i : Int32} {k : Nat} (hi : i = nI k) (hk : k < n) (hn : n < 2 ^ 31) (hdg : decode cc pc = .ok (.laload, 1))
    (kk : W p l e R s m args below meth c H locs cells slots Q (F0 m (pc + 1) ls (.long (f k) :: rest))) : W p l e R s m args below meth c H locs cells slots Q (F0 m pc ls (.int i :: .ref a :: rest)) := by
  obtain ⟨hx, hb, -, -, hown, hts, -, -, hE, -, -⟩ := C
  subst hi
  exact va_lald hx hb hE.1 hH.1 q0 1 ha rfl (vp_in_nI hk hn) hdg (by rw [nI_clamp (Nat.lt_trans hk hn)]; exact kk)
theorem fs_last (C : fs_At X A p s m args meth c cc maxL ret own nm) (hH : fs_H X A s ws H locs) (q0 : Nat) {n : Nat} {f : Nat → Int64} (ha : ws[q0]? = some (a, fs_al X n f)) {i : Int32} {x : Int64} {k : Nat} (hi : i = nI k) (hk : k < n) (hn : n < 2 ^ 31) {ws' : va_W} (hw : ws.set q0 (a, fs_al X n (vp_updL f k x)) = ws') (hdg : decode cc pc = .ok (.lastore, 1))
    (kk : ∀ (H1 : Heap) (locs1 : List Loc), fs_H X A s ws' H1 locs1 → W p l e R s m args below meth c H1 locs1 cells slots Q (F0 m (pc + 1) ls rest)) : W p l e R s m args below meth c H locs cells slots Q (F0 m pc ls (.long x :: .int i :: .ref a :: rest)) := by
  obtain ⟨hx, hb, -, -, hown, hts, -, -, hE, -, -⟩ := C
  subst hi; subst hw
  exact va_last hx hb hE.1 hH.1 hH.2.1 hH.2.2 q0 1 ha rfl (vp_in_nI hk hn) hdg (by rw [nI_clamp (Nat.lt_trans hk hn)]; exact fun H1 locs1 h1 h2 h3 => kk H1 locs1 ⟨h1, h2, h3⟩)
theorem fs_aald (C : fs_At X A p s m args meth c cc maxL ret own nm) (hH : fs_H X A s ws H locs) (q0 : Nat) {n : Nat} {f : Nat → Option Nat} (ha : ws[q0]? = some (a, fs_aq X n f)) {i : Int32} {k b : Nat} (hi : i = nI k) (hk : k < n) (hn : n < 2 ^ 31) (hf : f k = some b) (hdg : decode cc pc = .ok (.aaload, 1))
    (kk : W p l e R s m args below meth c H locs cells slots Q (F0 m (pc + 1) ls (.ref b :: rest))) : W p l e R s m args below meth c H locs cells slots Q (F0 m pc ls (.int i :: .ref a :: rest)) := by
  obtain ⟨hx, hb, -, -, hown, hts, -, -, hE, -, -⟩ := C
  subst hi
  exact va_aldq hx hb hE.1 hH.1 q0 2 ha rfl (vp_in_nI hk hn) hdg (by rw [nI_clamp (Nat.lt_trans hk hn), hf]; exact kk)
theorem fs_lge (hx : p.tables.exec = Jvm.exec) (hb : c.code = cc) {x y : Int64} {off : Int} {tgt : Nat} (d0 : decode cc pc = .ok (.lcmp, 1)) (d1 : decode cc (pc + 1) = .ok (.ifCond .ge off, 3)) (ht : ((pc + 1 : Nat) : Int) + off = (tgt : Int))
    (kt : y ≤ x → W p l e R s m args below meth c H locs cells slots Q (F0 m tgt ls rest)) (kf : ¬ y ≤ x → W p l e R s m args below meth c H locs cells slots Q (F0 m (pc + 1 + 3) ls rest)) : W p l e R s m args below meth c H locs cells slots Q (F0 m pc ls (.long y :: .long x :: rest)) :=
  W.lcmp hx hb d0 (lv_if_ge hx hb d1 ht (fun h => kt ((lg_cmp_ge x y).mp h)) (fun h => kf (fun h2 => h ((lg_cmp_ge x y).mpr h2))))
theorem fs_lle (hx : p.tables.exec = Jvm.exec) (hb : c.code = cc) {x y : Int64} {off : Int} {tgt : Nat} (d0 : decode cc pc = .ok (.lcmp, 1)) (d1 : decode cc (pc + 1) = .ok (.ifCond .le off, 3)) (ht : ((pc + 1 : Nat) : Int) + off = (tgt : Int))
    (kt : x ≤ y → W p l e R s m args below meth c H locs cells slots Q (F0 m tgt ls rest)) (kf : ¬ x ≤ y → W p l e R s m args below meth c H locs cells slots Q (F0 m (pc + 1 + 3) ls rest)) : W p l e R s m args below meth c H locs cells slots Q (F0 m pc ls (.long y :: .long x :: rest)) :=
  W.lcmp hx hb d0 (lv_if_le hx hb d1 ht (fun h => kt ((lg_cmp_le x y).mp h)) (fun h => kf (fun h2 => h ((lg_cmp_le x y).mpr h2))))
theorem fs_lgt (hx : p.tables.exec = Jvm.exec) (hb : c.code = cc) {x y : Int64} {off : Int} {tgt : Nat} (d0 : decode cc pc = .ok (.lcmp, 1)) (d1 : decode cc (pc + 1) = .ok (.ifCond .gt off, 3)) (ht : ((pc + 1 : Nat) : Int) + off = (tgt : Int))
    (kt : y < x → W p l e R s m args below meth c H locs cells slots Q (F0 m tgt ls rest)) (kf : ¬ y < x → W p l e R s m args below meth c H locs cells slots Q (F0 m (pc + 1 + 3) ls rest)) : W p l e R s m args below meth c H locs cells slots Q (F0 m pc ls (.long y :: .long x :: rest)) :=
  W.lcmp hx hb d0 (lv_if_gt hx hb d1 ht (fun h => kt ((lg_cmp_gt x y).mp h)) (fun h => kf (fun h2 => h ((lg_cmp_gt x y).mpr h2))))
theorem fs_llt (hx : p.tables.exec = Jvm.exec) (hb : c.code = cc) {x y : Int64} {off : Int} {tgt : Nat} (d0 : decode cc pc = .ok (.lcmp, 1)) (d1 : decode cc (pc + 1) = .ok (.ifCond .lt off, 3)) (ht : ((pc + 1 : Nat) : Int) + off = (tgt : Int))
    (kt : x < y → W p l e R s m args below meth c H locs cells slots Q (F0 m tgt ls rest)) (kf : ¬ x < y → W p l e R s m args below meth c H locs cells slots Q (F0 m (pc + 1 + 3) ls rest)) : W p l e R s m args below meth c H locs cells slots Q (F0 m pc ls (.long y :: .long x :: rest)) :=
  W.lcmp hx hb d0 (lv_if_lt hx hb d1 ht (fun h => kt ((lg_cmp_lt x y).mp h)) (fun h => kf (fun h2 => h ((lg_cmp_lt x y).mpr h2))))
theorem fs_leq (hx : p.tables.exec = Jvm.exec) (hb : c.code = cc) {x y : Int64} {off : Int} {tgt : Nat} (d0 : decode cc pc = .ok (.lcmp, 1)) (d1 : decode cc (pc + 1) = .ok (.ifCond .eq off, 3)) (ht : ((pc + 1 : Nat) : Int) + off = (tgt : Int))
    (kt : x = y → W p l e R s m args below meth c H locs cells slots Q (F0 m tgt ls rest)) (kf : ¬ x = y → W p l e R s m args below meth c H locs cells slots Q (F0 m (pc + 1 + 3) ls rest)) : W p l e R s m args below meth c H locs cells slots Q (F0 m pc ls (.long y :: .long x :: rest)) :=
  W.lcmp hx hb d0 (lv_if_eq hx hb d1 ht (fun h => kt ((lg_cmp_eq x y).mp h)) (fun h => kf (fun h2 => h ((lg_cmp_eq x y).mpr h2))))
theorem fs_getQ (C : fs_At X A p s m args meth c cc maxL ret "FixedSignals$Block" nm) (hH : fs_H X A s ws H locs) {index : Nat} (hlink : Cond.fieldLink "FixedSignals$Block" index "FixedSignals$Block" "QUARTER" "[I" ∈ fs_G) (hdg : decode cc pc = .ok (.getstatic index, 3))
    (kk : W p l e R s m args below meth c H locs cells slots Q (F0 m (pc + 3) ls (.ref (fs_tQ X) :: rest))) : W p l e R s m args below meth c H locs cells slots Q (F0 m pc ls rest) := by
  obtain ⟨hx, hb, -, -, hown, hts, -, -, hE, -, hAB⟩ := C
  exact va_gets hx hb (hE.2.2.1.1.narrow hAB) hH.2.2 hown (hts _ hlink) (fun _ h => h) hdg kk
theorem fs_getA (C : fs_At X A p s m args meth c cc maxL ret "FixedSignals$Turner" nm) (hH : fs_H X A s ws H locs) {index : Nat} (hlink : Cond.fieldLink "FixedSignals$Turner" index "FixedSignals$Turner" "ARCS" "[I" ∈ fs_G) (hdg : decode cc pc = .ok (.getstatic index, 3))
    (kk : W p l e R s m args below meth c H locs cells slots Q (F0 m (pc + 3) ls (.ref (fs_tA X) :: rest))) : W p l e R s m args below meth c H locs cells slots Q (F0 m pc ls rest) := by
  obtain ⟨hx, hb, -, -, hown, hts, -, -, hE, -, hAB⟩ := C
  exact va_gets hx hb (hE.2.2.2.1.1.narrow hAB) hH.2.2 hown (hts _ hlink) (fun _ h => h) hdg kk
theorem fs_tabQ (C : fs_At X A p s m args meth c cc maxL ret own nm) (hH : fs_H X A s ws H locs) {i : Int32} {k : Nat} (hi : i = nI k) (hk : k < 9) (hdg : decode cc pc = .ok (.iaload, 1))
    (kk : W p l e R s m args below meth c H locs cells slots Q (F0 m (pc + 1) ls (.int (fs_C k) :: rest))) : W p l e R s m args below meth c H locs cells slots Q (F0 m pc ls (.int i :: .ref (fs_tQ X) :: rest)) := by
  obtain ⟨hx, hb, -, -, hown, hts, -, -, hE, -, hAB⟩ := C
  subst hi
  exact va_ti hx hb (hE.2.2.1.2.narrow hAB) hH.2.2 (vp_in_nI hk (by decide)) (by rw [nI_clamp (Nat.lt_trans hk (by decide))]) hdg kk
theorem fs_tabA (C : fs_At X A p s m args meth c cc maxL ret own nm) (hH : fs_H X A s ws H locs) {i : Int32} {k : Nat} (hi : i = nI k) (hk : k < 30) (hdg : decode cc pc = .ok (.iaload, 1))
    (kk : W p l e R s m args below meth c H locs cells slots Q (F0 m (pc + 1) ls (.int (fs_arc k) :: rest))) : W p l e R s m args below meth c H locs cells slots Q (F0 m pc ls (.int i :: .ref (fs_tA X) :: rest)) := by
  obtain ⟨hx, hb, -, -, hown, hts, -, -, hE, -, hAB⟩ := C
  subst hi
  exact va_ti hx hb (hE.2.2.2.1.2.narrow hAB) hH.2.2 (vp_in_nI hk (by decide)) (by rw [nI_clamp (Nat.lt_trans hk (by decide))]) hdg kk
/-- a returned int -/
theorem fs_iret (C : fs_At X A p s m args meth c cc maxL (some .int) own nm) (hH : fs_H X A s ws H locs) {S : Type} {post : Int32 → S → Prop} {wf : S → va_W} {v : Int32} (u : S) (hu : wf u = ws) (hp : post v u) (hdg : decode cc pc = .ok (.ireturn, 1)) : W p l e R s m args below meth c H locs cells slots (MQ below (fs_Qi X post wf A) args s cells slots A) (F0 m pc ls [.int v]) := by
  obtain ⟨hx, hb, hr, -, -, -, hlocks, -, -, -, -⟩ := C
  exact W.iret hx hb hr (fun t ht hW => ⟨⟨v, u, rfl, hp, by rw [hu, ht]; exact hH.1, by rw [hu]; exact hH.2.1⟩, hH.2.2.F ht⟩) hH.2.2.2.2 hdg hlocks
theorem fs_zret (C : fs_At X A p s m args meth c cc maxL (some .boolean) own nm) (hH : fs_H X A s ws H locs) {S : Type} {post : Int32 → S → Prop} {wf : S → va_W} {v : Int32} (hn : narrow .boolean (.int v) = .int v) (u : S) (hu : wf u = ws) (hp : post v u) (hdg : decode cc pc = .ok (.ireturn, 1)) : W p l e R s m args below meth c H locs cells slots (MQ below (fs_Qi X post wf A) args s cells slots A) (F0 m pc ls [.int v]) := by
  obtain ⟨hx, hb, hr, -, -, -, hlocks, -, -, -, -⟩ := C
  exact W.zret hx hb hr hn (fun t ht hW => ⟨⟨v, u, rfl, hp, by rw [hu, ht]; exact hH.1, by rw [hu]; exact hH.2.1⟩, hH.2.2.F ht⟩) hH.2.2.2.2 hdg hlocks
theorem fs_lret (C : fs_At X A p s m args meth c cc maxL (some .long) own nm) (hH : fs_H X A s ws H locs) {S : Type} {post : Int64 → S → Prop} {wf : S → va_W} {v : Int64} (u : S) (hu : wf u = ws) (hp : post v u) (hdg : decode cc pc = .ok (.lreturn, 1)) : W p l e R s m args below meth c H locs cells slots (MQ below (fs_Ql X post wf A) args s cells slots A) (F0 m pc ls [.long v]) := by
  obtain ⟨hx, hb, hr, -, -, -, hlocks, -, -, -, -⟩ := C
  exact W.lret hx hb hr (fun t ht hW => ⟨⟨v, u, rfl, hp, by rw [hu, ht]; exact hH.1, by rw [hu]; exact hH.2.1⟩, hH.2.2.F ht⟩) hH.2.2.2.2 hdg hlocks
theorem fs_vret (C : fs_At X A p s m args meth c cc maxL none own nm) (hH : fs_H X A s ws H locs) {S : Type} {post : S → Prop} {wf : S → va_W} (u : S) (hu : wf u = ws) (hp : post u) (hdg : decode cc pc = .ok (.return_, 1)) : W p l e R s m args below meth c H locs cells slots (MQ below (fs_Qv X post wf A) args s cells slots A) (F0 m pc ls []) := by
  obtain ⟨hx, hb, hr, -, -, -, hlocks, -, -, -, -⟩ := C
  exact W.vret hx hb hr (fun t ht hW => ⟨⟨u, rfl, hp, by rw [hu, ht]; exact hH.1, by rw [hu]; exact hH.2.1⟩, hH.2.2.F ht⟩) hH.2.2.2.2 hdg hlocks
/-- the words of a callee of our one form -/
theorem fs_good {y : MethodName} {b9 : ByteArray} {n9 : Nat} {r9 : Option FieldType} (h : Cond.code y b9 n9 r9 ∈ fs_G) : GoodIn fs_G (Cond.code y b9 n9 r9 :: fs_G) := by
  intro w hw
  have h2 : w ∈ fs_G := by
    rcases List.mem_cons.mp hw with e9 | e9
    · rw [e9]; exact h
    · exact e9
  exact ⟨h2, good_of_word (List.mem_filter.mp h2).2⟩
abbrev fs_des (y : MethodName) (n : Nat) : Prop := y.cls ≠ "java/lang/invoke/MethodHandle" ∧ y.cls ≠ "java/lang/invoke/VarHandle" ∧ (parseMethodDescriptor y.desc).map (fun d => d.parameters.length) = some n
theorem fs_pre (C : fs_At X A p s m args meth c cc maxL ret own nm) (hH : fs_H X A s ws H locs) {wc : va_W} (isC : List Nat) (hn : va_nd isC = true) (hC : isC.map (fun i => ws[i]?) = wc.map some) {av : List Value} (U : State) (hU : U.heap = H) (hW : s.WarmedH U.vm) : fs_Pc X av wc H.size av.toArray U := by
  obtain ⟨-, -, -, -, -, -, -, -, hE, hA, hAB⟩ := C
  have h2 := hH.sub isC hn hC
  exact ⟨rfl, by rw [hU], by rw [hU]; exact h2.1, hE.at hH.2.2 hAB hU hW, h2.2.1.weaken (fun k q hk h => hAB q.1 h), Nat.le_trans (hAB _ (hA _ (Nat.le_refl _))) hH.2.2.1⟩
theorem fs_rS (C : fs_At X A p s m args meth c cc maxL ret own nm) (hH : fs_H X A s ws H locs) {wc : va_W} (isC : List Nat) (hn : va_nd isC = true) (hC : isC.map (fun i => ws[i]?) = wc.map some) {y : MethodName} {b9 : ByteArray} {n9 n index mc ms : Nat} {r9 : Option FieldType} {rm : Room} {As : List Value} {Qc : (Nat → Prop) → Array Value → State → Outcome → State → Prop} (hM : fs_M l X y b9 n9 r9 rm As wc H.size Qc mc ms)
    (hrc : rm.cells = mc) (hrs : rm.slots = ms) (hcode : Cond.code y b9 n9 r9 ∈ fs_G) (hlink : Cond.methodLink own index y ∈ fs_G) (hstat : Cond.static y ∈ fs_G) (hini : Cond.initialized y.cls ∈ fs_G) (hd : fs_des y n) (hR : rm.frames + 1 ≤ R.frames ∧ 8 + (n9 + 11) + rm.locals ≤ R.locals) (hlen : As.length = n) (hsz : ls.size = maxL) {st0 : List Value} (hst : st0 = As.reverse ++ rest) (hrm : (rest.map fun v => v.category).sum ≤ 8) (hdg : decode cc pc = .ok (.invokestatic index, 3)) (hf : cells + mc ≤ R.cells ∧ slots + ms ≤ R.slots) :
    va_Run p l e R s m args below meth c H locs cells slots mc ms (F0 m pc ls st0) rest (Qc (va_A wc H.size) As.toArray) (va_A wc H.size) := by
  obtain ⟨hx, hb, -, hml, hown, hts, -, -, -, -, -⟩ := id C
  exact va_runS (Ts := fs_G) ⟨hx, hb, hml, hown, hts⟩ hM ⟨callB_of n hts (fs_good hcode) rfl hrc hrs (hts _ hini) (hts _ hlink) hd hR, hts _ hstat⟩ ⟨fs_blind, fun U hU hW => fs_pre C hH isC hn hC U hU hW⟩ rfl hlen hsz hst (lv_room hrm) hdg hf
theorem fs_rSN (C : fs_At X A p s m args meth c cc maxL ret own nm) (hH : fs_H X A s ws H locs) {wc : va_W} (isC : List Nat) (hn : va_nd isC = true) (hC : isC.map (fun i => ws[i]?) = wc.map some) {y : MethodName} {b9 : ByteArray} {n9 n index mc ms : Nat} {r9 : Option FieldType} {rm : Room} {As : List Value} {Qc : (Nat → Prop) → Array Value → State → Outcome → State → Prop} (hM : fs_M l X y b9 n9 r9 rm As wc H.size Qc mc ms)
    (hrc : rm.cells = mc) (hrs : rm.slots = ms) (hcode : Cond.code y b9 n9 r9 ∈ fs_G) (hlink : (own, index, y) ∈ fs_NM) (hstat : Cond.static y ∈ fs_G) (hini : Cond.initialized y.cls ∈ fs_G) (hd : fs_des y n) (hR : rm.frames + 1 ≤ R.frames ∧ 8 + (n9 + 11) + rm.locals ≤ R.locals) (hlen : As.length = n) (hsz : ls.size = maxL) {st0 : List Value} (hst : st0 = As.reverse ++ rest) (hrm : (rest.map fun v => v.category).sum ≤ 8) (hdg : decode cc pc = .ok (.invokestatic index, 3)) (hf : cells + mc ≤ R.cells ∧ slots + ms ≤ R.slots) :
    va_Run p l e R s m args below meth c H locs cells slots mc ms (F0 m pc ls st0) rest (Qc (va_A wc H.size) As.toArray) (va_A wc H.size) := by
  obtain ⟨hx, hb, -, hml, hown, hts, -, -, hE, -, -⟩ := id C
  exact va_runSN (Ts := fs_G) ⟨hx, hb, hml, hown, hts⟩ hM ⟨va_cnB n hts (fs_good hcode) rfl hrc hrs (hE.2.1.1 _ hlink) (hts _ hini) hd hR, hts _ hstat, trivial⟩ ⟨fs_blind, fun U hU hW => fs_pre C hH isC hn hC U hU hW⟩ rfl hlen hsz hst (lv_room hrm) hdg hf
theorem fs_rV (C : fs_At X A p s m args meth c cc maxL ret own nm) (hH : fs_H X A s ws H locs) {wc : va_W} (isC : List Nat) (hn : va_nd isC = true) (hC : isC.map (fun i => ws[i]?) = wc.map some) {y : MethodName} {b9 : ByteArray} {n9 n index mc ms q0 ci b : Nat} {fs : List Value} {C9 : vw_C} {r9 : Option FieldType} {rm : Room} {As : List Value} {Qc : (Nat → Prop) → Array Value → State → Outcome → State → Prop} (hM : fs_M l X y b9 n9 r9 rm (.ref b :: As) wc H.size Qc mc ms) (hcl : vwCl[ci]? = some C9) (hq : ws[q0]? = some (b, .inr (ci, fs)))
    (hrc : rm.cells = mc) (hrs : rm.slots = ms) (hcode : Cond.code y b9 n9 r9 ∈ fs_G) (hlink : Cond.methodLink own index y ∈ fs_G) (hinst : Cond.instanceMethod y ∈ fs_G) (hsel : Cond.selects C9.1 y y ∈ fs_G) (hini : Cond.initialized y.cls ∈ fs_G) (hd : fs_des y n) (hR : rm.frames + 1 ≤ R.frames ∧ 8 + (n9 + 11) + rm.locals ≤ R.locals) (hlen : As.length = n) (hsz : ls.size = maxL) {st0 : List Value} (hst : st0 = As.reverse ++ .ref b :: rest) (hrm : (rest.map fun v => v.category).sum ≤ 8) (hdg : decode cc pc = .ok (.invokevirtual index, 3)) (hf : cells + mc ≤ R.cells ∧ slots + ms ≤ R.slots) :
    va_Run p l e R s m args below meth c H locs cells slots mc ms (F0 m pc ls st0) rest (Qc (va_A wc H.size) (Value.ref b :: As).toArray) (va_A wc H.size) := by
  obtain ⟨hx, hb, -, hml, hown, hts, -, -, hE, -, -⟩ := id C
  exact va_runV (Ts := fs_G) (C := C9.1) ⟨hx, hb, hml, hown, hts⟩ hM ⟨callB_of n hts (fs_good hcode) rfl hrc hrs (hts _ hini) (hts _ hlink) hd hR, hts _ hinst, hts _ hsel⟩ ⟨fs_blind, va_recv hE.1 hH.1 hcl hq, fun U hU hW => fs_pre C hH isC hn hC U hU hW⟩ rfl hlen hsz hst (lv_room hrm) hdg hf
theorem fs_rVN (C : fs_At X A p s m args meth c cc maxL ret own nm) (hH : fs_H X A s ws H locs) {wc : va_W} (isC : List Nat) (hn : va_nd isC = true) (hC : isC.map (fun i => ws[i]?) = wc.map some) {y : MethodName} {b9 : ByteArray} {n9 n index mc ms q0 ci b : Nat} {fs : List Value} {C9 : vw_C} {r9 : Option FieldType} {rm : Room} {As : List Value} {Qc : (Nat → Prop) → Array Value → State → Outcome → State → Prop} (hM : fs_M l X y b9 n9 r9 rm (.ref b :: As) wc H.size Qc mc ms) (hcl : vwCl[ci]? = some C9) (hq : ws[q0]? = some (b, .inr (ci, fs)))
    (hrc : rm.cells = mc) (hrs : rm.slots = ms) (hcode : Cond.code y b9 n9 r9 ∈ fs_G) (hlink : (own, index, y) ∈ fs_NM) (hinst : Cond.instanceMethod y ∈ fs_G) (hsel : Cond.selects C9.1 y y ∈ fs_G) (hini : Cond.initialized y.cls ∈ fs_G) (hd : fs_des y n) (hR : rm.frames + 1 ≤ R.frames ∧ 8 + (n9 + 11) + rm.locals ≤ R.locals) (hlen : As.length = n) (hsz : ls.size = maxL) {st0 : List Value} (hst : st0 = As.reverse ++ .ref b :: rest) (hrm : (rest.map fun v => v.category).sum ≤ 8) (hdg : decode cc pc = .ok (.invokevirtual index, 3)) (hf : cells + mc ≤ R.cells ∧ slots + ms ≤ R.slots) :
    va_Run p l e R s m args below meth c H locs cells slots mc ms (F0 m pc ls st0) rest (Qc (va_A wc H.size) (Value.ref b :: As).toArray) (va_A wc H.size) := by
  obtain ⟨hx, hb, -, hml, hown, hts, -, -, hE, -, -⟩ := id C
  exact va_runVN (Ts := fs_G) (C := C9.1) ⟨hx, hb, hml, hown, hts⟩ hM ⟨va_cnB n hts (fs_good hcode) rfl hrc hrs (hE.2.1.1 _ hlink) (hts _ hini) hd hR, hts _ hinst, hts _ hsel⟩ ⟨fs_blind, va_recv hE.1 hH.1 hcl hq, fun U hU hW => fs_pre C hH isC hn hC U hU hW⟩ rfl hlen hsz hst (lv_room hrm) hdg hf
theorem fs_rI (C : fs_At X A p s m args meth c cc maxL ret own nm) (hH : fs_H X A s ws H locs) {wc : va_W} (isC : List Nat) (hn : va_nd isC = true) (hC : isC.map (fun i => ws[i]?) = wc.map some) {y : MethodName} {b9 : ByteArray} {n9 n index mc ms b : Nat} {rm : Room} {As : List Value} {Qc : (Nat → Prop) → Array Value → State → Outcome → State → Prop} (hM : fs_M l X y b9 n9 none rm (.ref b :: As) wc H.size Qc mc ms)
    (hrc : rm.cells = mc) (hrs : rm.slots = ms) (hcode : Cond.code y b9 n9 none ∈ fs_G) (hlink : Cond.methodLink own index y ∈ fs_G) (hinst : Cond.instanceMethod y ∈ fs_G) (hy1 : y.name = "<init>") (hini : Cond.initialized y.cls ∈ fs_G) (hd : fs_des y n) (hR : rm.frames + 1 ≤ R.frames ∧ 8 + (n9 + 11) + rm.locals ≤ R.locals) (hlen : As.length = n) (hsz : ls.size = maxL) {st0 : List Value} (hst : st0 = As.reverse ++ .ref b :: rest) (hrm : (rest.map fun v => v.category).sum ≤ 8) (hdg : decode cc pc = .ok (.invokespecial index, 3)) (hf : cells + mc ≤ R.cells ∧ slots + ms ≤ R.slots) :
    va_Run p l e R s m args below meth c H locs cells slots mc ms (F0 m pc ls st0) rest (Qc (va_A wc H.size) (Value.ref b :: As).toArray) (va_A wc H.size) := by
  obtain ⟨hx, hb, -, hml, hown, hts, -, -, hE, -, -⟩ := id C
  exact va_runI (Ts := fs_G) ⟨hx, hb, hml, hown, hts⟩ hM ⟨callB_of n hts (fs_good hcode) rfl hrc hrs (hts _ hini) (hts _ hlink) hd hR, hy1, hts _ hinst⟩ ⟨fs_blind, fun U hU hW => fs_pre C hH isC hn hC U hU hW⟩ rfl hlen hsz hst (lv_room hrm) hdg hf
theorem fs_rIN (C : fs_At X A p s m args meth c cc maxL ret own nm) (hH : fs_H X A s ws H locs) {wc : va_W} (isC : List Nat) (hn : va_nd isC = true) (hC : isC.map (fun i => ws[i]?) = wc.map some) {y : MethodName} {b9 : ByteArray} {n9 n index mc ms b : Nat} {rm : Room} {As : List Value} {Qc : (Nat → Prop) → Array Value → State → Outcome → State → Prop} (hM : fs_M l X y b9 n9 none rm (.ref b :: As) wc H.size Qc mc ms)
    (hrc : rm.cells = mc) (hrs : rm.slots = ms) (hcode : Cond.code y b9 n9 none ∈ fs_G) (hlink : (own, index, y) ∈ fs_NM) (hinst : Cond.instanceMethod y ∈ fs_G) (hy1 : y.name = "<init>") (hini : Cond.initialized y.cls ∈ fs_G) (hd : fs_des y n) (hR : rm.frames + 1 ≤ R.frames ∧ 8 + (n9 + 11) + rm.locals ≤ R.locals) (hlen : As.length = n) (hsz : ls.size = maxL) {st0 : List Value} (hst : st0 = As.reverse ++ .ref b :: rest) (hrm : (rest.map fun v => v.category).sum ≤ 8) (hdg : decode cc pc = .ok (.invokespecial index, 3)) (hf : cells + mc ≤ R.cells ∧ slots + ms ≤ R.slots) :
    va_Run p l e R s m args below meth c H locs cells slots mc ms (F0 m pc ls st0) rest (Qc (va_A wc H.size) (Value.ref b :: As).toArray) (va_A wc H.size) := by
  obtain ⟨hx, hb, -, hml, hown, hts, -, -, hE, -, -⟩ := id C
  exact va_runIN (Ts := fs_G) ⟨hx, hb, hml, hown, hts⟩ hM ⟨va_cnB n hts (fs_good hcode) rfl hrc hrs (hE.2.1.1 _ hlink) (hts _ hini) hd hR, hy1, hts _ hinst⟩ ⟨fs_blind, fun U hU hW => fs_pre C hH isC hn hC U hU hW⟩ rfl hlen hsz hst (lv_room hrm) hdg hf
/-- behind a call: the caller's other cells, and the callee's -/
theorem fs_join (C : fs_At X A p s m args meth c cc maxL ret own nm) (hH : fs_H X A s ws H locs) {wc wr w1 : va_W} (isC isR : List Nat) (hC : isC.map (fun i => ws[i]?) = wc.map some) (hR : isR.map (fun i => ws[i]?) = wr.map some) (hn : va_nd isR = true) (hdis : ∀ i ∈ isR, i ∉ isC) {H1 : Heap} {locs1 : List Loc}
    (hk : ∀ q : Nat, q < H.size → ¬ va_A wc H.size q → H1[q]? = H[q]?) (hP1 : va_P X.1 vwCl w1 H1) (hD1 : va_D (va_A wc H.size) w1) (hS : va_S A s.heap H1 locs1) : fs_H X A s (wr ++ w1) H1 locs1 := by
  obtain ⟨-, -, -, -, -, -, -, -, hE, hA, hAB⟩ := C
  have hF := va_free hH.2.1 hH.2.2 hA isC hC
  obtain ⟨h1, h2⟩ := va_join hH.1 hH.2.1 isC isR hC hR hn hdis hk hF hP1 hD1
  exact ⟨h1, h2, hS⟩
theorem fs_ci (C : fs_At X A p s m args meth c cc maxL ret own nm) (hH : fs_H X A s ws H locs) {wc wr : va_W} (isC isR : List Nat) (hC : isC.map (fun i => ws[i]?) = wc.map some) (hR : isR.map (fun i => ws[i]?) = wr.map some) (hn : va_nd isR = true) (hdis : ∀ i ∈ isR, i ∉ isC) {mc ms : Nat} {st0 : List Value} {S : Type} {post : Int32 → S → Prop} {wf : S → va_W} {a9 : Array Value}
    (hr : va_Run p l e R s m args below meth c H locs cells slots mc ms (F0 m pc ls st0) rest (fs_Qi X post wf (va_A wc H.size) a9) (va_A wc H.size))
    (kk : ∀ (r : Int32) (u : S) (H1 : Heap) (locs1 : List Loc), post r u → fs_H X A s (wr ++ wf u) H1 locs1 → W p l e R s m args below meth c H1 locs1 (cells + mc) (slots + ms) Q (F0 m (pc + 3) ls (.int r :: rest))) : W p l e R s m args below meth c H locs cells slots Q (F0 m pc ls st0) := by
  have hF := va_free hH.2.1 hH.2.2 C.2.2.2.2.2.2.2.2.2.1 isC hC
  exact va_calli hr hH.2.2 (fun q _ h => hF q h) hF (fun r u t H1 locs1 ht hvm hp hB hz hk hS => kk r u H1 locs1 hp (fs_join C hH isC isR hC hR hn hdis hk (by rw [← ht]; exact hB.1) hB.2 hS))
theorem fs_cl (C : fs_At X A p s m args meth c cc maxL ret own nm) (hH : fs_H X A s ws H locs) {wc wr : va_W} (isC isR : List Nat) (hC : isC.map (fun i => ws[i]?) = wc.map some) (hR : isR.map (fun i => ws[i]?) = wr.map some) (hn : va_nd isR = true) (hdis : ∀ i ∈ isR, i ∉ isC) {mc ms : Nat} {st0 : List Value} {S : Type} {post : Int64 → S → Prop} {wf : S → va_W} {a9 : Array Value}
    (hr : va_Run p l e R s m args below meth c H locs cells slots mc ms (F0 m pc ls st0) rest (fs_Ql X post wf (va_A wc H.size) a9) (va_A wc H.size))
    (kk : ∀ (r : Int64) (u : S) (H1 : Heap) (locs1 : List Loc), post r u → fs_H X A s (wr ++ wf u) H1 locs1 → W p l e R s m args below meth c H1 locs1 (cells + mc) (slots + ms) Q (F0 m (pc + 3) ls (.long r :: rest))) : W p l e R s m args below meth c H locs cells slots Q (F0 m pc ls st0) := by
  have hF := va_free hH.2.1 hH.2.2 C.2.2.2.2.2.2.2.2.2.1 isC hC
  exact va_calll hr hH.2.2 (fun q _ h => hF q h) hF (fun r u t H1 locs1 ht hvm hp hB hz hk hS => kk r u H1 locs1 hp (fs_join C hH isC isR hC hR hn hdis hk (by rw [← ht]; exact hB.1) hB.2 hS))
theorem fs_cv (C : fs_At X A p s m args meth c cc maxL ret own nm) (hH : fs_H X A s ws H locs) {wc wr : va_W} (isC isR : List Nat) (hC : isC.map (fun i => ws[i]?) = wc.map some) (hR : isR.map (fun i => ws[i]?) = wr.map some) (hn : va_nd isR = true) (hdis : ∀ i ∈ isR, i ∉ isC) {mc ms : Nat} {st0 : List Value} {S : Type} {post : S → Prop} {wf : S → va_W} {a9 : Array Value}
    (hr : va_Run p l e R s m args below meth c H locs cells slots mc ms (F0 m pc ls st0) rest (fs_Qv X post wf (va_A wc H.size) a9) (va_A wc H.size))
    (kk : ∀ (u : S) (H1 : Heap) (locs1 : List Loc), post u → fs_H X A s (wr ++ wf u) H1 locs1 → W p l e R s m args below meth c H1 locs1 (cells + mc) (slots + ms) Q (F0 m (pc + 3) ls rest)) : W p l e R s m args below meth c H locs cells slots Q (F0 m pc ls st0) := by
  have hF := va_free hH.2.1 hH.2.2 C.2.2.2.2.2.2.2.2.2.1 isC hC
  exact va_callv hr hH.2.2 (fun q _ h => hF q h) hF (fun u t H1 locs1 ht hvm hp hB hz hk hS => kk u H1 locs1 hp (fs_join C hH isC isR hC hR hn hdis hk (by rw [← ht]; exact hB.1) hB.2 hS))
end FSR
end
section
-- the pure functions that both sides are tied to
def fs_bi (P : Prop) [Decidable P] : Int32 := if P then 1 else 0
theorem fs_bi_0 {P : Prop} [Decidable P] : fs_bi P = 0 ↔ ¬ P := by unfold fs_bi; by_cases h : P <;> simp [h]
theorem fs_bi_nz {P : Prop} [Decidable P] : ¬ fs_bi P = 0 ↔ P := by unfold fs_bi; by_cases h : P <;> simp [h]
theorem fs_bi_t {P : Prop} [Decidable P] (h : P) : fs_bi P = 1 := if_pos h
theorem fs_bi_f {P : Prop} [Decidable P] (h : ¬ P) : fs_bi P = 0 := if_neg h
def fs_rd (v : Int64) (k : Int32) : Int64 := (v + (1 : Int64) <<< (Int32.toInt64 (k - 1) &&& 63)) >>> (Int32.toInt64 k &&& 63)
def fs_sz (a : Int64) : Int64 := if 0 ≤ a then a else -a
def fs_sat (v m : Int64) : Int32 := Int64.toInt32 (if v ≤ m then (if (-m - 1) ≤ v then v else (-m - 1)) else m)
def fs_mv (v : Int64) (b : Int32) : Int64 := if b < 0 then fs_rd v (-b) else v <<< (Int32.toInt64 b &&& 63)
def fs_reck (way : Int32) (a b : Int64) (bits : Int32) : Int64 := if way = 0 then a + b else if way = 1 then a - b else if way = 2 then fs_rd (a * b) bits else if way = 3 then fs_mv a (Int64.toInt32 b) else if way = 4 then -a else fs_sz a
abbrev fs_short (v : Int32) : Prop := ¬ v < (-32768) ∧ ¬ 32767 < v
abbrev fs_way (way b most : Int32) : Prop := if way = 3 then (¬ b < (-most) ∧ ¬ most < b) else (¬ way < 0 ∧ ¬ 5 < way)
abbrev fs_near (v : Int32) : Prop := ¬ v < (-536870912) ∧ ¬ 536870912 < v
theorem fs_l64 {a b : Int64} : (a < b) = (a.toInt < b.toInt) := propext Int64.lt_iff_toInt_lt
theorem fs_e64 {a b : Int64} : (a ≤ b) = (a.toInt ≤ b.toInt) := propext Int64.le_iff_toInt_le
theorem fs_sat15 (v : Int64) : Int64.toInt32 (if (if v < 32767 then v else 32767) < (-32768) then (-32768) else (if v < 32767 then v else 32767)) = fs_sat v 32767 := by
  unfold fs_sat
  have e1 : ((-32767 - 1 : Int64)) = -32768 := by decide
  rw [e1]
  have h1 : (32767 : Int64).toInt = 32767 := by decide
  have h2 : (-32768 : Int64).toInt = -32768 := by decide
  simp only [fs_l64, fs_e64, h1, h2]
  by_cases a : v.toInt < 32767
  · rw [if_pos a]
    by_cases b : v.toInt < -32768
    · rw [if_pos b, if_pos (by omega), if_neg (by omega)]
    · rw [if_neg b, if_pos (by omega), if_pos (by omega)]
  · rw [if_neg a, h1, if_neg (by omega)]
    by_cases b : v.toInt ≤ 32767
    · have : v = 32767 := Int64.toInt_inj.mp (by rw [h1]; omega)
      rw [if_pos b, if_pos (by omega), this]
    · rw [if_neg b]
theorem fs_sat31 (v : Int64) : Int64.toInt32 (if (if v < 2147483647 then v else 2147483647) < (-2147483648) then (-2147483648) else (if v < 2147483647 then v else 2147483647)) = fs_sat v 2147483647 := by
  unfold fs_sat
  have e1 : ((-2147483647 - 1 : Int64)) = -2147483648 := by decide
  rw [e1]
  have h1 : (2147483647 : Int64).toInt = 2147483647 := by decide
  have h2 : (-2147483648 : Int64).toInt = -2147483648 := by decide
  simp only [fs_l64, fs_e64, h1, h2]
  by_cases a : v.toInt < 2147483647
  · rw [if_pos a]
    by_cases b : v.toInt < -2147483648
    · rw [if_pos b, if_pos (by omega), if_neg (by omega)]
    · rw [if_neg b, if_pos (by omega), if_pos (by omega)]
  · rw [if_neg a, h1, if_neg (by omega)]
    by_cases b : v.toInt ≤ 2147483647
    · have : v = 2147483647 := Int64.toInt_inj.mp (by rw [h1]; omega)
      rw [if_pos b, if_pos (by omega), this]
    · rw [if_neg b]
theorem fs_sw5 {x : Int32} (h0 : ¬ x = 0) (h1 : ¬ x = 1) (h2 : ¬ x = 2) (h3 : ¬ x = 3) (h4 : ¬ x = 4) : x.toInt < 0 ∨ 4 < x.toInt := by
  simp only [← Int32.toInt_inj] at h0 h1 h2 h3 h4
  have e0 : (0 : Int32).toInt = 0 := by decide
  have e1 : (1 : Int32).toInt = 1 := by decide
  have e2 : (2 : Int32).toInt = 2 := by decide
  have e3 : (3 : Int32).toInt = 3 := by decide
  have e4 : (4 : Int32).toInt = 4 := by decide
  omega
end
section
set_option maxHeartbeats 4000000 in
set_option maxRecDepth 100000 in
theorem c_X4_rounded (l : Launch) (X : fs_X) (sz : Nat) (v : Int64) (k : Int32)  : fs_M l X yX4_rounded cX4_rounded 3 (some .long) ({ frames := 0, cells := 0, slots := 0, locals := 0 }) [.long v, .int k] [] sz (fs_Ql X (fun r (_ : Unit) => r = fs_rd v k) (fun _ => [])) 0 0 := by
  refine fs_ofW (by decide) (Nat.le_of_ble_eq_true rfl) ?_
  intro p e s m args below meth c A ls C hH hl
  have C : fs_At X A p s m args meth c cX4_rounded 3 (some .long) RX4 "rounded" := C
  have hx := C.1
  have hb := C.2.1
  have hown := C.2.2.2.2.1
  have hts := C.2.2.2.2.2.1
  have hl : lv_has ls 3 [(0, .long v), (2, .int k)] := hl
  have hH : fs_H X A s [] s.heap [] := hH
  refine lv_lload_n hx hb dX4_rounded_0 rfl (lv_at hl 0 rfl) ?_
  refine lv_lconst (v := 1) hx hb dX4_rounded_1 (by decide) ?_
  refine lv_iload_n hx hb dX4_rounded_2 rfl (lv_at hl 1 rfl) ?_
  refine lv_iconst (v := 1) hx hb dX4_rounded_3 (by decide) ?_
  refine lv_isub hx hb dX4_rounded_4 ?_
  refine lv_lshl hx hb dX4_rounded_5 rfl ?_
  refine lv_ladd hx hb dX4_rounded_6 ?_
  refine lv_iload_n hx hb dX4_rounded_7 rfl (lv_at hl 1 rfl) ?_
  refine lv_lshr hx hb dX4_rounded_8 rfl ?_
  exact fs_lret C hH () rfl rfl dX4_rounded_9
set_option maxHeartbeats 4000000 in
set_option maxRecDepth 100000 in
theorem c_X4_sizeOf (l : Launch) (X : fs_X) (sz : Nat) (v : Int64)  : fs_M l X yX4_sizeOf cX4_sizeOf 2 (some .long) ({ frames := 0, cells := 0, slots := 0, locals := 0 }) [.long v] [] sz (fs_Ql X (fun r (_ : Unit) => r = fs_sz v) (fun _ => [])) 0 0 := by
  refine fs_ofW (by decide) (Nat.le_of_ble_eq_true rfl) ?_
  intro p e s m args below meth c A ls C hH hl
  have C : fs_At X A p s m args meth c cX4_sizeOf 2 (some .long) RX4 "sizeOf" := C
  have hx := C.1
  have hb := C.2.1
  have hown := C.2.2.2.2.1
  have hts := C.2.2.2.2.2.1
  have hl : lv_has ls 2 [(0, .long v)] := hl
  have hH : fs_H X A s [] s.heap [] := hH
  refine lv_lload_n hx hb dX4_sizeOf_0 rfl (lv_at hl 0 rfl) ?_
  refine lv_lconst (v := 0) hx hb dX4_sizeOf_1 (by decide) ?_
  refine fs_lge (tgt := 11) hx hb dX4_sizeOf_2 dX4_sizeOf_3 (by decide) (fun c_1 => ?_) (fun c_1 => ?_)
  · refine lv_lload_n hx hb dX4_sizeOf_11 rfl (lv_at hl 0 rfl) ?_
    exact fs_lret C hH () rfl (by simp [fs_sz, c_1]) dX4_sizeOf_12
  · refine lv_lload_n hx hb dX4_sizeOf_6 rfl (lv_at hl 0 rfl) ?_
    refine lv_lneg hx hb dX4_sizeOf_7 ?_
    refine lv_goto (tgt := 12) hx hb dX4_sizeOf_8 (by decide) ?_
    exact fs_lret C hH () rfl (by simp [fs_sz, c_1]) dX4_sizeOf_12
set_option maxHeartbeats 4000000 in
set_option maxRecDepth 100000 in
theorem c_X4_moved (l : Launch) (X : fs_X) (sz : Nat) (v : Int64) (k : Int32)  : fs_M l X yX4_moved cX4_moved 3 (some .long) ({ frames := 1, cells := 0, slots := 0, locals := 22 }) [.long v, .int k] [] sz (fs_Ql X (fun r (_ : Unit) => r = fs_mv v k) (fun _ => [])) 0 0 := by
  refine fs_ofW (by decide) (Nat.le_of_ble_eq_true rfl) ?_
  intro p e s m args below meth c A ls C hH hl
  have C : fs_At X A p s m args meth c cX4_moved 3 (some .long) RX4 "moved" := C
  have hx := C.1
  have hb := C.2.1
  have hown := C.2.2.2.2.1
  have hts := C.2.2.2.2.2.1
  have hl : lv_has ls 3 [(0, .long v), (2, .int k)] := hl
  have hH : fs_H X A s [] s.heap [] := hH
  refine lv_iload_n hx hb dX4_moved_0 rfl (lv_at hl 1 rfl) ?_
  refine lv_if_lt (tgt := 10) hx hb dX4_moved_1 (by decide) (fun c_1 => ?_) (fun c_1 => ?_)
  · refine lv_lload_n hx hb dX4_moved_10 rfl (lv_at hl 0 rfl) ?_
    refine lv_iload_n hx hb dX4_moved_11 rfl (lv_at hl 1 rfl) ?_
    refine lv_ineg hx hb dX4_moved_12 ?_
    refine fs_cl C hH (wr := []) [] [] rfl rfl (by decide) (by decide) (fs_rS (rest := []) (As := [.long v, .int (-k)]) (n := 2) C hH (wc := []) [] (by decide) rfl (c_X4_rounded l X _ v (-k) ) rfl rfl mw_81 mw_79 mw_80 mw_1 (by decide +kernel) ⟨Nat.le_of_ble_eq_true rfl, Nat.le_of_ble_eq_true rfl⟩ rfl hl.1 rfl (Nat.le_of_ble_eq_true rfl) dX4_moved_13 ⟨Nat.le_of_ble_eq_true rfl, Nat.le_of_ble_eq_true rfl⟩) (fun r_2 u_3 H locs hr_4 hH => ?_)
    subst hr_4
    have hH : fs_H X A s [] _ _ := hH
    exact fs_lret C hH () rfl (by simp [fs_mv, c_1]) dX4_moved_16
  · refine lv_lload_n hx hb dX4_moved_4 rfl (lv_at hl 0 rfl) ?_
    refine lv_iload_n hx hb dX4_moved_5 rfl (lv_at hl 1 rfl) ?_
    refine lv_lshl hx hb dX4_moved_6 rfl ?_
    refine lv_goto (tgt := 16) hx hb dX4_moved_7 (by decide) ?_
    exact fs_lret C hH () rfl (by simp [fs_mv, c_1]) dX4_moved_16
set_option maxHeartbeats 4000000 in
set_option maxRecDepth 100000 in
theorem c_X4_satLong (l : Launch) (X : fs_X) (sz : Nat) (v : Int64)  : fs_M l X yX4_satLong cX4_satLong 2 (some .int) ({ frames := 1, cells := 0, slots := 0, locals := 17 }) [.long v] [] sz (fs_Qi X (fun r (_ : Unit) => r = fs_sat v 2147483647) (fun _ => [])) 0 0 := by
  refine fs_ofW (by decide) (Nat.le_of_ble_eq_true rfl) ?_
  intro p e s m args below meth c A ls C hH hl
  have C : fs_At X A p s m args meth c cX4_satLong 2 (some .int) RX4 "satLong" := C
  have hx := C.1
  have hb := C.2.1
  have hown := C.2.2.2.2.1
  have hts := C.2.2.2.2.2.1
  have hl : lv_has ls 2 [(0, .long v)] := hl
  have hH : fs_H X A s [] s.heap [] := hH
  refine lv_ldc2 (v := (-2147483648)) hx hb hown (hts _ mw_176) dX4_satLong_0 ?_
  refine lv_ldc2 (v := 2147483647) hx hb hown (hts _ mw_177) dX4_satLong_3 ?_
  refine lv_lload_n hx hb dX4_satLong_6 rfl (lv_at hl 0 rfl) ?_
  refine va_mmin_long hx hb (by rw [C.2.2.2.1]; exact hl.1.symm) hown (hts _ mw_87) (hts _ mw_88) (hts _ mw_11) (hts _ mw_89) (Nat.le_of_ble_eq_true rfl) (Nat.le_of_ble_eq_true rfl) (Nat.zero_le _) (Nat.zero_le _) dX4_satLong_7 ?_
  refine va_mmax_long hx hb (by rw [C.2.2.2.1]; exact hl.1.symm) hown (hts _ mw_90) (hts _ mw_91) (hts _ mw_11) (hts _ mw_92) (Nat.le_of_ble_eq_true rfl) (Nat.le_of_ble_eq_true rfl) (Nat.zero_le _) (Nat.zero_le _) dX4_satLong_10 ?_
  refine lv_l2i hx hb dX4_satLong_13 rfl ?_
  exact fs_iret C hH () rfl (fs_sat31 v) dX4_satLong_14
set_option maxHeartbeats 4000000 in
set_option maxRecDepth 100000 in
theorem c_X4_satShort (l : Launch) (X : fs_X) (sz : Nat) (v : Int64)  : fs_M l X yX4_satShort cX4_satShort 2 (some .int) ({ frames := 1, cells := 0, slots := 0, locals := 17 }) [.long v] [] sz (fs_Qi X (fun r (_ : Unit) => r = fs_sat v 32767) (fun _ => [])) 0 0 := by
  refine fs_ofW (by decide) (Nat.le_of_ble_eq_true rfl) ?_
  intro p e s m args below meth c A ls C hH hl
  have C : fs_At X A p s m args meth c cX4_satShort 2 (some .int) RX4 "satShort" := C
  have hx := C.1
  have hb := C.2.1
  have hown := C.2.2.2.2.1
  have hts := C.2.2.2.2.2.1
  have hl : lv_has ls 2 [(0, .long v)] := hl
  have hH : fs_H X A s [] s.heap [] := hH
  refine lv_ldc2 (v := (-32768)) hx hb hown (hts _ mw_85) dX4_satShort_0 ?_
  refine lv_ldc2 (v := 32767) hx hb hown (hts _ mw_86) dX4_satShort_3 ?_
  refine lv_lload_n hx hb dX4_satShort_6 rfl (lv_at hl 0 rfl) ?_
  refine va_mmin_long hx hb (by rw [C.2.2.2.1]; exact hl.1.symm) hown (hts _ mw_87) (hts _ mw_88) (hts _ mw_11) (hts _ mw_89) (Nat.le_of_ble_eq_true rfl) (Nat.le_of_ble_eq_true rfl) (Nat.zero_le _) (Nat.zero_le _) dX4_satShort_7 ?_
  refine va_mmax_long hx hb (by rw [C.2.2.2.1]; exact hl.1.symm) hown (hts _ mw_90) (hts _ mw_91) (hts _ mw_11) (hts _ mw_92) (Nat.le_of_ble_eq_true rfl) (Nat.le_of_ble_eq_true rfl) (Nat.zero_le _) (Nat.zero_le _) dX4_satShort_10 ?_
  refine lv_l2i hx hb dX4_satShort_13 rfl ?_
  exact fs_iret C hH () rfl (fs_sat15 v) dX4_satShort_14
set_option maxHeartbeats 4000000 in
set_option maxRecDepth 100000 in
theorem c_X4_isShort (l : Launch) (X : fs_X) (sz : Nat) (v : Int32)  : fs_M l X yX4_isShort cX4_isShort 1 (some .boolean) ({ frames := 0, cells := 0, slots := 0, locals := 0 }) [.int v] [] sz (fs_Qi X (fun r (_ : Unit) => r = fs_bi (fs_short v)) (fun _ => [])) 0 0 := by
  refine fs_ofW (by decide) (Nat.le_of_ble_eq_true rfl) ?_
  intro p e s m args below meth c A ls C hH hl
  have C : fs_At X A p s m args meth c cX4_isShort 1 (some .boolean) RX4 "isShort" := C
  have hx := C.1
  have hb := C.2.1
  have hown := C.2.2.2.2.1
  have hts := C.2.2.2.2.2.1
  have hl : lv_has ls 1 [(0, .int v)] := hl
  have hH : fs_H X A s [] s.heap [] := hH
  refine lv_iload_n hx hb dX4_isShort_0 rfl (lv_at hl 0 rfl) ?_
  refine lv_sipush (v := (-32768)) hx hb dX4_isShort_1 (by decide) ?_
  refine lv_icmp_lt (tgt := 18) hx hb dX4_isShort_4 (by decide) (fun c_1 => ?_) (fun c_1 => ?_)
  · refine lv_iconst (v := 0) hx hb dX4_isShort_18 (by decide) ?_
    exact fs_zret C hH rfl () rfl (by simp [fs_bi, fs_short, fs_way, fs_near, c_1]) dX4_isShort_19
  · refine lv_iload_n hx hb dX4_isShort_7 rfl (lv_at hl 0 rfl) ?_
    refine lv_sipush (v := 32767) hx hb dX4_isShort_8 (by decide) ?_
    refine lv_icmp_gt (tgt := 18) hx hb dX4_isShort_11 (by decide) (fun c_2 => ?_) (fun c_2 => ?_)
    · refine lv_iconst (v := 0) hx hb dX4_isShort_18 (by decide) ?_
      exact fs_zret C hH rfl () rfl (by simp [fs_bi, fs_short, fs_way, fs_near, c_1, c_2]) dX4_isShort_19
    · refine lv_iconst (v := 1) hx hb dX4_isShort_14 (by decide) ?_
      refine lv_goto (tgt := 19) hx hb dX4_isShort_15 (by decide) ?_
      exact fs_zret C hH rfl () rfl (by simp [fs_bi, fs_short, fs_way, fs_near, c_1, c_2]) dX4_isShort_19
set_option maxHeartbeats 4000000 in
set_option maxRecDepth 100000 in
theorem c_X4_isWithin (l : Launch) (X : fs_X) (sz : Nat) (i : Int32) (n : Int32)  : fs_M l X yX4_isWithin cX4_isWithin 2 (some .boolean) ({ frames := 0, cells := 0, slots := 0, locals := 0 }) [.int i, .int n] [] sz (fs_Qi X (fun r (_ : Unit) => r = fs_bi (¬ i < 0 ∧ ¬ n ≤ i)) (fun _ => [])) 0 0 := by
  refine fs_ofW (by decide) (Nat.le_of_ble_eq_true rfl) ?_
  intro p e s m args below meth c A ls C hH hl
  have C : fs_At X A p s m args meth c cX4_isWithin 2 (some .boolean) RX4 "isWithin" := C
  have hx := C.1
  have hb := C.2.1
  have hown := C.2.2.2.2.1
  have hts := C.2.2.2.2.2.1
  have hl : lv_has ls 2 [(0, .int i), (1, .int n)] := hl
  have hH : fs_H X A s [] s.heap [] := hH
  refine lv_iload_n hx hb dX4_isWithin_0 rfl (lv_at hl 0 rfl) ?_
  refine lv_if_lt (tgt := 13) hx hb dX4_isWithin_1 (by decide) (fun c_1 => ?_) (fun c_1 => ?_)
  · refine lv_iconst (v := 0) hx hb dX4_isWithin_13 (by decide) ?_
    exact fs_zret C hH rfl () rfl (by simp [fs_bi, fs_short, fs_way, fs_near, c_1]) dX4_isWithin_14
  · refine lv_iload_n hx hb dX4_isWithin_4 rfl (lv_at hl 0 rfl) ?_
    refine lv_iload_n hx hb dX4_isWithin_5 rfl (lv_at hl 1 rfl) ?_
    refine lv_icmp_ge (tgt := 13) hx hb dX4_isWithin_6 (by decide) (fun c_2 => ?_) (fun c_2 => ?_)
    · refine lv_iconst (v := 0) hx hb dX4_isWithin_13 (by decide) ?_
      exact fs_zret C hH rfl () rfl (by simp [fs_bi, fs_short, fs_way, fs_near, c_1, c_2]) dX4_isWithin_14
    · refine lv_iconst (v := 1) hx hb dX4_isWithin_9 (by decide) ?_
      refine lv_goto (tgt := 14) hx hb dX4_isWithin_10 (by decide) ?_
      exact fs_zret C hH rfl () rfl (by simp [fs_bi, fs_short, fs_way, fs_near, c_1, c_2]) dX4_isWithin_14
set_option maxHeartbeats 4000000 in
set_option maxRecDepth 100000 in
theorem c_X4_isWay (l : Launch) (X : fs_X) (sz : Nat) (way : Int32) (b : Int32) (most : Int32)  : fs_M l X yX4_isWay cX4_isWay 3 (some .boolean) ({ frames := 0, cells := 0, slots := 0, locals := 0 }) [.int way, .int b, .int most] [] sz (fs_Qi X (fun r (_ : Unit) => r = fs_bi (fs_way way b most)) (fun _ => [])) 0 0 := by
  refine fs_ofW (by decide) (Nat.le_of_ble_eq_true rfl) ?_
  intro p e s m args below meth c A ls C hH hl
  have C : fs_At X A p s m args meth c cX4_isWay 3 (some .boolean) RX4 "isWay" := C
  have hx := C.1
  have hb := C.2.1
  have hown := C.2.2.2.2.1
  have hts := C.2.2.2.2.2.1
  have hl : lv_has ls 3 [(0, .int way), (1, .int b), (2, .int most)] := hl
  have hH : fs_H X A s [] s.heap [] := hH
  refine lv_iload_n hx hb dX4_isWay_0 rfl (lv_at hl 0 rfl) ?_
  refine lv_iconst (v := 3) hx hb dX4_isWay_1 (by decide) ?_
  refine lv_icmp_ne (tgt := 22) hx hb dX4_isWay_2 (by decide) (fun c_1 => ?_) (fun c_1 => ?_)
  · refine lv_iload_n hx hb dX4_isWay_22 rfl (lv_at hl 0 rfl) ?_
    refine lv_if_lt (tgt := 35) hx hb dX4_isWay_23 (by decide) (fun c_2 => ?_) (fun c_2 => ?_)
    · refine lv_iconst (v := 0) hx hb dX4_isWay_35 (by decide) ?_
      exact fs_zret C hH rfl () rfl (by simp [fs_bi, fs_short, fs_way, fs_near, c_1, c_2]) dX4_isWay_36
    · refine lv_iload_n hx hb dX4_isWay_26 rfl (lv_at hl 0 rfl) ?_
      refine lv_iconst (v := 5) hx hb dX4_isWay_27 (by decide) ?_
      refine lv_icmp_gt (tgt := 35) hx hb dX4_isWay_28 (by decide) (fun c_3 => ?_) (fun c_3 => ?_)
      · refine lv_iconst (v := 0) hx hb dX4_isWay_35 (by decide) ?_
        exact fs_zret C hH rfl () rfl (by simp [fs_bi, fs_short, fs_way, fs_near, c_1, c_2, c_3]) dX4_isWay_36
      · refine lv_iconst (v := 1) hx hb dX4_isWay_31 (by decide) ?_
        refine lv_goto (tgt := 36) hx hb dX4_isWay_32 (by decide) ?_
        exact fs_zret C hH rfl () rfl (by simp [fs_bi, fs_short, fs_way, fs_near, c_1, c_2, c_3]) dX4_isWay_36
  · refine lv_iload_n hx hb dX4_isWay_5 rfl (lv_at hl 1 rfl) ?_
    refine lv_iload_n hx hb dX4_isWay_6 rfl (lv_at hl 2 rfl) ?_
    refine lv_ineg hx hb dX4_isWay_7 ?_
    refine lv_icmp_lt (tgt := 20) hx hb dX4_isWay_8 (by decide) (fun c_4 => ?_) (fun c_4 => ?_)
    · refine lv_iconst (v := 0) hx hb dX4_isWay_20 (by decide) ?_
      exact fs_zret C hH rfl () rfl (by simp [fs_bi, fs_short, fs_way, fs_near, c_1, c_4]) dX4_isWay_21
    · refine lv_iload_n hx hb dX4_isWay_11 rfl (lv_at hl 1 rfl) ?_
      refine lv_iload_n hx hb dX4_isWay_12 rfl (lv_at hl 2 rfl) ?_
      refine lv_icmp_gt (tgt := 20) hx hb dX4_isWay_13 (by decide) (fun c_5 => ?_) (fun c_5 => ?_)
      · refine lv_iconst (v := 0) hx hb dX4_isWay_20 (by decide) ?_
        exact fs_zret C hH rfl () rfl (by simp [fs_bi, fs_short, fs_way, fs_near, c_1, c_4, c_5]) dX4_isWay_21
      · refine lv_iconst (v := 1) hx hb dX4_isWay_16 (by decide) ?_
        refine lv_goto (tgt := 21) hx hb dX4_isWay_17 (by decide) ?_
        exact fs_zret C hH rfl () rfl (by simp [fs_bi, fs_short, fs_way, fs_near, c_1, c_4, c_5]) dX4_isWay_21
set_option maxHeartbeats 4000000 in
set_option maxRecDepth 100000 in
theorem c_X4_isCoordinate (l : Launch) (X : fs_X) (sz : Nat) (v : Int32)  : fs_M l X yX4_isCoordinate cX4_isCoordinate 1 (some .boolean) ({ frames := 0, cells := 0, slots := 0, locals := 0 }) [.int v] [] sz (fs_Qi X (fun r (_ : Unit) => r = fs_bi (fs_near v)) (fun _ => [])) 0 0 := by
  refine fs_ofW (by decide) (Nat.le_of_ble_eq_true rfl) ?_
  intro p e s m args below meth c A ls C hH hl
  have C : fs_At X A p s m args meth c cX4_isCoordinate 1 (some .boolean) RX4 "isCoordinate" := C
  have hx := C.1
  have hb := C.2.1
  have hown := C.2.2.2.2.1
  have hts := C.2.2.2.2.2.1
  have hl : lv_has ls 1 [(0, .int v)] := hl
  have hH : fs_H X A s [] s.heap [] := hH
  refine lv_iload_n hx hb dX4_isCoordinate_0 rfl (lv_at hl 0 rfl) ?_
  refine lv_ldc (v := (-536870912)) hx hb hown (hts _ mw_288) dX4_isCoordinate_1 ?_
  refine lv_icmp_lt (tgt := 16) hx hb dX4_isCoordinate_3 (by decide) (fun c_1 => ?_) (fun c_1 => ?_)
  · refine lv_iconst (v := 0) hx hb dX4_isCoordinate_16 (by decide) ?_
    exact fs_zret C hH rfl () rfl (by simp [fs_bi, fs_short, fs_way, fs_near, c_1]) dX4_isCoordinate_17
  · refine lv_iload_n hx hb dX4_isCoordinate_6 rfl (lv_at hl 0 rfl) ?_
    refine lv_ldc (v := 536870912) hx hb hown (hts _ mw_289) dX4_isCoordinate_7 ?_
    refine lv_icmp_gt (tgt := 16) hx hb dX4_isCoordinate_9 (by decide) (fun c_2 => ?_) (fun c_2 => ?_)
    · refine lv_iconst (v := 0) hx hb dX4_isCoordinate_16 (by decide) ?_
      exact fs_zret C hH rfl () rfl (by simp [fs_bi, fs_short, fs_way, fs_near, c_1, c_2]) dX4_isCoordinate_17
    · refine lv_iconst (v := 1) hx hb dX4_isCoordinate_12 (by decide) ?_
      refine lv_goto (tgt := 17) hx hb dX4_isCoordinate_13 (by decide) ?_
      exact fs_zret C hH rfl () rfl (by simp [fs_bi, fs_short, fs_way, fs_near, c_1, c_2]) dX4_isCoordinate_17
set_option maxHeartbeats 4000000 in
set_option maxRecDepth 100000 in
theorem c_X4_isPoint (l : Launch) (X : fs_X) (sz : Nat) (x : Int32) (y : Int32)  : fs_M l X yX4_isPoint cX4_isPoint 2 (some .boolean) ({ frames := 1, cells := 0, slots := 0, locals := 20 }) [.int x, .int y] [] sz (fs_Qi X (fun r (_ : Unit) => r = fs_bi (fs_near x ∧ fs_near y)) (fun _ => [])) 0 0 := by
  refine fs_ofW (by decide) (Nat.le_of_ble_eq_true rfl) ?_
  intro p e s m args below meth c A ls C hH hl
  have C : fs_At X A p s m args meth c cX4_isPoint 2 (some .boolean) RX4 "isPoint" := C
  have hx := C.1
  have hb := C.2.1
  have hown := C.2.2.2.2.1
  have hts := C.2.2.2.2.2.1
  have hl : lv_has ls 2 [(0, .int x), (1, .int y)] := hl
  have hH : fs_H X A s [] s.heap [] := hH
  refine lv_iload_n hx hb dX4_isPoint_0 rfl (lv_at hl 0 rfl) ?_
  refine fs_ci C hH (wr := []) [] [] rfl rfl (by decide) (by decide) (fs_rS (rest := []) (As := [.int x]) (n := 1) C hH (wc := []) [] (by decide) rfl (c_X4_isCoordinate l X _ x ) rfl rfl mw_287 mw_285 mw_286 mw_1 (by decide +kernel) ⟨Nat.le_of_ble_eq_true rfl, Nat.le_of_ble_eq_true rfl⟩ rfl hl.1 rfl (Nat.le_of_ble_eq_true rfl) dX4_isPoint_1 ⟨Nat.le_of_ble_eq_true rfl, Nat.le_of_ble_eq_true rfl⟩) (fun r_1 u_2 H locs hr_3 hH => ?_)
  subst hr_3
  have hH : fs_H X A s [] _ _ := hH
  refine lv_if_eq (tgt := 18) hx hb dX4_isPoint_4 (by decide) (fun c_4 => ?_) (fun c_4 => ?_)
  · refine lv_iconst (v := 0) hx hb dX4_isPoint_18 (by decide) ?_
    exact fs_zret C hH rfl () rfl (by simp only [fs_bi_0, fs_bi_nz, Decidable.not_not] at *; simp [fs_bi, *]) dX4_isPoint_19
  · refine lv_iload_n hx hb dX4_isPoint_7 rfl (lv_at hl 1 rfl) ?_
    refine fs_ci C hH (wr := []) [] [] rfl rfl (by decide) (by decide) (fs_rS (rest := []) (As := [.int y]) (n := 1) C hH (wc := []) [] (by decide) rfl (c_X4_isCoordinate l X _ y ) rfl rfl mw_287 mw_285 mw_286 mw_1 (by decide +kernel) ⟨Nat.le_of_ble_eq_true rfl, Nat.le_of_ble_eq_true rfl⟩ rfl hl.1 rfl (Nat.le_of_ble_eq_true rfl) dX4_isPoint_8 ⟨Nat.le_of_ble_eq_true rfl, Nat.le_of_ble_eq_true rfl⟩) (fun r_5 u_6 H locs hr_7 hH => ?_)
    subst hr_7
    have hH : fs_H X A s [] _ _ := hH
    refine lv_if_eq (tgt := 18) hx hb dX4_isPoint_11 (by decide) (fun c_8 => ?_) (fun c_8 => ?_)
    · refine lv_iconst (v := 0) hx hb dX4_isPoint_18 (by decide) ?_
      exact fs_zret C hH rfl () rfl (by simp only [fs_bi_0, fs_bi_nz, Decidable.not_not] at *; simp [fs_bi, *]) dX4_isPoint_19
    · refine lv_iconst (v := 1) hx hb dX4_isPoint_14 (by decide) ?_
      refine lv_goto (tgt := 19) hx hb dX4_isPoint_15 (by decide) ?_
      exact fs_zret C hH rfl () rfl (by simp only [fs_bi_0, fs_bi_nz, Decidable.not_not] at *; simp [fs_bi, *]) dX4_isPoint_19
set_option maxHeartbeats 4000000 in
set_option maxRecDepth 100000 in
theorem c_X4_reckoned (l : Launch) (X : fs_X) (sz : Nat) (way : Int32) (a : Int64) (b : Int64) (bits : Int32)  : fs_M l X yX4_reckoned cX4_reckoned 6 (some .long) ({ frames := 2, cells := 0, slots := 0, locals := 44 }) [.int way, .long a, .long b, .int bits] [] sz (fs_Ql X (fun r (_ : Unit) => r = fs_reck way a b bits) (fun _ => [])) 0 0 := by
  refine fs_ofW (by decide) (Nat.le_of_ble_eq_true rfl) ?_
  intro p e s m args below meth c A ls C hH hl
  have C : fs_At X A p s m args meth c cX4_reckoned 6 (some .long) RX4 "reckoned" := C
  have hx := C.1
  have hb := C.2.1
  have hown := C.2.2.2.2.1
  have hts := C.2.2.2.2.2.1
  have hl : lv_has ls 6 [(0, .int way), (1, .long a), (3, .long b), (5, .int bits)] := hl
  have hH : fs_H X A s [] s.heap [] := hH
  refine lv_iload_n hx hb dX4_reckoned_0 rfl (lv_at hl 0 rfl) ?_
  by_cases sw0 : way = 0
  · refine lv_tableIn (off := 35) (tgt := 36) hx hb dX4_reckoned_1 (by rw [sw0]; decide) (by rw [sw0]; decide) (by rw [sw0]; decide) (by decide) ?_
    refine lv_lload_n hx hb dX4_reckoned_36 rfl (lv_at hl 1 rfl) ?_
    refine lv_lload_n hx hb dX4_reckoned_37 rfl (lv_at hl 2 rfl) ?_
    refine lv_ladd hx hb dX4_reckoned_38 ?_
    exact fs_lret C hH () rfl (by simp [fs_reck, sw0]) dX4_reckoned_39
  by_cases sw1 : way = 1
  · refine lv_tableIn (off := 39) (tgt := 40) hx hb dX4_reckoned_1 (by rw [sw1]; decide) (by rw [sw1]; decide) (by rw [sw1]; decide) (by decide) ?_
    refine lv_lload_n hx hb dX4_reckoned_40 rfl (lv_at hl 1 rfl) ?_
    refine lv_lload_n hx hb dX4_reckoned_41 rfl (lv_at hl 2 rfl) ?_
    refine lv_lsub hx hb dX4_reckoned_42 ?_
    exact fs_lret C hH () rfl (by simp [fs_reck, sw0, sw1]) dX4_reckoned_43
  by_cases sw2 : way = 2
  · refine lv_tableIn (off := 43) (tgt := 44) hx hb dX4_reckoned_1 (by rw [sw2]; decide) (by rw [sw2]; decide) (by rw [sw2]; decide) (by decide) ?_
    refine lv_lload_n hx hb dX4_reckoned_44 rfl (lv_at hl 1 rfl) ?_
    refine lv_lload_n hx hb dX4_reckoned_45 rfl (lv_at hl 2 rfl) ?_
    refine lv_lmul hx hb dX4_reckoned_46 ?_
    refine lv_iload hx hb dX4_reckoned_47 (lv_at hl 3 rfl) ?_
    refine fs_cl C hH (wr := []) [] [] rfl rfl (by decide) (by decide) (fs_rS (rest := []) (As := [.long (a * b), .int bits]) (n := 2) C hH (wc := []) [] (by decide) rfl (c_X4_rounded l X _ (a * b) bits ) rfl rfl mw_81 mw_79 mw_80 mw_1 (by decide +kernel) ⟨Nat.le_of_ble_eq_true rfl, Nat.le_of_ble_eq_true rfl⟩ rfl hl.1 rfl (Nat.le_of_ble_eq_true rfl) dX4_reckoned_49 ⟨Nat.le_of_ble_eq_true rfl, Nat.le_of_ble_eq_true rfl⟩) (fun r_1 u_2 H locs hr_3 hH => ?_)
    subst hr_3
    have hH : fs_H X A s [] _ _ := hH
    exact fs_lret C hH () rfl (by simp [fs_reck, sw0, sw1, sw2]) dX4_reckoned_52
  by_cases sw3 : way = 3
  · refine lv_tableIn (off := 52) (tgt := 53) hx hb dX4_reckoned_1 (by rw [sw3]; decide) (by rw [sw3]; decide) (by rw [sw3]; decide) (by decide) ?_
    refine lv_lload_n hx hb dX4_reckoned_53 rfl (lv_at hl 1 rfl) ?_
    refine lv_lload_n hx hb dX4_reckoned_54 rfl (lv_at hl 2 rfl) ?_
    refine lv_l2i hx hb dX4_reckoned_55 rfl ?_
    refine fs_cl C hH (wr := []) [] [] rfl rfl (by decide) (by decide) (fs_rS (rest := []) (As := [.long a, .int (Int64.toInt32 b)]) (n := 2) C hH (wc := []) [] (by decide) rfl (c_X4_moved l X _ a (Int64.toInt32 b) ) rfl rfl mw_171 mw_169 mw_170 mw_1 (by decide +kernel) ⟨Nat.le_of_ble_eq_true rfl, Nat.le_of_ble_eq_true rfl⟩ rfl hl.1 rfl (Nat.le_of_ble_eq_true rfl) dX4_reckoned_56 ⟨Nat.le_of_ble_eq_true rfl, Nat.le_of_ble_eq_true rfl⟩) (fun r_4 u_5 H locs hr_6 hH => ?_)
    subst hr_6
    have hH : fs_H X A s [] _ _ := hH
    exact fs_lret C hH () rfl (by simp [fs_reck, sw0, sw1, sw2, sw3]) dX4_reckoned_59
  by_cases sw4 : way = 4
  · refine lv_tableIn (off := 59) (tgt := 60) hx hb dX4_reckoned_1 (by rw [sw4]; decide) (by rw [sw4]; decide) (by rw [sw4]; decide) (by decide) ?_
    refine lv_lload_n hx hb dX4_reckoned_60 rfl (lv_at hl 1 rfl) ?_
    refine lv_lneg hx hb dX4_reckoned_61 ?_
    exact fs_lret C hH () rfl (by simp [fs_reck, sw0, sw1, sw2, sw3, sw4]) dX4_reckoned_62
  refine lv_tableOut (tgt := 63) hx hb dX4_reckoned_1 (fs_sw5 sw0 sw1 sw2 sw3 sw4) (by decide) ?_
  refine lv_lload_n hx hb dX4_reckoned_63 rfl (lv_at hl 1 rfl) ?_
  refine fs_cl C hH (wr := []) [] [] rfl rfl (by decide) (by decide) (fs_rS (rest := []) (As := [.long a]) (n := 1) C hH (wc := []) [] (by decide) rfl (c_X4_sizeOf l X _ a ) rfl rfl mw_108 mw_172 mw_107 mw_1 (by decide +kernel) ⟨Nat.le_of_ble_eq_true rfl, Nat.le_of_ble_eq_true rfl⟩ rfl hl.1 rfl (Nat.le_of_ble_eq_true rfl) dX4_reckoned_64 ⟨Nat.le_of_ble_eq_true rfl, Nat.le_of_ble_eq_true rfl⟩) (fun r_7 u_8 H locs hr_9 hH => ?_)
  subst hr_9
  have hH : fs_H X A s [] _ _ := hH
  exact fs_lret C hH () rfl (by simp [fs_reck, sw0, sw1, sw2, sw3, sw4]) dX4_reckoned_67
set_option maxHeartbeats 4000000 in
set_option maxRecDepth 100000 in
theorem c_X5_isIn (l : Launch) (X : fs_X) (sz : Nat) (v : Int32) (lo : Int32) (hi : Int32)  : fs_M l X yX5_isIn cX5_isIn 3 (some .boolean) ({ frames := 0, cells := 0, slots := 0, locals := 0 }) [.int v, .int lo, .int hi] [] sz (fs_Qi X (fun r (_ : Unit) => r = fs_bi (¬ v < lo ∧ ¬ hi < v)) (fun _ => [])) 0 0 := by
  refine fs_ofW (by decide) (Nat.le_of_ble_eq_true rfl) ?_
  intro p e s m args below meth c A ls C hH hl
  have C : fs_At X A p s m args meth c cX5_isIn 3 (some .boolean) RX5 "isIn" := C
  have hx := C.1
  have hb := C.2.1
  have hown := C.2.2.2.2.1
  have hts := C.2.2.2.2.2.1
  have hl : lv_has ls 3 [(0, .int v), (1, .int lo), (2, .int hi)] := hl
  have hH : fs_H X A s [] s.heap [] := hH
  refine lv_iload_n hx hb dX5_isIn_0 rfl (lv_at hl 0 rfl) ?_
  refine lv_iload_n hx hb dX5_isIn_1 rfl (lv_at hl 1 rfl) ?_
  refine lv_icmp_lt (tgt := 14) hx hb dX5_isIn_2 (by decide) (fun c_1 => ?_) (fun c_1 => ?_)
  · refine lv_iconst (v := 0) hx hb dX5_isIn_14 (by decide) ?_
    exact fs_zret C hH rfl () rfl (by simp [fs_bi, fs_short, fs_way, fs_near, c_1]) dX5_isIn_15
  · refine lv_iload_n hx hb dX5_isIn_5 rfl (lv_at hl 0 rfl) ?_
    refine lv_iload_n hx hb dX5_isIn_6 rfl (lv_at hl 2 rfl) ?_
    refine lv_icmp_gt (tgt := 14) hx hb dX5_isIn_7 (by decide) (fun c_2 => ?_) (fun c_2 => ?_)
    · refine lv_iconst (v := 0) hx hb dX5_isIn_14 (by decide) ?_
      exact fs_zret C hH rfl () rfl (by simp [fs_bi, fs_short, fs_way, fs_near, c_1, c_2]) dX5_isIn_15
    · refine lv_iconst (v := 1) hx hb dX5_isIn_10 (by decide) ?_
      refine lv_goto (tgt := 15) hx hb dX5_isIn_11 (by decide) ?_
      exact fs_zret C hH rfl () rfl (by simp [fs_bi, fs_short, fs_way, fs_near, c_1, c_2]) dX5_isIn_15
set_option maxHeartbeats 4000000 in
set_option maxRecDepth 100000 in
theorem c_X5_isShort (l : Launch) (X : fs_X) (sz : Nat) (v : Int32)  : fs_M l X yX5_isShort cX5_isShort 1 (some .boolean) ({ frames := 0, cells := 0, slots := 0, locals := 0 }) [.int v] [] sz (fs_Qi X (fun r (_ : Unit) => r = fs_bi (fs_short v)) (fun _ => [])) 0 0 := by
  refine fs_ofW (by decide) (Nat.le_of_ble_eq_true rfl) ?_
  intro p e s m args below meth c A ls C hH hl
  have C : fs_At X A p s m args meth c cX5_isShort 1 (some .boolean) RX5 "isShort" := C
  have hx := C.1
  have hb := C.2.1
  have hown := C.2.2.2.2.1
  have hts := C.2.2.2.2.2.1
  have hl : lv_has ls 1 [(0, .int v)] := hl
  have hH : fs_H X A s [] s.heap [] := hH
  refine lv_iload_n hx hb dX5_isShort_0 rfl (lv_at hl 0 rfl) ?_
  refine lv_sipush (v := (-32768)) hx hb dX5_isShort_1 (by decide) ?_
  refine lv_icmp_lt (tgt := 18) hx hb dX5_isShort_4 (by decide) (fun c_1 => ?_) (fun c_1 => ?_)
  · refine lv_iconst (v := 0) hx hb dX5_isShort_18 (by decide) ?_
    exact fs_zret C hH rfl () rfl (by simp [fs_bi, fs_short, fs_way, fs_near, c_1]) dX5_isShort_19
  · refine lv_iload_n hx hb dX5_isShort_7 rfl (lv_at hl 0 rfl) ?_
    refine lv_sipush (v := 32767) hx hb dX5_isShort_8 (by decide) ?_
    refine lv_icmp_gt (tgt := 18) hx hb dX5_isShort_11 (by decide) (fun c_2 => ?_) (fun c_2 => ?_)
    · refine lv_iconst (v := 0) hx hb dX5_isShort_18 (by decide) ?_
      exact fs_zret C hH rfl () rfl (by simp [fs_bi, fs_short, fs_way, fs_near, c_1, c_2]) dX5_isShort_19
    · refine lv_iconst (v := 1) hx hb dX5_isShort_14 (by decide) ?_
      refine lv_goto (tgt := 19) hx hb dX5_isShort_15 (by decide) ?_
      exact fs_zret C hH rfl () rfl (by simp [fs_bi, fs_short, fs_way, fs_near, c_1, c_2]) dX5_isShort_19
set_option maxHeartbeats 4000000 in
set_option maxRecDepth 100000 in
theorem c_X5_isNear (l : Launch) (X : fs_X) (sz : Nat) (v : Int32)  : fs_M l X yX5_isNear cX5_isNear 1 (some .boolean) ({ frames := 0, cells := 0, slots := 0, locals := 0 }) [.int v] [] sz (fs_Qi X (fun r (_ : Unit) => r = fs_bi (fs_near v)) (fun _ => [])) 0 0 := by
  refine fs_ofW (by decide) (Nat.le_of_ble_eq_true rfl) ?_
  intro p e s m args below meth c A ls C hH hl
  have C : fs_At X A p s m args meth c cX5_isNear 1 (some .boolean) RX5 "isNear" := C
  have hx := C.1
  have hb := C.2.1
  have hown := C.2.2.2.2.1
  have hts := C.2.2.2.2.2.1
  have hl : lv_has ls 1 [(0, .int v)] := hl
  have hH : fs_H X A s [] s.heap [] := hH
  refine lv_iload_n hx hb dX5_isNear_0 rfl (lv_at hl 0 rfl) ?_
  refine lv_ldc (v := (-536870912)) hx hb hown (hts _ mw_470) dX5_isNear_1 ?_
  refine lv_icmp_lt (tgt := 16) hx hb dX5_isNear_3 (by decide) (fun c_1 => ?_) (fun c_1 => ?_)
  · refine lv_iconst (v := 0) hx hb dX5_isNear_16 (by decide) ?_
    exact fs_zret C hH rfl () rfl (by simp [fs_bi, fs_short, fs_way, fs_near, c_1]) dX5_isNear_17
  · refine lv_iload_n hx hb dX5_isNear_6 rfl (lv_at hl 0 rfl) ?_
    refine lv_ldc (v := 536870912) hx hb hown (hts _ mw_471) dX5_isNear_7 ?_
    refine lv_icmp_gt (tgt := 16) hx hb dX5_isNear_9 (by decide) (fun c_2 => ?_) (fun c_2 => ?_)
    · refine lv_iconst (v := 0) hx hb dX5_isNear_16 (by decide) ?_
      exact fs_zret C hH rfl () rfl (by simp [fs_bi, fs_short, fs_way, fs_near, c_1, c_2]) dX5_isNear_17
    · refine lv_iconst (v := 1) hx hb dX5_isNear_12 (by decide) ?_
      refine lv_goto (tgt := 17) hx hb dX5_isNear_13 (by decide) ?_
      exact fs_zret C hH rfl () rfl (by simp [fs_bi, fs_short, fs_way, fs_near, c_1, c_2]) dX5_isNear_17
set_option maxHeartbeats 4000000 in
set_option maxRecDepth 100000 in
theorem c_X5_rounded (l : Launch) (X : fs_X) (sz : Nat) (v : Int64) (k : Int32)  : fs_M l X yX5_rounded cX5_rounded 3 (some .long) ({ frames := 0, cells := 0, slots := 0, locals := 0 }) [.long v, .int k] [] sz (fs_Ql X (fun r (_ : Unit) => r = if k = 0 then v else fs_rd v k) (fun _ => [])) 0 0 := by
  refine fs_ofW (by decide) (Nat.le_of_ble_eq_true rfl) ?_
  intro p e s m args below meth c A ls C hH hl
  have C : fs_At X A p s m args meth c cX5_rounded 3 (some .long) RX5 "rounded" := C
  have hx := C.1
  have hb := C.2.1
  have hown := C.2.2.2.2.1
  have hts := C.2.2.2.2.2.1
  have hl : lv_has ls 3 [(0, .long v), (2, .int k)] := hl
  have hH : fs_H X A s [] s.heap [] := hH
  refine lv_iload_n hx hb dX5_rounded_0 rfl (lv_at hl 1 rfl) ?_
  refine lv_if_ne (tgt := 8) hx hb dX5_rounded_1 (by decide) (fun c_1 => ?_) (fun c_1 => ?_)
  · refine lv_lload_n hx hb dX5_rounded_8 rfl (lv_at hl 0 rfl) ?_
    refine lv_lconst (v := 1) hx hb dX5_rounded_9 (by decide) ?_
    refine lv_iload_n hx hb dX5_rounded_10 rfl (lv_at hl 1 rfl) ?_
    refine lv_iconst (v := 1) hx hb dX5_rounded_11 (by decide) ?_
    refine lv_isub hx hb dX5_rounded_12 ?_
    refine lv_lshl hx hb dX5_rounded_13 rfl ?_
    refine lv_ladd hx hb dX5_rounded_14 ?_
    refine lv_iload_n hx hb dX5_rounded_15 rfl (lv_at hl 1 rfl) ?_
    refine lv_lshr hx hb dX5_rounded_16 rfl ?_
    exact fs_lret C hH () rfl (by simp [fs_rd, c_1]) dX5_rounded_17
  · refine lv_lload_n hx hb dX5_rounded_4 rfl (lv_at hl 0 rfl) ?_
    refine lv_goto (tgt := 17) hx hb dX5_rounded_5 (by decide) ?_
    exact fs_lret C hH () rfl (by simp [fs_rd, c_1]) dX5_rounded_17
set_option maxHeartbeats 4000000 in
set_option maxRecDepth 100000 in
theorem c_X5_within (l : Launch) (X : fs_X) (sz : Nat) (v : Int64) (m0 : Int64)  : fs_M l X yX5_within cX5_within 4 (some .int) ({ frames := 0, cells := 0, slots := 0, locals := 0 }) [.long v, .long m0] [] sz (fs_Qi X (fun r (_ : Unit) => r = fs_sat v m0) (fun _ => [])) 0 0 := by
  refine fs_ofW (by decide) (Nat.le_of_ble_eq_true rfl) ?_
  intro p e s m args below meth c A ls C hH hl
  have C : fs_At X A p s m args meth c cX5_within 4 (some .int) RX5 "within" := C
  have hx := C.1
  have hb := C.2.1
  have hown := C.2.2.2.2.1
  have hts := C.2.2.2.2.2.1
  have hl : lv_has ls 4 [(0, .long v), (2, .long m0)] := hl
  have hH : fs_H X A s [] s.heap [] := hH
  refine lv_lload_n hx hb dX5_within_0 rfl (lv_at hl 0 rfl) ?_
  refine lv_lload_n hx hb dX5_within_1 rfl (lv_at hl 1 rfl) ?_
  refine fs_lle (tgt := 10) hx hb dX5_within_2 dX5_within_3 (by decide) (fun c_1 => ?_) (fun c_1 => ?_)
  · refine lv_lload_n hx hb dX5_within_10 rfl (lv_at hl 0 rfl) ?_
    refine lv_lload_n hx hb dX5_within_11 rfl (lv_at hl 1 rfl) ?_
    refine lv_lneg hx hb dX5_within_12 ?_
    refine lv_lconst (v := 1) hx hb dX5_within_13 (by decide) ?_
    refine lv_lsub hx hb dX5_within_14 ?_
    refine fs_lge (tgt := 26) hx hb dX5_within_15 dX5_within_16 (by decide) (fun c_2 => ?_) (fun c_2 => ?_)
    · refine lv_lload_n hx hb dX5_within_26 rfl (lv_at hl 0 rfl) ?_
      refine lv_l2i hx hb dX5_within_27 rfl ?_
      exact fs_iret C hH () rfl (by simp [fs_sat, c_1, c_2]) dX5_within_28
    · refine lv_lload_n hx hb dX5_within_19 rfl (lv_at hl 1 rfl) ?_
      refine lv_lneg hx hb dX5_within_20 ?_
      refine lv_lconst (v := 1) hx hb dX5_within_21 (by decide) ?_
      refine lv_lsub hx hb dX5_within_22 ?_
      refine lv_goto (tgt := 27) hx hb dX5_within_23 (by decide) ?_
      refine lv_l2i hx hb dX5_within_27 rfl ?_
      exact fs_iret C hH () rfl (by simp [fs_sat, c_1, c_2]) dX5_within_28
  · refine lv_lload_n hx hb dX5_within_6 rfl (lv_at hl 1 rfl) ?_
    refine lv_goto (tgt := 27) hx hb dX5_within_7 (by decide) ?_
    refine lv_l2i hx hb dX5_within_27 rfl ?_
    exact fs_iret C hH () rfl (by simp [fs_sat, c_1]) dX5_within_28
end
section
section FSN
variable {p : Program} {l : Launch} {e : Env} {R : Room} {s : State} {m : MethodId} {args : Array Value} {below : List Frame} {meth : Method} {c : Code} {H : Heap} {locs : List Loc} {cells slots : Nat} {Q : State → Prop}
variable {cc : ByteArray} {pc : Nat} {ls : Array Slot} {rest : List Value} {A : Nat → Prop} {a : Nat} {ws : va_W} {X : fs_X} {maxL : Nat} {ret : Option FieldType} {own nm : String}
theorem fs_topi {x y : Int32} (h : x = y) (k : W p l e R s m args below meth c H locs cells slots Q (F0 m pc ls (.int y :: rest))) : W p l e R s m args below meth c H locs cells slots Q (F0 m pc ls (.int x :: rest)) := h ▸ k
theorem fs_topl {x y : Int64} (h : x = y) (k : W p l e R s m args below meth c H locs cells slots Q (F0 m pc ls (.long y :: rest))) : W p l e R s m args below meth c H locs cells slots Q (F0 m pc ls (.long x :: rest)) := h ▸ k
theorem fs_newI (C : fs_At X A p s m args meth c cc maxL ret own nm) (hH : fs_H X A s ws H locs) {n : Int32} {N : Nat} (hN : n = nI N) (hlt : N < 65536) (hcells : cells + 1 ≤ R.cells) (hslots : slots + N ≤ R.slots) (harr : Cond.arrayClass .int ∈ fs_G) (hdg : decode cc pc = .ok (.newarray .int, 2))
    (kk : ∀ (q : Nat) (H1 : Heap), fs_H X A s (ws ++ [(q, fs_ai X N (fun _ => 0))]) H1 locs → W p l e R s m args below meth c H1 locs (cells + 1) (slots + N) Q (F0 m (pc + 2) ls (.ref q :: rest))) : W p l e R s m args below meth c H locs cells slots Q (F0 m pc ls (.int n :: rest)) := by
  obtain ⟨hx, hb, -, -, hown, hts, -, -, hE, hA, -⟩ := C
  subst hN
  refine va_newa (atype := .int) (ty := .int) (a0 := (N, .inl (fun _ => 0))) hx hb (hts _ harr) rfl hE.1 hH.1 hH.2.1 hH.2.2 hA (fun cA => rfl) (nI_pos (by omega)) (nI_clamp (by omega)) (by show N * 4 ≤ _; omega) hcells hslots hdg (fun q cA H1 hK hP hD hS => ?_)
  have e1 : s.vm.findClass "[I" = some (fs_cI X) := va_nm_int (hE.1.2 0 _ rfl).2
  have e2 : s.vm.findClass "[I" = some cA := va_nm_int (hK.2 3 (cA, .int) rfl).2
  cases Option.some.inj (e1.symm.trans e2)
  exact kk q H1 ⟨hP, hD, hS⟩
theorem fs_newL (C : fs_At X A p s m args meth c cc maxL ret own nm) (hH : fs_H X A s ws H locs) {n : Int32} {N : Nat} (hN : n = nI N) (hlt : N < 65536) (hcells : cells + 1 ≤ R.cells) (hslots : slots + N ≤ R.slots) (harr : Cond.arrayClass .long ∈ fs_G) (hdg : decode cc pc = .ok (.newarray .long, 2))
    (kk : ∀ (q : Nat) (H1 : Heap), fs_H X A s (ws ++ [(q, fs_al X N (fun _ => 0))]) H1 locs → W p l e R s m args below meth c H1 locs (cells + 1) (slots + N) Q (F0 m (pc + 2) ls (.ref q :: rest))) : W p l e R s m args below meth c H locs cells slots Q (F0 m pc ls (.int n :: rest)) := by
  obtain ⟨hx, hb, -, -, hown, hts, -, -, hE, hA, -⟩ := C
  subst hN
  refine va_newa (atype := .long) (ty := .long) (a0 := (N, .inr (.inl (fun _ => 0)))) hx hb (hts _ harr) rfl hE.1 hH.1 hH.2.1 hH.2.2 hA (fun cA => rfl) (nI_pos (by omega)) (nI_clamp (by omega)) (by show N * 8 ≤ _; omega) hcells hslots hdg (fun q cA H1 hK hP hD hS => ?_)
  have e1 : s.vm.findClass "[J" = some (fs_cJ X) := va_nm_long (hE.1.2 1 _ rfl).2
  have e2 : s.vm.findClass "[J" = some cA := va_nm_long (hK.2 3 (cA, .long) rfl).2
  cases Option.some.inj (e1.symm.trans e2)
  exact kk q H1 ⟨hP, hD, hS⟩
theorem fs_newq (C : fs_At X A p s m args meth c cc maxL ret own nm) (hH : fs_H X A s ws H locs) {n : Int32} {N index : Nat} (hN : n = nI N) (hlt : N < 65536) (hcells : cells + 1 ≤ R.cells) (hslots : slots + N ≤ R.slots) (hlink : Cond.classLink own index "FixedSignals$Stage" ∈ fs_G) (hdg : decode cc pc = .ok (.anewarray index, 3))
    (kk : ∀ (q : Nat) (H1 : Heap), fs_H X A s (ws ++ [(q, fs_aq X N (fun _ => none))]) H1 locs → W p l e R s m args below meth c H1 locs (cells + 1) (slots + N) Q (F0 m (pc + 3) ls (.ref q :: rest))) : W p l e R s m args below meth c H locs cells slots Q (F0 m pc ls (.int n :: rest)) := by
  obtain ⟨hx, hb, -, -, hown, hts, -, -, hE, hA, -⟩ := C
  subst hN
  refine va_newq hx hb hown (hts _ hlink) hE.2.1.2.2.2 hE.1 hH.1 hH.2.1 hH.2.2 hA (nI_pos (by omega)) (nI_clamp (by omega)) (by omega) hcells hslots hdg (fun q cA H1 hK hP hD hS => ?_)
  obtain ⟨kA, comp, -, -, -, e1⟩ := (hE.1.2 2 _ rfl).2
  obtain ⟨kB, comp2, -, -, -, e2⟩ := (hK.2 3 (cA, .object "FixedSignals$Stage") rfl).2
  cases Option.some.inj (e1.symm.trans e2)
  exact kk q H1 ⟨hP, hD, hS⟩
theorem fs_new (C : fs_At X A p s m args meth c cc maxL ret own nm) (hH : fs_H X A s ws H locs) {C9 : String} {T : u_T} {N ci index : Nat} (hin : ∀ w ∈ u_ws C9 T N, w ∈ fs_G) (ty : Nat → FieldType) (hty : ∀ k, k < N → parseFieldDescriptor (T k).2.2.1 = some (ty k)) (hcl : Cond.classLink own index C9 ∈ fs_G) (hinst : Cond.instantiable C9 N ∈ fs_G) (hini : Cond.initialized C9 ∈ fs_G) (hc : vwCl[ci]? = some (C9, T, N)) (fs : List Value) (hfs : ∀ j, j < N → defaultValue (ty j) = vp_V fs j) (hcells : cells + 1 ≤ R.cells) (hslots : slots + N ≤ R.slots) (hdg : decode cc pc = .ok (.new index, 3))
    (kk : ∀ (q : Nat) (H1 : Heap), fs_H X A s (ws ++ [(q, .inr (ci, fs))]) H1 locs → W p l e R s m args below meth c H1 locs (cells + 1) (slots + N) Q (F0 m (pc + 3) ls (.ref q :: rest))) : W p l e R s m args below meth c H locs cells slots Q (F0 m pc ls rest) := by
  obtain ⟨hx, hb, -, -, hown, hts, -, -, hE, hA, -⟩ := C
  exact va_new hx hb hts hin ty hty hown (hts _ hcl) (hts _ hinst) (hts _ hini) hE.1 hH.1 hH.2.1 hH.2.2 hA hc hfs hcells hslots hdg (fun q H1 hP hD hS => kk q H1 ⟨hP, hD, hS⟩)
theorem fs_aast (C : fs_At X A p s m args meth c cc maxL ret own nm) (hH : fs_H X A s ws H locs) (q0 qk : Nat) {n v : Nat} {vs : List Value} {f : Nat → Option Nat} (ha : ws[q0]? = some (a, fs_aq X n f)) (hv : ws[qk]? = some (v, .inr (1, vs))) {i : Int32} {k : Nat} (hi : i = nI k) (hk : k < n) (hn : n < 2 ^ 31) {ws' : va_W} (hw : ws.set q0 (a, fs_aq X n (va_up f k (some v))) = ws') (hdg : decode cc pc = .ok (.aastore, 1))
    (kk : ∀ (H1 : Heap) (locs1 : List Loc), fs_H X A s ws' H1 locs1 → W p l e R s m args below meth c H1 locs1 cells slots Q (F0 m (pc + 1) ls rest)) : W p l e R s m args below meth c H locs cells slots Q (F0 m pc ls (.ref v :: .int i :: .ref a :: rest)) := by
  obtain ⟨hx, hb, -, -, hown, hts, -, -, hE, -, -⟩ := C
  subst hi; subst hw
  exact va_astq (r := (RX1, TX1, 5)) hx hb hE.1 hH.1 hH.2.1 hH.2.2 q0 2 qk 1 ha rfl hv rfl (vp_in_nI hk hn) hdg (by rw [nI_clamp (Nat.lt_trans hk hn)]; exact fun H1 locs1 h1 h2 h3 => kk H1 locs1 ⟨h1, h2, h3⟩)
end FSN
theorem fs_geT {a b : Nat} (ha : a < 2 ^ 31) (hb : b < 2 ^ 31) (h : nI b ≤ nI a) : b ≤ a := (nI_leI hb ha).mp h
theorem fs_geF {a b : Nat} (ha : a < 2 ^ 31) (hb : b < 2 ^ 31) (h : ¬ nI b ≤ nI a) : a < b := Nat.lt_of_not_le fun q => h ((nI_leI hb ha).mpr q)
-- the functions of the states
def fs_rev (v : Int32) : Nat → Int32
  | 0 => 0
  | k + 1 => 2 * fs_rev v k + (v >>> (nI k &&& 31) &&& 1)
def fs_cos (k : Nat) : Int64 := if k ≤ 8 then Int32.toInt64 (fs_C (8 - k)) else -(Int32.toInt64 (fs_C (k - 8)))
def fs_sin (k : Nat) : Int64 := if k ≤ 8 then Int32.toInt64 (fs_C k) else Int32.toInt64 (fs_C (16 - k))
def fs_shift (g : Nat → Int32) (x : Int32) : Nat → Int32 := fun j => if j = 0 then x else if j < 16 then g (j - 1) else g j
def fs_shk (g : Nat → Int32) (k : Nat) : Nat → Int32 := fun j => if k < j ∧ j < 16 then g (j - 1) else g j
theorem fs_shk_15 (g : Nat → Int32) : fs_shk g 15 = g := by
  funext j; unfold fs_shk; rw [if_neg (by omega)]
theorem fs_shk_s (g : Nat → Int32) (k : Nat) (h : k < 15) : upd (fs_shk g (k + 1)) (k + 1) (fs_shk g (k + 1) k) = fs_shk g k := by
  funext j; unfold upd fs_shk
  by_cases h1 : j = k + 1
  · subst h1; rw [if_pos rfl, if_neg (by omega), if_pos (by omega)]; rfl
  · rw [if_neg h1]
    by_cases h2 : k + 1 < j ∧ j < 16
    · rw [if_pos h2, if_pos (by omega)]
    · rw [if_neg h2, if_neg (by omega)]
theorem fs_shk_0 (g : Nat → Int32) (x : Int32) : upd (fs_shk g 0) 0 x = fs_shift g x := by
  funext j; unfold upd fs_shk fs_shift
  by_cases h1 : j = 0
  · rw [if_pos h1, if_pos h1]
  · rw [if_neg h1, if_neg h1]
    by_cases h2 : j < 16
    · rw [if_pos (by omega), if_pos h2]
    · rw [if_neg (by omega), if_neg h2]
def fs_dot (f g : Nat → Int32) : Nat → Int64
  | 0 => 0
  | k + 1 => fs_dot f g k + Int32.toInt64 (f k) * Int32.toInt64 (g k)
def fs_zero (g : Nat → Int32) (k : Nat) : Nat → Int32 := fun j => if j < k then 0 else g j
theorem fs_zero_s (g : Nat → Int32) (k : Nat) : upd (fs_zero g k) k 0 = fs_zero g (k + 1) := by
  funext j; unfold upd fs_zero
  by_cases h1 : j = k
  · rw [if_pos h1, if_pos (by omega)]
  · rw [if_neg h1]
    by_cases h2 : j < k
    · rw [if_pos h2, if_pos (by omega)]
    · rw [if_neg h2, if_neg (by omega)]
theorem fs_zero_0 (g : Nat → Int32) : fs_zero g 0 = g := by funext j; unfold fs_zero; rw [if_neg (by omega)]
def fs_st (c : Nat → Int32) (x1 x2 y1 y2 x : Int32) : Int32 :=
  fs_sat (fs_rd (Int32.toInt64 (c 0) * Int32.toInt64 x + Int32.toInt64 (c 1) * Int32.toInt64 x1 + Int32.toInt64 (c 2) * Int32.toInt64 x2 - Int32.toInt64 (c 3) * Int32.toInt64 y1 - Int32.toInt64 (c 4) * Int32.toInt64 y2) 14) 32767
abbrev fs_T : Type := Int64 × Int64 × Int64
def fs_tn (k : Nat) (up : Int32) (t : fs_T) : fs_T := if up = 0 then (t.1 + t.2.1 >>> (Int32.toInt64 (nI k) &&& 63), t.2.1 - t.1 >>> (Int32.toInt64 (nI k) &&& 63), t.2.2 + Int32.toInt64 (fs_arc k)) else (t.1 - t.2.1 >>> (Int32.toInt64 (nI k) &&& 63), t.2.1 + t.1 >>> (Int32.toInt64 (nI k) &&& 63), t.2.2 - Int32.toInt64 (fs_arc k))
def fs_w (z0 : Int64) : Nat → fs_T
  | 0 => (652032874, 0, z0)
  | k + 1 => fs_tn k (if (fs_w z0 k).2.2 < 0 then 0 else 1) (fs_w z0 k)
theorem fs_wS0 {z0 : Int64} {k : Nat} (h : (fs_w z0 k).2.2 < 0) : fs_w z0 (k + 1) = fs_tn k 0 (fs_w z0 k) := by rw [fs_w, if_pos h]
theorem fs_wS1 {z0 : Int64} {k : Nat} (h : ¬ (fs_w z0 k).2.2 < 0) : fs_w z0 (k + 1) = fs_tn k 1 (fs_w z0 k) := by rw [fs_w, if_neg h]
def fs_a (t0 : fs_T) : Nat → fs_T
  | 0 => t0
  | k + 1 => fs_tn k (if 0 ≤ (fs_a t0 k).2.1 then 0 else 1) (fs_a t0 k)
theorem fs_aS0 {t0 : fs_T} {k : Nat} (h : 0 ≤ (fs_a t0 k).2.1) : fs_a t0 (k + 1) = fs_tn k 0 (fs_a t0 k) := by rw [fs_a, if_pos h]
theorem fs_aS1 {t0 : fs_T} {k : Nat} (h : ¬ 0 ≤ (fs_a t0 k).2.1) : fs_a t0 (k + 1) = fs_tn k 1 (fs_a t0 k) := by rw [fs_a, if_neg h]
def fs_neg (t : fs_T) : fs_T := (-t.1, -t.2.1, t.2.2)
def fs_wave (a : Int64) : fs_T := if fs_sz a ≤ 1073741824 then fs_w a 30 else fs_neg (fs_w (if 0 ≤ a then a - 2147483648 else a + 2147483648) 30)
def fs_axis (x y : Int64) : fs_T := fs_a (if 0 ≤ x then (x, y, 0) else (-x, -y, -2147483648)) 30
theorem fs_negz {b : Int32} (h : b < 0) : ¬ -b = 0 := by
  intro h2
  have h3 : b = 0 := by
    have := congrArg (fun z : Int32 => -z) h2
    simpa using this
  rw [h3] at h
  exact absurd h (by decide)
end
section
set_option maxHeartbeats 4000000 in
set_option maxRecDepth 100000 in
theorem c_X5_reckoned (l : Launch) (X : fs_X) (sz : Nat) (way : Int32) (a : Int64) (b : Int32) (bits : Int32) (m0 : Int64) (hbits : ¬ bits = 0) : fs_M l X yX5_reckoned cX5_reckoned 7 (some .int) ({ frames := 1, cells := 0, slots := 0, locals := 23 }) [.int way, .long a, .int b, .int bits, .long m0] [] sz (fs_Qi X (fun r (_ : Unit) => r = fs_sat (fs_reck way a (Int32.toInt64 b) bits) m0) (fun _ => [])) 0 0 := by
  refine fs_ofW (by decide) (Nat.le_of_ble_eq_true rfl) ?_
  intro p e s m args below meth c A ls C hH hl
  have C : fs_At X A p s m args meth c cX5_reckoned 7 (some .int) RX5 "reckoned" := C
  have hx := C.1
  have hb := C.2.1
  have hown := C.2.2.2.2.1
  have hts := C.2.2.2.2.2.1
  have hl : lv_has ls 7 [(0, .int way), (1, .long a), (3, .int b), (4, .int bits), (5, .long m0)] := hl
  have hH : fs_H X A s [] s.heap [] := hH
  refine lv_iload_n hx hb dX5_reckoned_0 rfl (lv_at hl 0 rfl) ?_
  by_cases sw0 : way = 0
  · refine lv_tableIn (off := 35) (tgt := 36) hx hb dX5_reckoned_1 (by rw [sw0]; decide) (by rw [sw0]; decide) (by rw [sw0]; decide) (by decide) ?_
    refine lv_lload_n hx hb dX5_reckoned_36 rfl (lv_at hl 1 rfl) ?_
    refine lv_iload_n hx hb dX5_reckoned_37 rfl (lv_at hl 2 rfl) ?_
    refine lv_i2l hx hb dX5_reckoned_38 rfl ?_
    refine lv_ladd hx hb dX5_reckoned_39 ?_
    refine lv_lload hx hb dX5_reckoned_40 (lv_at hl 4 rfl) ?_
    refine fs_ci C hH (wr := []) [] [] rfl rfl (by decide) (by decide) (fs_rS (rest := []) (As := [.long (a + (Int32.toInt64 b)), .long m0]) (n := 2) C hH (wc := []) [] (by decide) rfl (c_X5_within l X _ (a + (Int32.toInt64 b)) m0 ) rfl rfl mw_348 mw_346 mw_347 mw_6 (by decide +kernel) ⟨Nat.le_of_ble_eq_true rfl, Nat.le_of_ble_eq_true rfl⟩ rfl hl.1 rfl (Nat.le_of_ble_eq_true rfl) dX5_reckoned_42 ⟨Nat.le_of_ble_eq_true rfl, Nat.le_of_ble_eq_true rfl⟩) (fun r_1 u_2 H locs hr_3 hH => ?_)
    subst hr_3
    have hH : fs_H X A s [] _ _ := hH
    exact fs_iret C hH () rfl (by simp [fs_reck, fs_mv, fs_sz, hbits, sw0]) dX5_reckoned_45
  by_cases sw1 : way = 1
  · refine lv_tableIn (off := 45) (tgt := 46) hx hb dX5_reckoned_1 (by rw [sw1]; decide) (by rw [sw1]; decide) (by rw [sw1]; decide) (by decide) ?_
    refine lv_lload_n hx hb dX5_reckoned_46 rfl (lv_at hl 1 rfl) ?_
    refine lv_iload_n hx hb dX5_reckoned_47 rfl (lv_at hl 2 rfl) ?_
    refine lv_i2l hx hb dX5_reckoned_48 rfl ?_
    refine lv_lsub hx hb dX5_reckoned_49 ?_
    refine lv_lload hx hb dX5_reckoned_50 (lv_at hl 4 rfl) ?_
    refine fs_ci C hH (wr := []) [] [] rfl rfl (by decide) (by decide) (fs_rS (rest := []) (As := [.long (a - (Int32.toInt64 b)), .long m0]) (n := 2) C hH (wc := []) [] (by decide) rfl (c_X5_within l X _ (a - (Int32.toInt64 b)) m0 ) rfl rfl mw_348 mw_346 mw_347 mw_6 (by decide +kernel) ⟨Nat.le_of_ble_eq_true rfl, Nat.le_of_ble_eq_true rfl⟩ rfl hl.1 rfl (Nat.le_of_ble_eq_true rfl) dX5_reckoned_52 ⟨Nat.le_of_ble_eq_true rfl, Nat.le_of_ble_eq_true rfl⟩) (fun r_4 u_5 H locs hr_6 hH => ?_)
    subst hr_6
    have hH : fs_H X A s [] _ _ := hH
    exact fs_iret C hH () rfl (by simp [fs_reck, fs_mv, fs_sz, hbits, sw0, sw1]) dX5_reckoned_55
  by_cases sw2 : way = 2
  · refine lv_tableIn (off := 55) (tgt := 56) hx hb dX5_reckoned_1 (by rw [sw2]; decide) (by rw [sw2]; decide) (by rw [sw2]; decide) (by decide) ?_
    refine lv_lload_n hx hb dX5_reckoned_56 rfl (lv_at hl 1 rfl) ?_
    refine lv_iload_n hx hb dX5_reckoned_57 rfl (lv_at hl 2 rfl) ?_
    refine lv_i2l hx hb dX5_reckoned_58 rfl ?_
    refine lv_lmul hx hb dX5_reckoned_59 ?_
    refine lv_iload hx hb dX5_reckoned_60 (lv_at hl 3 rfl) ?_
    refine fs_cl C hH (wr := []) [] [] rfl rfl (by decide) (by decide) (fs_rS (rest := []) (As := [.long (a * (Int32.toInt64 b)), .int bits]) (n := 2) C hH (wc := []) [] (by decide) rfl (c_X5_rounded l X _ (a * (Int32.toInt64 b)) bits ) rfl rfl mw_351 mw_349 mw_350 mw_6 (by decide +kernel) ⟨Nat.le_of_ble_eq_true rfl, Nat.le_of_ble_eq_true rfl⟩ rfl hl.1 rfl (Nat.le_of_ble_eq_true rfl) dX5_reckoned_62 ⟨Nat.le_of_ble_eq_true rfl, Nat.le_of_ble_eq_true rfl⟩) (fun r_7 u_8 H locs hr_9 hH => ?_)
    subst hr_9
    have hH : fs_H X A s [] _ _ := hH
    refine lv_lload hx hb dX5_reckoned_65 (lv_at hl 4 rfl) ?_
    refine fs_ci C hH (wr := []) [] [] rfl rfl (by decide) (by decide) (fs_rS (rest := []) (As := [.long (if bits = 0 then (a * (Int32.toInt64 b)) else fs_rd (a * (Int32.toInt64 b)) bits), .long m0]) (n := 2) C hH (wc := []) [] (by decide) rfl (c_X5_within l X _ (if bits = 0 then (a * (Int32.toInt64 b)) else fs_rd (a * (Int32.toInt64 b)) bits) m0 ) rfl rfl mw_348 mw_346 mw_347 mw_6 (by decide +kernel) ⟨Nat.le_of_ble_eq_true rfl, Nat.le_of_ble_eq_true rfl⟩ rfl hl.1 rfl (Nat.le_of_ble_eq_true rfl) dX5_reckoned_67 ⟨Nat.le_of_ble_eq_true rfl, Nat.le_of_ble_eq_true rfl⟩) (fun r_10 u_11 H locs hr_12 hH => ?_)
    subst hr_12
    have hH : fs_H X A s [] _ _ := hH
    exact fs_iret C hH () rfl (by simp [fs_reck, fs_mv, fs_sz, hbits, sw0, sw1, sw2]) dX5_reckoned_70
  by_cases sw3 : way = 3
  · refine lv_tableIn (off := 70) (tgt := 71) hx hb dX5_reckoned_1 (by rw [sw3]; decide) (by rw [sw3]; decide) (by rw [sw3]; decide) (by decide) ?_
    refine lv_iload_n hx hb dX5_reckoned_71 rfl (lv_at hl 2 rfl) ?_
    refine lv_if_lt (tgt := 81) hx hb dX5_reckoned_72 (by decide) (fun c_13 => ?_) (fun c_13 => ?_)
    · refine lv_lload_n hx hb dX5_reckoned_81 rfl (lv_at hl 1 rfl) ?_
      refine lv_iload_n hx hb dX5_reckoned_82 rfl (lv_at hl 2 rfl) ?_
      refine lv_ineg hx hb dX5_reckoned_83 ?_
      refine fs_cl C hH (wr := []) [] [] rfl rfl (by decide) (by decide) (fs_rS (rest := []) (As := [.long a, .int (-b)]) (n := 2) C hH (wc := []) [] (by decide) rfl (c_X5_rounded l X _ a (-b) ) rfl rfl mw_351 mw_349 mw_350 mw_6 (by decide +kernel) ⟨Nat.le_of_ble_eq_true rfl, Nat.le_of_ble_eq_true rfl⟩ rfl hl.1 rfl (Nat.le_of_ble_eq_true rfl) dX5_reckoned_84 ⟨Nat.le_of_ble_eq_true rfl, Nat.le_of_ble_eq_true rfl⟩) (fun r_14 u_15 H locs hr_16 hH => ?_)
      subst hr_16
      have hH : fs_H X A s [] _ _ := hH
      refine lv_lload hx hb dX5_reckoned_87 (lv_at hl 4 rfl) ?_
      refine fs_ci C hH (wr := []) [] [] rfl rfl (by decide) (by decide) (fs_rS (rest := []) (As := [.long (if (-b) = 0 then a else fs_rd a (-b)), .long m0]) (n := 2) C hH (wc := []) [] (by decide) rfl (c_X5_within l X _ (if (-b) = 0 then a else fs_rd a (-b)) m0 ) rfl rfl mw_348 mw_346 mw_347 mw_6 (by decide +kernel) ⟨Nat.le_of_ble_eq_true rfl, Nat.le_of_ble_eq_true rfl⟩ rfl hl.1 rfl (Nat.le_of_ble_eq_true rfl) dX5_reckoned_89 ⟨Nat.le_of_ble_eq_true rfl, Nat.le_of_ble_eq_true rfl⟩) (fun r_17 u_18 H locs hr_19 hH => ?_)
      subst hr_19
      have hH : fs_H X A s [] _ _ := hH
      exact fs_iret C hH () rfl (by simp [fs_reck, fs_mv, fs_sz, hbits, sw0, sw1, sw2, sw3, c_13, fs_negz c_13]) dX5_reckoned_92
    · refine lv_lload_n hx hb dX5_reckoned_75 rfl (lv_at hl 1 rfl) ?_
      refine lv_iload_n hx hb dX5_reckoned_76 rfl (lv_at hl 2 rfl) ?_
      refine lv_lshl hx hb dX5_reckoned_77 rfl ?_
      refine lv_goto (tgt := 87) hx hb dX5_reckoned_78 (by decide) ?_
      refine lv_lload hx hb dX5_reckoned_87 (lv_at hl 4 rfl) ?_
      refine fs_ci C hH (wr := []) [] [] rfl rfl (by decide) (by decide) (fs_rS (rest := []) (As := [.long (a <<< (Int32.toInt64 b &&& 63)), .long m0]) (n := 2) C hH (wc := []) [] (by decide) rfl (c_X5_within l X _ (a <<< (Int32.toInt64 b &&& 63)) m0 ) rfl rfl mw_348 mw_346 mw_347 mw_6 (by decide +kernel) ⟨Nat.le_of_ble_eq_true rfl, Nat.le_of_ble_eq_true rfl⟩ rfl hl.1 rfl (Nat.le_of_ble_eq_true rfl) dX5_reckoned_89 ⟨Nat.le_of_ble_eq_true rfl, Nat.le_of_ble_eq_true rfl⟩) (fun r_20 u_21 H locs hr_22 hH => ?_)
      subst hr_22
      have hH : fs_H X A s [] _ _ := hH
      exact fs_iret C hH () rfl (by simp [fs_reck, fs_mv, fs_sz, hbits, sw0, sw1, sw2, sw3, c_13]) dX5_reckoned_92
  by_cases sw4 : way = 4
  · refine lv_tableIn (off := 92) (tgt := 93) hx hb dX5_reckoned_1 (by rw [sw4]; decide) (by rw [sw4]; decide) (by rw [sw4]; decide) (by decide) ?_
    refine lv_lload_n hx hb dX5_reckoned_93 rfl (lv_at hl 1 rfl) ?_
    refine lv_lneg hx hb dX5_reckoned_94 ?_
    refine lv_lload hx hb dX5_reckoned_95 (lv_at hl 4 rfl) ?_
    refine fs_ci C hH (wr := []) [] [] rfl rfl (by decide) (by decide) (fs_rS (rest := []) (As := [.long (-a), .long m0]) (n := 2) C hH (wc := []) [] (by decide) rfl (c_X5_within l X _ (-a) m0 ) rfl rfl mw_348 mw_346 mw_347 mw_6 (by decide +kernel) ⟨Nat.le_of_ble_eq_true rfl, Nat.le_of_ble_eq_true rfl⟩ rfl hl.1 rfl (Nat.le_of_ble_eq_true rfl) dX5_reckoned_97 ⟨Nat.le_of_ble_eq_true rfl, Nat.le_of_ble_eq_true rfl⟩) (fun r_23 u_24 H locs hr_25 hH => ?_)
    subst hr_25
    have hH : fs_H X A s [] _ _ := hH
    exact fs_iret C hH () rfl (by simp [fs_reck, fs_mv, fs_sz, hbits, sw0, sw1, sw2, sw3, sw4]) dX5_reckoned_100
  refine lv_tableOut (tgt := 101) hx hb dX5_reckoned_1 (fs_sw5 sw0 sw1 sw2 sw3 sw4) (by decide) ?_
  refine lv_lload_n hx hb dX5_reckoned_101 rfl (lv_at hl 1 rfl) ?_
  refine lv_lconst (v := 0) hx hb dX5_reckoned_102 (by decide) ?_
  refine fs_lge (tgt := 112) hx hb dX5_reckoned_103 dX5_reckoned_104 (by decide) (fun c_26 => ?_) (fun c_26 => ?_)
  · refine lv_lload_n hx hb dX5_reckoned_112 rfl (lv_at hl 1 rfl) ?_
    refine lv_lload hx hb dX5_reckoned_113 (lv_at hl 4 rfl) ?_
    refine fs_ci C hH (wr := []) [] [] rfl rfl (by decide) (by decide) (fs_rS (rest := []) (As := [.long a, .long m0]) (n := 2) C hH (wc := []) [] (by decide) rfl (c_X5_within l X _ a m0 ) rfl rfl mw_348 mw_346 mw_347 mw_6 (by decide +kernel) ⟨Nat.le_of_ble_eq_true rfl, Nat.le_of_ble_eq_true rfl⟩ rfl hl.1 rfl (Nat.le_of_ble_eq_true rfl) dX5_reckoned_115 ⟨Nat.le_of_ble_eq_true rfl, Nat.le_of_ble_eq_true rfl⟩) (fun r_27 u_28 H locs hr_29 hH => ?_)
    subst hr_29
    have hH : fs_H X A s [] _ _ := hH
    exact fs_iret C hH () rfl (by simp [fs_reck, fs_mv, fs_sz, hbits, sw0, sw1, sw2, sw3, sw4, c_26]) dX5_reckoned_118
  · refine lv_lload_n hx hb dX5_reckoned_107 rfl (lv_at hl 1 rfl) ?_
    refine lv_lneg hx hb dX5_reckoned_108 ?_
    refine lv_goto (tgt := 113) hx hb dX5_reckoned_109 (by decide) ?_
    refine lv_lload hx hb dX5_reckoned_113 (lv_at hl 4 rfl) ?_
    refine fs_ci C hH (wr := []) [] [] rfl rfl (by decide) (by decide) (fs_rS (rest := []) (As := [.long (-a), .long m0]) (n := 2) C hH (wc := []) [] (by decide) rfl (c_X5_within l X _ (-a) m0 ) rfl rfl mw_348 mw_346 mw_347 mw_6 (by decide +kernel) ⟨Nat.le_of_ble_eq_true rfl, Nat.le_of_ble_eq_true rfl⟩ rfl hl.1 rfl (Nat.le_of_ble_eq_true rfl) dX5_reckoned_115 ⟨Nat.le_of_ble_eq_true rfl, Nat.le_of_ble_eq_true rfl⟩) (fun r_30 u_31 H locs hr_32 hH => ?_)
    subst hr_32
    have hH : fs_H X A s [] _ _ := hH
    exact fs_iret C hH () rfl (by simp [fs_reck, fs_mv, fs_sz, hbits, sw0, sw1, sw2, sw3, sw4, c_26]) dX5_reckoned_118
set_option maxHeartbeats 4000000 in
set_option maxRecDepth 100000 in
theorem c_X5_eighth (l : Launch) (X : fs_X) (sz : Nat) (k : Nat) (hk : k < 9) : fs_M l X yX5_eighth cX5_eighth 1 (some .long) ({ frames := 0, cells := 0, slots := 0, locals := 0 }) [.int (nI k)] [] sz (fs_Ql X (fun r (_ : Unit) => r = Int32.toInt64 (fs_C k)) (fun _ => [])) 0 0 := by
  refine fs_ofW (by decide) (Nat.le_of_ble_eq_true rfl) ?_
  intro p e s m args below meth c A ls C hH hl
  have C : fs_At X A p s m args meth c cX5_eighth 1 (some .long) RX5 "eighth" := C
  have hx := C.1
  have hb := C.2.1
  have hown := C.2.2.2.2.1
  have hts := C.2.2.2.2.2.1
  have hl : lv_has ls 1 [(0, .int (nI k))] := hl
  have hH : fs_H X A s [] s.heap [] := hH
  refine lv_iload_n hx hb dX5_eighth_0 rfl (lv_at hl 0 rfl) ?_
  match k, hk, hl with
  | 0, _, hl =>
    refine lv_tableIn (off := 47) (tgt := 48) hx hb dX5_eighth_1 (by decide) (by decide) (by decide) (by decide) ?_
    refine lv_lconst (v := 0) hx hb dX5_eighth_48 (by decide) ?_
    exact fs_lret C hH () rfl (by decide) dX5_eighth_49
  | 1, _, hl =>
    refine lv_tableIn (off := 49) (tgt := 50) hx hb dX5_eighth_1 (by decide) (by decide) (by decide) (by decide) ?_
    refine lv_ldc2 (v := 418953276) hx hb hown (hts _ mw_409) dX5_eighth_50 ?_
    exact fs_lret C hH () rfl (by decide) dX5_eighth_53
  | 2, _, hl =>
    refine lv_tableIn (off := 53) (tgt := 54) hx hb dX5_eighth_1 (by decide) (by decide) (by decide) (by decide) ?_
    refine lv_ldc2 (v := 821806413) hx hb hown (hts _ mw_410) dX5_eighth_54 ?_
    exact fs_lret C hH () rfl (by decide) dX5_eighth_57
  | 3, _, hl =>
    refine lv_tableIn (off := 57) (tgt := 58) hx hb dX5_eighth_1 (by decide) (by decide) (by decide) (by decide) ?_
    refine lv_ldc2 (v := 1193077991) hx hb hown (hts _ mw_411) dX5_eighth_58 ?_
    exact fs_lret C hH () rfl (by decide) dX5_eighth_61
  | 4, _, hl =>
    refine lv_tableIn (off := 61) (tgt := 62) hx hb dX5_eighth_1 (by decide) (by decide) (by decide) (by decide) ?_
    refine lv_ldc2 (v := 1518500250) hx hb hown (hts _ mw_412) dX5_eighth_62 ?_
    exact fs_lret C hH () rfl (by decide) dX5_eighth_65
  | 5, _, hl =>
    refine lv_tableIn (off := 65) (tgt := 66) hx hb dX5_eighth_1 (by decide) (by decide) (by decide) (by decide) ?_
    refine lv_ldc2 (v := 1785567396) hx hb hown (hts _ mw_413) dX5_eighth_66 ?_
    exact fs_lret C hH () rfl (by decide) dX5_eighth_69
  | 6, _, hl =>
    refine lv_tableIn (off := 69) (tgt := 70) hx hb dX5_eighth_1 (by decide) (by decide) (by decide) (by decide) ?_
    refine lv_ldc2 (v := 1984016189) hx hb hown (hts _ mw_414) dX5_eighth_70 ?_
    exact fs_lret C hH () rfl (by decide) dX5_eighth_73
  | 7, _, hl =>
    refine lv_tableIn (off := 73) (tgt := 74) hx hb dX5_eighth_1 (by decide) (by decide) (by decide) (by decide) ?_
    refine lv_ldc2 (v := 2106220352) hx hb hown (hts _ mw_415) dX5_eighth_74 ?_
    exact fs_lret C hH () rfl (by decide) dX5_eighth_77
  | 8, _, hl =>
    refine lv_tableOut (tgt := 78) hx hb dX5_eighth_1 (by decide) (by decide) ?_
    refine lv_ldc2 (v := 2147483647) hx hb hown (hts _ mw_342) dX5_eighth_78 ?_
    exact fs_lret C hH () rfl (by decide) dX5_eighth_81
  | k9 + 9, h9, _ => exact absurd h9 (by omega)
set_option maxHeartbeats 4000000 in
set_option maxRecDepth 100000 in
theorem c_X5_smaller (l : Launch) (X : fs_X) (sz : Nat) (j : Nat) (hj : j < 15) : fs_M l X yX5_smaller cX5_smaller 1 (some .long) ({ frames := 0, cells := 0, slots := 0, locals := 0 }) [.int (nI (15 + j))] [] sz (fs_Ql X (fun r (_ : Unit) => r = Int32.toInt64 (fs_arc (15 + j))) (fun _ => [])) 0 0 := by
  refine fs_ofW (by decide) (Nat.le_of_ble_eq_true rfl) ?_
  intro p e s m args below meth c A ls C hH hl
  have C : fs_At X A p s m args meth c cX5_smaller 1 (some .long) RX5 "smaller" := C
  have hx := C.1
  have hb := C.2.1
  have hown := C.2.2.2.2.1
  have hts := C.2.2.2.2.2.1
  have hl : lv_has ls 1 [(0, .int (nI (15 + j)))] := hl
  have hH : fs_H X A s [] s.heap [] := hH
  refine lv_iload_n hx hb dX5_smaller_0 rfl (lv_at hl 0 rfl) ?_
  match j, hj, hl with
  | 0, _, hl =>
    refine lv_tableIn (off := 71) (tgt := 72) hx hb dX5_smaller_1 (by decide) (by decide) (by decide) (by decide) ?_
    refine lv_ldc2 (v := 20861) hx hb hown (hts _ mw_449) dX5_smaller_72 ?_
    exact fs_lret C hH () rfl (by decide) dX5_smaller_75
  | 1, _, hl =>
    refine lv_tableIn (off := 75) (tgt := 76) hx hb dX5_smaller_1 (by decide) (by decide) (by decide) (by decide) ?_
    refine lv_ldc2 (v := 10430) hx hb hown (hts _ mw_450) dX5_smaller_76 ?_
    exact fs_lret C hH () rfl (by decide) dX5_smaller_79
  | 2, _, hl =>
    refine lv_tableIn (off := 79) (tgt := 80) hx hb dX5_smaller_1 (by decide) (by decide) (by decide) (by decide) ?_
    refine lv_ldc2 (v := 5215) hx hb hown (hts _ mw_451) dX5_smaller_80 ?_
    exact fs_lret C hH () rfl (by decide) dX5_smaller_83
  | 3, _, hl =>
    refine lv_tableIn (off := 83) (tgt := 84) hx hb dX5_smaller_1 (by decide) (by decide) (by decide) (by decide) ?_
    refine lv_ldc2 (v := 2608) hx hb hown (hts _ mw_452) dX5_smaller_84 ?_
    exact fs_lret C hH () rfl (by decide) dX5_smaller_87
  | 4, _, hl =>
    refine lv_tableIn (off := 87) (tgt := 88) hx hb dX5_smaller_1 (by decide) (by decide) (by decide) (by decide) ?_
    refine lv_ldc2 (v := 1304) hx hb hown (hts _ mw_453) dX5_smaller_88 ?_
    exact fs_lret C hH () rfl (by decide) dX5_smaller_91
  | 5, _, hl =>
    refine lv_tableIn (off := 91) (tgt := 92) hx hb dX5_smaller_1 (by decide) (by decide) (by decide) (by decide) ?_
    refine lv_ldc2 (v := 652) hx hb hown (hts _ mw_454) dX5_smaller_92 ?_
    exact fs_lret C hH () rfl (by decide) dX5_smaller_95
  | 6, _, hl =>
    refine lv_tableIn (off := 95) (tgt := 96) hx hb dX5_smaller_1 (by decide) (by decide) (by decide) (by decide) ?_
    refine lv_ldc2 (v := 326) hx hb hown (hts _ mw_455) dX5_smaller_96 ?_
    exact fs_lret C hH () rfl (by decide) dX5_smaller_99
  | 7, _, hl =>
    refine lv_tableIn (off := 99) (tgt := 100) hx hb dX5_smaller_1 (by decide) (by decide) (by decide) (by decide) ?_
    refine lv_ldc2 (v := 163) hx hb hown (hts _ mw_456) dX5_smaller_100 ?_
    exact fs_lret C hH () rfl (by decide) dX5_smaller_103
  | 8, _, hl =>
    refine lv_tableIn (off := 103) (tgt := 104) hx hb dX5_smaller_1 (by decide) (by decide) (by decide) (by decide) ?_
    refine lv_ldc2 (v := 81) hx hb hown (hts _ mw_457) dX5_smaller_104 ?_
    exact fs_lret C hH () rfl (by decide) dX5_smaller_107
  | 9, _, hl =>
    refine lv_tableIn (off := 107) (tgt := 108) hx hb dX5_smaller_1 (by decide) (by decide) (by decide) (by decide) ?_
    refine lv_ldc2 (v := 41) hx hb hown (hts _ mw_458) dX5_smaller_108 ?_
    exact fs_lret C hH () rfl (by decide) dX5_smaller_111
  | 10, _, hl =>
    refine lv_tableIn (off := 111) (tgt := 112) hx hb dX5_smaller_1 (by decide) (by decide) (by decide) (by decide) ?_
    refine lv_ldc2 (v := 20) hx hb hown (hts _ mw_459) dX5_smaller_112 ?_
    exact fs_lret C hH () rfl (by decide) dX5_smaller_115
  | 11, _, hl =>
    refine lv_tableIn (off := 115) (tgt := 116) hx hb dX5_smaller_1 (by decide) (by decide) (by decide) (by decide) ?_
    refine lv_ldc2 (v := 10) hx hb hown (hts _ mw_460) dX5_smaller_116 ?_
    exact fs_lret C hH () rfl (by decide) dX5_smaller_119
  | 12, _, hl =>
    refine lv_tableIn (off := 119) (tgt := 120) hx hb dX5_smaller_1 (by decide) (by decide) (by decide) (by decide) ?_
    refine lv_ldc2 (v := 5) hx hb hown (hts _ mw_461) dX5_smaller_120 ?_
    exact fs_lret C hH () rfl (by decide) dX5_smaller_123
  | 13, _, hl =>
    refine lv_tableIn (off := 123) (tgt := 124) hx hb dX5_smaller_1 (by decide) (by decide) (by decide) (by decide) ?_
    refine lv_ldc2 (v := 3) hx hb hown (hts _ mw_462) dX5_smaller_124 ?_
    exact fs_lret C hH () rfl (by decide) dX5_smaller_127
  | 14, _, hl =>
    refine lv_tableOut (tgt := 128) hx hb dX5_smaller_1 (by decide) (by decide) ?_
    refine lv_lconst (v := 1) hx hb dX5_smaller_128 (by decide) ?_
    exact fs_lret C hH () rfl (by decide) dX5_smaller_129
  | k9 + 15, h9, _ => exact absurd h9 (by omega)
set_option maxHeartbeats 4000000 in
set_option maxRecDepth 100000 in
theorem c_X5_arc (l : Launch) (X : fs_X) (sz : Nat) (k : Nat) (hk : k < 30) : fs_M l X yX5_arc cX5_arc 1 (some .long) ({ frames := 1, cells := 0, slots := 0, locals := 20 }) [.int (nI k)] [] sz (fs_Ql X (fun r (_ : Unit) => r = Int32.toInt64 (fs_arc k)) (fun _ => [])) 0 0 := by
  refine fs_ofW (by decide) (Nat.le_of_ble_eq_true rfl) ?_
  intro p e s m args below meth c A ls C hH hl
  have C : fs_At X A p s m args meth c cX5_arc 1 (some .long) RX5 "arc" := C
  have hx := C.1
  have hb := C.2.1
  have hown := C.2.2.2.2.1
  have hts := C.2.2.2.2.2.1
  have hl : lv_has ls 1 [(0, .int (nI k))] := hl
  have hH : fs_H X A s [] s.heap [] := hH
  refine lv_iload_n hx hb dX5_arc_0 rfl (lv_at hl 0 rfl) ?_
  match k, hk, hl with
  | 0, _, hl =>
    refine lv_tableIn (off := 75) (tgt := 76) hx hb dX5_arc_1 (by decide) (by decide) (by decide) (by decide) ?_
    refine lv_ldc2 (v := 536870912) hx hb hown (hts _ mw_401) dX5_arc_76 ?_
    exact fs_lret C hH () rfl (by decide) dX5_arc_79
  | 1, _, hl =>
    refine lv_tableIn (off := 79) (tgt := 80) hx hb dX5_arc_1 (by decide) (by decide) (by decide) (by decide) ?_
    refine lv_ldc2 (v := 316933406) hx hb hown (hts _ mw_432) dX5_arc_80 ?_
    exact fs_lret C hH () rfl (by decide) dX5_arc_83
  | 2, _, hl =>
    refine lv_tableIn (off := 83) (tgt := 84) hx hb dX5_arc_1 (by decide) (by decide) (by decide) (by decide) ?_
    refine lv_ldc2 (v := 167458907) hx hb hown (hts _ mw_433) dX5_arc_84 ?_
    exact fs_lret C hH () rfl (by decide) dX5_arc_87
  | 3, _, hl =>
    refine lv_tableIn (off := 87) (tgt := 88) hx hb dX5_arc_1 (by decide) (by decide) (by decide) (by decide) ?_
    refine lv_ldc2 (v := 85004756) hx hb hown (hts _ mw_434) dX5_arc_88 ?_
    exact fs_lret C hH () rfl (by decide) dX5_arc_91
  | 4, _, hl =>
    refine lv_tableIn (off := 91) (tgt := 92) hx hb dX5_arc_1 (by decide) (by decide) (by decide) (by decide) ?_
    refine lv_ldc2 (v := 42667331) hx hb hown (hts _ mw_435) dX5_arc_92 ?_
    exact fs_lret C hH () rfl (by decide) dX5_arc_95
  | 5, _, hl =>
    refine lv_tableIn (off := 95) (tgt := 96) hx hb dX5_arc_1 (by decide) (by decide) (by decide) (by decide) ?_
    refine lv_ldc2 (v := 21354465) hx hb hown (hts _ mw_436) dX5_arc_96 ?_
    exact fs_lret C hH () rfl (by decide) dX5_arc_99
  | 6, _, hl =>
    refine lv_tableIn (off := 99) (tgt := 100) hx hb dX5_arc_1 (by decide) (by decide) (by decide) (by decide) ?_
    refine lv_ldc2 (v := 10679838) hx hb hown (hts _ mw_437) dX5_arc_100 ?_
    exact fs_lret C hH () rfl (by decide) dX5_arc_103
  | 7, _, hl =>
    refine lv_tableIn (off := 103) (tgt := 104) hx hb dX5_arc_1 (by decide) (by decide) (by decide) (by decide) ?_
    refine lv_ldc2 (v := 5340245) hx hb hown (hts _ mw_438) dX5_arc_104 ?_
    exact fs_lret C hH () rfl (by decide) dX5_arc_107
  | 8, _, hl =>
    refine lv_tableIn (off := 107) (tgt := 108) hx hb dX5_arc_1 (by decide) (by decide) (by decide) (by decide) ?_
    refine lv_ldc2 (v := 2670163) hx hb hown (hts _ mw_439) dX5_arc_108 ?_
    exact fs_lret C hH () rfl (by decide) dX5_arc_111
  | 9, _, hl =>
    refine lv_tableIn (off := 111) (tgt := 112) hx hb dX5_arc_1 (by decide) (by decide) (by decide) (by decide) ?_
    refine lv_ldc2 (v := 1335087) hx hb hown (hts _ mw_440) dX5_arc_112 ?_
    exact fs_lret C hH () rfl (by decide) dX5_arc_115
  | 10, _, hl =>
    refine lv_tableIn (off := 115) (tgt := 116) hx hb dX5_arc_1 (by decide) (by decide) (by decide) (by decide) ?_
    refine lv_ldc2 (v := 667544) hx hb hown (hts _ mw_441) dX5_arc_116 ?_
    exact fs_lret C hH () rfl (by decide) dX5_arc_119
  | 11, _, hl =>
    refine lv_tableIn (off := 119) (tgt := 120) hx hb dX5_arc_1 (by decide) (by decide) (by decide) (by decide) ?_
    refine lv_ldc2 (v := 333772) hx hb hown (hts _ mw_442) dX5_arc_120 ?_
    exact fs_lret C hH () rfl (by decide) dX5_arc_123
  | 12, _, hl =>
    refine lv_tableIn (off := 123) (tgt := 124) hx hb dX5_arc_1 (by decide) (by decide) (by decide) (by decide) ?_
    refine lv_ldc2 (v := 166886) hx hb hown (hts _ mw_443) dX5_arc_124 ?_
    exact fs_lret C hH () rfl (by decide) dX5_arc_127
  | 13, _, hl =>
    refine lv_tableIn (off := 127) (tgt := 128) hx hb dX5_arc_1 (by decide) (by decide) (by decide) (by decide) ?_
    refine lv_ldc2 (v := 83443) hx hb hown (hts _ mw_444) dX5_arc_128 ?_
    exact fs_lret C hH () rfl (by decide) dX5_arc_131
  | 14, _, hl =>
    refine lv_tableIn (off := 131) (tgt := 132) hx hb dX5_arc_1 (by decide) (by decide) (by decide) (by decide) ?_
    refine lv_ldc2 (v := 41722) hx hb hown (hts _ mw_445) dX5_arc_132 ?_
    exact fs_lret C hH () rfl (by decide) dX5_arc_135
  | 15, _, hl =>
    refine lv_tableOut (tgt := 136) hx hb dX5_arc_1 (by decide) (by decide) ?_
    refine lv_iload_n hx hb dX5_arc_136 rfl (lv_at hl 0 rfl) ?_
    refine fs_cl C hH (wr := []) [] [] rfl rfl (by decide) (by decide) (fs_rS (rest := []) (As := [.int (nI 15)]) (n := 1) C hH (wc := []) [] (by decide) rfl (c_X5_smaller l X _ 0 (by omega)) rfl rfl mw_448 mw_446 mw_447 mw_6 (by decide +kernel) ⟨Nat.le_of_ble_eq_true rfl, Nat.le_of_ble_eq_true rfl⟩ rfl hl.1 rfl (Nat.le_of_ble_eq_true rfl) dX5_arc_137 ⟨Nat.le_of_ble_eq_true rfl, Nat.le_of_ble_eq_true rfl⟩) (fun r_1 u_2 H locs hr_3 hH => ?_)
    subst hr_3
    have hH : fs_H X A s [] _ _ := hH
    exact fs_lret C hH () rfl rfl dX5_arc_140
  | 16, _, hl =>
    refine lv_tableOut (tgt := 136) hx hb dX5_arc_1 (by decide) (by decide) ?_
    refine lv_iload_n hx hb dX5_arc_136 rfl (lv_at hl 0 rfl) ?_
    refine fs_cl C hH (wr := []) [] [] rfl rfl (by decide) (by decide) (fs_rS (rest := []) (As := [.int (nI 16)]) (n := 1) C hH (wc := []) [] (by decide) rfl (c_X5_smaller l X _ 1 (by omega)) rfl rfl mw_448 mw_446 mw_447 mw_6 (by decide +kernel) ⟨Nat.le_of_ble_eq_true rfl, Nat.le_of_ble_eq_true rfl⟩ rfl hl.1 rfl (Nat.le_of_ble_eq_true rfl) dX5_arc_137 ⟨Nat.le_of_ble_eq_true rfl, Nat.le_of_ble_eq_true rfl⟩) (fun r_4 u_5 H locs hr_6 hH => ?_)
    subst hr_6
    have hH : fs_H X A s [] _ _ := hH
    exact fs_lret C hH () rfl rfl dX5_arc_140
  | 17, _, hl =>
    refine lv_tableOut (tgt := 136) hx hb dX5_arc_1 (by decide) (by decide) ?_
    refine lv_iload_n hx hb dX5_arc_136 rfl (lv_at hl 0 rfl) ?_
    refine fs_cl C hH (wr := []) [] [] rfl rfl (by decide) (by decide) (fs_rS (rest := []) (As := [.int (nI 17)]) (n := 1) C hH (wc := []) [] (by decide) rfl (c_X5_smaller l X _ 2 (by omega)) rfl rfl mw_448 mw_446 mw_447 mw_6 (by decide +kernel) ⟨Nat.le_of_ble_eq_true rfl, Nat.le_of_ble_eq_true rfl⟩ rfl hl.1 rfl (Nat.le_of_ble_eq_true rfl) dX5_arc_137 ⟨Nat.le_of_ble_eq_true rfl, Nat.le_of_ble_eq_true rfl⟩) (fun r_7 u_8 H locs hr_9 hH => ?_)
    subst hr_9
    have hH : fs_H X A s [] _ _ := hH
    exact fs_lret C hH () rfl rfl dX5_arc_140
  | 18, _, hl =>
    refine lv_tableOut (tgt := 136) hx hb dX5_arc_1 (by decide) (by decide) ?_
    refine lv_iload_n hx hb dX5_arc_136 rfl (lv_at hl 0 rfl) ?_
    refine fs_cl C hH (wr := []) [] [] rfl rfl (by decide) (by decide) (fs_rS (rest := []) (As := [.int (nI 18)]) (n := 1) C hH (wc := []) [] (by decide) rfl (c_X5_smaller l X _ 3 (by omega)) rfl rfl mw_448 mw_446 mw_447 mw_6 (by decide +kernel) ⟨Nat.le_of_ble_eq_true rfl, Nat.le_of_ble_eq_true rfl⟩ rfl hl.1 rfl (Nat.le_of_ble_eq_true rfl) dX5_arc_137 ⟨Nat.le_of_ble_eq_true rfl, Nat.le_of_ble_eq_true rfl⟩) (fun r_10 u_11 H locs hr_12 hH => ?_)
    subst hr_12
    have hH : fs_H X A s [] _ _ := hH
    exact fs_lret C hH () rfl rfl dX5_arc_140
  | 19, _, hl =>
    refine lv_tableOut (tgt := 136) hx hb dX5_arc_1 (by decide) (by decide) ?_
    refine lv_iload_n hx hb dX5_arc_136 rfl (lv_at hl 0 rfl) ?_
    refine fs_cl C hH (wr := []) [] [] rfl rfl (by decide) (by decide) (fs_rS (rest := []) (As := [.int (nI 19)]) (n := 1) C hH (wc := []) [] (by decide) rfl (c_X5_smaller l X _ 4 (by omega)) rfl rfl mw_448 mw_446 mw_447 mw_6 (by decide +kernel) ⟨Nat.le_of_ble_eq_true rfl, Nat.le_of_ble_eq_true rfl⟩ rfl hl.1 rfl (Nat.le_of_ble_eq_true rfl) dX5_arc_137 ⟨Nat.le_of_ble_eq_true rfl, Nat.le_of_ble_eq_true rfl⟩) (fun r_13 u_14 H locs hr_15 hH => ?_)
    subst hr_15
    have hH : fs_H X A s [] _ _ := hH
    exact fs_lret C hH () rfl rfl dX5_arc_140
  | 20, _, hl =>
    refine lv_tableOut (tgt := 136) hx hb dX5_arc_1 (by decide) (by decide) ?_
    refine lv_iload_n hx hb dX5_arc_136 rfl (lv_at hl 0 rfl) ?_
    refine fs_cl C hH (wr := []) [] [] rfl rfl (by decide) (by decide) (fs_rS (rest := []) (As := [.int (nI 20)]) (n := 1) C hH (wc := []) [] (by decide) rfl (c_X5_smaller l X _ 5 (by omega)) rfl rfl mw_448 mw_446 mw_447 mw_6 (by decide +kernel) ⟨Nat.le_of_ble_eq_true rfl, Nat.le_of_ble_eq_true rfl⟩ rfl hl.1 rfl (Nat.le_of_ble_eq_true rfl) dX5_arc_137 ⟨Nat.le_of_ble_eq_true rfl, Nat.le_of_ble_eq_true rfl⟩) (fun r_16 u_17 H locs hr_18 hH => ?_)
    subst hr_18
    have hH : fs_H X A s [] _ _ := hH
    exact fs_lret C hH () rfl rfl dX5_arc_140
  | 21, _, hl =>
    refine lv_tableOut (tgt := 136) hx hb dX5_arc_1 (by decide) (by decide) ?_
    refine lv_iload_n hx hb dX5_arc_136 rfl (lv_at hl 0 rfl) ?_
    refine fs_cl C hH (wr := []) [] [] rfl rfl (by decide) (by decide) (fs_rS (rest := []) (As := [.int (nI 21)]) (n := 1) C hH (wc := []) [] (by decide) rfl (c_X5_smaller l X _ 6 (by omega)) rfl rfl mw_448 mw_446 mw_447 mw_6 (by decide +kernel) ⟨Nat.le_of_ble_eq_true rfl, Nat.le_of_ble_eq_true rfl⟩ rfl hl.1 rfl (Nat.le_of_ble_eq_true rfl) dX5_arc_137 ⟨Nat.le_of_ble_eq_true rfl, Nat.le_of_ble_eq_true rfl⟩) (fun r_19 u_20 H locs hr_21 hH => ?_)
    subst hr_21
    have hH : fs_H X A s [] _ _ := hH
    exact fs_lret C hH () rfl rfl dX5_arc_140
  | 22, _, hl =>
    refine lv_tableOut (tgt := 136) hx hb dX5_arc_1 (by decide) (by decide) ?_
    refine lv_iload_n hx hb dX5_arc_136 rfl (lv_at hl 0 rfl) ?_
    refine fs_cl C hH (wr := []) [] [] rfl rfl (by decide) (by decide) (fs_rS (rest := []) (As := [.int (nI 22)]) (n := 1) C hH (wc := []) [] (by decide) rfl (c_X5_smaller l X _ 7 (by omega)) rfl rfl mw_448 mw_446 mw_447 mw_6 (by decide +kernel) ⟨Nat.le_of_ble_eq_true rfl, Nat.le_of_ble_eq_true rfl⟩ rfl hl.1 rfl (Nat.le_of_ble_eq_true rfl) dX5_arc_137 ⟨Nat.le_of_ble_eq_true rfl, Nat.le_of_ble_eq_true rfl⟩) (fun r_22 u_23 H locs hr_24 hH => ?_)
    subst hr_24
    have hH : fs_H X A s [] _ _ := hH
    exact fs_lret C hH () rfl rfl dX5_arc_140
  | 23, _, hl =>
    refine lv_tableOut (tgt := 136) hx hb dX5_arc_1 (by decide) (by decide) ?_
    refine lv_iload_n hx hb dX5_arc_136 rfl (lv_at hl 0 rfl) ?_
    refine fs_cl C hH (wr := []) [] [] rfl rfl (by decide) (by decide) (fs_rS (rest := []) (As := [.int (nI 23)]) (n := 1) C hH (wc := []) [] (by decide) rfl (c_X5_smaller l X _ 8 (by omega)) rfl rfl mw_448 mw_446 mw_447 mw_6 (by decide +kernel) ⟨Nat.le_of_ble_eq_true rfl, Nat.le_of_ble_eq_true rfl⟩ rfl hl.1 rfl (Nat.le_of_ble_eq_true rfl) dX5_arc_137 ⟨Nat.le_of_ble_eq_true rfl, Nat.le_of_ble_eq_true rfl⟩) (fun r_25 u_26 H locs hr_27 hH => ?_)
    subst hr_27
    have hH : fs_H X A s [] _ _ := hH
    exact fs_lret C hH () rfl rfl dX5_arc_140
  | 24, _, hl =>
    refine lv_tableOut (tgt := 136) hx hb dX5_arc_1 (by decide) (by decide) ?_
    refine lv_iload_n hx hb dX5_arc_136 rfl (lv_at hl 0 rfl) ?_
    refine fs_cl C hH (wr := []) [] [] rfl rfl (by decide) (by decide) (fs_rS (rest := []) (As := [.int (nI 24)]) (n := 1) C hH (wc := []) [] (by decide) rfl (c_X5_smaller l X _ 9 (by omega)) rfl rfl mw_448 mw_446 mw_447 mw_6 (by decide +kernel) ⟨Nat.le_of_ble_eq_true rfl, Nat.le_of_ble_eq_true rfl⟩ rfl hl.1 rfl (Nat.le_of_ble_eq_true rfl) dX5_arc_137 ⟨Nat.le_of_ble_eq_true rfl, Nat.le_of_ble_eq_true rfl⟩) (fun r_28 u_29 H locs hr_30 hH => ?_)
    subst hr_30
    have hH : fs_H X A s [] _ _ := hH
    exact fs_lret C hH () rfl rfl dX5_arc_140
  | 25, _, hl =>
    refine lv_tableOut (tgt := 136) hx hb dX5_arc_1 (by decide) (by decide) ?_
    refine lv_iload_n hx hb dX5_arc_136 rfl (lv_at hl 0 rfl) ?_
    refine fs_cl C hH (wr := []) [] [] rfl rfl (by decide) (by decide) (fs_rS (rest := []) (As := [.int (nI 25)]) (n := 1) C hH (wc := []) [] (by decide) rfl (c_X5_smaller l X _ 10 (by omega)) rfl rfl mw_448 mw_446 mw_447 mw_6 (by decide +kernel) ⟨Nat.le_of_ble_eq_true rfl, Nat.le_of_ble_eq_true rfl⟩ rfl hl.1 rfl (Nat.le_of_ble_eq_true rfl) dX5_arc_137 ⟨Nat.le_of_ble_eq_true rfl, Nat.le_of_ble_eq_true rfl⟩) (fun r_31 u_32 H locs hr_33 hH => ?_)
    subst hr_33
    have hH : fs_H X A s [] _ _ := hH
    exact fs_lret C hH () rfl rfl dX5_arc_140
  | 26, _, hl =>
    refine lv_tableOut (tgt := 136) hx hb dX5_arc_1 (by decide) (by decide) ?_
    refine lv_iload_n hx hb dX5_arc_136 rfl (lv_at hl 0 rfl) ?_
    refine fs_cl C hH (wr := []) [] [] rfl rfl (by decide) (by decide) (fs_rS (rest := []) (As := [.int (nI 26)]) (n := 1) C hH (wc := []) [] (by decide) rfl (c_X5_smaller l X _ 11 (by omega)) rfl rfl mw_448 mw_446 mw_447 mw_6 (by decide +kernel) ⟨Nat.le_of_ble_eq_true rfl, Nat.le_of_ble_eq_true rfl⟩ rfl hl.1 rfl (Nat.le_of_ble_eq_true rfl) dX5_arc_137 ⟨Nat.le_of_ble_eq_true rfl, Nat.le_of_ble_eq_true rfl⟩) (fun r_34 u_35 H locs hr_36 hH => ?_)
    subst hr_36
    have hH : fs_H X A s [] _ _ := hH
    exact fs_lret C hH () rfl rfl dX5_arc_140
  | 27, _, hl =>
    refine lv_tableOut (tgt := 136) hx hb dX5_arc_1 (by decide) (by decide) ?_
    refine lv_iload_n hx hb dX5_arc_136 rfl (lv_at hl 0 rfl) ?_
    refine fs_cl C hH (wr := []) [] [] rfl rfl (by decide) (by decide) (fs_rS (rest := []) (As := [.int (nI 27)]) (n := 1) C hH (wc := []) [] (by decide) rfl (c_X5_smaller l X _ 12 (by omega)) rfl rfl mw_448 mw_446 mw_447 mw_6 (by decide +kernel) ⟨Nat.le_of_ble_eq_true rfl, Nat.le_of_ble_eq_true rfl⟩ rfl hl.1 rfl (Nat.le_of_ble_eq_true rfl) dX5_arc_137 ⟨Nat.le_of_ble_eq_true rfl, Nat.le_of_ble_eq_true rfl⟩) (fun r_37 u_38 H locs hr_39 hH => ?_)
    subst hr_39
    have hH : fs_H X A s [] _ _ := hH
    exact fs_lret C hH () rfl rfl dX5_arc_140
  | 28, _, hl =>
    refine lv_tableOut (tgt := 136) hx hb dX5_arc_1 (by decide) (by decide) ?_
    refine lv_iload_n hx hb dX5_arc_136 rfl (lv_at hl 0 rfl) ?_
    refine fs_cl C hH (wr := []) [] [] rfl rfl (by decide) (by decide) (fs_rS (rest := []) (As := [.int (nI 28)]) (n := 1) C hH (wc := []) [] (by decide) rfl (c_X5_smaller l X _ 13 (by omega)) rfl rfl mw_448 mw_446 mw_447 mw_6 (by decide +kernel) ⟨Nat.le_of_ble_eq_true rfl, Nat.le_of_ble_eq_true rfl⟩ rfl hl.1 rfl (Nat.le_of_ble_eq_true rfl) dX5_arc_137 ⟨Nat.le_of_ble_eq_true rfl, Nat.le_of_ble_eq_true rfl⟩) (fun r_40 u_41 H locs hr_42 hH => ?_)
    subst hr_42
    have hH : fs_H X A s [] _ _ := hH
    exact fs_lret C hH () rfl rfl dX5_arc_140
  | 29, _, hl =>
    refine lv_tableOut (tgt := 136) hx hb dX5_arc_1 (by decide) (by decide) ?_
    refine lv_iload_n hx hb dX5_arc_136 rfl (lv_at hl 0 rfl) ?_
    refine fs_cl C hH (wr := []) [] [] rfl rfl (by decide) (by decide) (fs_rS (rest := []) (As := [.int (nI 29)]) (n := 1) C hH (wc := []) [] (by decide) rfl (c_X5_smaller l X _ 14 (by omega)) rfl rfl mw_448 mw_446 mw_447 mw_6 (by decide +kernel) ⟨Nat.le_of_ble_eq_true rfl, Nat.le_of_ble_eq_true rfl⟩ rfl hl.1 rfl (Nat.le_of_ble_eq_true rfl) dX5_arc_137 ⟨Nat.le_of_ble_eq_true rfl, Nat.le_of_ble_eq_true rfl⟩) (fun r_43 u_44 H locs hr_45 hH => ?_)
    subst hr_45
    have hH : fs_H X A s [] _ _ := hH
    exact fs_lret C hH () rfl rfl dX5_arc_140
  | k9 + 30, h9, _ => exact absurd h9 (by omega)
set_option maxHeartbeats 4000000 in
set_option maxRecDepth 100000 in
theorem c_X5_mirrored (l : Launch) (X : fs_X) (sz : Nat) (v : Int32) (mm : Nat) (hmm : mm < 32) : fs_M l X yX5_mirrored cX5_mirrored 4 (some .int) ({ frames := 0, cells := 0, slots := 0, locals := 0 }) [.int v, .int (nI mm)] [] sz (fs_Qi X (fun r (_ : Unit) => r = fs_rev v mm) (fun _ => [])) 0 0 := by
  refine fs_ofW (by decide) (Nat.le_of_ble_eq_true rfl) ?_
  intro p e s m args below meth c A ls C hH hl
  have C : fs_At X A p s m args meth c cX5_mirrored 4 (some .int) RX5 "mirrored" := C
  have hx := C.1
  have hb := C.2.1
  have hown := C.2.2.2.2.1
  have hts := C.2.2.2.2.2.1
  have hl : lv_has ls 4 [(0, .int v), (1, .int (nI mm))] := hl
  have K_4 : ∀ (n : Nat) (k : Nat), (k ≤ mm) → (mm < k + n) → ∀ (H : Heap) (locs : List Loc), fs_H X A s [] H locs → ∀ (ls : Array Slot), lv_has ls 4 [(0, .int v), (1, .int (nI mm)), (2, .int (fs_rev v k)), (3, .int (nI k))] → W p l e ({ frames := 0, cells := 0, slots := 0, locals := 0 }) s m args below meth c H locs 0 0 (MQ below (fs_Qi X (fun r (_ : Unit) => r = fs_rev v mm) (fun _ => []) A) args s 0 0 A) (F0 m 4 ls []) := by
    intro n
    induction n with
    | zero => intro k hk hfu; exact absurd hfu (by omega)
    | succ n ih_4 =>
      intro k hk hfu H locs hH ls hl
      refine lv_iload_n hx hb dX5_mirrored_4 rfl (lv_at hl 3 rfl) ?_
      refine lv_iload_n hx hb dX5_mirrored_5 rfl (lv_at hl 1 rfl) ?_
      refine lv_icmp_ge (tgt := 25) hx hb dX5_mirrored_6 (by decide) (fun c_1 => ?_) (fun c_1 => ?_)
      · have hge := fs_geT (a := k) (b := mm) (by omega) (by omega) c_1
        refine lv_iload_n hx hb dX5_mirrored_25 rfl (lv_at hl 2 rfl) ?_
        exact fs_iret C hH () rfl (by rw [show mm = k from by omega]) dX5_mirrored_26
      · have hlt := fs_geF (a := k) (b := mm) (by omega) (by omega) c_1
        refine lv_iconst (v := 2) hx hb dX5_mirrored_9 (by decide) ?_
        refine lv_iload_n hx hb dX5_mirrored_10 rfl (lv_at hl 2 rfl) ?_
        refine lv_imul hx hb dX5_mirrored_11 ?_
        refine lv_iload_n hx hb dX5_mirrored_12 rfl (lv_at hl 0 rfl) ?_
        refine lv_iload_n hx hb dX5_mirrored_13 rfl (lv_at hl 3 rfl) ?_
        refine lv_ishr hx hb dX5_mirrored_14 ?_
        refine lv_iconst (v := 1) hx hb dX5_mirrored_15 (by decide) ?_
        refine lv_iand hx hb dX5_mirrored_16 ?_
        refine lv_iadd hx hb dX5_mirrored_17 ?_
        refine lv_istore_n (lv' := [(2, .int ((2 * (fs_rev v k)) + ((v >>> ((nI k) &&& 31)) &&& 1))), (0, .int v), (1, .int (nI mm)), (3, .int (nI k))]) hx hb dX5_mirrored_18 rfl hl (by decide) rfl (fun ls hl => ?_)
        refine lv_iinc (v := (nI (k + 1))) (lv' := [(3, .int (nI (k + 1))), (2, .int ((2 * (fs_rev v k)) + ((v >>> ((nI k) &&& 31)) &&& 1))), (0, .int v), (1, .int (nI mm))]) hx hb dX5_mirrored_19 hl (k := 3) rfl (nI_1 k) (by decide) rfl (fun ls hl => ?_)
        refine lv_goto (tgt := 4) hx hb dX5_mirrored_22 (by decide) ?_
        exact ih_4 (k + 1) (by omega) (by omega) _ _ hH ls (lv_sub hl [2, 3, 1, 0] rfl)
  have hH : fs_H X A s [] s.heap [] := hH
  refine lv_iconst (v := 0) hx hb dX5_mirrored_0 (by decide) ?_
  refine lv_istore_n (lv' := [(2, .int 0), (0, .int v), (1, .int (nI mm))]) hx hb dX5_mirrored_1 rfl hl (by decide) rfl (fun ls hl => ?_)
  refine lv_iconst (v := 0) hx hb dX5_mirrored_2 (by decide) ?_
  refine lv_istore_n (lv' := [(3, .int 0), (2, .int 0), (0, .int v), (1, .int (nI mm))]) hx hb dX5_mirrored_3 rfl hl (by decide) rfl (fun ls hl => ?_)
  exact K_4 (mm + 1) 0 (by omega) (by omega) _ _ hH ls (lv_sub hl [2, 3, 1, 0] rfl)
set_option maxHeartbeats 4000000 in
set_option maxRecDepth 100000 in
theorem c_X0_bitsTurnedRound (l : Launch) (X : fs_X) (sz : Nat) (v : Int32) (mm : Nat) (hmm : mm < 32) : fs_M l X yX0_bitsTurnedRound cX0_bitsTurnedRound 4 (some .int) ({ frames := 0, cells := 0, slots := 0, locals := 0 }) [.int v, .int (nI mm)] [] sz (fs_Qi X (fun r (_ : Unit) => r = fs_rev v mm) (fun _ => [])) 0 0 := by
  refine fs_ofW (by decide) (Nat.le_of_ble_eq_true rfl) ?_
  intro p e s m args below meth c A ls C hH hl
  have C : fs_At X A p s m args meth c cX0_bitsTurnedRound 4 (some .int) RX0 "bitsTurnedRound" := C
  have hx := C.1
  have hb := C.2.1
  have hown := C.2.2.2.2.1
  have hts := C.2.2.2.2.2.1
  have hl : lv_has ls 4 [(0, .int v), (1, .int (nI mm))] := hl
  have K_4 : ∀ (n : Nat) (k : Nat), (k ≤ mm) → (mm < k + n) → ∀ (H : Heap) (locs : List Loc), fs_H X A s [] H locs → ∀ (ls : Array Slot), lv_has ls 4 [(0, .int v), (1, .int (nI mm)), (2, .int (fs_rev v k)), (3, .int (nI k))] → W p l e ({ frames := 0, cells := 0, slots := 0, locals := 0 }) s m args below meth c H locs 0 0 (MQ below (fs_Qi X (fun r (_ : Unit) => r = fs_rev v mm) (fun _ => []) A) args s 0 0 A) (F0 m 4 ls []) := by
    intro n
    induction n with
    | zero => intro k hk hfu; exact absurd hfu (by omega)
    | succ n ih_4 =>
      intro k hk hfu H locs hH ls hl
      refine lv_iload_n hx hb dX0_bitsTurnedRound_4 rfl (lv_at hl 3 rfl) ?_
      refine lv_iload_n hx hb dX0_bitsTurnedRound_5 rfl (lv_at hl 1 rfl) ?_
      refine lv_icmp_ge (tgt := 25) hx hb dX0_bitsTurnedRound_6 (by decide) (fun c_1 => ?_) (fun c_1 => ?_)
      · have hge := fs_geT (a := k) (b := mm) (by omega) (by omega) c_1
        refine lv_iload_n hx hb dX0_bitsTurnedRound_25 rfl (lv_at hl 2 rfl) ?_
        exact fs_iret C hH () rfl (by rw [show mm = k from by omega]) dX0_bitsTurnedRound_26
      · have hlt := fs_geF (a := k) (b := mm) (by omega) (by omega) c_1
        refine lv_iload_n hx hb dX0_bitsTurnedRound_9 rfl (lv_at hl 2 rfl) ?_
        refine lv_iconst (v := 2) hx hb dX0_bitsTurnedRound_10 (by decide) ?_
        refine lv_imul hx hb dX0_bitsTurnedRound_11 ?_
        refine lv_iload_n hx hb dX0_bitsTurnedRound_12 rfl (lv_at hl 0 rfl) ?_
        refine lv_iload_n hx hb dX0_bitsTurnedRound_13 rfl (lv_at hl 3 rfl) ?_
        refine lv_ishr hx hb dX0_bitsTurnedRound_14 ?_
        refine lv_iconst (v := 1) hx hb dX0_bitsTurnedRound_15 (by decide) ?_
        refine lv_iand hx hb dX0_bitsTurnedRound_16 ?_
        refine lv_iadd hx hb dX0_bitsTurnedRound_17 ?_
        refine fs_topi (y := 2 * fs_rev v k + (v >>> (nI k &&& 31) &&& 1)) (by rw [Int32.mul_comm]) ?_
        refine lv_istore_n (lv' := [(2, .int (2 * fs_rev v k + (v >>> (nI k &&& 31) &&& 1))), (0, .int v), (1, .int (nI mm)), (3, .int (nI k))]) hx hb dX0_bitsTurnedRound_18 rfl hl (by decide) rfl (fun ls hl => ?_)
        refine lv_iinc (v := (nI (k + 1))) (lv' := [(3, .int (nI (k + 1))), (2, .int (2 * fs_rev v k + (v >>> (nI k &&& 31) &&& 1))), (0, .int v), (1, .int (nI mm))]) hx hb dX0_bitsTurnedRound_19 hl (k := 3) rfl (nI_1 k) (by decide) rfl (fun ls hl => ?_)
        refine lv_goto (tgt := 4) hx hb dX0_bitsTurnedRound_22 (by decide) ?_
        exact ih_4 (k + 1) (by omega) (by omega) _ _ hH ls (lv_sub hl [2, 3, 1, 0] rfl)
  have hH : fs_H X A s [] s.heap [] := hH
  refine lv_iconst (v := 0) hx hb dX0_bitsTurnedRound_0 (by decide) ?_
  refine lv_istore_n (lv' := [(2, .int 0), (0, .int v), (1, .int (nI mm))]) hx hb dX0_bitsTurnedRound_1 rfl hl (by decide) rfl (fun ls hl => ?_)
  refine lv_iconst (v := 0) hx hb dX0_bitsTurnedRound_2 (by decide) ?_
  refine lv_istore_n (lv' := [(3, .int 0), (2, .int 0), (0, .int v), (1, .int (nI mm))]) hx hb dX0_bitsTurnedRound_3 rfl hl (by decide) rfl (fun ls hl => ?_)
  exact K_4 (mm + 1) 0 (by omega) (by omega) _ _ hH ls (lv_sub hl [2, 3, 1, 0] rfl)
set_option maxHeartbeats 4000000 in
set_option maxRecDepth 100000 in
theorem c_X0_cosineOf (l : Launch) (X : fs_X) (sz : Nat) (k : Nat) (hk : k < 16) : fs_M l X yX0_cosineOf cX0_cosineOf 1 (some .long) ({ frames := 0, cells := 0, slots := 0, locals := 0 }) [.int (nI k)] [] sz (fs_Ql X (fun r (_ : Unit) => r = fs_cos k) (fun _ => [])) 0 0 := by
  refine fs_ofW (by decide) (Nat.le_of_ble_eq_true rfl) ?_
  intro p e s m args below meth c A ls C hH hl
  have C : fs_At X A p s m args meth c cX0_cosineOf 1 (some .long) RX0 "cosineOf" := C
  have hx := C.1
  have hb := C.2.1
  have hown := C.2.2.2.2.1
  have hts := C.2.2.2.2.2.1
  have hl : lv_has ls 1 [(0, .int (nI k))] := hl
  have hH : fs_H X A s [] s.heap [] := hH
  match k, hk, hl with
  | 0, _, hl =>
    refine lv_iload_n hx hb dX0_cosineOf_0 rfl (lv_at hl 0 rfl) ?_
    refine lv_bipush (v := 8) hx hb dX0_cosineOf_1 (by decide) ?_
    refine lv_icmp_gt (tgt := 18) hx hb dX0_cosineOf_3 (by decide) (fun c_1 => ?_) (fun c_1 => ?_)
    · exact absurd c_1 (by decide)
    · refine fs_getQ C hH mw_264 dX0_cosineOf_6 ?_
      refine lv_bipush (v := 8) hx hb dX0_cosineOf_9 (by decide) ?_
      refine lv_iload_n hx hb dX0_cosineOf_11 rfl (lv_at hl 0 rfl) ?_
      refine lv_isub hx hb dX0_cosineOf_12 ?_
      refine fs_tabQ C hH (k := 8) (by decide) (by decide) dX0_cosineOf_13 ?_
      refine lv_i2l hx hb dX0_cosineOf_14 rfl ?_
      refine lv_goto (tgt := 28) hx hb dX0_cosineOf_15 (by decide) ?_
      exact fs_lret C hH () rfl (by decide) dX0_cosineOf_28
  | 1, _, hl =>
    refine lv_iload_n hx hb dX0_cosineOf_0 rfl (lv_at hl 0 rfl) ?_
    refine lv_bipush (v := 8) hx hb dX0_cosineOf_1 (by decide) ?_
    refine lv_icmp_gt (tgt := 18) hx hb dX0_cosineOf_3 (by decide) (fun c_2 => ?_) (fun c_2 => ?_)
    · exact absurd c_2 (by decide)
    · refine fs_getQ C hH mw_264 dX0_cosineOf_6 ?_
      refine lv_bipush (v := 8) hx hb dX0_cosineOf_9 (by decide) ?_
      refine lv_iload_n hx hb dX0_cosineOf_11 rfl (lv_at hl 0 rfl) ?_
      refine lv_isub hx hb dX0_cosineOf_12 ?_
      refine fs_tabQ C hH (k := 7) (by decide) (by decide) dX0_cosineOf_13 ?_
      refine lv_i2l hx hb dX0_cosineOf_14 rfl ?_
      refine lv_goto (tgt := 28) hx hb dX0_cosineOf_15 (by decide) ?_
      exact fs_lret C hH () rfl (by decide) dX0_cosineOf_28
  | 2, _, hl =>
    refine lv_iload_n hx hb dX0_cosineOf_0 rfl (lv_at hl 0 rfl) ?_
    refine lv_bipush (v := 8) hx hb dX0_cosineOf_1 (by decide) ?_
    refine lv_icmp_gt (tgt := 18) hx hb dX0_cosineOf_3 (by decide) (fun c_3 => ?_) (fun c_3 => ?_)
    · exact absurd c_3 (by decide)
    · refine fs_getQ C hH mw_264 dX0_cosineOf_6 ?_
      refine lv_bipush (v := 8) hx hb dX0_cosineOf_9 (by decide) ?_
      refine lv_iload_n hx hb dX0_cosineOf_11 rfl (lv_at hl 0 rfl) ?_
      refine lv_isub hx hb dX0_cosineOf_12 ?_
      refine fs_tabQ C hH (k := 6) (by decide) (by decide) dX0_cosineOf_13 ?_
      refine lv_i2l hx hb dX0_cosineOf_14 rfl ?_
      refine lv_goto (tgt := 28) hx hb dX0_cosineOf_15 (by decide) ?_
      exact fs_lret C hH () rfl (by decide) dX0_cosineOf_28
  | 3, _, hl =>
    refine lv_iload_n hx hb dX0_cosineOf_0 rfl (lv_at hl 0 rfl) ?_
    refine lv_bipush (v := 8) hx hb dX0_cosineOf_1 (by decide) ?_
    refine lv_icmp_gt (tgt := 18) hx hb dX0_cosineOf_3 (by decide) (fun c_4 => ?_) (fun c_4 => ?_)
    · exact absurd c_4 (by decide)
    · refine fs_getQ C hH mw_264 dX0_cosineOf_6 ?_
      refine lv_bipush (v := 8) hx hb dX0_cosineOf_9 (by decide) ?_
      refine lv_iload_n hx hb dX0_cosineOf_11 rfl (lv_at hl 0 rfl) ?_
      refine lv_isub hx hb dX0_cosineOf_12 ?_
      refine fs_tabQ C hH (k := 5) (by decide) (by decide) dX0_cosineOf_13 ?_
      refine lv_i2l hx hb dX0_cosineOf_14 rfl ?_
      refine lv_goto (tgt := 28) hx hb dX0_cosineOf_15 (by decide) ?_
      exact fs_lret C hH () rfl (by decide) dX0_cosineOf_28
  | 4, _, hl =>
    refine lv_iload_n hx hb dX0_cosineOf_0 rfl (lv_at hl 0 rfl) ?_
    refine lv_bipush (v := 8) hx hb dX0_cosineOf_1 (by decide) ?_
    refine lv_icmp_gt (tgt := 18) hx hb dX0_cosineOf_3 (by decide) (fun c_5 => ?_) (fun c_5 => ?_)
    · exact absurd c_5 (by decide)
    · refine fs_getQ C hH mw_264 dX0_cosineOf_6 ?_
      refine lv_bipush (v := 8) hx hb dX0_cosineOf_9 (by decide) ?_
      refine lv_iload_n hx hb dX0_cosineOf_11 rfl (lv_at hl 0 rfl) ?_
      refine lv_isub hx hb dX0_cosineOf_12 ?_
      refine fs_tabQ C hH (k := 4) (by decide) (by decide) dX0_cosineOf_13 ?_
      refine lv_i2l hx hb dX0_cosineOf_14 rfl ?_
      refine lv_goto (tgt := 28) hx hb dX0_cosineOf_15 (by decide) ?_
      exact fs_lret C hH () rfl (by decide) dX0_cosineOf_28
  | 5, _, hl =>
    refine lv_iload_n hx hb dX0_cosineOf_0 rfl (lv_at hl 0 rfl) ?_
    refine lv_bipush (v := 8) hx hb dX0_cosineOf_1 (by decide) ?_
    refine lv_icmp_gt (tgt := 18) hx hb dX0_cosineOf_3 (by decide) (fun c_6 => ?_) (fun c_6 => ?_)
    · exact absurd c_6 (by decide)
    · refine fs_getQ C hH mw_264 dX0_cosineOf_6 ?_
      refine lv_bipush (v := 8) hx hb dX0_cosineOf_9 (by decide) ?_
      refine lv_iload_n hx hb dX0_cosineOf_11 rfl (lv_at hl 0 rfl) ?_
      refine lv_isub hx hb dX0_cosineOf_12 ?_
      refine fs_tabQ C hH (k := 3) (by decide) (by decide) dX0_cosineOf_13 ?_
      refine lv_i2l hx hb dX0_cosineOf_14 rfl ?_
      refine lv_goto (tgt := 28) hx hb dX0_cosineOf_15 (by decide) ?_
      exact fs_lret C hH () rfl (by decide) dX0_cosineOf_28
  | 6, _, hl =>
    refine lv_iload_n hx hb dX0_cosineOf_0 rfl (lv_at hl 0 rfl) ?_
    refine lv_bipush (v := 8) hx hb dX0_cosineOf_1 (by decide) ?_
    refine lv_icmp_gt (tgt := 18) hx hb dX0_cosineOf_3 (by decide) (fun c_7 => ?_) (fun c_7 => ?_)
    · exact absurd c_7 (by decide)
    · refine fs_getQ C hH mw_264 dX0_cosineOf_6 ?_
      refine lv_bipush (v := 8) hx hb dX0_cosineOf_9 (by decide) ?_
      refine lv_iload_n hx hb dX0_cosineOf_11 rfl (lv_at hl 0 rfl) ?_
      refine lv_isub hx hb dX0_cosineOf_12 ?_
      refine fs_tabQ C hH (k := 2) (by decide) (by decide) dX0_cosineOf_13 ?_
      refine lv_i2l hx hb dX0_cosineOf_14 rfl ?_
      refine lv_goto (tgt := 28) hx hb dX0_cosineOf_15 (by decide) ?_
      exact fs_lret C hH () rfl (by decide) dX0_cosineOf_28
  | 7, _, hl =>
    refine lv_iload_n hx hb dX0_cosineOf_0 rfl (lv_at hl 0 rfl) ?_
    refine lv_bipush (v := 8) hx hb dX0_cosineOf_1 (by decide) ?_
    refine lv_icmp_gt (tgt := 18) hx hb dX0_cosineOf_3 (by decide) (fun c_8 => ?_) (fun c_8 => ?_)
    · exact absurd c_8 (by decide)
    · refine fs_getQ C hH mw_264 dX0_cosineOf_6 ?_
      refine lv_bipush (v := 8) hx hb dX0_cosineOf_9 (by decide) ?_
      refine lv_iload_n hx hb dX0_cosineOf_11 rfl (lv_at hl 0 rfl) ?_
      refine lv_isub hx hb dX0_cosineOf_12 ?_
      refine fs_tabQ C hH (k := 1) (by decide) (by decide) dX0_cosineOf_13 ?_
      refine lv_i2l hx hb dX0_cosineOf_14 rfl ?_
      refine lv_goto (tgt := 28) hx hb dX0_cosineOf_15 (by decide) ?_
      exact fs_lret C hH () rfl (by decide) dX0_cosineOf_28
  | 8, _, hl =>
    refine lv_iload_n hx hb dX0_cosineOf_0 rfl (lv_at hl 0 rfl) ?_
    refine lv_bipush (v := 8) hx hb dX0_cosineOf_1 (by decide) ?_
    refine lv_icmp_gt (tgt := 18) hx hb dX0_cosineOf_3 (by decide) (fun c_9 => ?_) (fun c_9 => ?_)
    · exact absurd c_9 (by decide)
    · refine fs_getQ C hH mw_264 dX0_cosineOf_6 ?_
      refine lv_bipush (v := 8) hx hb dX0_cosineOf_9 (by decide) ?_
      refine lv_iload_n hx hb dX0_cosineOf_11 rfl (lv_at hl 0 rfl) ?_
      refine lv_isub hx hb dX0_cosineOf_12 ?_
      refine fs_tabQ C hH (k := 0) (by decide) (by decide) dX0_cosineOf_13 ?_
      refine lv_i2l hx hb dX0_cosineOf_14 rfl ?_
      refine lv_goto (tgt := 28) hx hb dX0_cosineOf_15 (by decide) ?_
      exact fs_lret C hH () rfl (by decide) dX0_cosineOf_28
  | 9, _, hl =>
    refine lv_iload_n hx hb dX0_cosineOf_0 rfl (lv_at hl 0 rfl) ?_
    refine lv_bipush (v := 8) hx hb dX0_cosineOf_1 (by decide) ?_
    refine lv_icmp_gt (tgt := 18) hx hb dX0_cosineOf_3 (by decide) (fun c_10 => ?_) (fun c_10 => ?_)
    · refine fs_getQ C hH mw_264 dX0_cosineOf_18 ?_
      refine lv_iload_n hx hb dX0_cosineOf_21 rfl (lv_at hl 0 rfl) ?_
      refine lv_bipush (v := 8) hx hb dX0_cosineOf_22 (by decide) ?_
      refine lv_isub hx hb dX0_cosineOf_24 ?_
      refine fs_tabQ C hH (k := 1) (by decide) (by decide) dX0_cosineOf_25 ?_
      refine lv_ineg hx hb dX0_cosineOf_26 ?_
      refine lv_i2l hx hb dX0_cosineOf_27 rfl ?_
      exact fs_lret C hH () rfl (by decide) dX0_cosineOf_28
    · exact absurd c_10 (by decide)
  | 10, _, hl =>
    refine lv_iload_n hx hb dX0_cosineOf_0 rfl (lv_at hl 0 rfl) ?_
    refine lv_bipush (v := 8) hx hb dX0_cosineOf_1 (by decide) ?_
    refine lv_icmp_gt (tgt := 18) hx hb dX0_cosineOf_3 (by decide) (fun c_11 => ?_) (fun c_11 => ?_)
    · refine fs_getQ C hH mw_264 dX0_cosineOf_18 ?_
      refine lv_iload_n hx hb dX0_cosineOf_21 rfl (lv_at hl 0 rfl) ?_
      refine lv_bipush (v := 8) hx hb dX0_cosineOf_22 (by decide) ?_
      refine lv_isub hx hb dX0_cosineOf_24 ?_
      refine fs_tabQ C hH (k := 2) (by decide) (by decide) dX0_cosineOf_25 ?_
      refine lv_ineg hx hb dX0_cosineOf_26 ?_
      refine lv_i2l hx hb dX0_cosineOf_27 rfl ?_
      exact fs_lret C hH () rfl (by decide) dX0_cosineOf_28
    · exact absurd c_11 (by decide)
  | 11, _, hl =>
    refine lv_iload_n hx hb dX0_cosineOf_0 rfl (lv_at hl 0 rfl) ?_
    refine lv_bipush (v := 8) hx hb dX0_cosineOf_1 (by decide) ?_
    refine lv_icmp_gt (tgt := 18) hx hb dX0_cosineOf_3 (by decide) (fun c_12 => ?_) (fun c_12 => ?_)
    · refine fs_getQ C hH mw_264 dX0_cosineOf_18 ?_
      refine lv_iload_n hx hb dX0_cosineOf_21 rfl (lv_at hl 0 rfl) ?_
      refine lv_bipush (v := 8) hx hb dX0_cosineOf_22 (by decide) ?_
      refine lv_isub hx hb dX0_cosineOf_24 ?_
      refine fs_tabQ C hH (k := 3) (by decide) (by decide) dX0_cosineOf_25 ?_
      refine lv_ineg hx hb dX0_cosineOf_26 ?_
      refine lv_i2l hx hb dX0_cosineOf_27 rfl ?_
      exact fs_lret C hH () rfl (by decide) dX0_cosineOf_28
    · exact absurd c_12 (by decide)
  | 12, _, hl =>
    refine lv_iload_n hx hb dX0_cosineOf_0 rfl (lv_at hl 0 rfl) ?_
    refine lv_bipush (v := 8) hx hb dX0_cosineOf_1 (by decide) ?_
    refine lv_icmp_gt (tgt := 18) hx hb dX0_cosineOf_3 (by decide) (fun c_13 => ?_) (fun c_13 => ?_)
    · refine fs_getQ C hH mw_264 dX0_cosineOf_18 ?_
      refine lv_iload_n hx hb dX0_cosineOf_21 rfl (lv_at hl 0 rfl) ?_
      refine lv_bipush (v := 8) hx hb dX0_cosineOf_22 (by decide) ?_
      refine lv_isub hx hb dX0_cosineOf_24 ?_
      refine fs_tabQ C hH (k := 4) (by decide) (by decide) dX0_cosineOf_25 ?_
      refine lv_ineg hx hb dX0_cosineOf_26 ?_
      refine lv_i2l hx hb dX0_cosineOf_27 rfl ?_
      exact fs_lret C hH () rfl (by decide) dX0_cosineOf_28
    · exact absurd c_13 (by decide)
  | 13, _, hl =>
    refine lv_iload_n hx hb dX0_cosineOf_0 rfl (lv_at hl 0 rfl) ?_
    refine lv_bipush (v := 8) hx hb dX0_cosineOf_1 (by decide) ?_
    refine lv_icmp_gt (tgt := 18) hx hb dX0_cosineOf_3 (by decide) (fun c_14 => ?_) (fun c_14 => ?_)
    · refine fs_getQ C hH mw_264 dX0_cosineOf_18 ?_
      refine lv_iload_n hx hb dX0_cosineOf_21 rfl (lv_at hl 0 rfl) ?_
      refine lv_bipush (v := 8) hx hb dX0_cosineOf_22 (by decide) ?_
      refine lv_isub hx hb dX0_cosineOf_24 ?_
      refine fs_tabQ C hH (k := 5) (by decide) (by decide) dX0_cosineOf_25 ?_
      refine lv_ineg hx hb dX0_cosineOf_26 ?_
      refine lv_i2l hx hb dX0_cosineOf_27 rfl ?_
      exact fs_lret C hH () rfl (by decide) dX0_cosineOf_28
    · exact absurd c_14 (by decide)
  | 14, _, hl =>
    refine lv_iload_n hx hb dX0_cosineOf_0 rfl (lv_at hl 0 rfl) ?_
    refine lv_bipush (v := 8) hx hb dX0_cosineOf_1 (by decide) ?_
    refine lv_icmp_gt (tgt := 18) hx hb dX0_cosineOf_3 (by decide) (fun c_15 => ?_) (fun c_15 => ?_)
    · refine fs_getQ C hH mw_264 dX0_cosineOf_18 ?_
      refine lv_iload_n hx hb dX0_cosineOf_21 rfl (lv_at hl 0 rfl) ?_
      refine lv_bipush (v := 8) hx hb dX0_cosineOf_22 (by decide) ?_
      refine lv_isub hx hb dX0_cosineOf_24 ?_
      refine fs_tabQ C hH (k := 6) (by decide) (by decide) dX0_cosineOf_25 ?_
      refine lv_ineg hx hb dX0_cosineOf_26 ?_
      refine lv_i2l hx hb dX0_cosineOf_27 rfl ?_
      exact fs_lret C hH () rfl (by decide) dX0_cosineOf_28
    · exact absurd c_15 (by decide)
  | 15, _, hl =>
    refine lv_iload_n hx hb dX0_cosineOf_0 rfl (lv_at hl 0 rfl) ?_
    refine lv_bipush (v := 8) hx hb dX0_cosineOf_1 (by decide) ?_
    refine lv_icmp_gt (tgt := 18) hx hb dX0_cosineOf_3 (by decide) (fun c_16 => ?_) (fun c_16 => ?_)
    · refine fs_getQ C hH mw_264 dX0_cosineOf_18 ?_
      refine lv_iload_n hx hb dX0_cosineOf_21 rfl (lv_at hl 0 rfl) ?_
      refine lv_bipush (v := 8) hx hb dX0_cosineOf_22 (by decide) ?_
      refine lv_isub hx hb dX0_cosineOf_24 ?_
      refine fs_tabQ C hH (k := 7) (by decide) (by decide) dX0_cosineOf_25 ?_
      refine lv_ineg hx hb dX0_cosineOf_26 ?_
      refine lv_i2l hx hb dX0_cosineOf_27 rfl ?_
      exact fs_lret C hH () rfl (by decide) dX0_cosineOf_28
    · exact absurd c_16 (by decide)
  | k9 + 16, h9, _ => exact absurd h9 (by omega)
set_option maxHeartbeats 4000000 in
set_option maxRecDepth 100000 in
theorem c_X0_sineOf (l : Launch) (X : fs_X) (sz : Nat) (k : Nat) (hk : k < 16) : fs_M l X yX0_sineOf cX0_sineOf 1 (some .long) ({ frames := 0, cells := 0, slots := 0, locals := 0 }) [.int (nI k)] [] sz (fs_Ql X (fun r (_ : Unit) => r = fs_sin k) (fun _ => [])) 0 0 := by
  refine fs_ofW (by decide) (Nat.le_of_ble_eq_true rfl) ?_
  intro p e s m args below meth c A ls C hH hl
  have C : fs_At X A p s m args meth c cX0_sineOf 1 (some .long) RX0 "sineOf" := C
  have hx := C.1
  have hb := C.2.1
  have hown := C.2.2.2.2.1
  have hts := C.2.2.2.2.2.1
  have hl : lv_has ls 1 [(0, .int (nI k))] := hl
  have hH : fs_H X A s [] s.heap [] := hH
  match k, hk, hl with
  | 0, _, hl =>
    refine lv_iload_n hx hb dX0_sineOf_0 rfl (lv_at hl 0 rfl) ?_
    refine lv_bipush (v := 8) hx hb dX0_sineOf_1 (by decide) ?_
    refine lv_icmp_gt (tgt := 15) hx hb dX0_sineOf_3 (by decide) (fun c_1 => ?_) (fun c_1 => ?_)
    · exact absurd c_1 (by decide)
    · refine fs_getQ C hH mw_264 dX0_sineOf_6 ?_
      refine lv_iload_n hx hb dX0_sineOf_9 rfl (lv_at hl 0 rfl) ?_
      refine fs_tabQ C hH (k := 0) (by decide) (by decide) dX0_sineOf_10 ?_
      refine lv_i2l hx hb dX0_sineOf_11 rfl ?_
      refine lv_goto (tgt := 24) hx hb dX0_sineOf_12 (by decide) ?_
      exact fs_lret C hH () rfl (by decide) dX0_sineOf_24
  | 1, _, hl =>
    refine lv_iload_n hx hb dX0_sineOf_0 rfl (lv_at hl 0 rfl) ?_
    refine lv_bipush (v := 8) hx hb dX0_sineOf_1 (by decide) ?_
    refine lv_icmp_gt (tgt := 15) hx hb dX0_sineOf_3 (by decide) (fun c_2 => ?_) (fun c_2 => ?_)
    · exact absurd c_2 (by decide)
    · refine fs_getQ C hH mw_264 dX0_sineOf_6 ?_
      refine lv_iload_n hx hb dX0_sineOf_9 rfl (lv_at hl 0 rfl) ?_
      refine fs_tabQ C hH (k := 1) (by decide) (by decide) dX0_sineOf_10 ?_
      refine lv_i2l hx hb dX0_sineOf_11 rfl ?_
      refine lv_goto (tgt := 24) hx hb dX0_sineOf_12 (by decide) ?_
      exact fs_lret C hH () rfl (by decide) dX0_sineOf_24
  | 2, _, hl =>
    refine lv_iload_n hx hb dX0_sineOf_0 rfl (lv_at hl 0 rfl) ?_
    refine lv_bipush (v := 8) hx hb dX0_sineOf_1 (by decide) ?_
    refine lv_icmp_gt (tgt := 15) hx hb dX0_sineOf_3 (by decide) (fun c_3 => ?_) (fun c_3 => ?_)
    · exact absurd c_3 (by decide)
    · refine fs_getQ C hH mw_264 dX0_sineOf_6 ?_
      refine lv_iload_n hx hb dX0_sineOf_9 rfl (lv_at hl 0 rfl) ?_
      refine fs_tabQ C hH (k := 2) (by decide) (by decide) dX0_sineOf_10 ?_
      refine lv_i2l hx hb dX0_sineOf_11 rfl ?_
      refine lv_goto (tgt := 24) hx hb dX0_sineOf_12 (by decide) ?_
      exact fs_lret C hH () rfl (by decide) dX0_sineOf_24
  | 3, _, hl =>
    refine lv_iload_n hx hb dX0_sineOf_0 rfl (lv_at hl 0 rfl) ?_
    refine lv_bipush (v := 8) hx hb dX0_sineOf_1 (by decide) ?_
    refine lv_icmp_gt (tgt := 15) hx hb dX0_sineOf_3 (by decide) (fun c_4 => ?_) (fun c_4 => ?_)
    · exact absurd c_4 (by decide)
    · refine fs_getQ C hH mw_264 dX0_sineOf_6 ?_
      refine lv_iload_n hx hb dX0_sineOf_9 rfl (lv_at hl 0 rfl) ?_
      refine fs_tabQ C hH (k := 3) (by decide) (by decide) dX0_sineOf_10 ?_
      refine lv_i2l hx hb dX0_sineOf_11 rfl ?_
      refine lv_goto (tgt := 24) hx hb dX0_sineOf_12 (by decide) ?_
      exact fs_lret C hH () rfl (by decide) dX0_sineOf_24
  | 4, _, hl =>
    refine lv_iload_n hx hb dX0_sineOf_0 rfl (lv_at hl 0 rfl) ?_
    refine lv_bipush (v := 8) hx hb dX0_sineOf_1 (by decide) ?_
    refine lv_icmp_gt (tgt := 15) hx hb dX0_sineOf_3 (by decide) (fun c_5 => ?_) (fun c_5 => ?_)
    · exact absurd c_5 (by decide)
    · refine fs_getQ C hH mw_264 dX0_sineOf_6 ?_
      refine lv_iload_n hx hb dX0_sineOf_9 rfl (lv_at hl 0 rfl) ?_
      refine fs_tabQ C hH (k := 4) (by decide) (by decide) dX0_sineOf_10 ?_
      refine lv_i2l hx hb dX0_sineOf_11 rfl ?_
      refine lv_goto (tgt := 24) hx hb dX0_sineOf_12 (by decide) ?_
      exact fs_lret C hH () rfl (by decide) dX0_sineOf_24
  | 5, _, hl =>
    refine lv_iload_n hx hb dX0_sineOf_0 rfl (lv_at hl 0 rfl) ?_
    refine lv_bipush (v := 8) hx hb dX0_sineOf_1 (by decide) ?_
    refine lv_icmp_gt (tgt := 15) hx hb dX0_sineOf_3 (by decide) (fun c_6 => ?_) (fun c_6 => ?_)
    · exact absurd c_6 (by decide)
    · refine fs_getQ C hH mw_264 dX0_sineOf_6 ?_
      refine lv_iload_n hx hb dX0_sineOf_9 rfl (lv_at hl 0 rfl) ?_
      refine fs_tabQ C hH (k := 5) (by decide) (by decide) dX0_sineOf_10 ?_
      refine lv_i2l hx hb dX0_sineOf_11 rfl ?_
      refine lv_goto (tgt := 24) hx hb dX0_sineOf_12 (by decide) ?_
      exact fs_lret C hH () rfl (by decide) dX0_sineOf_24
  | 6, _, hl =>
    refine lv_iload_n hx hb dX0_sineOf_0 rfl (lv_at hl 0 rfl) ?_
    refine lv_bipush (v := 8) hx hb dX0_sineOf_1 (by decide) ?_
    refine lv_icmp_gt (tgt := 15) hx hb dX0_sineOf_3 (by decide) (fun c_7 => ?_) (fun c_7 => ?_)
    · exact absurd c_7 (by decide)
    · refine fs_getQ C hH mw_264 dX0_sineOf_6 ?_
      refine lv_iload_n hx hb dX0_sineOf_9 rfl (lv_at hl 0 rfl) ?_
      refine fs_tabQ C hH (k := 6) (by decide) (by decide) dX0_sineOf_10 ?_
      refine lv_i2l hx hb dX0_sineOf_11 rfl ?_
      refine lv_goto (tgt := 24) hx hb dX0_sineOf_12 (by decide) ?_
      exact fs_lret C hH () rfl (by decide) dX0_sineOf_24
  | 7, _, hl =>
    refine lv_iload_n hx hb dX0_sineOf_0 rfl (lv_at hl 0 rfl) ?_
    refine lv_bipush (v := 8) hx hb dX0_sineOf_1 (by decide) ?_
    refine lv_icmp_gt (tgt := 15) hx hb dX0_sineOf_3 (by decide) (fun c_8 => ?_) (fun c_8 => ?_)
    · exact absurd c_8 (by decide)
    · refine fs_getQ C hH mw_264 dX0_sineOf_6 ?_
      refine lv_iload_n hx hb dX0_sineOf_9 rfl (lv_at hl 0 rfl) ?_
      refine fs_tabQ C hH (k := 7) (by decide) (by decide) dX0_sineOf_10 ?_
      refine lv_i2l hx hb dX0_sineOf_11 rfl ?_
      refine lv_goto (tgt := 24) hx hb dX0_sineOf_12 (by decide) ?_
      exact fs_lret C hH () rfl (by decide) dX0_sineOf_24
  | 8, _, hl =>
    refine lv_iload_n hx hb dX0_sineOf_0 rfl (lv_at hl 0 rfl) ?_
    refine lv_bipush (v := 8) hx hb dX0_sineOf_1 (by decide) ?_
    refine lv_icmp_gt (tgt := 15) hx hb dX0_sineOf_3 (by decide) (fun c_9 => ?_) (fun c_9 => ?_)
    · exact absurd c_9 (by decide)
    · refine fs_getQ C hH mw_264 dX0_sineOf_6 ?_
      refine lv_iload_n hx hb dX0_sineOf_9 rfl (lv_at hl 0 rfl) ?_
      refine fs_tabQ C hH (k := 8) (by decide) (by decide) dX0_sineOf_10 ?_
      refine lv_i2l hx hb dX0_sineOf_11 rfl ?_
      refine lv_goto (tgt := 24) hx hb dX0_sineOf_12 (by decide) ?_
      exact fs_lret C hH () rfl (by decide) dX0_sineOf_24
  | 9, _, hl =>
    refine lv_iload_n hx hb dX0_sineOf_0 rfl (lv_at hl 0 rfl) ?_
    refine lv_bipush (v := 8) hx hb dX0_sineOf_1 (by decide) ?_
    refine lv_icmp_gt (tgt := 15) hx hb dX0_sineOf_3 (by decide) (fun c_10 => ?_) (fun c_10 => ?_)
    · refine fs_getQ C hH mw_264 dX0_sineOf_15 ?_
      refine lv_bipush (v := 16) hx hb dX0_sineOf_18 (by decide) ?_
      refine lv_iload_n hx hb dX0_sineOf_20 rfl (lv_at hl 0 rfl) ?_
      refine lv_isub hx hb dX0_sineOf_21 ?_
      refine fs_tabQ C hH (k := 7) (by decide) (by decide) dX0_sineOf_22 ?_
      refine lv_i2l hx hb dX0_sineOf_23 rfl ?_
      exact fs_lret C hH () rfl (by decide) dX0_sineOf_24
    · exact absurd c_10 (by decide)
  | 10, _, hl =>
    refine lv_iload_n hx hb dX0_sineOf_0 rfl (lv_at hl 0 rfl) ?_
    refine lv_bipush (v := 8) hx hb dX0_sineOf_1 (by decide) ?_
    refine lv_icmp_gt (tgt := 15) hx hb dX0_sineOf_3 (by decide) (fun c_11 => ?_) (fun c_11 => ?_)
    · refine fs_getQ C hH mw_264 dX0_sineOf_15 ?_
      refine lv_bipush (v := 16) hx hb dX0_sineOf_18 (by decide) ?_
      refine lv_iload_n hx hb dX0_sineOf_20 rfl (lv_at hl 0 rfl) ?_
      refine lv_isub hx hb dX0_sineOf_21 ?_
      refine fs_tabQ C hH (k := 6) (by decide) (by decide) dX0_sineOf_22 ?_
      refine lv_i2l hx hb dX0_sineOf_23 rfl ?_
      exact fs_lret C hH () rfl (by decide) dX0_sineOf_24
    · exact absurd c_11 (by decide)
  | 11, _, hl =>
    refine lv_iload_n hx hb dX0_sineOf_0 rfl (lv_at hl 0 rfl) ?_
    refine lv_bipush (v := 8) hx hb dX0_sineOf_1 (by decide) ?_
    refine lv_icmp_gt (tgt := 15) hx hb dX0_sineOf_3 (by decide) (fun c_12 => ?_) (fun c_12 => ?_)
    · refine fs_getQ C hH mw_264 dX0_sineOf_15 ?_
      refine lv_bipush (v := 16) hx hb dX0_sineOf_18 (by decide) ?_
      refine lv_iload_n hx hb dX0_sineOf_20 rfl (lv_at hl 0 rfl) ?_
      refine lv_isub hx hb dX0_sineOf_21 ?_
      refine fs_tabQ C hH (k := 5) (by decide) (by decide) dX0_sineOf_22 ?_
      refine lv_i2l hx hb dX0_sineOf_23 rfl ?_
      exact fs_lret C hH () rfl (by decide) dX0_sineOf_24
    · exact absurd c_12 (by decide)
  | 12, _, hl =>
    refine lv_iload_n hx hb dX0_sineOf_0 rfl (lv_at hl 0 rfl) ?_
    refine lv_bipush (v := 8) hx hb dX0_sineOf_1 (by decide) ?_
    refine lv_icmp_gt (tgt := 15) hx hb dX0_sineOf_3 (by decide) (fun c_13 => ?_) (fun c_13 => ?_)
    · refine fs_getQ C hH mw_264 dX0_sineOf_15 ?_
      refine lv_bipush (v := 16) hx hb dX0_sineOf_18 (by decide) ?_
      refine lv_iload_n hx hb dX0_sineOf_20 rfl (lv_at hl 0 rfl) ?_
      refine lv_isub hx hb dX0_sineOf_21 ?_
      refine fs_tabQ C hH (k := 4) (by decide) (by decide) dX0_sineOf_22 ?_
      refine lv_i2l hx hb dX0_sineOf_23 rfl ?_
      exact fs_lret C hH () rfl (by decide) dX0_sineOf_24
    · exact absurd c_13 (by decide)
  | 13, _, hl =>
    refine lv_iload_n hx hb dX0_sineOf_0 rfl (lv_at hl 0 rfl) ?_
    refine lv_bipush (v := 8) hx hb dX0_sineOf_1 (by decide) ?_
    refine lv_icmp_gt (tgt := 15) hx hb dX0_sineOf_3 (by decide) (fun c_14 => ?_) (fun c_14 => ?_)
    · refine fs_getQ C hH mw_264 dX0_sineOf_15 ?_
      refine lv_bipush (v := 16) hx hb dX0_sineOf_18 (by decide) ?_
      refine lv_iload_n hx hb dX0_sineOf_20 rfl (lv_at hl 0 rfl) ?_
      refine lv_isub hx hb dX0_sineOf_21 ?_
      refine fs_tabQ C hH (k := 3) (by decide) (by decide) dX0_sineOf_22 ?_
      refine lv_i2l hx hb dX0_sineOf_23 rfl ?_
      exact fs_lret C hH () rfl (by decide) dX0_sineOf_24
    · exact absurd c_14 (by decide)
  | 14, _, hl =>
    refine lv_iload_n hx hb dX0_sineOf_0 rfl (lv_at hl 0 rfl) ?_
    refine lv_bipush (v := 8) hx hb dX0_sineOf_1 (by decide) ?_
    refine lv_icmp_gt (tgt := 15) hx hb dX0_sineOf_3 (by decide) (fun c_15 => ?_) (fun c_15 => ?_)
    · refine fs_getQ C hH mw_264 dX0_sineOf_15 ?_
      refine lv_bipush (v := 16) hx hb dX0_sineOf_18 (by decide) ?_
      refine lv_iload_n hx hb dX0_sineOf_20 rfl (lv_at hl 0 rfl) ?_
      refine lv_isub hx hb dX0_sineOf_21 ?_
      refine fs_tabQ C hH (k := 2) (by decide) (by decide) dX0_sineOf_22 ?_
      refine lv_i2l hx hb dX0_sineOf_23 rfl ?_
      exact fs_lret C hH () rfl (by decide) dX0_sineOf_24
    · exact absurd c_15 (by decide)
  | 15, _, hl =>
    refine lv_iload_n hx hb dX0_sineOf_0 rfl (lv_at hl 0 rfl) ?_
    refine lv_bipush (v := 8) hx hb dX0_sineOf_1 (by decide) ?_
    refine lv_icmp_gt (tgt := 15) hx hb dX0_sineOf_3 (by decide) (fun c_16 => ?_) (fun c_16 => ?_)
    · refine fs_getQ C hH mw_264 dX0_sineOf_15 ?_
      refine lv_bipush (v := 16) hx hb dX0_sineOf_18 (by decide) ?_
      refine lv_iload_n hx hb dX0_sineOf_20 rfl (lv_at hl 0 rfl) ?_
      refine lv_isub hx hb dX0_sineOf_21 ?_
      refine fs_tabQ C hH (k := 1) (by decide) (by decide) dX0_sineOf_22 ?_
      refine lv_i2l hx hb dX0_sineOf_23 rfl ?_
      exact fs_lret C hH () rfl (by decide) dX0_sineOf_24
    · exact absurd c_16 (by decide)
  | k9 + 16, h9, _ => exact absurd h9 (by omega)
set_option maxHeartbeats 4000000 in
set_option maxRecDepth 100000 in
theorem c_X0_swap (l : Launch) (X : fs_X) (sz : Nat) (a : Nat) (f : Nat → Int32) (i : Nat) (j : Nat) (hi : i < 32) (hj : j < 32) : fs_M l X yX0_swap cX0_swap 4 none ({ frames := 0, cells := 0, slots := 0, locals := 0 }) [.ref a, .int (nI i), .int (nI j)] [(a, fs_ai X 32 f)] sz (fs_Qv X (fun (_ : Unit) => True) (fun _ => [(a, fs_ai X 32 (upd (upd f i (f j)) j (f i)))])) 0 0 := by
  refine fs_ofW (by decide) (Nat.le_of_ble_eq_true rfl) ?_
  intro p e s m args below meth c A ls C hH hl
  have C : fs_At X A p s m args meth c cX0_swap 4 none RX0 "swap" := C
  have hx := C.1
  have hb := C.2.1
  have hown := C.2.2.2.2.1
  have hts := C.2.2.2.2.2.1
  have hl : lv_has ls 4 [(0, .ref a), (1, .int (nI i)), (2, .int (nI j))] := hl
  have hH : fs_H X A s [(a, fs_ai X 32 f)] s.heap [] := hH
  refine lv_aload_n hx hb dX0_swap_0 rfl (lv_at hl 0 rfl) ?_
  refine lv_iload_n hx hb dX0_swap_1 rfl (lv_at hl 1 rfl) ?_
  refine fs_iald C hH 0 rfl (k := i) rfl (by omega) (by decide) dX0_swap_2 ?_
  refine lv_istore_n (lv' := [(3, .int (f i)), (0, .ref a), (1, .int (nI i)), (2, .int (nI j))]) hx hb dX0_swap_3 rfl hl (by decide) rfl (fun ls hl => ?_)
  refine lv_aload_n hx hb dX0_swap_4 rfl (lv_at hl 1 rfl) ?_
  refine lv_iload_n hx hb dX0_swap_5 rfl (lv_at hl 2 rfl) ?_
  refine lv_aload_n hx hb dX0_swap_6 rfl (lv_at hl 1 rfl) ?_
  refine lv_iload_n hx hb dX0_swap_7 rfl (lv_at hl 3 rfl) ?_
  refine fs_iald C hH 0 rfl (k := j) rfl (by omega) (by decide) dX0_swap_8 ?_
  refine fs_iast C hH 0 rfl (k := i) rfl (by omega) (by decide) (ws' := [(a, fs_ai X 32 (upd f i (f j)))]) rfl dX0_swap_9 (fun H locs hH => ?_)
  refine lv_aload_n hx hb dX0_swap_10 rfl (lv_at hl 1 rfl) ?_
  refine lv_iload_n hx hb dX0_swap_11 rfl (lv_at hl 3 rfl) ?_
  refine lv_iload_n hx hb dX0_swap_12 rfl (lv_at hl 0 rfl) ?_
  refine fs_iast C hH 0 rfl (k := j) rfl (by omega) (by decide) (ws' := [(a, fs_ai X 32 (upd (upd f i (f j)) j (f i)))]) rfl dX0_swap_13 (fun H locs hH => ?_)
  exact fs_vret C hH () rfl trivial dX0_swap_14
end
section
theorem fs_H.to {X : fs_X} {A : Nat → Prop} {s : State} {ws ws' : va_W} {H : Heap} {locs : List Loc} (h : fs_H X A s ws H locs) (e : ws = ws') : fs_H X A s ws' H locs := e ▸ h
theorem fs_leT {k : Nat} (hk : k < 2 ^ 31) (h : nI k ≤ 0) : k = 0 := by
  rcases Nat.eq_zero_or_pos k with h0 | h0
  · exact h0
  · exact absurd h (nI_nle h0 hk)
theorem fs_leF {k : Nat} (h : ¬ nI k ≤ 0) : 0 < k := by
  rcases Nat.eq_zero_or_pos k with h0 | h0
  · subst h0; exact absurd (by decide) h
  · exact h0
set_option maxHeartbeats 4000000 in
set_option maxRecDepth 100000 in
theorem c_X2_init (l : Launch) (X : fs_X) (sz : Nat) (h0 : Nat)  : fs_M l X yX2_init cX2_init 1 none ({ frames := 1, cells := 2, slots := 32, locals := 12 }) [.ref h0] [(h0, .inr (2, [.null, .null]))] sz (fs_Qv X (fun (_ : Nat × Nat) => True) (fun u => [(h0, .inr (2, [.ref u.1, .ref u.2])), (u.1, fs_ai X 16 (fun _ => 0)), (u.2, fs_ai X 16 (fun _ => 0))])) 2 32 := by
  refine fs_ofW (by decide) (Nat.le_of_ble_eq_true rfl) ?_
  intro p e s m args below meth c A ls C hH hl
  have C : fs_At X A p s m args meth c cX2_init 1 none RX2 "<init>" := C
  have hx := C.1
  have hb := C.2.1
  have hown := C.2.2.2.2.1
  have hts := C.2.2.2.2.2.1
  have hl : lv_has ls 1 [(0, .ref h0)] := hl
  have hH : fs_H X A s [(h0, .inr (2, [.null, .null]))] s.heap [] := hH
  refine lv_aload_n hx hb dX2_init_0 rfl (lv_at hl 0 rfl) ?_
  refine W.objInit hx hb hown (hts _ mw_24) (hts _ mw_18) (hts _ mw_19) rfl (by rw [C.2.2.2.1]; exact hl.1) rfl dX2_init_1 (Nat.le_of_ble_eq_true rfl) (Nat.le_of_ble_eq_true rfl) ?_
  refine W.eq (g2 := F0 m 4 ls []) rfl ?_
  refine lv_aload_n hx hb dX2_init_4 rfl (lv_at hl 0 rfl) ?_
  refine lv_bipush (v := 16) hx hb dX2_init_5 (by decide) ?_
  refine fs_newI C hH (N := 16) rfl (by decide) (Nat.le_of_ble_eq_true rfl) (Nat.le_of_ble_eq_true rfl) mw_29 dX2_init_7 (fun q_1 H hH => ?_)
  have hH : fs_H X A s [(h0, .inr (2, [.null, .null])), (q_1, fs_ai X 16 (fun _ => 0))] _ _ := hH
  refine fs_putF C in_2 tyX2 tyX2_ok nmX2 hH 0 rfl rfl 0 (by decide) mw_25 rfl rfl rfl rfl (Nat.le_of_ble_eq_true rfl) (ws' := [(h0, .inr (2, [.ref q_1, .null])), (q_1, fs_ai X 16 (fun _ => 0))]) rfl dX2_init_9 (fun H locs hH => ?_)
  refine lv_aload_n hx hb dX2_init_12 rfl (lv_at hl 0 rfl) ?_
  refine lv_bipush (v := 16) hx hb dX2_init_13 (by decide) ?_
  refine fs_newI C hH (N := 16) rfl (by decide) (Nat.le_of_ble_eq_true rfl) (Nat.le_of_ble_eq_true rfl) mw_29 dX2_init_15 (fun q_2 H hH => ?_)
  have hH : fs_H X A s [(h0, .inr (2, [.ref q_1, .null])), (q_1, fs_ai X 16 (fun _ => 0)), (q_2, fs_ai X 16 (fun _ => 0))] _ _ := hH
  refine fs_putF C in_2 tyX2 tyX2_ok nmX2 hH 0 rfl rfl 1 (by decide) mw_26 rfl rfl rfl rfl (Nat.le_of_ble_eq_true rfl) (ws' := [(h0, .inr (2, [.ref q_1, .ref q_2])), (q_1, fs_ai X 16 (fun _ => 0)), (q_2, fs_ai X 16 (fun _ => 0))]) rfl dX2_init_17 (fun H locs hH => ?_)
  exact fs_vret C hH (q_1, q_2) rfl trivial dX2_init_20
set_option maxHeartbeats 4000000 in
set_option maxRecDepth 100000 in
theorem c_X2_takeIn (l : Launch) (X : fs_X) (sz : Nat) (h0 : Nat) (q1 : Nat) (q2 : Nat) (gg : Nat → Int32) (x : Int32)  : fs_M l X yX2_takeIn cX2_takeIn 3 none ({ frames := 0, cells := 0, slots := 0, locals := 0 }) [.ref h0, .int x] [(h0, .inr (2, [.ref q1, .ref q2])), (q2, fs_ai X 16 gg)] sz (fs_Qv X (fun (_ : Unit) => True) (fun _ => [(h0, .inr (2, [.ref q1, .ref q2])), (q2, fs_ai X 16 (fs_shift gg x))])) 0 0 := by
  refine fs_ofW (by decide) (Nat.le_of_ble_eq_true rfl) ?_
  intro p e s m args below meth c A ls C hH hl
  have C : fs_At X A p s m args meth c cX2_takeIn 3 none RX2 "takeIn" := C
  have hx := C.1
  have hb := C.2.1
  have hown := C.2.2.2.2.1
  have hts := C.2.2.2.2.2.1
  have hl : lv_has ls 3 [(0, .ref h0), (1, .int x)] := hl
  have K_3 : ∀ (n : Nat) (k : Nat), (k ≤ 15) → (k < n) → ∀ (H : Heap) (locs : List Loc), fs_H X A s [(h0, .inr (2, [.ref q1, .ref q2])), (q2, fs_ai X 16 (fs_shk gg k))] H locs → ∀ (ls : Array Slot), lv_has ls 3 [(0, .ref h0), (1, .int x), (2, .int (nI k))] → W p l e ({ frames := 0, cells := 0, slots := 0, locals := 0 }) s m args below meth c H locs 0 0 (MQ below (fs_Qv X (fun (_ : Unit) => True) (fun _ => [(h0, .inr (2, [.ref q1, .ref q2])), (q2, fs_ai X 16 (fs_shift gg x))]) A) args s 0 0 A) (F0 m 3 ls []) := by
    intro n
    induction n with
    | zero => intro k hk hfu; exact absurd hfu (by omega)
    | succ n ih_3 =>
      intro k hk hfu H locs hH ls hl
      refine lv_iload_n hx hb dX2_takeIn_3 rfl (lv_at hl 2 rfl) ?_
      refine lv_if_le (tgt := 27) hx hb dX2_takeIn_4 (by decide) (fun c_1 => ?_) (fun c_1 => ?_)
      · obtain rfl : k = 0 := fs_leT (by omega) c_1
        refine lv_aload_n hx hb dX2_takeIn_27 rfl (lv_at hl 0 rfl) ?_
        refine fs_get C in_2 hH 0 rfl rfl 1 (by decide) mw_26 (v := .ref q2) rfl dX2_takeIn_28 ?_
        refine lv_iconst (v := 0) hx hb dX2_takeIn_31 (by decide) ?_
        refine lv_iload_n hx hb dX2_takeIn_32 rfl (lv_at hl 1 rfl) ?_
        refine fs_iast C hH 1 rfl (k := 0) rfl (by decide) (by decide) (ws' := [(h0, .inr (2, [.ref q1, .ref q2])), (q2, fs_ai X 16 (upd (fs_shk gg 0) 0 x))]) rfl dX2_takeIn_33 (fun H locs hH => ?_)
        have hH : fs_H X A s [(h0, .inr (2, [.ref q1, .ref q2])), (q2, fs_ai X 16 (fs_shift gg x))] _ _ := hH.to (by rw [← fs_shk_0])
        exact fs_vret C hH () rfl trivial dX2_takeIn_34
      · obtain ⟨j, rfl⟩ : ∃ j, k = j + 1 := ⟨k - 1, by have := fs_leF c_1; omega⟩
        refine lv_aload_n hx hb dX2_takeIn_7 rfl (lv_at hl 0 rfl) ?_
        refine fs_get C in_2 hH 0 rfl rfl 1 (by decide) mw_26 (v := .ref q2) rfl dX2_takeIn_8 ?_
        refine lv_iload_n hx hb dX2_takeIn_11 rfl (lv_at hl 2 rfl) ?_
        refine lv_aload_n hx hb dX2_takeIn_12 rfl (lv_at hl 0 rfl) ?_
        refine fs_get C in_2 hH 0 rfl rfl 1 (by decide) mw_26 (v := .ref q2) rfl dX2_takeIn_13 ?_
        refine lv_iload_n hx hb dX2_takeIn_16 rfl (lv_at hl 2 rfl) ?_
        refine lv_iconst (v := 1) hx hb dX2_takeIn_17 (by decide) ?_
        refine lv_isub hx hb dX2_takeIn_18 ?_
        refine fs_iald C hH 1 rfl (k := j) (nI_pred j) (by omega) (by decide) dX2_takeIn_19 ?_
        refine fs_iast C hH 1 rfl (k := (j + 1)) rfl (by omega) (by decide) (ws' := [(h0, .inr (2, [.ref q1, .ref q2])), (q2, fs_ai X 16 (upd (fs_shk gg (j + 1)) (j + 1) ((fs_shk gg (j + 1)) j)))]) rfl dX2_takeIn_20 (fun H locs hH => ?_)
        have hH : fs_H X A s [(h0, .inr (2, [.ref q1, .ref q2])), (q2, fs_ai X 16 (fs_shk gg j))] _ _ := hH.to (by rw [← fs_shk_s gg j (by omega)])
        refine lv_iinc (v := (nI j)) (lv' := [(2, .int (nI j)), (0, .ref h0), (1, .int x)]) hx hb dX2_takeIn_21 hl (k := 2) rfl (pk_m1 j) (by decide) rfl (fun ls hl => ?_)
        refine lv_goto (tgt := 3) hx hb dX2_takeIn_24 (by decide) ?_
        exact ih_3 j (by omega) (by omega) _ _ hH ls (lv_sub hl [1, 2, 0] rfl)
  have hH : fs_H X A s [(h0, .inr (2, [.ref q1, .ref q2])), (q2, fs_ai X 16 gg)] s.heap [] := hH
  refine lv_bipush (v := 15) hx hb dX2_takeIn_0 (by decide) ?_
  have hH : fs_H X A s [(h0, .inr (2, [.ref q1, .ref q2])), (q2, fs_ai X 16 (fs_shk gg 15))] _ _ := hH.to (by rw [fs_shk_15])
  refine lv_istore_n (lv' := [(2, .int 15), (0, .ref h0), (1, .int x)]) hx hb dX2_takeIn_2 rfl hl (by decide) rfl (fun ls hl => ?_)
  exact K_3 16 15 (by omega) (by omega) _ _ hH ls (lv_sub hl [1, 2, 0] rfl)
set_option maxHeartbeats 4000000 in
set_option maxRecDepth 100000 in
theorem c_X2_answerTo (l : Launch) (X : fs_X) (sz : Nat) (h0 : Nat) (q1 : Nat) (q2 : Nat) (ff : Nat → Int32) (gg : Nat → Int32) (x : Int32)  : fs_M l X yX2_answerTo cX2_answerTo 5 (some .int) ({ frames := 2, cells := 0, slots := 0, locals := 38 }) [.ref h0, .int x] [(h0, .inr (2, [.ref q1, .ref q2])), (q1, fs_ai X 16 ff), (q2, fs_ai X 16 gg)] sz (fs_Qi X (fun r (_ : Unit) => r = fs_sat (fs_rd (fs_dot ff (fs_shift gg x) 16) 15) 32767) (fun _ => [(h0, .inr (2, [.ref q1, .ref q2])), (q1, fs_ai X 16 ff), (q2, fs_ai X 16 (fs_shift gg x))])) 0 0 := by
  refine fs_ofW (by decide) (Nat.le_of_ble_eq_true rfl) ?_
  intro p e s m args below meth c A ls C hH hl
  have C : fs_At X A p s m args meth c cX2_answerTo 5 (some .int) RX2 "answerTo" := C
  have hx := C.1
  have hb := C.2.1
  have hown := C.2.2.2.2.1
  have hts := C.2.2.2.2.2.1
  have hl : lv_has ls 5 [(0, .ref h0), (1, .int x)] := hl
  have K_10 : ∀ (n : Nat) (k : Nat), (k ≤ 16) → (16 < k + n) → ∀ (H : Heap) (locs : List Loc), fs_H X A s [(h0, .inr (2, [.ref q1, .ref q2])), (q1, fs_ai X 16 ff), (q2, fs_ai X 16 (fs_shift gg x))] H locs → ∀ (ls : Array Slot), lv_has ls 5 [(0, .ref h0), (1, .int x), (2, .long (fs_dot ff (fs_shift gg x) k)), (4, .int (nI k))] → W p l e ({ frames := 2, cells := 0, slots := 0, locals := 38 }) s m args below meth c H locs 0 0 (MQ below (fs_Qi X (fun r (_ : Unit) => r = fs_sat (fs_rd (fs_dot ff (fs_shift gg x) 16) 15) 32767) (fun _ => [(h0, .inr (2, [.ref q1, .ref q2])), (q1, fs_ai X 16 ff), (q2, fs_ai X 16 (fs_shift gg x))]) A) args s 0 0 A) (F0 m 10 ls []) := by
    intro n
    induction n with
    | zero => intro k hk hfu; exact absurd hfu (by omega)
    | succ n ih_10 =>
      intro k hk hfu H locs hH ls hl
      refine lv_iload hx hb dX2_answerTo_10 (lv_at hl 3 rfl) ?_
      refine lv_bipush (v := 16) hx hb dX2_answerTo_12 (by decide) ?_
      refine lv_icmp_ge (tgt := 43) hx hb dX2_answerTo_14 (by decide) (fun c_1 => ?_) (fun c_1 => ?_)
      · obtain rfl : k = 16 := by have := fs_geT (a := k) (b := 16) (by omega) (by omega) c_1; omega
        refine lv_lload_n hx hb dX2_answerTo_43 rfl (lv_at hl 2 rfl) ?_
        refine lv_bipush (v := 15) hx hb dX2_answerTo_44 (by decide) ?_
        refine fs_cl C hH (wr := [(h0, .inr (2, [.ref q1, .ref q2])), (q1, fs_ai X 16 ff), (q2, fs_ai X 16 (fs_shift gg x))]) [] [0, 1, 2] rfl rfl (by decide) (by decide) (fs_rSN (rest := []) (As := [.long (fs_dot ff (fs_shift gg x) 16), .int 15]) (n := 2) C hH (wc := []) [] (by decide) rfl (c_X4_rounded l X _ (fs_dot ff (fs_shift gg x) 16) 15 ) rfl rfl mw_81 (List.mem_of_getElem? (i := 9) rfl) mw_80 mw_1 (by decide +kernel) ⟨Nat.le_of_ble_eq_true rfl, Nat.le_of_ble_eq_true rfl⟩ rfl hl.1 rfl (Nat.le_of_ble_eq_true rfl) dX2_answerTo_46 ⟨Nat.le_of_ble_eq_true rfl, Nat.le_of_ble_eq_true rfl⟩) (fun r_2 u_3 H locs hr_4 hH => ?_)
        subst hr_4
        have hH : fs_H X A s [(h0, .inr (2, [.ref q1, .ref q2])), (q1, fs_ai X 16 ff), (q2, fs_ai X 16 (fs_shift gg x))] _ _ := hH
        refine fs_ci C hH (wr := [(h0, .inr (2, [.ref q1, .ref q2])), (q1, fs_ai X 16 ff), (q2, fs_ai X 16 (fs_shift gg x))]) [] [0, 1, 2] rfl rfl (by decide) (by decide) (fs_rSN (rest := []) (As := [.long (fs_rd (fs_dot ff (fs_shift gg x) 16) 15)]) (n := 1) C hH (wc := []) [] (by decide) rfl (c_X4_satShort l X _ (fs_rd (fs_dot ff (fs_shift gg x) 16) 15) ) rfl rfl mw_84 (List.mem_of_getElem? (i := 10) rfl) mw_83 mw_1 (by decide +kernel) ⟨Nat.le_of_ble_eq_true rfl, Nat.le_of_ble_eq_true rfl⟩ rfl hl.1 rfl (Nat.le_of_ble_eq_true rfl) dX2_answerTo_49 ⟨Nat.le_of_ble_eq_true rfl, Nat.le_of_ble_eq_true rfl⟩) (fun r_5 u_6 H locs hr_7 hH => ?_)
        subst hr_7
        have hH : fs_H X A s [(h0, .inr (2, [.ref q1, .ref q2])), (q1, fs_ai X 16 ff), (q2, fs_ai X 16 (fs_shift gg x))] _ _ := hH
        exact fs_iret C hH () rfl rfl dX2_answerTo_52
      · have hlt := fs_geF (a := k) (b := 16) (by omega) (by omega) c_1
        refine lv_lload_n hx hb dX2_answerTo_17 rfl (lv_at hl 2 rfl) ?_
        refine lv_aload_n hx hb dX2_answerTo_18 rfl (lv_at hl 0 rfl) ?_
        refine fs_get C in_2 hH 0 rfl rfl 0 (by decide) mw_25 (v := .ref q1) rfl dX2_answerTo_19 ?_
        refine lv_iload hx hb dX2_answerTo_22 (lv_at hl 3 rfl) ?_
        refine fs_iald C hH 1 rfl (k := k) rfl (by omega) (by decide) dX2_answerTo_24 ?_
        refine lv_i2l hx hb dX2_answerTo_25 rfl ?_
        refine lv_aload_n hx hb dX2_answerTo_26 rfl (lv_at hl 0 rfl) ?_
        refine fs_get C in_2 hH 0 rfl rfl 1 (by decide) mw_26 (v := .ref q2) rfl dX2_answerTo_27 ?_
        refine lv_iload hx hb dX2_answerTo_30 (lv_at hl 3 rfl) ?_
        refine fs_iald C hH 2 rfl (k := k) rfl (by omega) (by decide) dX2_answerTo_32 ?_
        refine lv_i2l hx hb dX2_answerTo_33 rfl ?_
        refine lv_lmul hx hb dX2_answerTo_34 ?_
        refine lv_ladd hx hb dX2_answerTo_35 ?_
        refine lv_lstore_n (lv' := [(2, .long ((fs_dot ff (fs_shift gg x) k) + ((Int32.toInt64 (ff k)) * (Int32.toInt64 ((fs_shift gg x) k))))), (0, .ref h0), (1, .int x), (4, .int (nI k))]) hx hb dX2_answerTo_36 rfl hl (by decide) rfl (fun ls hl => ?_)
        refine lv_iinc (v := (nI (k + 1))) (lv' := [(4, .int (nI (k + 1))), (2, .long ((fs_dot ff (fs_shift gg x) k) + ((Int32.toInt64 (ff k)) * (Int32.toInt64 ((fs_shift gg x) k))))), (0, .ref h0), (1, .int x)]) hx hb dX2_answerTo_37 hl (k := 3) rfl (nI_1 k) (by decide) rfl (fun ls hl => ?_)
        refine lv_goto (tgt := 10) hx hb dX2_answerTo_40 (by decide) ?_
        exact ih_10 (k + 1) (by omega) (by omega) _ _ hH ls (lv_sub hl [2, 3, 1, 0] rfl)
  have hH : fs_H X A s [(h0, .inr (2, [.ref q1, .ref q2])), (q1, fs_ai X 16 ff), (q2, fs_ai X 16 gg)] s.heap [] := hH
  refine lv_aload_n hx hb dX2_answerTo_0 rfl (lv_at hl 0 rfl) ?_
  refine lv_iload_n hx hb dX2_answerTo_1 rfl (lv_at hl 1 rfl) ?_
  refine fs_cv C hH (wr := [(q1, fs_ai X 16 ff)]) [0, 2] [1] rfl rfl (by decide) (by decide) (fs_rV (rest := []) (As := [.int x]) (n := 1) (q0 := 0) (ci := 2) C hH (wc := [(h0, .inr (2, [.ref q1, .ref q2])), (q2, fs_ai X 16 gg)]) [0, 2] (by decide) rfl (c_X2_takeIn l X _ h0 q1 q2 gg x ) rfl rfl rfl rfl mw_209 mw_207 mw_208 mw_485 mw_2 (by decide +kernel) ⟨Nat.le_of_ble_eq_true rfl, Nat.le_of_ble_eq_true rfl⟩ rfl hl.1 rfl (Nat.le_of_ble_eq_true rfl) dX2_answerTo_2 ⟨Nat.le_of_ble_eq_true rfl, Nat.le_of_ble_eq_true rfl⟩) (fun u_9 H locs hr_10 hH => ?_)
  have hH : fs_H X A s [(h0, .inr (2, [.ref q1, .ref q2])), (q1, fs_ai X 16 ff), (q2, fs_ai X 16 (fs_shift gg x))] _ _ := hH.sub [1, 0, 2] (by decide) rfl
  refine lv_lconst (v := 0) hx hb dX2_answerTo_5 (by decide) ?_
  refine lv_lstore_n (lv' := [(2, .long 0), (0, .ref h0), (1, .int x)]) hx hb dX2_answerTo_6 rfl hl (by decide) rfl (fun ls hl => ?_)
  refine lv_iconst (v := 0) hx hb dX2_answerTo_7 (by decide) ?_
  refine lv_istore (lv' := [(4, .int 0), (2, .long 0), (0, .ref h0), (1, .int x)]) hx hb dX2_answerTo_8 hl (by decide) rfl (fun ls hl => ?_)
  exact K_10 17 0 (by omega) (by omega) _ _ hH ls (lv_sub hl [2, 3, 1, 0] rfl)
set_option maxHeartbeats 4000000 in
set_option maxRecDepth 100000 in
theorem c_X2_forget (l : Launch) (X : fs_X) (sz : Nat) (h0 : Nat) (q1 : Nat) (q2 : Nat) (gg : Nat → Int32)  : fs_M l X yX2_forget cX2_forget 2 none ({ frames := 0, cells := 0, slots := 0, locals := 0 }) [.ref h0] [(h0, .inr (2, [.ref q1, .ref q2])), (q2, fs_ai X 16 gg)] sz (fs_Qv X (fun (_ : Unit) => True) (fun _ => [(h0, .inr (2, [.ref q1, .ref q2])), (q2, fs_ai X 16 (fs_zero gg 16))])) 0 0 := by
  refine fs_ofW (by decide) (Nat.le_of_ble_eq_true rfl) ?_
  intro p e s m args below meth c A ls C hH hl
  have C : fs_At X A p s m args meth c cX2_forget 2 none RX2 "forget" := C
  have hx := C.1
  have hb := C.2.1
  have hown := C.2.2.2.2.1
  have hts := C.2.2.2.2.2.1
  have hl : lv_has ls 2 [(0, .ref h0)] := hl
  have K_2 : ∀ (n : Nat) (k : Nat), (k ≤ 16) → (16 < k + n) → ∀ (H : Heap) (locs : List Loc), fs_H X A s [(h0, .inr (2, [.ref q1, .ref q2])), (q2, fs_ai X 16 (fs_zero gg k))] H locs → ∀ (ls : Array Slot), lv_has ls 2 [(0, .ref h0), (1, .int (nI k))] → W p l e ({ frames := 0, cells := 0, slots := 0, locals := 0 }) s m args below meth c H locs 0 0 (MQ below (fs_Qv X (fun (_ : Unit) => True) (fun _ => [(h0, .inr (2, [.ref q1, .ref q2])), (q2, fs_ai X 16 (fs_zero gg 16))]) A) args s 0 0 A) (F0 m 2 ls []) := by
    intro n
    induction n with
    | zero => intro k hk hfu; exact absurd hfu (by omega)
    | succ n ih_2 =>
      intro k hk hfu H locs hH ls hl
      refine lv_iload_n hx hb dX2_forget_2 rfl (lv_at hl 1 rfl) ?_
      refine lv_bipush (v := 16) hx hb dX2_forget_3 (by decide) ?_
      refine lv_icmp_ge (tgt := 21) hx hb dX2_forget_5 (by decide) (fun c_1 => ?_) (fun c_1 => ?_)
      · obtain rfl : k = 16 := by have := fs_geT (a := k) (b := 16) (by omega) (by omega) c_1; omega
        exact fs_vret C hH () rfl trivial dX2_forget_21
      · have hlt := fs_geF (a := k) (b := 16) (by omega) (by omega) c_1
        refine lv_aload_n hx hb dX2_forget_8 rfl (lv_at hl 0 rfl) ?_
        refine fs_get C in_2 hH 0 rfl rfl 1 (by decide) mw_26 (v := .ref q2) rfl dX2_forget_9 ?_
        refine lv_iload_n hx hb dX2_forget_12 rfl (lv_at hl 1 rfl) ?_
        refine lv_iconst (v := 0) hx hb dX2_forget_13 (by decide) ?_
        refine fs_iast C hH 1 rfl (k := k) rfl (by omega) (by decide) (ws' := [(h0, .inr (2, [.ref q1, .ref q2])), (q2, fs_ai X 16 (upd (fs_zero gg k) k 0))]) rfl dX2_forget_14 (fun H locs hH => ?_)
        have hH : fs_H X A s [(h0, .inr (2, [.ref q1, .ref q2])), (q2, fs_ai X 16 (fs_zero gg (k + 1)))] _ _ := hH.to (by rw [← fs_zero_s])
        refine lv_iinc (v := (nI (k + 1))) (lv' := [(1, .int (nI (k + 1))), (0, .ref h0)]) hx hb dX2_forget_15 hl (k := 1) rfl (nI_1 k) (by decide) rfl (fun ls hl => ?_)
        refine lv_goto (tgt := 2) hx hb dX2_forget_18 (by decide) ?_
        exact ih_2 (k + 1) (by omega) (by omega) _ _ hH ls (lv_sub hl [1, 0] rfl)
  have hH : fs_H X A s [(h0, .inr (2, [.ref q1, .ref q2])), (q2, fs_ai X 16 gg)] s.heap [] := hH
  refine lv_iconst (v := 0) hx hb dX2_forget_0 (by decide) ?_
  have hH : fs_H X A s [(h0, .inr (2, [.ref q1, .ref q2])), (q2, fs_ai X 16 (fs_zero gg 0))] _ _ := hH.to (by rw [fs_zero_0])
  refine lv_istore_n (lv' := [(1, .int 0), (0, .ref h0)]) hx hb dX2_forget_1 rfl hl (by decide) rfl (fun ls hl => ?_)
  exact K_2 17 0 (by omega) (by omega) _ _ hH ls (lv_sub hl [1, 0] rfl)
set_option maxHeartbeats 4000000 in
set_option maxRecDepth 100000 in
theorem c_X1_init (l : Launch) (X : fs_X) (sz : Nat) (h0 : Nat)  : fs_M l X yX1_init cX1_init 1 none ({ frames := 1, cells := 1, slots := 5, locals := 12 }) [.ref h0] [(h0, .inr (1, [.null, .int 0, .int 0, .int 0, .int 0]))] sz (fs_Qv X (fun (_ : Nat) => True) (fun u => [(h0, .inr (1, [.ref u, .int 0, .int 0, .int 0, .int 0])), (u, fs_ai X 5 (upd (fun _ => 0) 0 16384))])) 1 5 := by
  refine fs_ofW (by decide) (Nat.le_of_ble_eq_true rfl) ?_
  intro p e s m args below meth c A ls C hH hl
  have C : fs_At X A p s m args meth c cX1_init 1 none RX1 "<init>" := C
  have hx := C.1
  have hb := C.2.1
  have hown := C.2.2.2.2.1
  have hts := C.2.2.2.2.2.1
  have hl : lv_has ls 1 [(0, .ref h0)] := hl
  have hH : fs_H X A s [(h0, .inr (1, [.null, .int 0, .int 0, .int 0, .int 0]))] s.heap [] := hH
  refine lv_aload_n hx hb dX1_init_0 rfl (lv_at hl 0 rfl) ?_
  refine W.objInit hx hb hown (hts _ mw_34) (hts _ mw_18) (hts _ mw_19) rfl (by rw [C.2.2.2.1]; exact hl.1) rfl dX1_init_1 (Nat.le_of_ble_eq_true rfl) (Nat.le_of_ble_eq_true rfl) ?_
  refine W.eq (g2 := F0 m 4 ls []) rfl ?_
  refine lv_aload_n hx hb dX1_init_4 rfl (lv_at hl 0 rfl) ?_
  refine lv_iconst (v := 5) hx hb dX1_init_5 (by decide) ?_
  refine fs_newI C hH (N := 5) rfl (by decide) (Nat.le_of_ble_eq_true rfl) (Nat.le_of_ble_eq_true rfl) mw_29 dX1_init_6 (fun q_1 H hH => ?_)
  have hH : fs_H X A s [(h0, .inr (1, [.null, .int 0, .int 0, .int 0, .int 0])), (q_1, fs_ai X 5 (fun _ => 0))] _ _ := hH
  refine fs_putF C in_1 tyX1 tyX1_ok nmX1 hH 0 rfl rfl 0 (by decide) mw_35 rfl rfl rfl rfl (Nat.le_of_ble_eq_true rfl) (ws' := [(h0, .inr (1, [.ref q_1, .int 0, .int 0, .int 0, .int 0])), (q_1, fs_ai X 5 (fun _ => 0))]) rfl dX1_init_8 (fun H locs hH => ?_)
  refine lv_aload_n hx hb dX1_init_11 rfl (lv_at hl 0 rfl) ?_
  refine fs_get C in_1 hH 0 rfl rfl 0 (by decide) mw_35 (v := .ref q_1) rfl dX1_init_12 ?_
  refine lv_iconst (v := 0) hx hb dX1_init_15 (by decide) ?_
  refine lv_sipush (v := 16384) hx hb dX1_init_16 (by decide) ?_
  refine fs_iast C hH 1 rfl (k := 0) rfl (by decide) (by decide) (ws' := [(h0, .inr (1, [.ref q_1, .int 0, .int 0, .int 0, .int 0])), (q_1, fs_ai X 5 (upd (fun _ => 0) 0 16384))]) rfl dX1_init_19 (fun H locs hH => ?_)
  exact fs_vret C hH q_1 rfl trivial dX1_init_20
set_option maxHeartbeats 4000000 in
set_option maxRecDepth 100000 in
theorem c_X1_answerTo (l : Launch) (X : fs_X) (sz : Nat) (h0 : Nat) (q1 : Nat) (cf : Nat → Int32) (x1 : Int32) (x2 : Int32) (y1 : Int32) (y2 : Int32) (x : Int32)  : fs_M l X yX1_answerTo cX1_answerTo 5 (some .int) ({ frames := 2, cells := 0, slots := 0, locals := 38 }) [.ref h0, .int x] [(h0, .inr (1, [.ref q1, .int x1, .int x2, .int y1, .int y2])), (q1, fs_ai X 5 cf)] sz (fs_Qi X (fun r (_ : Unit) => r = fs_st cf x1 x2 y1 y2 x) (fun _ => [(h0, .inr (1, [.ref q1, .int x, .int x1, .int (fs_st cf x1 x2 y1 y2 x), .int y1])), (q1, fs_ai X 5 cf)])) 0 0 := by
  refine fs_ofW (by decide) (Nat.le_of_ble_eq_true rfl) ?_
  intro p e s m args below meth c A ls C hH hl
  have C : fs_At X A p s m args meth c cX1_answerTo 5 (some .int) RX1 "answerTo" := C
  have hx := C.1
  have hb := C.2.1
  have hown := C.2.2.2.2.1
  have hts := C.2.2.2.2.2.1
  have hl : lv_has ls 5 [(0, .ref h0), (1, .int x)] := hl
  have hH : fs_H X A s [(h0, .inr (1, [.ref q1, .int x1, .int x2, .int y1, .int y2])), (q1, fs_ai X 5 cf)] s.heap [] := hH
  refine lv_aload_n hx hb dX1_answerTo_0 rfl (lv_at hl 0 rfl) ?_
  refine fs_get C in_1 hH 0 rfl rfl 0 (by decide) mw_35 (v := .ref q1) rfl dX1_answerTo_1 ?_
  refine lv_iconst (v := 0) hx hb dX1_answerTo_4 (by decide) ?_
  refine fs_iald C hH 1 rfl (k := 0) rfl (by decide) (by decide) dX1_answerTo_5 ?_
  refine lv_i2l hx hb dX1_answerTo_6 rfl ?_
  refine lv_iload_n hx hb dX1_answerTo_7 rfl (lv_at hl 1 rfl) ?_
  refine lv_i2l hx hb dX1_answerTo_8 rfl ?_
  refine lv_lmul hx hb dX1_answerTo_9 ?_
  refine lv_lstore_n (lv' := [(2, .long ((Int32.toInt64 (cf 0)) * (Int32.toInt64 x))), (0, .ref h0), (1, .int x)]) hx hb dX1_answerTo_10 rfl hl (by decide) rfl (fun ls hl => ?_)
  refine lv_lload_n hx hb dX1_answerTo_11 rfl (lv_at hl 0 rfl) ?_
  refine lv_aload_n hx hb dX1_answerTo_12 rfl (lv_at hl 1 rfl) ?_
  refine fs_get C in_1 hH 0 rfl rfl 0 (by decide) mw_35 (v := .ref q1) rfl dX1_answerTo_13 ?_
  refine lv_iconst (v := 1) hx hb dX1_answerTo_16 (by decide) ?_
  refine fs_iald C hH 1 rfl (k := 1) rfl (by decide) (by decide) dX1_answerTo_17 ?_
  refine lv_i2l hx hb dX1_answerTo_18 rfl ?_
  refine lv_aload_n hx hb dX1_answerTo_19 rfl (lv_at hl 1 rfl) ?_
  refine fs_get C in_1 hH 0 rfl rfl 1 (by decide) mw_36 (v := .int x1) rfl dX1_answerTo_20 ?_
  refine lv_i2l hx hb dX1_answerTo_23 rfl ?_
  refine lv_lmul hx hb dX1_answerTo_24 ?_
  refine lv_ladd hx hb dX1_answerTo_25 ?_
  refine lv_lstore_n (lv' := [(2, .long (((Int32.toInt64 (cf 0)) * (Int32.toInt64 x)) + ((Int32.toInt64 (cf 1)) * (Int32.toInt64 x1)))), (0, .ref h0), (1, .int x)]) hx hb dX1_answerTo_26 rfl hl (by decide) rfl (fun ls hl => ?_)
  refine lv_lload_n hx hb dX1_answerTo_27 rfl (lv_at hl 0 rfl) ?_
  refine lv_aload_n hx hb dX1_answerTo_28 rfl (lv_at hl 1 rfl) ?_
  refine fs_get C in_1 hH 0 rfl rfl 0 (by decide) mw_35 (v := .ref q1) rfl dX1_answerTo_29 ?_
  refine lv_iconst (v := 2) hx hb dX1_answerTo_32 (by decide) ?_
  refine fs_iald C hH 1 rfl (k := 2) rfl (by decide) (by decide) dX1_answerTo_33 ?_
  refine lv_i2l hx hb dX1_answerTo_34 rfl ?_
  refine lv_aload_n hx hb dX1_answerTo_35 rfl (lv_at hl 1 rfl) ?_
  refine fs_get C in_1 hH 0 rfl rfl 2 (by decide) mw_37 (v := .int x2) rfl dX1_answerTo_36 ?_
  refine lv_i2l hx hb dX1_answerTo_39 rfl ?_
  refine lv_lmul hx hb dX1_answerTo_40 ?_
  refine lv_ladd hx hb dX1_answerTo_41 ?_
  refine lv_lstore_n (lv' := [(2, .long ((((Int32.toInt64 (cf 0)) * (Int32.toInt64 x)) + ((Int32.toInt64 (cf 1)) * (Int32.toInt64 x1))) + ((Int32.toInt64 (cf 2)) * (Int32.toInt64 x2)))), (0, .ref h0), (1, .int x)]) hx hb dX1_answerTo_42 rfl hl (by decide) rfl (fun ls hl => ?_)
  refine lv_lload_n hx hb dX1_answerTo_43 rfl (lv_at hl 0 rfl) ?_
  refine lv_aload_n hx hb dX1_answerTo_44 rfl (lv_at hl 1 rfl) ?_
  refine fs_get C in_1 hH 0 rfl rfl 0 (by decide) mw_35 (v := .ref q1) rfl dX1_answerTo_45 ?_
  refine lv_iconst (v := 3) hx hb dX1_answerTo_48 (by decide) ?_
  refine fs_iald C hH 1 rfl (k := 3) rfl (by decide) (by decide) dX1_answerTo_49 ?_
  refine lv_i2l hx hb dX1_answerTo_50 rfl ?_
  refine lv_aload_n hx hb dX1_answerTo_51 rfl (lv_at hl 1 rfl) ?_
  refine fs_get C in_1 hH 0 rfl rfl 3 (by decide) mw_38 (v := .int y1) rfl dX1_answerTo_52 ?_
  refine lv_i2l hx hb dX1_answerTo_55 rfl ?_
  refine lv_lmul hx hb dX1_answerTo_56 ?_
  refine lv_lsub hx hb dX1_answerTo_57 ?_
  refine lv_lstore_n (lv' := [(2, .long (((((Int32.toInt64 (cf 0)) * (Int32.toInt64 x)) + ((Int32.toInt64 (cf 1)) * (Int32.toInt64 x1))) + ((Int32.toInt64 (cf 2)) * (Int32.toInt64 x2))) - ((Int32.toInt64 (cf 3)) * (Int32.toInt64 y1)))), (0, .ref h0), (1, .int x)]) hx hb dX1_answerTo_58 rfl hl (by decide) rfl (fun ls hl => ?_)
  refine lv_lload_n hx hb dX1_answerTo_59 rfl (lv_at hl 0 rfl) ?_
  refine lv_aload_n hx hb dX1_answerTo_60 rfl (lv_at hl 1 rfl) ?_
  refine fs_get C in_1 hH 0 rfl rfl 0 (by decide) mw_35 (v := .ref q1) rfl dX1_answerTo_61 ?_
  refine lv_iconst (v := 4) hx hb dX1_answerTo_64 (by decide) ?_
  refine fs_iald C hH 1 rfl (k := 4) rfl (by decide) (by decide) dX1_answerTo_65 ?_
  refine lv_i2l hx hb dX1_answerTo_66 rfl ?_
  refine lv_aload_n hx hb dX1_answerTo_67 rfl (lv_at hl 1 rfl) ?_
  refine fs_get C in_1 hH 0 rfl rfl 4 (by decide) mw_39 (v := .int y2) rfl dX1_answerTo_68 ?_
  refine lv_i2l hx hb dX1_answerTo_71 rfl ?_
  refine lv_lmul hx hb dX1_answerTo_72 ?_
  refine lv_lsub hx hb dX1_answerTo_73 ?_
  refine lv_lstore_n (lv' := [(2, .long ((((((Int32.toInt64 (cf 0)) * (Int32.toInt64 x)) + ((Int32.toInt64 (cf 1)) * (Int32.toInt64 x1))) + ((Int32.toInt64 (cf 2)) * (Int32.toInt64 x2))) - ((Int32.toInt64 (cf 3)) * (Int32.toInt64 y1))) - ((Int32.toInt64 (cf 4)) * (Int32.toInt64 y2)))), (0, .ref h0), (1, .int x)]) hx hb dX1_answerTo_74 rfl hl (by decide) rfl (fun ls hl => ?_)
  refine lv_lload_n hx hb dX1_answerTo_75 rfl (lv_at hl 0 rfl) ?_
  refine lv_bipush (v := 14) hx hb dX1_answerTo_76 (by decide) ?_
  refine fs_cl C hH (wr := [(h0, .inr (1, [.ref q1, .int x1, .int x2, .int y1, .int y2])), (q1, fs_ai X 5 cf)]) [] [0, 1] rfl rfl (by decide) (by decide) (fs_rSN (rest := []) (As := [.long ((((((Int32.toInt64 (cf 0)) * (Int32.toInt64 x)) + ((Int32.toInt64 (cf 1)) * (Int32.toInt64 x1))) + ((Int32.toInt64 (cf 2)) * (Int32.toInt64 x2))) - ((Int32.toInt64 (cf 3)) * (Int32.toInt64 y1))) - ((Int32.toInt64 (cf 4)) * (Int32.toInt64 y2))), .int 14]) (n := 2) C hH (wc := []) [] (by decide) rfl (c_X4_rounded l X _ ((((((Int32.toInt64 (cf 0)) * (Int32.toInt64 x)) + ((Int32.toInt64 (cf 1)) * (Int32.toInt64 x1))) + ((Int32.toInt64 (cf 2)) * (Int32.toInt64 x2))) - ((Int32.toInt64 (cf 3)) * (Int32.toInt64 y1))) - ((Int32.toInt64 (cf 4)) * (Int32.toInt64 y2))) 14 ) rfl rfl mw_81 (List.mem_of_getElem? (i := 12) rfl) mw_80 mw_1 (by decide +kernel) ⟨Nat.le_of_ble_eq_true rfl, Nat.le_of_ble_eq_true rfl⟩ rfl hl.1 rfl (Nat.le_of_ble_eq_true rfl) dX1_answerTo_78 ⟨Nat.le_of_ble_eq_true rfl, Nat.le_of_ble_eq_true rfl⟩) (fun r_1 u_2 H locs hr_3 hH => ?_)
  subst hr_3
  have hH : fs_H X A s [(h0, .inr (1, [.ref q1, .int x1, .int x2, .int y1, .int y2])), (q1, fs_ai X 5 cf)] _ _ := hH
  refine fs_ci C hH (wr := [(h0, .inr (1, [.ref q1, .int x1, .int x2, .int y1, .int y2])), (q1, fs_ai X 5 cf)]) [] [0, 1] rfl rfl (by decide) (by decide) (fs_rSN (rest := []) (As := [.long (fs_rd ((((((Int32.toInt64 (cf 0)) * (Int32.toInt64 x)) + ((Int32.toInt64 (cf 1)) * (Int32.toInt64 x1))) + ((Int32.toInt64 (cf 2)) * (Int32.toInt64 x2))) - ((Int32.toInt64 (cf 3)) * (Int32.toInt64 y1))) - ((Int32.toInt64 (cf 4)) * (Int32.toInt64 y2))) 14)]) (n := 1) C hH (wc := []) [] (by decide) rfl (c_X4_satShort l X _ (fs_rd ((((((Int32.toInt64 (cf 0)) * (Int32.toInt64 x)) + ((Int32.toInt64 (cf 1)) * (Int32.toInt64 x1))) + ((Int32.toInt64 (cf 2)) * (Int32.toInt64 x2))) - ((Int32.toInt64 (cf 3)) * (Int32.toInt64 y1))) - ((Int32.toInt64 (cf 4)) * (Int32.toInt64 y2))) 14) ) rfl rfl mw_84 (List.mem_of_getElem? (i := 13) rfl) mw_83 mw_1 (by decide +kernel) ⟨Nat.le_of_ble_eq_true rfl, Nat.le_of_ble_eq_true rfl⟩ rfl hl.1 rfl (Nat.le_of_ble_eq_true rfl) dX1_answerTo_81 ⟨Nat.le_of_ble_eq_true rfl, Nat.le_of_ble_eq_true rfl⟩) (fun r_4 u_5 H locs hr_6 hH => ?_)
  subst hr_6
  have hH : fs_H X A s [(h0, .inr (1, [.ref q1, .int x1, .int x2, .int y1, .int y2])), (q1, fs_ai X 5 cf)] _ _ := hH
  refine fs_topi (y := fs_st cf x1 x2 y1 y2 x) rfl ?_
  refine lv_istore (lv' := [(4, .int (fs_st cf x1 x2 y1 y2 x)), (2, .long ((((((Int32.toInt64 (cf 0)) * (Int32.toInt64 x)) + ((Int32.toInt64 (cf 1)) * (Int32.toInt64 x1))) + ((Int32.toInt64 (cf 2)) * (Int32.toInt64 x2))) - ((Int32.toInt64 (cf 3)) * (Int32.toInt64 y1))) - ((Int32.toInt64 (cf 4)) * (Int32.toInt64 y2)))), (0, .ref h0), (1, .int x)]) hx hb dX1_answerTo_84 hl (by decide) rfl (fun ls hl => ?_)
  refine lv_aload_n hx hb dX1_answerTo_86 rfl (lv_at hl 2 rfl) ?_
  refine lv_aload_n hx hb dX1_answerTo_87 rfl (lv_at hl 2 rfl) ?_
  refine fs_get C in_1 hH 0 rfl rfl 1 (by decide) mw_36 (v := .int x1) rfl dX1_answerTo_88 ?_
  refine fs_put C in_1 tyX1 tyX1_ok nmX1 hH 0 rfl rfl 2 (by decide) mw_37 rfl rfl rfl (Nat.le_of_ble_eq_true rfl) (ws' := [(h0, .inr (1, [.ref q1, .int x1, .int x1, .int y1, .int y2])), (q1, fs_ai X 5 cf)]) rfl dX1_answerTo_91 (fun H locs hH => ?_)
  refine lv_aload_n hx hb dX1_answerTo_94 rfl (lv_at hl 2 rfl) ?_
  refine lv_iload_n hx hb dX1_answerTo_95 rfl (lv_at hl 3 rfl) ?_
  refine fs_put C in_1 tyX1 tyX1_ok nmX1 hH 0 rfl rfl 1 (by decide) mw_36 rfl rfl rfl (Nat.le_of_ble_eq_true rfl) (ws' := [(h0, .inr (1, [.ref q1, .int x, .int x1, .int y1, .int y2])), (q1, fs_ai X 5 cf)]) rfl dX1_answerTo_96 (fun H locs hH => ?_)
  refine lv_aload_n hx hb dX1_answerTo_99 rfl (lv_at hl 2 rfl) ?_
  refine lv_aload_n hx hb dX1_answerTo_100 rfl (lv_at hl 2 rfl) ?_
  refine fs_get C in_1 hH 0 rfl rfl 3 (by decide) mw_38 (v := .int y1) rfl dX1_answerTo_101 ?_
  refine fs_put C in_1 tyX1 tyX1_ok nmX1 hH 0 rfl rfl 4 (by decide) mw_39 rfl rfl rfl (Nat.le_of_ble_eq_true rfl) (ws' := [(h0, .inr (1, [.ref q1, .int x, .int x1, .int y1, .int y1])), (q1, fs_ai X 5 cf)]) rfl dX1_answerTo_104 (fun H locs hH => ?_)
  refine lv_aload_n hx hb dX1_answerTo_107 rfl (lv_at hl 2 rfl) ?_
  refine lv_iload hx hb dX1_answerTo_108 (lv_at hl 0 rfl) ?_
  refine fs_put C in_1 tyX1 tyX1_ok nmX1 hH 0 rfl rfl 3 (by decide) mw_38 rfl rfl rfl (Nat.le_of_ble_eq_true rfl) (ws' := [(h0, .inr (1, [.ref q1, .int x, .int x1, .int (fs_st cf x1 x2 y1 y2 x), .int y1])), (q1, fs_ai X 5 cf)]) rfl dX1_answerTo_110 (fun H locs hH => ?_)
  refine lv_iload hx hb dX1_answerTo_113 (lv_at hl 0 rfl) ?_
  exact fs_iret C hH () rfl rfl dX1_answerTo_115
set_option maxHeartbeats 4000000 in
set_option maxRecDepth 100000 in
theorem c_X1_forget (l : Launch) (X : fs_X) (sz : Nat) (h0 : Nat) (q1 : Nat) (x1 : Int32) (x2 : Int32) (y1 : Int32) (y2 : Int32)  : fs_M l X yX1_forget cX1_forget 1 none ({ frames := 0, cells := 0, slots := 0, locals := 0 }) [.ref h0] [(h0, .inr (1, [.ref q1, .int x1, .int x2, .int y1, .int y2]))] sz (fs_Qv X (fun (_ : Unit) => True) (fun _ => [(h0, .inr (1, [.ref q1, .int 0, .int 0, .int 0, .int 0]))])) 0 0 := by
  refine fs_ofW (by decide) (Nat.le_of_ble_eq_true rfl) ?_
  intro p e s m args below meth c A ls C hH hl
  have C : fs_At X A p s m args meth c cX1_forget 1 none RX1 "forget" := C
  have hx := C.1
  have hb := C.2.1
  have hown := C.2.2.2.2.1
  have hts := C.2.2.2.2.2.1
  have hl : lv_has ls 1 [(0, .ref h0)] := hl
  have hH : fs_H X A s [(h0, .inr (1, [.ref q1, .int x1, .int x2, .int y1, .int y2]))] s.heap [] := hH
  refine lv_aload_n hx hb dX1_forget_0 rfl (lv_at hl 0 rfl) ?_
  refine lv_iconst (v := 0) hx hb dX1_forget_1 (by decide) ?_
  refine fs_put C in_1 tyX1 tyX1_ok nmX1 hH 0 rfl rfl 1 (by decide) mw_36 rfl rfl rfl (Nat.le_of_ble_eq_true rfl) (ws' := [(h0, .inr (1, [.ref q1, .int 0, .int x2, .int y1, .int y2]))]) rfl dX1_forget_2 (fun H locs hH => ?_)
  refine lv_aload_n hx hb dX1_forget_5 rfl (lv_at hl 0 rfl) ?_
  refine lv_iconst (v := 0) hx hb dX1_forget_6 (by decide) ?_
  refine fs_put C in_1 tyX1 tyX1_ok nmX1 hH 0 rfl rfl 2 (by decide) mw_37 rfl rfl rfl (Nat.le_of_ble_eq_true rfl) (ws' := [(h0, .inr (1, [.ref q1, .int 0, .int 0, .int y1, .int y2]))]) rfl dX1_forget_7 (fun H locs hH => ?_)
  refine lv_aload_n hx hb dX1_forget_10 rfl (lv_at hl 0 rfl) ?_
  refine lv_iconst (v := 0) hx hb dX1_forget_11 (by decide) ?_
  refine fs_put C in_1 tyX1 tyX1_ok nmX1 hH 0 rfl rfl 3 (by decide) mw_38 rfl rfl rfl (Nat.le_of_ble_eq_true rfl) (ws' := [(h0, .inr (1, [.ref q1, .int 0, .int 0, .int 0, .int y2]))]) rfl dX1_forget_12 (fun H locs hH => ?_)
  refine lv_aload_n hx hb dX1_forget_15 rfl (lv_at hl 0 rfl) ?_
  refine lv_iconst (v := 0) hx hb dX1_forget_16 (by decide) ?_
  refine fs_put C in_1 tyX1 tyX1_ok nmX1 hH 0 rfl rfl 4 (by decide) mw_39 rfl rfl rfl (Nat.le_of_ble_eq_true rfl) (ws' := [(h0, .inr (1, [.ref q1, .int 0, .int 0, .int 0, .int 0]))]) rfl dX1_forget_17 (fun H locs hH => ?_)
  exact fs_vret C hH () rfl trivial dX1_forget_20
set_option maxHeartbeats 4000000 in
set_option maxRecDepth 100000 in
theorem c_X3_init (l : Launch) (X : fs_X) (sz : Nat) (h0 : Nat) (t : fs_T)  : fs_M l X yX3_init cX3_init 1 none ({ frames := 1, cells := 0, slots := 0, locals := 12 }) [.ref h0] [(h0, .inr (3, [.long t.1, .long t.2.1, .long t.2.2]))] sz (fs_Qv X (fun (_ : Unit) => True) (fun _ => [(h0, .inr (3, [.long (t).1, .long (t).2.1, .long (t).2.2]))])) 0 0 := by
  refine fs_ofW (by decide) (Nat.le_of_ble_eq_true rfl) ?_
  intro p e s m args below meth c A ls C hH hl
  have C : fs_At X A p s m args meth c cX3_init 1 none RX3 "<init>" := C
  have hx := C.1
  have hb := C.2.1
  have hown := C.2.2.2.2.1
  have hts := C.2.2.2.2.2.1
  have hl : lv_has ls 1 [(0, .ref h0)] := hl
  have hH : fs_H X A s [(h0, .inr (3, [.long t.1, .long t.2.1, .long t.2.2]))] s.heap [] := hH
  refine lv_aload_n hx hb dX3_init_0 rfl (lv_at hl 0 rfl) ?_
  refine W.objInit hx hb hown (hts _ mw_60) (hts _ mw_18) (hts _ mw_19) rfl (by rw [C.2.2.2.1]; exact hl.1) rfl dX3_init_1 (Nat.le_of_ble_eq_true rfl) (Nat.le_of_ble_eq_true rfl) ?_
  refine W.eq (g2 := F0 m 4 ls []) rfl ?_
  exact fs_vret C hH () rfl trivial dX3_init_4
set_option maxHeartbeats 4000000 in
set_option maxRecDepth 100000 in
theorem c_X3_turn (l : Launch) (X : fs_X) (sz : Nat) (h0 : Nat) (t : fs_T) (k : Nat) (up : Int32) (hk : k < 30) : fs_M l X yX3_turn cX3_turn 7 none ({ frames := 0, cells := 0, slots := 0, locals := 0 }) [.ref h0, .int (nI k), .int up] [(h0, .inr (3, [.long t.1, .long t.2.1, .long t.2.2]))] sz (fs_Qv X (fun (_ : Unit) => True) (fun _ => [(h0, .inr (3, [.long (fs_tn k up t).1, .long (fs_tn k up t).2.1, .long (fs_tn k up t).2.2]))])) 0 0 := by
  refine fs_ofW (by decide) (Nat.le_of_ble_eq_true rfl) ?_
  intro p e s m args below meth c A ls C hH hl
  have C : fs_At X A p s m args meth c cX3_turn 7 none RX3 "turn" := C
  have hx := C.1
  have hb := C.2.1
  have hown := C.2.2.2.2.1
  have hts := C.2.2.2.2.2.1
  have hl : lv_has ls 7 [(0, .ref h0), (1, .int (nI k)), (2, .int up)] := hl
  have hH : fs_H X A s [(h0, .inr (3, [.long t.1, .long t.2.1, .long t.2.2]))] s.heap [] := hH
  refine lv_aload_n hx hb dX3_turn_0 rfl (lv_at hl 0 rfl) ?_
  refine fs_get C in_3 hH 0 rfl rfl 0 (by decide) mw_61 (v := .long t.1) rfl dX3_turn_1 ?_
  refine lv_iload_n hx hb dX3_turn_4 rfl (lv_at hl 1 rfl) ?_
  refine lv_lshr hx hb dX3_turn_5 rfl ?_
  refine lv_lstore_n (lv' := [(3, .long (t.1 >>> (Int32.toInt64 (nI k) &&& 63))), (0, .ref h0), (1, .int (nI k)), (2, .int up)]) hx hb dX3_turn_6 rfl hl (by decide) rfl (fun ls hl => ?_)
  refine lv_aload_n hx hb dX3_turn_7 rfl (lv_at hl 1 rfl) ?_
  refine fs_get C in_3 hH 0 rfl rfl 1 (by decide) mw_62 (v := .long t.2.1) rfl dX3_turn_8 ?_
  refine lv_iload_n hx hb dX3_turn_11 rfl (lv_at hl 2 rfl) ?_
  refine lv_lshr hx hb dX3_turn_12 rfl ?_
  refine lv_lstore (lv' := [(5, .long (t.2.1 >>> (Int32.toInt64 (nI k) &&& 63))), (3, .long (t.1 >>> (Int32.toInt64 (nI k) &&& 63))), (0, .ref h0), (1, .int (nI k)), (2, .int up)]) hx hb dX3_turn_13 hl (by decide) rfl (fun ls hl => ?_)
  refine lv_iload_n hx hb dX3_turn_15 rfl (lv_at hl 4 rfl) ?_
  refine lv_if_eq (tgt := 58) hx hb dX3_turn_16 (by decide) (fun c_1 => ?_) (fun c_1 => ?_)
  · refine lv_aload_n hx hb dX3_turn_58 rfl (lv_at hl 2 rfl) ?_
    refine lv_dup hx hb dX3_turn_59 rfl ?_
    refine fs_get C in_3 hH 0 rfl rfl 0 (by decide) mw_61 (v := .long t.1) rfl dX3_turn_60 ?_
    refine lv_lload hx hb dX3_turn_63 (lv_at hl 0 rfl) ?_
    refine lv_ladd hx hb dX3_turn_65 ?_
    refine fs_put C in_3 tyX3 tyX3_ok nmX3 hH 0 rfl rfl 0 (by decide) mw_61 rfl rfl rfl (Nat.le_of_ble_eq_true rfl) (ws' := [(h0, .inr (3, [.long (t.1 + (t.2.1 >>> (Int32.toInt64 (nI k) &&& 63))), .long t.2.1, .long t.2.2]))]) rfl dX3_turn_66 (fun H locs hH => ?_)
    refine lv_aload_n hx hb dX3_turn_69 rfl (lv_at hl 2 rfl) ?_
    refine lv_dup hx hb dX3_turn_70 rfl ?_
    refine fs_get C in_3 hH 0 rfl rfl 1 (by decide) mw_62 (v := .long t.2.1) rfl dX3_turn_71 ?_
    refine lv_lload_n hx hb dX3_turn_74 rfl (lv_at hl 1 rfl) ?_
    refine lv_lsub hx hb dX3_turn_75 ?_
    refine fs_put C in_3 tyX3 tyX3_ok nmX3 hH 0 rfl rfl 1 (by decide) mw_62 rfl rfl rfl (Nat.le_of_ble_eq_true rfl) (ws' := [(h0, .inr (3, [.long (t.1 + (t.2.1 >>> (Int32.toInt64 (nI k) &&& 63))), .long (t.2.1 - (t.1 >>> (Int32.toInt64 (nI k) &&& 63))), .long t.2.2]))]) rfl dX3_turn_76 (fun H locs hH => ?_)
    refine lv_aload_n hx hb dX3_turn_79 rfl (lv_at hl 2 rfl) ?_
    refine lv_dup hx hb dX3_turn_80 rfl ?_
    refine fs_get C in_3 hH 0 rfl rfl 2 (by decide) mw_63 (v := .long t.2.2) rfl dX3_turn_81 ?_
    refine fs_getA C hH mw_115 dX3_turn_84 ?_
    refine lv_iload_n hx hb dX3_turn_87 rfl (lv_at hl 3 rfl) ?_
    refine fs_tabA C hH (k := k) rfl (by omega) dX3_turn_88 ?_
    refine lv_i2l hx hb dX3_turn_89 rfl ?_
    refine lv_ladd hx hb dX3_turn_90 ?_
    refine fs_put C in_3 tyX3 tyX3_ok nmX3 hH 0 rfl rfl 2 (by decide) mw_63 rfl rfl rfl (Nat.le_of_ble_eq_true rfl) (ws' := [(h0, .inr (3, [.long (t.1 + (t.2.1 >>> (Int32.toInt64 (nI k) &&& 63))), .long (t.2.1 - (t.1 >>> (Int32.toInt64 (nI k) &&& 63))), .long (t.2.2 + (Int32.toInt64 (fs_arc k)))]))]) rfl dX3_turn_91 (fun H locs hH => ?_)
    have hH : fs_H X A s [(h0, .inr (3, [.long ((fs_tn k up t).1), .long ((fs_tn k up t).2.1), .long ((fs_tn k up t).2.2)]))] _ _ := hH.to (by rw [fs_tn, if_pos c_1])
    exact fs_vret C hH () rfl trivial dX3_turn_94
  · refine lv_aload_n hx hb dX3_turn_19 rfl (lv_at hl 2 rfl) ?_
    refine lv_dup hx hb dX3_turn_20 rfl ?_
    refine fs_get C in_3 hH 0 rfl rfl 0 (by decide) mw_61 (v := .long t.1) rfl dX3_turn_21 ?_
    refine lv_lload hx hb dX3_turn_24 (lv_at hl 0 rfl) ?_
    refine lv_lsub hx hb dX3_turn_26 ?_
    refine fs_put C in_3 tyX3 tyX3_ok nmX3 hH 0 rfl rfl 0 (by decide) mw_61 rfl rfl rfl (Nat.le_of_ble_eq_true rfl) (ws' := [(h0, .inr (3, [.long (t.1 - (t.2.1 >>> (Int32.toInt64 (nI k) &&& 63))), .long t.2.1, .long t.2.2]))]) rfl dX3_turn_27 (fun H locs hH => ?_)
    refine lv_aload_n hx hb dX3_turn_30 rfl (lv_at hl 2 rfl) ?_
    refine lv_dup hx hb dX3_turn_31 rfl ?_
    refine fs_get C in_3 hH 0 rfl rfl 1 (by decide) mw_62 (v := .long t.2.1) rfl dX3_turn_32 ?_
    refine lv_lload_n hx hb dX3_turn_35 rfl (lv_at hl 1 rfl) ?_
    refine lv_ladd hx hb dX3_turn_36 ?_
    refine fs_put C in_3 tyX3 tyX3_ok nmX3 hH 0 rfl rfl 1 (by decide) mw_62 rfl rfl rfl (Nat.le_of_ble_eq_true rfl) (ws' := [(h0, .inr (3, [.long (t.1 - (t.2.1 >>> (Int32.toInt64 (nI k) &&& 63))), .long (t.2.1 + (t.1 >>> (Int32.toInt64 (nI k) &&& 63))), .long t.2.2]))]) rfl dX3_turn_37 (fun H locs hH => ?_)
    refine lv_aload_n hx hb dX3_turn_40 rfl (lv_at hl 2 rfl) ?_
    refine lv_dup hx hb dX3_turn_41 rfl ?_
    refine fs_get C in_3 hH 0 rfl rfl 2 (by decide) mw_63 (v := .long t.2.2) rfl dX3_turn_42 ?_
    refine fs_getA C hH mw_115 dX3_turn_45 ?_
    refine lv_iload_n hx hb dX3_turn_48 rfl (lv_at hl 3 rfl) ?_
    refine fs_tabA C hH (k := k) rfl (by omega) dX3_turn_49 ?_
    refine lv_i2l hx hb dX3_turn_50 rfl ?_
    refine lv_lsub hx hb dX3_turn_51 ?_
    refine fs_put C in_3 tyX3 tyX3_ok nmX3 hH 0 rfl rfl 2 (by decide) mw_63 rfl rfl rfl (Nat.le_of_ble_eq_true rfl) (ws' := [(h0, .inr (3, [.long (t.1 - (t.2.1 >>> (Int32.toInt64 (nI k) &&& 63))), .long (t.2.1 + (t.1 >>> (Int32.toInt64 (nI k) &&& 63))), .long (t.2.2 - (Int32.toInt64 (fs_arc k)))]))]) rfl dX3_turn_52 (fun H locs hH => ?_)
    refine lv_goto (tgt := 94) hx hb dX3_turn_55 (by decide) ?_
    have hH : fs_H X A s [(h0, .inr (3, [.long ((fs_tn k up t).1), .long ((fs_tn k up t).2.1), .long ((fs_tn k up t).2.2)]))] _ _ := hH.to (by rw [fs_tn, if_neg c_1])
    exact fs_vret C hH () rfl trivial dX3_turn_94
set_option maxHeartbeats 4000000 in
set_option maxRecDepth 100000 in
theorem c_X3_turnByAngle (l : Launch) (X : fs_X) (sz : Nat) (h0 : Nat) (t : fs_T) (a : Int64)  : fs_M l X yX3_turnByAngle cX3_turnByAngle 5 none ({ frames := 1, cells := 0, slots := 0, locals := 26 }) [.ref h0, .long a] [(h0, .inr (3, [.long t.1, .long t.2.1, .long t.2.2]))] sz (fs_Qv X (fun (_ : Unit) => True) (fun _ => [(h0, .inr (3, [.long (fs_wave a).1, .long (fs_wave a).2.1, .long (fs_wave a).2.2]))])) 0 0 := by
  refine fs_ofW (by decide) (Nat.le_of_ble_eq_true rfl) ?_
  intro p e s m args below meth c A ls C hH hl
  have C : fs_At X A p s m args meth c cX3_turnByAngle 5 none RX3 "turnByAngle" := C
  have hx := C.1
  have hb := C.2.1
  have hown := C.2.2.2.2.1
  have hts := C.2.2.2.2.2.1
  have hl : lv_has ls 5 [(0, .ref h0), (1, .long a)] := hl
  have K_64 : ∀ (n : Nat) (fr : Int32) (z0 : Int64) (k : Nat), (k ≤ 30) → (fs_wave a = if fr = 0 then fs_w z0 30 else fs_neg (fs_w z0 30)) → (30 < k + n) → ∀ (H : Heap) (locs : List Loc), fs_H X A s [(h0, .inr (3, [.long ((fs_w z0 k).1), .long ((fs_w z0 k).2.1), .long ((fs_w z0 k).2.2)]))] H locs → ∀ (ls : Array Slot), lv_has ls 5 [(0, .ref h0), (1, .long a), (3, .int fr), (4, .int (nI k))] → W p l e ({ frames := 1, cells := 0, slots := 0, locals := 26 }) s m args below meth c H locs 0 0 (MQ below (fs_Qv X (fun (_ : Unit) => True) (fun _ => [(h0, .inr (3, [.long (fs_wave a).1, .long (fs_wave a).2.1, .long (fs_wave a).2.2]))]) A) args s 0 0 A) (F0 m 64 ls []) := by
    intro n
    induction n with
    | zero => intro fr z0 k hk hq hfu; exact absurd hfu (by omega)
    | succ n ih_64 =>
      intro fr z0 k hk hq hfu H locs hH ls hl
      refine lv_iload hx hb dX3_turnByAngle_64 (lv_at hl 3 rfl) ?_
      refine lv_bipush (v := 30) hx hb dX3_turnByAngle_66 (by decide) ?_
      refine lv_icmp_ge (tgt := 97) hx hb dX3_turnByAngle_68 (by decide) (fun c_1 => ?_) (fun c_1 => ?_)
      · obtain rfl : k = 30 := by have := fs_geT (a := k) (b := 30) (by omega) (by omega) c_1; omega
        refine lv_iload_n hx hb dX3_turnByAngle_97 rfl (lv_at hl 2 rfl) ?_
        refine lv_if_eq (tgt := 119) hx hb dX3_turnByAngle_98 (by decide) (fun c_2 => ?_) (fun c_2 => ?_)
        · have hH : fs_H X A s [(h0, .inr (3, [.long ((fs_wave a).1), .long ((fs_wave a).2.1), .long ((fs_wave a).2.2)]))] _ _ := hH.to (by rw [hq, if_pos c_2])
          exact fs_vret C hH () rfl trivial dX3_turnByAngle_119
        · refine lv_aload_n hx hb dX3_turnByAngle_101 rfl (lv_at hl 0 rfl) ?_
          refine lv_aload_n hx hb dX3_turnByAngle_102 rfl (lv_at hl 0 rfl) ?_
          refine fs_get C in_3 hH 0 rfl rfl 0 (by decide) mw_61 (v := .long ((fs_w z0 30).1)) rfl dX3_turnByAngle_103 ?_
          refine lv_lneg hx hb dX3_turnByAngle_106 ?_
          refine fs_put C in_3 tyX3 tyX3_ok nmX3 hH 0 rfl rfl 0 (by decide) mw_61 rfl rfl rfl (Nat.le_of_ble_eq_true rfl) (ws' := [(h0, .inr (3, [.long (-((fs_w z0 30).1)), .long ((fs_w z0 30).2.1), .long ((fs_w z0 30).2.2)]))]) rfl dX3_turnByAngle_107 (fun H locs hH => ?_)
          refine lv_aload_n hx hb dX3_turnByAngle_110 rfl (lv_at hl 0 rfl) ?_
          refine lv_aload_n hx hb dX3_turnByAngle_111 rfl (lv_at hl 0 rfl) ?_
          refine fs_get C in_3 hH 0 rfl rfl 1 (by decide) mw_62 (v := .long ((fs_w z0 30).2.1)) rfl dX3_turnByAngle_112 ?_
          refine lv_lneg hx hb dX3_turnByAngle_115 ?_
          refine fs_put C in_3 tyX3 tyX3_ok nmX3 hH 0 rfl rfl 1 (by decide) mw_62 rfl rfl rfl (Nat.le_of_ble_eq_true rfl) (ws' := [(h0, .inr (3, [.long (-((fs_w z0 30).1)), .long (-((fs_w z0 30).2.1)), .long ((fs_w z0 30).2.2)]))]) rfl dX3_turnByAngle_116 (fun H locs hH => ?_)
          have hH : fs_H X A s [(h0, .inr (3, [.long ((fs_wave a).1), .long ((fs_wave a).2.1), .long ((fs_wave a).2.2)]))] _ _ := hH.to (by rw [hq, if_neg c_2, fs_neg])
          exact fs_vret C hH () rfl trivial dX3_turnByAngle_119
      · have hlt := fs_geF (a := k) (b := 30) (by omega) (by omega) c_1
        refine lv_aload_n hx hb dX3_turnByAngle_71 rfl (lv_at hl 0 rfl) ?_
        refine lv_iload hx hb dX3_turnByAngle_72 (lv_at hl 3 rfl) ?_
        refine lv_aload_n hx hb dX3_turnByAngle_74 rfl (lv_at hl 0 rfl) ?_
        refine fs_get C in_3 hH 0 rfl rfl 2 (by decide) mw_63 (v := .long ((fs_w z0 k).2.2)) rfl dX3_turnByAngle_75 ?_
        refine lv_lconst (v := 0) hx hb dX3_turnByAngle_78 (by decide) ?_
        refine fs_llt (tgt := 87) hx hb dX3_turnByAngle_79 dX3_turnByAngle_80 (by decide) (fun c_3 => ?_) (fun c_3 => ?_)
        · refine lv_iconst (v := 0) hx hb dX3_turnByAngle_87 (by decide) ?_
          refine fs_cv C hH (wr := []) [0] [] rfl rfl (by decide) (by decide) (fs_rV (rest := []) (As := [.int (nI k), .int 0]) (n := 2) (q0 := 0) (ci := 3) C hH (wc := [(h0, .inr (3, [.long ((fs_w z0 k).1), .long ((fs_w z0 k).2.1), .long ((fs_w z0 k).2.2)]))]) [0] (by decide) rfl (c_X3_turn l X _ h0 (fs_w z0 k) k 0 (by omega)) rfl rfl rfl rfl mw_114 mw_112 mw_113 mw_483 mw_5 (by decide +kernel) ⟨Nat.le_of_ble_eq_true rfl, Nat.le_of_ble_eq_true rfl⟩ rfl hl.1 rfl (Nat.le_of_ble_eq_true rfl) dX3_turnByAngle_88 ⟨Nat.le_of_ble_eq_true rfl, Nat.le_of_ble_eq_true rfl⟩) (fun u_5 H locs hr_6 hH => ?_)
          have hH : fs_H X A s [(h0, .inr (3, [.long ((fs_tn k 0 (fs_w z0 k)).1), .long ((fs_tn k 0 (fs_w z0 k)).2.1), .long ((fs_tn k 0 (fs_w z0 k)).2.2)]))] _ _ := hH
          have hH : fs_H X A s [(h0, .inr (3, [.long ((fs_w z0 (k + 1)).1), .long ((fs_w z0 (k + 1)).2.1), .long ((fs_w z0 (k + 1)).2.2)]))] _ _ := hH.to (by rw [fs_wS0 c_3])
          refine lv_iinc (v := (nI (k + 1))) (lv' := [(4, .int (nI (k + 1))), (0, .ref h0), (1, .long a), (3, .int fr)]) hx hb dX3_turnByAngle_91 hl (k := 3) rfl (nI_1 k) (by decide) rfl (fun ls hl => ?_)
          refine lv_goto (tgt := 64) hx hb dX3_turnByAngle_94 (by decide) ?_
          exact ih_64 fr z0 (k + 1) (by omega) hq (by omega) _ _ hH ls (lv_sub hl [1, 2, 3, 0] rfl)
        · refine lv_iconst (v := 1) hx hb dX3_turnByAngle_83 (by decide) ?_
          refine lv_goto (tgt := 88) hx hb dX3_turnByAngle_84 (by decide) ?_
          refine fs_cv C hH (wr := []) [0] [] rfl rfl (by decide) (by decide) (fs_rV (rest := []) (As := [.int (nI k), .int 1]) (n := 2) (q0 := 0) (ci := 3) C hH (wc := [(h0, .inr (3, [.long ((fs_w z0 k).1), .long ((fs_w z0 k).2.1), .long ((fs_w z0 k).2.2)]))]) [0] (by decide) rfl (c_X3_turn l X _ h0 (fs_w z0 k) k 1 (by omega)) rfl rfl rfl rfl mw_114 mw_112 mw_113 mw_483 mw_5 (by decide +kernel) ⟨Nat.le_of_ble_eq_true rfl, Nat.le_of_ble_eq_true rfl⟩ rfl hl.1 rfl (Nat.le_of_ble_eq_true rfl) dX3_turnByAngle_88 ⟨Nat.le_of_ble_eq_true rfl, Nat.le_of_ble_eq_true rfl⟩) (fun u_8 H locs hr_9 hH => ?_)
          have hH : fs_H X A s [(h0, .inr (3, [.long ((fs_tn k 1 (fs_w z0 k)).1), .long ((fs_tn k 1 (fs_w z0 k)).2.1), .long ((fs_tn k 1 (fs_w z0 k)).2.2)]))] _ _ := hH
          have hH : fs_H X A s [(h0, .inr (3, [.long ((fs_w z0 (k + 1)).1), .long ((fs_w z0 (k + 1)).2.1), .long ((fs_w z0 (k + 1)).2.2)]))] _ _ := hH.to (by rw [fs_wS1 c_3])
          refine lv_iinc (v := (nI (k + 1))) (lv' := [(4, .int (nI (k + 1))), (0, .ref h0), (1, .long a), (3, .int fr)]) hx hb dX3_turnByAngle_91 hl (k := 3) rfl (nI_1 k) (by decide) rfl (fun ls hl => ?_)
          refine lv_goto (tgt := 64) hx hb dX3_turnByAngle_94 (by decide) ?_
          exact ih_64 fr z0 (k + 1) (by omega) hq (by omega) _ _ hH ls (lv_sub hl [1, 2, 3, 0] rfl)
  have hH : fs_H X A s [(h0, .inr (3, [.long t.1, .long t.2.1, .long t.2.2]))] s.heap [] := hH
  refine lv_lload_n hx hb dX3_turnByAngle_0 rfl (lv_at hl 1 rfl) ?_
  refine fs_cl C hH (wr := [(h0, .inr (3, [.long t.1, .long t.2.1, .long t.2.2]))]) [] [0] rfl rfl (by decide) (by decide) (fs_rSN (rest := []) (As := [.long a]) (n := 1) C hH (wc := []) [] (by decide) rfl (c_X4_sizeOf l X _ a ) rfl rfl mw_108 (List.mem_of_getElem? (i := 7) rfl) mw_107 mw_1 (by decide +kernel) ⟨Nat.le_of_ble_eq_true rfl, Nat.le_of_ble_eq_true rfl⟩ rfl hl.1 rfl (Nat.le_of_ble_eq_true rfl) dX3_turnByAngle_1 ⟨Nat.le_of_ble_eq_true rfl, Nat.le_of_ble_eq_true rfl⟩) (fun r_10 u_11 H locs hr_12 hH => ?_)
  subst hr_12
  have hH : fs_H X A s [(h0, .inr (3, [.long t.1, .long t.2.1, .long t.2.2]))] _ _ := hH
  refine lv_ldc2 (v := 1073741824) hx hb hown (hts _ mw_109) dX3_turnByAngle_4 ?_
  refine fs_lle (tgt := 15) hx hb dX3_turnByAngle_7 dX3_turnByAngle_8 (by decide) (fun c_13 => ?_) (fun c_13 => ?_)
  · refine lv_iconst (v := 0) hx hb dX3_turnByAngle_15 (by decide) ?_
    refine lv_istore_n (lv' := [(3, .int 0), (0, .ref h0), (1, .long a)]) hx hb dX3_turnByAngle_16 rfl hl (by decide) rfl (fun ls hl => ?_)
    refine lv_aload_n hx hb dX3_turnByAngle_17 rfl (lv_at hl 1 rfl) ?_
    refine lv_ldc2 (v := 652032874) hx hb hown (hts _ mw_110) dX3_turnByAngle_18 ?_
    refine fs_put C in_3 tyX3 tyX3_ok nmX3 hH 0 rfl rfl 0 (by decide) mw_61 rfl rfl rfl (Nat.le_of_ble_eq_true rfl) (ws' := [(h0, .inr (3, [.long 652032874, .long t.2.1, .long t.2.2]))]) rfl dX3_turnByAngle_21 (fun H locs hH => ?_)
    refine lv_aload_n hx hb dX3_turnByAngle_24 rfl (lv_at hl 1 rfl) ?_
    refine lv_lconst (v := 0) hx hb dX3_turnByAngle_25 (by decide) ?_
    refine fs_put C in_3 tyX3 tyX3_ok nmX3 hH 0 rfl rfl 1 (by decide) mw_62 rfl rfl rfl (Nat.le_of_ble_eq_true rfl) (ws' := [(h0, .inr (3, [.long 652032874, .long 0, .long t.2.2]))]) rfl dX3_turnByAngle_26 (fun H locs hH => ?_)
    refine lv_aload_n hx hb dX3_turnByAngle_29 rfl (lv_at hl 1 rfl) ?_
    refine lv_lload_n hx hb dX3_turnByAngle_30 rfl (lv_at hl 2 rfl) ?_
    refine fs_put C in_3 tyX3 tyX3_ok nmX3 hH 0 rfl rfl 2 (by decide) mw_63 rfl rfl rfl (Nat.le_of_ble_eq_true rfl) (ws' := [(h0, .inr (3, [.long 652032874, .long 0, .long a]))]) rfl dX3_turnByAngle_31 (fun H locs hH => ?_)
    refine lv_iload_n hx hb dX3_turnByAngle_34 rfl (lv_at hl 0 rfl) ?_
    refine lv_if_eq (tgt := 61) hx hb dX3_turnByAngle_35 (by decide) (fun c_14 => ?_) (fun c_14 => ?_)
    · refine lv_iconst (v := 0) hx hb dX3_turnByAngle_61 (by decide) ?_
      refine lv_istore (lv' := [(4, .int 0), (3, .int 0), (0, .ref h0), (1, .long a)]) hx hb dX3_turnByAngle_62 hl (by decide) rfl (fun ls hl => ?_)
      exact K_64 31 0 a 0 (by omega) (by simp [fs_wave, c_13, c_14]) (by omega) _ _ hH ls (lv_sub hl [2, 3, 1, 0] rfl)
    · exact absurd c_14 (by decide)
  · refine lv_iconst (v := 1) hx hb dX3_turnByAngle_11 (by decide) ?_
    refine lv_goto (tgt := 16) hx hb dX3_turnByAngle_12 (by decide) ?_
    refine lv_istore_n (lv' := [(3, .int 1), (0, .ref h0), (1, .long a)]) hx hb dX3_turnByAngle_16 rfl hl (by decide) rfl (fun ls hl => ?_)
    refine lv_aload_n hx hb dX3_turnByAngle_17 rfl (lv_at hl 1 rfl) ?_
    refine lv_ldc2 (v := 652032874) hx hb hown (hts _ mw_110) dX3_turnByAngle_18 ?_
    refine fs_put C in_3 tyX3 tyX3_ok nmX3 hH 0 rfl rfl 0 (by decide) mw_61 rfl rfl rfl (Nat.le_of_ble_eq_true rfl) (ws' := [(h0, .inr (3, [.long 652032874, .long t.2.1, .long t.2.2]))]) rfl dX3_turnByAngle_21 (fun H locs hH => ?_)
    refine lv_aload_n hx hb dX3_turnByAngle_24 rfl (lv_at hl 1 rfl) ?_
    refine lv_lconst (v := 0) hx hb dX3_turnByAngle_25 (by decide) ?_
    refine fs_put C in_3 tyX3 tyX3_ok nmX3 hH 0 rfl rfl 1 (by decide) mw_62 rfl rfl rfl (Nat.le_of_ble_eq_true rfl) (ws' := [(h0, .inr (3, [.long 652032874, .long 0, .long t.2.2]))]) rfl dX3_turnByAngle_26 (fun H locs hH => ?_)
    refine lv_aload_n hx hb dX3_turnByAngle_29 rfl (lv_at hl 1 rfl) ?_
    refine lv_lload_n hx hb dX3_turnByAngle_30 rfl (lv_at hl 2 rfl) ?_
    refine fs_put C in_3 tyX3 tyX3_ok nmX3 hH 0 rfl rfl 2 (by decide) mw_63 rfl rfl rfl (Nat.le_of_ble_eq_true rfl) (ws' := [(h0, .inr (3, [.long 652032874, .long 0, .long a]))]) rfl dX3_turnByAngle_31 (fun H locs hH => ?_)
    refine lv_iload_n hx hb dX3_turnByAngle_34 rfl (lv_at hl 0 rfl) ?_
    refine lv_if_eq (tgt := 61) hx hb dX3_turnByAngle_35 (by decide) (fun c_15 => ?_) (fun c_15 => ?_)
    · exact absurd c_15 (by decide)
    · refine lv_aload_n hx hb dX3_turnByAngle_38 rfl (lv_at hl 1 rfl) ?_
      refine lv_lload_n hx hb dX3_turnByAngle_39 rfl (lv_at hl 2 rfl) ?_
      refine lv_lconst (v := 0) hx hb dX3_turnByAngle_40 (by decide) ?_
      refine fs_lge (tgt := 53) hx hb dX3_turnByAngle_41 dX3_turnByAngle_42 (by decide) (fun c_16 => ?_) (fun c_16 => ?_)
      · refine lv_lload_n hx hb dX3_turnByAngle_53 rfl (lv_at hl 2 rfl) ?_
        refine lv_ldc2 (v := 2147483648) hx hb hown (hts _ mw_111) dX3_turnByAngle_54 ?_
        refine lv_lsub hx hb dX3_turnByAngle_57 ?_
        refine fs_put C in_3 tyX3 tyX3_ok nmX3 hH 0 rfl rfl 2 (by decide) mw_63 rfl rfl rfl (Nat.le_of_ble_eq_true rfl) (ws' := [(h0, .inr (3, [.long 652032874, .long 0, .long (a - 2147483648)]))]) rfl dX3_turnByAngle_58 (fun H locs hH => ?_)
        refine lv_iconst (v := 0) hx hb dX3_turnByAngle_61 (by decide) ?_
        refine lv_istore (lv' := [(4, .int 0), (3, .int 1), (0, .ref h0), (1, .long a)]) hx hb dX3_turnByAngle_62 hl (by decide) rfl (fun ls hl => ?_)
        exact K_64 31 1 (a - 2147483648) 0 (by omega) (by simp [fs_wave, c_13, c_15, c_16]) (by omega) _ _ hH ls (lv_sub hl [2, 3, 1, 0] rfl)
      · refine lv_lload_n hx hb dX3_turnByAngle_45 rfl (lv_at hl 2 rfl) ?_
        refine lv_ldc2 (v := 2147483648) hx hb hown (hts _ mw_111) dX3_turnByAngle_46 ?_
        refine lv_ladd hx hb dX3_turnByAngle_49 ?_
        refine lv_goto (tgt := 58) hx hb dX3_turnByAngle_50 (by decide) ?_
        refine fs_put C in_3 tyX3 tyX3_ok nmX3 hH 0 rfl rfl 2 (by decide) mw_63 rfl rfl rfl (Nat.le_of_ble_eq_true rfl) (ws' := [(h0, .inr (3, [.long 652032874, .long 0, .long (a + 2147483648)]))]) rfl dX3_turnByAngle_58 (fun H locs hH => ?_)
        refine lv_iconst (v := 0) hx hb dX3_turnByAngle_61 (by decide) ?_
        refine lv_istore (lv' := [(4, .int 0), (3, .int 1), (0, .ref h0), (1, .long a)]) hx hb dX3_turnByAngle_62 hl (by decide) rfl (fun ls hl => ?_)
        exact K_64 31 1 (a + 2147483648) 0 (by omega) (by simp [fs_wave, c_13, c_15, c_16]) (by omega) _ _ hH ls (lv_sub hl [2, 3, 1, 0] rfl)
set_option maxHeartbeats 4000000 in
set_option maxRecDepth 100000 in
theorem c_X3_turnToAxis (l : Launch) (X : fs_X) (sz : Nat) (h0 : Nat) (t : fs_T) (x0 : Int64) (y0 : Int64)  : fs_M l X yX3_turnToAxis cX3_turnToAxis 7 none ({ frames := 1, cells := 0, slots := 0, locals := 26 }) [.ref h0, .long x0, .long y0] [(h0, .inr (3, [.long t.1, .long t.2.1, .long t.2.2]))] sz (fs_Qv X (fun (_ : Unit) => True) (fun _ => [(h0, .inr (3, [.long (fs_axis x0 y0).1, .long (fs_axis x0 y0).2.1, .long (fs_axis x0 y0).2.2]))])) 0 0 := by
  refine fs_ofW (by decide) (Nat.le_of_ble_eq_true rfl) ?_
  intro p e s m args below meth c A ls C hH hl
  have C : fs_At X A p s m args meth c cX3_turnToAxis 7 none RX3 "turnToAxis" := C
  have hx := C.1
  have hb := C.2.1
  have hown := C.2.2.2.2.1
  have hts := C.2.2.2.2.2.1
  have hl : lv_has ls 7 [(0, .ref h0), (1, .long x0), (3, .long y0)] := hl
  have K_62 : ∀ (n : Nat) (t0 : fs_T) (k : Nat), (k ≤ 30) → (fs_axis x0 y0 = fs_a t0 30) → (30 < k + n) → ∀ (H : Heap) (locs : List Loc), fs_H X A s [(h0, .inr (3, [.long ((fs_a t0 k).1), .long ((fs_a t0 k).2.1), .long ((fs_a t0 k).2.2)]))] H locs → ∀ (ls : Array Slot), lv_has ls 7 [(0, .ref h0), (6, .int (nI k))] → W p l e ({ frames := 1, cells := 0, slots := 0, locals := 26 }) s m args below meth c H locs 0 0 (MQ below (fs_Qv X (fun (_ : Unit) => True) (fun _ => [(h0, .inr (3, [.long (fs_axis x0 y0).1, .long (fs_axis x0 y0).2.1, .long (fs_axis x0 y0).2.2]))]) A) args s 0 0 A) (F0 m 62 ls []) := by
    intro n
    induction n with
    | zero => intro t0 k hk hq hfu; exact absurd hfu (by omega)
    | succ n ih_62 =>
      intro t0 k hk hq hfu H locs hH ls hl
      refine lv_iload hx hb dX3_turnToAxis_62 (lv_at hl 1 rfl) ?_
      refine lv_bipush (v := 30) hx hb dX3_turnToAxis_64 (by decide) ?_
      refine lv_icmp_ge (tgt := 95) hx hb dX3_turnToAxis_66 (by decide) (fun c_1 => ?_) (fun c_1 => ?_)
      · obtain rfl : k = 30 := by have := fs_geT (a := k) (b := 30) (by omega) (by omega) c_1; omega
        have hH : fs_H X A s [(h0, .inr (3, [.long ((fs_axis x0 y0).1), .long ((fs_axis x0 y0).2.1), .long ((fs_axis x0 y0).2.2)]))] _ _ := hH.to (by rw [hq])
        exact fs_vret C hH () rfl trivial dX3_turnToAxis_95
      · have hlt := fs_geF (a := k) (b := 30) (by omega) (by omega) c_1
        refine lv_aload_n hx hb dX3_turnToAxis_69 rfl (lv_at hl 0 rfl) ?_
        refine lv_iload hx hb dX3_turnToAxis_70 (lv_at hl 1 rfl) ?_
        refine lv_aload_n hx hb dX3_turnToAxis_72 rfl (lv_at hl 0 rfl) ?_
        refine fs_get C in_3 hH 0 rfl rfl 1 (by decide) mw_62 (v := .long ((fs_a t0 k).2.1)) rfl dX3_turnToAxis_73 ?_
        refine lv_lconst (v := 0) hx hb dX3_turnToAxis_76 (by decide) ?_
        refine fs_lge (tgt := 85) hx hb dX3_turnToAxis_77 dX3_turnToAxis_78 (by decide) (fun c_2 => ?_) (fun c_2 => ?_)
        · refine lv_iconst (v := 0) hx hb dX3_turnToAxis_85 (by decide) ?_
          refine fs_cv C hH (wr := []) [0] [] rfl rfl (by decide) (by decide) (fs_rV (rest := []) (As := [.int (nI k), .int 0]) (n := 2) (q0 := 0) (ci := 3) C hH (wc := [(h0, .inr (3, [.long ((fs_a t0 k).1), .long ((fs_a t0 k).2.1), .long ((fs_a t0 k).2.2)]))]) [0] (by decide) rfl (c_X3_turn l X _ h0 (fs_a t0 k) k 0 (by omega)) rfl rfl rfl rfl mw_114 mw_112 mw_113 mw_483 mw_5 (by decide +kernel) ⟨Nat.le_of_ble_eq_true rfl, Nat.le_of_ble_eq_true rfl⟩ rfl hl.1 rfl (Nat.le_of_ble_eq_true rfl) dX3_turnToAxis_86 ⟨Nat.le_of_ble_eq_true rfl, Nat.le_of_ble_eq_true rfl⟩) (fun u_4 H locs hr_5 hH => ?_)
          have hH : fs_H X A s [(h0, .inr (3, [.long ((fs_tn k 0 (fs_a t0 k)).1), .long ((fs_tn k 0 (fs_a t0 k)).2.1), .long ((fs_tn k 0 (fs_a t0 k)).2.2)]))] _ _ := hH
          have hH : fs_H X A s [(h0, .inr (3, [.long ((fs_a t0 (k + 1)).1), .long ((fs_a t0 (k + 1)).2.1), .long ((fs_a t0 (k + 1)).2.2)]))] _ _ := hH.to (by rw [fs_aS0 c_2])
          refine lv_iinc (v := (nI (k + 1))) (lv' := [(6, .int (nI (k + 1))), (0, .ref h0)]) hx hb dX3_turnToAxis_89 hl (k := 1) rfl (nI_1 k) (by decide) rfl (fun ls hl => ?_)
          refine lv_goto (tgt := 62) hx hb dX3_turnToAxis_92 (by decide) ?_
          exact ih_62 t0 (k + 1) (by omega) hq (by omega) _ _ hH ls (lv_sub hl [1, 0] rfl)
        · refine lv_iconst (v := 1) hx hb dX3_turnToAxis_81 (by decide) ?_
          refine lv_goto (tgt := 86) hx hb dX3_turnToAxis_82 (by decide) ?_
          refine fs_cv C hH (wr := []) [0] [] rfl rfl (by decide) (by decide) (fs_rV (rest := []) (As := [.int (nI k), .int 1]) (n := 2) (q0 := 0) (ci := 3) C hH (wc := [(h0, .inr (3, [.long ((fs_a t0 k).1), .long ((fs_a t0 k).2.1), .long ((fs_a t0 k).2.2)]))]) [0] (by decide) rfl (c_X3_turn l X _ h0 (fs_a t0 k) k 1 (by omega)) rfl rfl rfl rfl mw_114 mw_112 mw_113 mw_483 mw_5 (by decide +kernel) ⟨Nat.le_of_ble_eq_true rfl, Nat.le_of_ble_eq_true rfl⟩ rfl hl.1 rfl (Nat.le_of_ble_eq_true rfl) dX3_turnToAxis_86 ⟨Nat.le_of_ble_eq_true rfl, Nat.le_of_ble_eq_true rfl⟩) (fun u_7 H locs hr_8 hH => ?_)
          have hH : fs_H X A s [(h0, .inr (3, [.long ((fs_tn k 1 (fs_a t0 k)).1), .long ((fs_tn k 1 (fs_a t0 k)).2.1), .long ((fs_tn k 1 (fs_a t0 k)).2.2)]))] _ _ := hH
          have hH : fs_H X A s [(h0, .inr (3, [.long ((fs_a t0 (k + 1)).1), .long ((fs_a t0 (k + 1)).2.1), .long ((fs_a t0 (k + 1)).2.2)]))] _ _ := hH.to (by rw [fs_aS1 c_2])
          refine lv_iinc (v := (nI (k + 1))) (lv' := [(6, .int (nI (k + 1))), (0, .ref h0)]) hx hb dX3_turnToAxis_89 hl (k := 1) rfl (nI_1 k) (by decide) rfl (fun ls hl => ?_)
          refine lv_goto (tgt := 62) hx hb dX3_turnToAxis_92 (by decide) ?_
          exact ih_62 t0 (k + 1) (by omega) hq (by omega) _ _ hH ls (lv_sub hl [1, 0] rfl)
  have hH : fs_H X A s [(h0, .inr (3, [.long t.1, .long t.2.1, .long t.2.2]))] s.heap [] := hH
  refine lv_lload_n hx hb dX3_turnToAxis_0 rfl (lv_at hl 1 rfl) ?_
  refine lv_lconst (v := 0) hx hb dX3_turnToAxis_1 (by decide) ?_
  refine fs_lge (tgt := 10) hx hb dX3_turnToAxis_2 dX3_turnToAxis_3 (by decide) (fun c_9 => ?_) (fun c_9 => ?_)
  · refine lv_iconst (v := 0) hx hb dX3_turnToAxis_10 (by decide) ?_
    refine lv_istore (lv' := [(5, .int 0), (0, .ref h0), (1, .long x0), (3, .long y0)]) hx hb dX3_turnToAxis_11 hl (by decide) rfl (fun ls hl => ?_)
    refine lv_aload_n hx hb dX3_turnToAxis_13 rfl (lv_at hl 1 rfl) ?_
    refine lv_iload hx hb dX3_turnToAxis_14 (lv_at hl 0 rfl) ?_
    refine lv_if_eq (tgt := 24) hx hb dX3_turnToAxis_16 (by decide) (fun c_10 => ?_) (fun c_10 => ?_)
    · refine lv_lload_n hx hb dX3_turnToAxis_24 rfl (lv_at hl 2 rfl) ?_
      refine fs_put C in_3 tyX3 tyX3_ok nmX3 hH 0 rfl rfl 0 (by decide) mw_61 rfl rfl rfl (Nat.le_of_ble_eq_true rfl) (ws' := [(h0, .inr (3, [.long x0, .long t.2.1, .long t.2.2]))]) rfl dX3_turnToAxis_25 (fun H locs hH => ?_)
      refine lv_aload_n hx hb dX3_turnToAxis_28 rfl (lv_at hl 1 rfl) ?_
      refine lv_iload hx hb dX3_turnToAxis_29 (lv_at hl 0 rfl) ?_
      refine lv_if_eq (tgt := 39) hx hb dX3_turnToAxis_31 (by decide) (fun c_11 => ?_) (fun c_11 => ?_)
      · refine lv_lload_n hx hb dX3_turnToAxis_39 rfl (lv_at hl 3 rfl) ?_
        refine fs_put C in_3 tyX3 tyX3_ok nmX3 hH 0 rfl rfl 1 (by decide) mw_62 rfl rfl rfl (Nat.le_of_ble_eq_true rfl) (ws' := [(h0, .inr (3, [.long x0, .long y0, .long t.2.2]))]) rfl dX3_turnToAxis_40 (fun H locs hH => ?_)
        refine lv_aload_n hx hb dX3_turnToAxis_43 rfl (lv_at hl 1 rfl) ?_
        refine lv_iload hx hb dX3_turnToAxis_44 (lv_at hl 0 rfl) ?_
        refine lv_if_eq (tgt := 55) hx hb dX3_turnToAxis_46 (by decide) (fun c_12 => ?_) (fun c_12 => ?_)
        · refine lv_lconst (v := 0) hx hb dX3_turnToAxis_55 (by decide) ?_
          refine fs_put C in_3 tyX3 tyX3_ok nmX3 hH 0 rfl rfl 2 (by decide) mw_63 rfl rfl rfl (Nat.le_of_ble_eq_true rfl) (ws' := [(h0, .inr (3, [.long x0, .long y0, .long 0]))]) rfl dX3_turnToAxis_56 (fun H locs hH => ?_)
          refine lv_iconst (v := 0) hx hb dX3_turnToAxis_59 (by decide) ?_
          refine lv_istore (lv' := [(6, .int 0), (5, .int 0), (0, .ref h0), (1, .long x0), (3, .long y0)]) hx hb dX3_turnToAxis_60 hl (by decide) rfl (fun ls hl => ?_)
          exact K_62 31 (x0, y0, 0) 0 (by omega) (by simp [fs_axis, c_9, c_10, c_11, c_12]) (by omega) _ _ hH ls (lv_sub hl [2, 0] rfl)
        · exact absurd c_12 (by decide)
      · exact absurd c_11 (by decide)
    · exact absurd c_10 (by decide)
  · refine lv_iconst (v := 1) hx hb dX3_turnToAxis_6 (by decide) ?_
    refine lv_goto (tgt := 11) hx hb dX3_turnToAxis_7 (by decide) ?_
    refine lv_istore (lv' := [(5, .int 1), (0, .ref h0), (1, .long x0), (3, .long y0)]) hx hb dX3_turnToAxis_11 hl (by decide) rfl (fun ls hl => ?_)
    refine lv_aload_n hx hb dX3_turnToAxis_13 rfl (lv_at hl 1 rfl) ?_
    refine lv_iload hx hb dX3_turnToAxis_14 (lv_at hl 0 rfl) ?_
    refine lv_if_eq (tgt := 24) hx hb dX3_turnToAxis_16 (by decide) (fun c_13 => ?_) (fun c_13 => ?_)
    · exact absurd c_13 (by decide)
    · refine lv_lload_n hx hb dX3_turnToAxis_19 rfl (lv_at hl 2 rfl) ?_
      refine lv_lneg hx hb dX3_turnToAxis_20 ?_
      refine lv_goto (tgt := 25) hx hb dX3_turnToAxis_21 (by decide) ?_
      refine fs_put C in_3 tyX3 tyX3_ok nmX3 hH 0 rfl rfl 0 (by decide) mw_61 rfl rfl rfl (Nat.le_of_ble_eq_true rfl) (ws' := [(h0, .inr (3, [.long (-x0), .long t.2.1, .long t.2.2]))]) rfl dX3_turnToAxis_25 (fun H locs hH => ?_)
      refine lv_aload_n hx hb dX3_turnToAxis_28 rfl (lv_at hl 1 rfl) ?_
      refine lv_iload hx hb dX3_turnToAxis_29 (lv_at hl 0 rfl) ?_
      refine lv_if_eq (tgt := 39) hx hb dX3_turnToAxis_31 (by decide) (fun c_14 => ?_) (fun c_14 => ?_)
      · exact absurd c_14 (by decide)
      · refine lv_lload_n hx hb dX3_turnToAxis_34 rfl (lv_at hl 3 rfl) ?_
        refine lv_lneg hx hb dX3_turnToAxis_35 ?_
        refine lv_goto (tgt := 40) hx hb dX3_turnToAxis_36 (by decide) ?_
        refine fs_put C in_3 tyX3 tyX3_ok nmX3 hH 0 rfl rfl 1 (by decide) mw_62 rfl rfl rfl (Nat.le_of_ble_eq_true rfl) (ws' := [(h0, .inr (3, [.long (-x0), .long (-y0), .long t.2.2]))]) rfl dX3_turnToAxis_40 (fun H locs hH => ?_)
        refine lv_aload_n hx hb dX3_turnToAxis_43 rfl (lv_at hl 1 rfl) ?_
        refine lv_iload hx hb dX3_turnToAxis_44 (lv_at hl 0 rfl) ?_
        refine lv_if_eq (tgt := 55) hx hb dX3_turnToAxis_46 (by decide) (fun c_15 => ?_) (fun c_15 => ?_)
        · exact absurd c_15 (by decide)
        · refine lv_ldc2 (v := (-2147483648)) hx hb hown (hts _ mw_292) dX3_turnToAxis_49 ?_
          refine lv_goto (tgt := 56) hx hb dX3_turnToAxis_52 (by decide) ?_
          refine fs_put C in_3 tyX3 tyX3_ok nmX3 hH 0 rfl rfl 2 (by decide) mw_63 rfl rfl rfl (Nat.le_of_ble_eq_true rfl) (ws' := [(h0, .inr (3, [.long (-x0), .long (-y0), .long (-2147483648)]))]) rfl dX3_turnToAxis_56 (fun H locs hH => ?_)
          refine lv_iconst (v := 0) hx hb dX3_turnToAxis_59 (by decide) ?_
          refine lv_istore (lv' := [(6, .int 0), (5, .int 1), (0, .ref h0), (1, .long x0), (3, .long y0)]) hx hb dX3_turnToAxis_60 hl (by decide) rfl (fun ls hl => ?_)
          exact K_62 31 ((-x0), (-y0), (-2147483648)) 0 (by omega) (by simp [fs_axis, c_9, c_13, c_14, c_15]) (by omega) _ _ hH ls (lv_sub hl [2, 0] rfl)
end
section
-- the block: the functions of both sides
abbrev fs_M31 : Int64 := 2147483647
def fs_ss (k : Nat) (back : Int32) : Int64 := if back = 0 then fs_sin k else -(fs_sin k)
def fs_u (re im : Nat → Int32) (q k : Nat) (back : Int32) : Int64 := fs_rd (Int32.toInt64 (re q) * fs_cos k + Int32.toInt64 (im q) * fs_ss k back) 31
def fs_v (re im : Nat → Int32) (q k : Nat) (back : Int32) : Int64 := fs_rd (Int32.toInt64 (im q) * fs_cos k - Int32.toInt64 (re q) * fs_ss k back) 31
def fs_xr (re im : Nat → Int32) (i q k : Nat) (back : Int32) : Nat → Int32 := upd (upd re i (fs_sat (Int32.toInt64 (re i) + fs_u re im q k back) 2147483647)) q (fs_sat (Int32.toInt64 (re i) - fs_u re im q k back) 2147483647)
def fs_xi (re im : Nat → Int32) (i q k : Nat) (back : Int32) : Nat → Int32 := upd (upd im i (fs_sat (Int32.toInt64 (im i) + fs_v re im q k back) 2147483647)) q (fs_sat (Int32.toInt64 (im i) - fs_v re im q k back) 2147483647)
def fs_il (re im : Nat → Int32) : Nat → Int64 := fun j => if j % 2 = 0 then Int32.toInt64 (re (j / 2)) else Int32.toInt64 (im (j / 2))
theorem fs_il_e (re im : Nat → Int32) (i : Nat) : fs_il re im (2 * i) = Int32.toInt64 (re i) := by
  unfold fs_il; rw [if_pos (by omega), show 2 * i / 2 = i from by omega]
theorem fs_il_o (re im : Nat → Int32) (i : Nat) : fs_il re im (2 * i + 1) = Int32.toInt64 (im i) := by
  unfold fs_il; rw [if_neg (by omega), show (2 * i + 1) / 2 = i from by omega]
theorem fs_il_ue (re im : Nat → Int32) (i : Nat) (x : Int32) : vp_updL (fs_il re im) (2 * i) (Int32.toInt64 x) = fs_il (upd re i x) im := by
  funext j; unfold vp_updL fs_il upd
  by_cases h : j = 2 * i
  · rw [if_pos h, if_pos (by omega), if_pos (by omega)]
  · rw [if_neg h]
    by_cases h2 : j % 2 = 0
    · rw [if_pos h2, if_pos h2, if_neg (by omega)]
    · rw [if_neg h2, if_neg h2]
theorem fs_il_uo (re im : Nat → Int32) (i : Nat) (x : Int32) : vp_updL (fs_il re im) (2 * i + 1) (Int32.toInt64 x) = fs_il re (upd im i x) := by
  funext j; unfold vp_updL fs_il upd
  by_cases h : j = 2 * i + 1
  · rw [if_pos h, if_neg (by omega), if_pos (by omega)]
  · rw [if_neg h]
    by_cases h2 : j % 2 = 0
    · rw [if_pos h2, if_pos h2]
    · rw [if_neg h2, if_neg h2, if_neg (by omega)]
theorem fs_il_0 : (fun _ => 0 : Nat → Int64) = fs_il (fun _ => 0) (fun _ => 0) := by
  funext j; unfold fs_il; by_cases h : j % 2 = 0
  · rw [if_pos h]; rfl
  · rw [if_neg h]; rfl
theorem fs_updC (f : Nat → Int32) {a b : Nat} (h : a ≠ b) (x y : Int32) : upd (upd f a x) b y = upd (upd f b y) a x := by
  funext j; unfold upd
  by_cases h1 : j = a
  · subst h1; rw [if_neg h, if_pos rfl, if_pos rfl]
  · by_cases h2 : j = b
    · rw [if_pos h2, if_neg h1, if_pos h2]
    · rw [if_neg h2, if_neg h1, if_neg h1, if_neg h2]
theorem fs_updn (f : Nat → Int32) {a b : Nat} (h : b ≠ a) (x : Int32) : upd f a x b = f b := by unfold upd; rw [if_neg h]
-- too big
abbrev fs_big (x : Int32) : Prop := 536870912 ≤ fs_sz (Int32.toInt64 x)
def fs_tb (re im : Nat → Int32) : Nat → Bool
  | 0 => false
  | k + 1 => fs_tb re im k || decide (fs_big (re k)) || decide (fs_big (im k))
theorem fs_tb_of {re im : Nat → Int32} {k : Nat} (hb : fs_big (re k) ∨ fs_big (im k)) : ∀ n, k < n → fs_tb re im n = true := by
  intro n
  induction n with
  | zero => intro h; exact absurd h (by omega)
  | succ n ih =>
    intro h
    by_cases h1 : k = n
    · subst h1; rcases hb with hb | hb <;> simp [fs_tb, hb]
    · simp [fs_tb, ih (by omega)]
def fs_hb (f : Nat → Int64) : Nat → Bool
  | 0 => false
  | k + 1 => fs_hb f k || decide (536870912 ≤ f k) || decide (f k ≤ (-536870912))
theorem fs_i64 (x : Int32) : (Int32.toInt64 x).toInt = x.toInt := Int32.toInt_toInt64 x
theorem fs_i32r (x : Int32) : -2147483648 ≤ x.toInt ∧ x.toInt < 2147483648 := ⟨Int32.le_toInt x, Int32.toInt_lt x⟩
theorem fs_big_iff (x : Int32) : fs_big x ↔ (536870912 ≤ Int32.toInt64 x ∨ Int32.toInt64 x ≤ (-536870912)) := by
  unfold fs_big fs_sz
  have h1 : (536870912 : Int64).toInt = 536870912 := by decide
  have h2 : (-536870912 : Int64).toInt = -536870912 := by decide
  have h0 : (0 : Int64).toInt = 0 := by decide
  have hr := fs_i32r x
  by_cases h : (0 : Int64) ≤ Int32.toInt64 x
  · rw [if_pos h]
    rw [Int64.le_iff_toInt_le, h0, fs_i64] at h
    simp only [fs_e64, h1, h2, fs_i64]
    omega
  · rw [if_neg h]
    rw [Int64.le_iff_toInt_le, h0, fs_i64] at h
    have hn : (-(Int32.toInt64 x)).toInt = -x.toInt := by
      rw [Int64.toInt_neg, fs_i64]
      exact Int.bmod_eq_of_le (by omega) (by omega)
    simp only [fs_e64, h1, h2, fs_i64, hn]
    omega
theorem fs_hb_tb (re im : Nat → Int32) : ∀ n, fs_hb (fs_il re im) (2 * n) = fs_tb re im n := by
  intro n
  induction n with
  | zero => rfl
  | succ n ih =>
    rw [show 2 * (n + 1) = 2 * n + 1 + 1 from by omega, fs_hb, fs_hb, ih, fs_tb, fs_il_o, fs_il_e]
    rw [show decide (fs_big (re n)) = (decide (536870912 ≤ Int32.toInt64 (re n)) || decide (Int32.toInt64 (re n) ≤ (-536870912))) from by
      rw [← Bool.decide_or]; exact decide_eq_decide.mpr (fs_big_iff _)]
    rw [show decide (fs_big (im n)) = (decide (536870912 ≤ Int32.toInt64 (im n)) || decide (Int32.toInt64 (im n) ≤ (-536870912))) from by
      rw [← Bool.decide_or]; exact decide_eq_decide.mpr (fs_big_iff _)]
    simp only [Bool.or_assoc]
-- made smaller
def fs_lo (f : Nat → Int32) (n : Nat) : Nat → Int32 := fun j => if j < n then Int64.toInt32 (fs_rd (Int32.toInt64 (f j)) 1) else f j
theorem fs_lo_0 (f : Nat → Int32) : fs_lo f 0 = f := by funext j; unfold fs_lo; rw [if_neg (by omega)]
theorem fs_lo_k (f : Nat → Int32) (k : Nat) : fs_lo f k k = f k := by unfold fs_lo; rw [if_neg (by omega)]
theorem fs_lo_s (f : Nat → Int32) (k : Nat) : upd (fs_lo f k) k (Int64.toInt32 (fs_rd (Int32.toInt64 (f k)) 1)) = fs_lo f (k + 1) := by
  funext j; unfold upd fs_lo
  by_cases h1 : j = k
  · subst h1; rw [if_pos rfl, if_pos (by omega)]
  · rw [if_neg h1]
    by_cases h2 : j < k
    · rw [if_pos h2, if_pos (by omega)]
    · rw [if_neg h2, if_neg (by omega)]
def fs_lk (f : Nat → Int64) (n : Nat) : Nat → Int64 := fun j => if j < n then fs_rd (f j) 1 else f j
theorem fs_lk_0 (f : Nat → Int64) : fs_lk f 0 = f := by funext j; unfold fs_lk; rw [if_neg (by omega)]
theorem fs_lk_k (f : Nat → Int64) (k : Nat) : fs_lk f k k = f k := by unfold fs_lk; rw [if_neg (by omega)]
theorem fs_lk_s (f : Nat → Int64) (k : Nat) : vp_updL (fs_lk f k) k (fs_rd (f k) 1) = fs_lk f (k + 1) := by
  funext j; unfold vp_updL fs_lk
  by_cases h1 : j = k
  · subst h1; rw [if_pos rfl, if_pos (by omega)]
  · rw [if_neg h1]
    by_cases h2 : j < k
    · rw [if_pos h2, if_pos (by omega)]
    · rw [if_neg h2, if_neg (by omega)]
theorem fs_shr1 (y : Int64) : (y >>> (1 : Int64)).toInt = y.toInt / 2 := by
  show (y.toBitVec.sshiftRight' ((1 : Int64).toBitVec.smod 64)).toInt = _
  rw [show ((1 : Int64).toBitVec.smod 64) = 1#64 from by decide]
  rw [BitVec.toInt_sshiftRight']
  show y.toInt >>> 1 = _
  rw [Int.shiftRight_eq_div_pow]
  rfl
theorem fs_rd1 (x : Int32) : Int32.toInt64 (Int64.toInt32 (fs_rd (Int32.toInt64 x) 1)) = fs_rd (Int32.toInt64 x) 1 := by
  have hr := fs_i32r x
  have e1 : fs_rd (Int32.toInt64 x) 1 = (Int32.toInt64 x + 1) >>> (1 : Int64) := by
    unfold fs_rd
    rw [show (1 : Int64) <<< (Int32.toInt64 (1 - 1) &&& 63) = 1 from by decide, show (Int32.toInt64 1 &&& 63) = (1 : Int64) from by decide]
  have e2 : (Int32.toInt64 x + 1).toInt = x.toInt + 1 := by
    rw [Int64.toInt_add, fs_i64]
    exact Int.bmod_eq_of_le (by show _ ≤ x.toInt + 1; omega) (by show x.toInt + 1 < _; omega)
  have e3 : (fs_rd (Int32.toInt64 x) 1).toInt = (x.toInt + 1) / 2 := by
    rw [e1]
    have := fs_shr1 (Int32.toInt64 x + 1)
    rw [this, e2]
  apply Int64.toInt_inj.mp
  rw [fs_i64, Int64.toInt_toInt32, e3]
  exact Int.bmod_eq_of_le (by omega) (by omega)
theorem fs_lk_il (re im : Nat → Int32) (n : Nat) : fs_lk (fs_il re im) (2 * n) = fs_il (fs_lo re n) (fs_lo im n) := by
  funext j; unfold fs_lk fs_il fs_lo
  by_cases h : j % 2 = 0
  · rw [if_pos h, if_pos h]
    by_cases h2 : j < 2 * n
    · rw [if_pos h2, if_pos (by omega), fs_rd1]
    · rw [if_neg h2, if_neg (by omega)]
  · rw [if_neg h, if_neg h]
    by_cases h2 : j < 2 * n
    · rw [if_pos h2, if_pos (by omega), fs_rd1]
    · rw [if_neg h2, if_neg (by omega)]
abbrev fs_K : Type := (Nat → Int32) × (Nat → Int32) × Int32
def fs_low (n : Nat) (S : fs_K) : fs_K := if fs_tb S.1 S.2.1 n = true then (fs_lo S.1 n, fs_lo S.2.1 n, S.2.2 + 1) else S
theorem fs_low_t {n : Nat} {S : fs_K} (h : fs_tb S.1 S.2.1 n = true) : fs_low n S = (fs_lo S.1 n, fs_lo S.2.1 n, S.2.2 + 1) := if_pos h
theorem fs_low_f {n : Nat} {S : fs_K} (h : ¬ fs_tb S.1 S.2.1 n = true) : fs_low n S = S := if_neg h
-- the order turned round
def fs_rn (m i : Nat) : Nat := (fs_rev (nI i) m).toNatClampNeg
theorem fs_rn_all : ∀ m, m < 6 → ∀ i, i < 2 ^ m → fs_rev (nI i) m = nI (fs_rn m i) ∧ fs_rn m i < 2 ^ m ∧ fs_rn m (fs_rn m i) = i := by decide +kernel
def fs_pk (m k : Nat) (f : Nat → Int32) : Nat → Int32 := fun j => if j < 2 ^ m ∧ (j < k ∨ fs_rn m j < k) then f (fs_rn m j) else f j
def fs_pm (m : Nat) (f : Nat → Int32) : Nat → Int32 := fun j => if j < 2 ^ m then f (fs_rn m j) else f j
theorem fs_pk_0 (m : Nat) (f : Nat → Int32) : fs_pk m 0 f = f := by funext j; unfold fs_pk; rw [if_neg (by omega)]
theorem fs_pk_n {m : Nat} (f : Nat → Int32) : fs_pk m (2 ^ m) f = fs_pm m f := by
  funext j; unfold fs_pk fs_pm
  by_cases h : j < 2 ^ m
  · rw [if_pos ⟨h, Or.inl h⟩, if_pos h]
  · rw [if_neg (fun q => h q.1), if_neg h]
theorem fs_pk_s {m k : Nat} (hm : m < 6) (hk : k < 2 ^ m) (h : k < fs_rn m k) (f : Nat → Int32) : upd (upd (fs_pk m k f) k (fs_pk m k f (fs_rn m k))) (fs_rn m k) (fs_pk m k f k) = fs_pk m (k + 1) f := by
  obtain ⟨-, h1, h2⟩ := fs_rn_all m hm k hk
  generalize hq : fs_rn m k = q at h h1 h2 ⊢
  have vk : fs_pk m k f k = f k := by unfold fs_pk; rw [if_neg (by rw [hq]; omega)]
  have vq : fs_pk m k f q = f q := by unfold fs_pk; rw [if_neg (by rw [h2]; omega)]
  rw [vk, vq]
  funext j; unfold upd
  by_cases a : j = q
  · subst a; rw [if_pos rfl]; unfold fs_pk; rw [if_pos (by rw [h2]; omega), h2]
  · rw [if_neg a]
    by_cases b : j = k
    · subst b; rw [if_pos rfl]; unfold fs_pk; rw [if_pos (by omega), hq]
    · rw [if_neg b]; unfold fs_pk
      by_cases c : j < 2 ^ m
      · obtain ⟨-, g1, g2⟩ := fs_rn_all m hm j c
        have hne : fs_rn m j ≠ k := fun e => a (by rw [← g2, e, hq])
        by_cases d : j < k ∨ fs_rn m j < k
        · rw [if_pos ⟨c, d⟩, if_pos ⟨c, by omega⟩]
        · rw [if_neg (fun z => d z.2), if_neg (fun z => by have := z.2; omega)]
      · rw [if_neg (fun z => c z.1), if_neg (fun z => c z.1)]
theorem fs_pk_n2 {m k : Nat} (hm : m < 6) (hk : k < 2 ^ m) (h : ¬ k < fs_rn m k) (f : Nat → Int32) : fs_pk m k f = fs_pk m (k + 1) f := by
  obtain ⟨-, h1, h2⟩ := fs_rn_all m hm k hk
  funext j; unfold fs_pk
  by_cases c : j < 2 ^ m
  · obtain ⟨-, g1, g2⟩ := fs_rn_all m hm j c
    by_cases d : j < k ∨ fs_rn m j < k
    · rw [if_pos ⟨c, d⟩, if_pos ⟨c, by omega⟩]
    · rw [if_neg (fun z => d z.2)]
      by_cases e : j = k
      · subst e
        by_cases e2 : fs_rn m j = j
        · rw [if_pos ⟨c, by omega⟩, e2]
        · exact absurd (show fs_rn m j < j by omega) (fun z => d (Or.inr z))
      · by_cases e2 : fs_rn m j = k
        · have : fs_rn m k = j := by rw [← e2, g2]
          rw [this] at h
          exact absurd (show j < k by omega) (fun z => d (Or.inl z))
        · rw [if_neg (fun z => by have := z.2; omega)]
  · rw [if_neg (fun z => c z.1), if_neg (fun z => c z.1)]
-- the passes
def fs_cr (i : Nat) (back : Int32) (re im : Nat → Int32) : Nat → (Nat → Int32) × (Nat → Int32)
  | 0 => (re, im)
  | k + 1 => if k / 2 ^ i % 2 = 0 then (fs_xr (fs_cr i back re im k).1 (fs_cr i back re im k).2 k (k + 2 ^ i) (k % 2 ^ i * 16 / 2 ^ i) back, fs_xi (fs_cr i back re im k).1 (fs_cr i back re im k).2 k (k + 2 ^ i) (k % 2 ^ i * 16 / 2 ^ i) back) else fs_cr i back re im k
theorem fs_crT {i k : Nat} {back : Int32} {re im : Nat → Int32} (h : k / 2 ^ i % 2 = 0) : fs_cr i back re im (k + 1) = (fs_xr (fs_cr i back re im k).1 (fs_cr i back re im k).2 k (k + 2 ^ i) (k % 2 ^ i * 16 / 2 ^ i) back, fs_xi (fs_cr i back re im k).1 (fs_cr i back re im k).2 k (k + 2 ^ i) (k % 2 ^ i * 16 / 2 ^ i) back) := by rw [fs_cr, if_pos h]
theorem fs_crF {i k : Nat} {back : Int32} {re im : Nat → Int32} (h : ¬ k / 2 ^ i % 2 = 0) : fs_cr i back re im (k + 1) = fs_cr i back re im k := by rw [fs_cr, if_neg h]
def fs_pass (m : Nat) (back : Int32) (i : Nat) (S : fs_K) : fs_K :=
  ((fs_cr i back (fs_low (2 ^ m) (fs_low (2 ^ m) S)).1 (fs_low (2 ^ m) (fs_low (2 ^ m) S)).2.1 (2 ^ m)).1, (fs_cr i back (fs_low (2 ^ m) (fs_low (2 ^ m) S)).1 (fs_low (2 ^ m) (fs_low (2 ^ m) S)).2.1 (2 ^ m)).2, (fs_low (2 ^ m) (fs_low (2 ^ m) S)).2.2)
def fs_tr (m : Nat) (back : Int32) (S : fs_K) : Nat → fs_K
  | 0 => (fs_pm m S.1, fs_pm m S.2.1, S.2.2)
  | i + 1 => fs_pass m back i (fs_tr m back S i)
theorem fs_pw1 : ∀ m, m < 6 → (1 : Int32) <<< (nI m &&& 31) = nI (2 ^ m) := by decide +kernel
theorem fs_pw2 : ∀ i, i < 6 → nI (2 ^ i) * 2 = nI (2 ^ (i + 1)) ∧ 2 * nI (2 ^ i) = nI (2 ^ (i + 1)) := by decide +kernel
theorem fs_pw3 : ∀ m, m < 6 → ∀ i, i < 6 → (nI (2 ^ m) ≤ nI (2 ^ i) ↔ m ≤ i) := by decide +kernel
theorem fs_pw4 : ∀ i, i < 6 → 2 ^ i ≤ 32 ∧ 0 < 2 ^ i := by decide +kernel
theorem fs_pwm {i m : Nat} (h : i < m) (hm : m < 6) : 2 ^ i * 2 ≤ 2 ^ m := by
  have : 2 ^ (i + 1) ≤ 2 ^ m := Nat.pow_le_pow_right (by decide) h
  rw [Nat.pow_succ] at this; exact this
theorem fs_and1 : ∀ i, i < 5 → ∀ k, k < 32 → (nI k &&& nI (2 ^ i) = 0 ↔ k / 2 ^ i % 2 = 0) := by decide +kernel
theorem fs_and2 : ∀ i, i < 5 → ∀ k, k < 32 → (nI k &&& (nI (2 ^ i) - 1)) * 16 / nI (2 ^ i) = nI (k % 2 ^ i * 16 / 2 ^ i) := by decide +kernel
theorem fs_div1 : ∀ i, i < 5 → ∀ k, k < 32 → (nI k / nI (2 ^ i) - nI k / nI (2 ^ i) / 2 * 2 = 0 ↔ k / 2 ^ i % 2 = 0) := by decide +kernel
theorem fs_div2 : ∀ i, i < 5 → ∀ k, k < 32 → (nI k - nI k / nI (2 ^ i) * nI (2 ^ i)) * 16 / nI (2 ^ i) = nI (k % 2 ^ i * 16 / 2 ^ i) := by decide +kernel
theorem fs_wv : ∀ i, i < 5 → ∀ k, k < 32 → k % 2 ^ i * 16 / 2 ^ i < 16 := by decide +kernel
theorem fs_pwn : ∀ i, i < 6 → ¬ nI (2 ^ i) = 0 := by decide +kernel
theorem fs_top : ∀ m, m < 6 → ∀ i, i < m → ∀ k, k < 2 ^ m → k / 2 ^ i % 2 = 0 → k + 2 ^ i < 2 ^ m := by decide +kernel
def fs_mr (n : Nat) : Nat → fs_K → fs_K
  | 0, S => S
  | j + 1, S => fs_mr n j (fs_low n S)
end
section
set_option maxHeartbeats 4000000 in
set_option maxRecDepth 100000 in
theorem c_X0_init (l : Launch) (X : fs_X) (sz : Nat) (h0 : Nat)  : fs_M l X yX0_init cX0_init 1 none ({ frames := 1, cells := 2, slots := 64, locals := 12 }) [.ref h0] [(h0, .inr (0, [.null, .null, .int 0]))] sz (fs_Qv X (fun (_ : Nat × Nat) => True) (fun u => [(h0, .inr (0, [.ref u.1, .ref u.2, .int 0])), (u.1, fs_ai X 32 (fun _ => 0)), (u.2, fs_ai X 32 (fun _ => 0))])) 2 64 := by
  refine fs_ofW (by decide) (Nat.le_of_ble_eq_true rfl) ?_
  intro p e s m args below meth c A ls C hH hl
  have C : fs_At X A p s m args meth c cX0_init 1 none RX0 "<init>" := C
  have hx := C.1
  have hb := C.2.1
  have hown := C.2.2.2.2.1
  have hts := C.2.2.2.2.2.1
  have hl : lv_has ls 1 [(0, .ref h0)] := hl
  have hH : fs_H X A s [(h0, .inr (0, [.null, .null, .int 0]))] s.heap [] := hH
  refine lv_aload_n hx hb dX0_init_0 rfl (lv_at hl 0 rfl) ?_
  refine W.objInit hx hb hown (hts _ mw_49) (hts _ mw_18) (hts _ mw_19) rfl (by rw [C.2.2.2.1]; exact hl.1) rfl dX0_init_1 (Nat.le_of_ble_eq_true rfl) (Nat.le_of_ble_eq_true rfl) ?_
  refine W.eq (g2 := F0 m 4 ls []) rfl ?_
  refine lv_aload_n hx hb dX0_init_4 rfl (lv_at hl 0 rfl) ?_
  refine lv_bipush (v := 32) hx hb dX0_init_5 (by decide) ?_
  refine fs_newI C hH (N := 32) rfl (by decide) (Nat.le_of_ble_eq_true rfl) (Nat.le_of_ble_eq_true rfl) mw_29 dX0_init_7 (fun q_1 H hH => ?_)
  have hH : fs_H X A s [(h0, .inr (0, [.null, .null, .int 0])), (q_1, fs_ai X 32 (fun _ => 0))] _ _ := hH
  refine fs_putF C in_0 tyX0 tyX0_ok nmX0 hH 0 rfl rfl 0 (by decide) mw_50 rfl rfl rfl rfl (Nat.le_of_ble_eq_true rfl) (ws' := [(h0, .inr (0, [.ref q_1, .null, .int 0])), (q_1, fs_ai X 32 (fun _ => 0))]) rfl dX0_init_9 (fun H locs hH => ?_)
  refine lv_aload_n hx hb dX0_init_12 rfl (lv_at hl 0 rfl) ?_
  refine lv_bipush (v := 32) hx hb dX0_init_13 (by decide) ?_
  refine fs_newI C hH (N := 32) rfl (by decide) (Nat.le_of_ble_eq_true rfl) (Nat.le_of_ble_eq_true rfl) mw_29 dX0_init_15 (fun q_2 H hH => ?_)
  have hH : fs_H X A s [(h0, .inr (0, [.ref q_1, .null, .int 0])), (q_1, fs_ai X 32 (fun _ => 0)), (q_2, fs_ai X 32 (fun _ => 0))] _ _ := hH
  refine fs_putF C in_0 tyX0 tyX0_ok nmX0 hH 0 rfl rfl 1 (by decide) mw_51 rfl rfl rfl rfl (Nat.le_of_ble_eq_true rfl) (ws' := [(h0, .inr (0, [.ref q_1, .ref q_2, .int 0])), (q_1, fs_ai X 32 (fun _ => 0)), (q_2, fs_ai X 32 (fun _ => 0))]) rfl dX0_init_17 (fun H locs hH => ?_)
  exact fs_vret C hH (q_1, q_2) rfl trivial dX0_init_20
set_option maxHeartbeats 4000000 in
set_option maxRecDepth 100000 in
theorem c_X0_reorder (l : Launch) (X : fs_X) (sz : Nat) (h0 : Nat) (qr : Nat) (qi : Nat) (S : fs_K) (mm : Nat) (hmm : mm < 6) : fs_M l X yX0_reorder cX0_reorder 4 none ({ frames := 1, cells := 0, slots := 0, locals := 23 }) [.ref h0, .int (nI mm)] [(h0, .inr (0, [.ref qr, .ref qi, .int S.2.2])), (qr, fs_ai X 32 S.1), (qi, fs_ai X 32 S.2.1)] sz (fs_Qv X (fun (_ : Unit) => True) (fun _ => [(h0, .inr (0, [.ref qr, .ref qi, .int S.2.2])), (qr, fs_ai X 32 (fs_pm mm S.1)), (qi, fs_ai X 32 (fs_pm mm S.2.1))])) 0 0 := by
  refine fs_ofW (by decide) (Nat.le_of_ble_eq_true rfl) ?_
  intro p e s m args below meth c A ls C hH hl
  have C : fs_At X A p s m args meth c cX0_reorder 4 none RX0 "reorder" := C
  have hx := C.1
  have hb := C.2.1
  have hown := C.2.2.2.2.1
  have hts := C.2.2.2.2.2.1
  have hl : lv_has ls 4 [(0, .ref h0), (1, .int (nI mm))] := hl
  have hp := fs_pw4 mm hmm
  have K_2 : ∀ (n : Nat) (k : Nat), (k ≤ 2 ^ mm) → (2 ^ mm < k + n) → ∀ (H : Heap) (locs : List Loc), fs_H X A s [(h0, .inr (0, [.ref qr, .ref qi, .int S.2.2])), (qr, fs_ai X 32 (fs_pk mm k S.1)), (qi, fs_ai X 32 (fs_pk mm k S.2.1))] H locs → ∀ (ls : Array Slot), lv_has ls 4 [(0, .ref h0), (1, .int (nI mm)), (2, .int (nI k))] → W p l e ({ frames := 1, cells := 0, slots := 0, locals := 23 }) s m args below meth c H locs 0 0 (MQ below (fs_Qv X (fun (_ : Unit) => True) (fun _ => [(h0, .inr (0, [.ref qr, .ref qi, .int S.2.2])), (qr, fs_ai X 32 (fs_pm mm S.1)), (qi, fs_ai X 32 (fs_pm mm S.2.1))]) A) args s 0 0 A) (F0 m 2 ls []) := by
    intro n
    induction n with
    | zero => intro k hk hfu; exact absurd hfu (by omega)
    | succ n ih_2 =>
      intro k hk hfu H locs hH ls hl
      refine lv_iload_n hx hb dX0_reorder_2 rfl (lv_at hl 2 rfl) ?_
      refine lv_iconst (v := 1) hx hb dX0_reorder_3 (by decide) ?_
      refine lv_iload_n hx hb dX0_reorder_4 rfl (lv_at hl 1 rfl) ?_
      refine lv_ishl hx hb dX0_reorder_5 ?_
      refine fs_topi (y := (nI (2 ^ mm))) (fs_pw1 mm hmm) ?_
      refine lv_icmp_ge (tgt := 44) hx hb dX0_reorder_6 (by decide) (fun c_1 => ?_) (fun c_1 => ?_)
      · have hge := fs_geT (a := k) (b := 2 ^ mm) (by omega) (by omega) c_1
        have hkn : k = 2 ^ mm := by omega
        have hH : fs_H X A s [(h0, .inr (0, [.ref qr, .ref qi, .int S.2.2])), (qr, fs_ai X 32 (fs_pm mm S.1)), (qi, fs_ai X 32 (fs_pm mm S.2.1))] _ _ := hH.to (by rw [hkn, fs_pk_n, fs_pk_n])
        exact fs_vret C hH () rfl trivial dX0_reorder_44
      · have hlt := fs_geF (a := k) (b := 2 ^ mm) (by omega) (by omega) c_1
        refine lv_iload_n hx hb dX0_reorder_9 rfl (lv_at hl 2 rfl) ?_
        refine lv_iload_n hx hb dX0_reorder_10 rfl (lv_at hl 1 rfl) ?_
        refine fs_ci C hH (wr := [(h0, .inr (0, [.ref qr, .ref qi, .int S.2.2])), (qr, fs_ai X 32 (fs_pk mm k S.1)), (qi, fs_ai X 32 (fs_pk mm k S.2.1))]) [] [0, 1, 2] rfl rfl (by decide) (by decide) (fs_rS (rest := []) (As := [.int (nI k), .int (nI mm)]) (n := 2) C hH (wc := []) [] (by decide) rfl (c_X0_bitsTurnedRound l X _ (nI k) mm (by omega)) rfl rfl mw_247 mw_245 mw_246 mw_4 (by decide +kernel) ⟨Nat.le_of_ble_eq_true rfl, Nat.le_of_ble_eq_true rfl⟩ rfl hl.1 rfl (Nat.le_of_ble_eq_true rfl) dX0_reorder_11 ⟨Nat.le_of_ble_eq_true rfl, Nat.le_of_ble_eq_true rfl⟩) (fun r_2 u_3 H locs hr_4 hH => ?_)
        subst hr_4
        have hH : fs_H X A s [(h0, .inr (0, [.ref qr, .ref qi, .int S.2.2])), (qr, fs_ai X 32 (fs_pk mm k S.1)), (qi, fs_ai X 32 (fs_pk mm k S.2.1))] _ _ := hH
        refine fs_topi (y := (nI (fs_rn mm k))) ((fs_rn_all mm hmm k hlt).1) ?_
        have hr := (fs_rn_all mm hmm k hlt).2.1
        refine lv_istore_n (lv' := [(3, .int (nI (fs_rn mm k))), (0, .ref h0), (1, .int (nI mm)), (2, .int (nI k))]) hx hb dX0_reorder_14 rfl hl (by decide) rfl (fun ls hl => ?_)
        refine lv_iload_n hx hb dX0_reorder_15 rfl (lv_at hl 3 rfl) ?_
        refine lv_iload_n hx hb dX0_reorder_16 rfl (lv_at hl 0 rfl) ?_
        refine lv_icmp_ge (tgt := 38) hx hb dX0_reorder_17 (by decide) (fun c_5 => ?_) (fun c_5 => ?_)
        · have hq := fs_geT (a := k) (b := fs_rn mm k) (by omega) (by omega) c_5
          have hH : fs_H X A s [(h0, .inr (0, [.ref qr, .ref qi, .int S.2.2])), (qr, fs_ai X 32 (fs_pk mm (k + 1) S.1)), (qi, fs_ai X 32 (fs_pk mm (k + 1) S.2.1))] _ _ := hH.to (by rw [fs_pk_n2 hmm hlt (by omega) S.1, fs_pk_n2 hmm hlt (by omega) S.2.1])
          refine lv_iinc (v := (nI (k + 1))) (lv' := [(2, .int (nI (k + 1))), (3, .int (nI (fs_rn mm k))), (0, .ref h0), (1, .int (nI mm))]) hx hb dX0_reorder_38 hl (k := 3) rfl (nI_1 k) (by decide) rfl (fun ls hl => ?_)
          refine lv_goto (tgt := 2) hx hb dX0_reorder_41 (by decide) ?_
          exact ih_2 (k + 1) (by omega) (by omega) _ _ hH ls (lv_sub hl [2, 3, 0] rfl)
        · have hq := fs_geF (a := k) (b := fs_rn mm k) (by omega) (by omega) c_5
          refine lv_aload_n hx hb dX0_reorder_20 rfl (lv_at hl 1 rfl) ?_
          refine fs_get C in_0 hH 0 rfl rfl 0 (by decide) mw_50 (v := .ref qr) rfl dX0_reorder_21 ?_
          refine lv_iload_n hx hb dX0_reorder_24 rfl (lv_at hl 3 rfl) ?_
          refine lv_iload_n hx hb dX0_reorder_25 rfl (lv_at hl 0 rfl) ?_
          refine fs_cv C hH (wr := [(h0, .inr (0, [.ref qr, .ref qi, .int S.2.2])), (qi, fs_ai X 32 (fs_pk mm k S.2.1))]) [1] [0, 2] rfl rfl (by decide) (by decide) (fs_rS (rest := []) (As := [.ref qr, .int (nI k), .int (nI (fs_rn mm k))]) (n := 3) C hH (wc := [(qr, fs_ai X 32 (fs_pk mm k S.1))]) [1] (by decide) rfl (c_X0_swap l X _ qr (fs_pk mm k S.1) k (fs_rn mm k) (by omega) (by omega)) rfl rfl mw_250 mw_248 mw_249 mw_4 (by decide +kernel) ⟨Nat.le_of_ble_eq_true rfl, Nat.le_of_ble_eq_true rfl⟩ rfl hl.1 rfl (Nat.le_of_ble_eq_true rfl) dX0_reorder_26 ⟨Nat.le_of_ble_eq_true rfl, Nat.le_of_ble_eq_true rfl⟩) (fun u_7 H locs hr_8 hH => ?_)
          have hH : fs_H X A s [(h0, .inr (0, [.ref qr, .ref qi, .int S.2.2])), (qr, fs_ai X 32 (upd (upd (fs_pk mm k S.1) k ((fs_pk mm k S.1) (fs_rn mm k))) (fs_rn mm k) ((fs_pk mm k S.1) k))), (qi, fs_ai X 32 (fs_pk mm k S.2.1))] _ _ := hH.sub [0, 2, 1] (by decide) rfl
          refine lv_aload_n hx hb dX0_reorder_29 rfl (lv_at hl 1 rfl) ?_
          refine fs_get C in_0 hH 0 rfl rfl 1 (by decide) mw_51 (v := .ref qi) rfl dX0_reorder_30 ?_
          refine lv_iload_n hx hb dX0_reorder_33 rfl (lv_at hl 3 rfl) ?_
          refine lv_iload_n hx hb dX0_reorder_34 rfl (lv_at hl 0 rfl) ?_
          refine fs_cv C hH (wr := [(h0, .inr (0, [.ref qr, .ref qi, .int S.2.2])), (qr, fs_ai X 32 (upd (upd (fs_pk mm k S.1) k ((fs_pk mm k S.1) (fs_rn mm k))) (fs_rn mm k) ((fs_pk mm k S.1) k)))]) [2] [0, 1] rfl rfl (by decide) (by decide) (fs_rS (rest := []) (As := [.ref qi, .int (nI k), .int (nI (fs_rn mm k))]) (n := 3) C hH (wc := [(qi, fs_ai X 32 (fs_pk mm k S.2.1))]) [2] (by decide) rfl (c_X0_swap l X _ qi (fs_pk mm k S.2.1) k (fs_rn mm k) (by omega) (by omega)) rfl rfl mw_250 mw_248 mw_249 mw_4 (by decide +kernel) ⟨Nat.le_of_ble_eq_true rfl, Nat.le_of_ble_eq_true rfl⟩ rfl hl.1 rfl (Nat.le_of_ble_eq_true rfl) dX0_reorder_35 ⟨Nat.le_of_ble_eq_true rfl, Nat.le_of_ble_eq_true rfl⟩) (fun u_10 H locs hr_11 hH => ?_)
          have hH : fs_H X A s [(h0, .inr (0, [.ref qr, .ref qi, .int S.2.2])), (qr, fs_ai X 32 (upd (upd (fs_pk mm k S.1) k ((fs_pk mm k S.1) (fs_rn mm k))) (fs_rn mm k) ((fs_pk mm k S.1) k))), (qi, fs_ai X 32 (upd (upd (fs_pk mm k S.2.1) k ((fs_pk mm k S.2.1) (fs_rn mm k))) (fs_rn mm k) ((fs_pk mm k S.2.1) k)))] _ _ := hH
          have hH : fs_H X A s [(h0, .inr (0, [.ref qr, .ref qi, .int S.2.2])), (qr, fs_ai X 32 (fs_pk mm (k + 1) S.1)), (qi, fs_ai X 32 (fs_pk mm (k + 1) S.2.1))] _ _ := hH.to (by rw [fs_pk_s hmm hlt hq S.1, fs_pk_s hmm hlt hq S.2.1])
          refine lv_iinc (v := (nI (k + 1))) (lv' := [(2, .int (nI (k + 1))), (3, .int (nI (fs_rn mm k))), (0, .ref h0), (1, .int (nI mm))]) hx hb dX0_reorder_38 hl (k := 3) rfl (nI_1 k) (by decide) rfl (fun ls hl => ?_)
          refine lv_goto (tgt := 2) hx hb dX0_reorder_41 (by decide) ?_
          exact ih_2 (k + 1) (by omega) (by omega) _ _ hH ls (lv_sub hl [2, 3, 0] rfl)
  have hH : fs_H X A s [(h0, .inr (0, [.ref qr, .ref qi, .int S.2.2])), (qr, fs_ai X 32 S.1), (qi, fs_ai X 32 S.2.1)] s.heap [] := hH
  refine lv_iconst (v := 0) hx hb dX0_reorder_0 (by decide) ?_
  have hH : fs_H X A s [(h0, .inr (0, [.ref qr, .ref qi, .int S.2.2])), (qr, fs_ai X 32 (fs_pk mm 0 S.1)), (qi, fs_ai X 32 (fs_pk mm 0 S.2.1))] _ _ := hH.to (by rw [fs_pk_0, fs_pk_0])
  refine lv_istore_n (lv' := [(2, .int 0), (0, .ref h0), (1, .int (nI mm))]) hx hb dX0_reorder_1 rfl hl (by decide) rfl (fun ls hl => ?_)
  exact K_2 (2 ^ mm + 1) 0 (by omega) (by omega) _ _ hH ls (lv_sub hl [1, 2, 0] rfl)
set_option maxHeartbeats 4000000 in
set_option maxRecDepth 100000 in
theorem c_X0_isTooBig (l : Launch) (X : fs_X) (sz : Nat) (h0 : Nat) (qr : Nat) (qi : Nat) (S : fs_K) (cn : Nat) (hcn : cn ≤ 32) : fs_M l X yX0_isTooBig cX0_isTooBig 3 (some .boolean) ({ frames := 1, cells := 0, slots := 0, locals := 21 }) [.ref h0, .int (nI cn)] [(h0, .inr (0, [.ref qr, .ref qi, .int S.2.2])), (qr, fs_ai X 32 S.1), (qi, fs_ai X 32 S.2.1)] sz (fs_Qi X (fun r (_ : Unit) => r = fs_bi (fs_tb S.1 S.2.1 cn = true)) (fun _ => [(h0, .inr (0, [.ref qr, .ref qi, .int S.2.2])), (qr, fs_ai X 32 S.1), (qi, fs_ai X 32 S.2.1)])) 0 0 := by
  refine fs_ofW (by decide) (Nat.le_of_ble_eq_true rfl) ?_
  intro p e s m args below meth c A ls C hH hl
  have C : fs_At X A p s m args meth c cX0_isTooBig 3 (some .boolean) RX0 "isTooBig" := C
  have hx := C.1
  have hb := C.2.1
  have hown := C.2.2.2.2.1
  have hts := C.2.2.2.2.2.1
  have hl : lv_has ls 3 [(0, .ref h0), (1, .int (nI cn))] := hl
  have K_2 : ∀ (n : Nat) (k : Nat), (k ≤ cn) → (fs_tb S.1 S.2.1 k = false) → (cn < k + n) → ∀ (H : Heap) (locs : List Loc), fs_H X A s [(h0, .inr (0, [.ref qr, .ref qi, .int S.2.2])), (qr, fs_ai X 32 S.1), (qi, fs_ai X 32 S.2.1)] H locs → ∀ (ls : Array Slot), lv_has ls 3 [(0, .ref h0), (1, .int (nI cn)), (2, .int (nI k))] → W p l e ({ frames := 1, cells := 0, slots := 0, locals := 21 }) s m args below meth c H locs 0 0 (MQ below (fs_Qi X (fun r (_ : Unit) => r = fs_bi (fs_tb S.1 S.2.1 cn = true)) (fun _ => [(h0, .inr (0, [.ref qr, .ref qi, .int S.2.2])), (qr, fs_ai X 32 S.1), (qi, fs_ai X 32 S.2.1)]) A) args s 0 0 A) (F0 m 2 ls []) := by
    intro n
    induction n with
    | zero => intro k hk hno hfu; exact absurd hfu (by omega)
    | succ n ih_2 =>
      intro k hk hno hfu H locs hH ls hl
      refine lv_iload_n hx hb dX0_isTooBig_2 rfl (lv_at hl 2 rfl) ?_
      refine lv_iload_n hx hb dX0_isTooBig_3 rfl (lv_at hl 1 rfl) ?_
      refine lv_icmp_ge (tgt := 49) hx hb dX0_isTooBig_4 (by decide) (fun c_1 => ?_) (fun c_1 => ?_)
      · have hge := fs_geT (a := k) (b := cn) (by omega) (by omega) c_1
        refine lv_iconst (v := 0) hx hb dX0_isTooBig_49 (by decide) ?_
        exact fs_zret C hH rfl () rfl ((fs_bi_f (by rw [← (show k = cn from by omega), hno]; decide)).symm) dX0_isTooBig_50
      · have hlt := fs_geF (a := k) (b := cn) (by omega) (by omega) c_1
        refine lv_aload_n hx hb dX0_isTooBig_7 rfl (lv_at hl 0 rfl) ?_
        refine fs_get C in_0 hH 0 rfl rfl 0 (by decide) mw_50 (v := .ref qr) rfl dX0_isTooBig_8 ?_
        refine lv_iload_n hx hb dX0_isTooBig_11 rfl (lv_at hl 2 rfl) ?_
        refine fs_iald C hH 1 rfl (k := k) rfl (by omega) (by decide) dX0_isTooBig_12 ?_
        refine lv_i2l hx hb dX0_isTooBig_13 rfl ?_
        refine fs_cl C hH (wr := [(h0, .inr (0, [.ref qr, .ref qi, .int S.2.2])), (qr, fs_ai X 32 S.1), (qi, fs_ai X 32 S.2.1)]) [] [0, 1, 2] rfl rfl (by decide) (by decide) (fs_rSN (rest := []) (As := [.long (Int32.toInt64 (S.1 k))]) (n := 1) C hH (wc := []) [] (by decide) rfl (c_X4_sizeOf l X _ (Int32.toInt64 (S.1 k)) ) rfl rfl mw_108 (List.mem_of_getElem? (i := 15) rfl) mw_107 mw_1 (by decide +kernel) ⟨Nat.le_of_ble_eq_true rfl, Nat.le_of_ble_eq_true rfl⟩ rfl hl.1 rfl (Nat.le_of_ble_eq_true rfl) dX0_isTooBig_14 ⟨Nat.le_of_ble_eq_true rfl, Nat.le_of_ble_eq_true rfl⟩) (fun r_2 u_3 H locs hr_4 hH => ?_)
        subst hr_4
        have hH : fs_H X A s [(h0, .inr (0, [.ref qr, .ref qi, .int S.2.2])), (qr, fs_ai X 32 S.1), (qi, fs_ai X 32 S.2.1)] _ _ := hH
        refine lv_ldc2 (v := 536870912) hx hb hown (hts _ mw_257) dX0_isTooBig_17 ?_
        refine fs_lge (tgt := 41) hx hb dX0_isTooBig_20 dX0_isTooBig_21 (by decide) (fun c_5 => ?_) (fun c_5 => ?_)
        · refine lv_iconst (v := 1) hx hb dX0_isTooBig_41 (by decide) ?_
          exact fs_zret C hH rfl () rfl ((fs_bi_t (fs_tb_of (Or.inl c_5) cn hlt)).symm) dX0_isTooBig_42
        · refine lv_aload_n hx hb dX0_isTooBig_24 rfl (lv_at hl 0 rfl) ?_
          refine fs_get C in_0 hH 0 rfl rfl 1 (by decide) mw_51 (v := .ref qi) rfl dX0_isTooBig_25 ?_
          refine lv_iload_n hx hb dX0_isTooBig_28 rfl (lv_at hl 2 rfl) ?_
          refine fs_iald C hH 2 rfl (k := k) rfl (by omega) (by decide) dX0_isTooBig_29 ?_
          refine lv_i2l hx hb dX0_isTooBig_30 rfl ?_
          refine fs_cl C hH (wr := [(h0, .inr (0, [.ref qr, .ref qi, .int S.2.2])), (qr, fs_ai X 32 S.1), (qi, fs_ai X 32 S.2.1)]) [] [0, 1, 2] rfl rfl (by decide) (by decide) (fs_rSN (rest := []) (As := [.long (Int32.toInt64 (S.2.1 k))]) (n := 1) C hH (wc := []) [] (by decide) rfl (c_X4_sizeOf l X _ (Int32.toInt64 (S.2.1 k)) ) rfl rfl mw_108 (List.mem_of_getElem? (i := 15) rfl) mw_107 mw_1 (by decide +kernel) ⟨Nat.le_of_ble_eq_true rfl, Nat.le_of_ble_eq_true rfl⟩ rfl hl.1 rfl (Nat.le_of_ble_eq_true rfl) dX0_isTooBig_31 ⟨Nat.le_of_ble_eq_true rfl, Nat.le_of_ble_eq_true rfl⟩) (fun r_6 u_7 H locs hr_8 hH => ?_)
          subst hr_8
          have hH : fs_H X A s [(h0, .inr (0, [.ref qr, .ref qi, .int S.2.2])), (qr, fs_ai X 32 S.1), (qi, fs_ai X 32 S.2.1)] _ _ := hH
          refine lv_ldc2 (v := 536870912) hx hb hown (hts _ mw_257) dX0_isTooBig_34 ?_
          refine fs_llt (tgt := 43) hx hb dX0_isTooBig_37 dX0_isTooBig_38 (by decide) (fun c_9 => ?_) (fun c_9 => ?_)
          · refine lv_iinc (v := (nI (k + 1))) (lv' := [(2, .int (nI (k + 1))), (0, .ref h0), (1, .int (nI cn))]) hx hb dX0_isTooBig_43 hl (k := 2) rfl (nI_1 k) (by decide) rfl (fun ls hl => ?_)
            refine lv_goto (tgt := 2) hx hb dX0_isTooBig_46 (by decide) ?_
            exact ih_2 (k + 1) (by omega) (by simp [fs_tb, fs_big, hno, c_5, Int64.not_le.mpr c_9]) (by omega) _ _ hH ls (lv_sub hl [1, 2, 0] rfl)
          · refine lv_iconst (v := 1) hx hb dX0_isTooBig_41 (by decide) ?_
            exact fs_zret C hH rfl () rfl ((fs_bi_t (fs_tb_of (Or.inr (Int64.not_lt.mp c_9)) cn hlt)).symm) dX0_isTooBig_42
  have hH : fs_H X A s [(h0, .inr (0, [.ref qr, .ref qi, .int S.2.2])), (qr, fs_ai X 32 S.1), (qi, fs_ai X 32 S.2.1)] s.heap [] := hH
  refine lv_iconst (v := 0) hx hb dX0_isTooBig_0 (by decide) ?_
  refine lv_istore_n (lv' := [(2, .int 0), (0, .ref h0), (1, .int (nI cn))]) hx hb dX0_isTooBig_1 rfl hl (by decide) rfl (fun ls hl => ?_)
  exact K_2 (cn + 1) 0 (by omega) rfl (by omega) _ _ hH ls (lv_sub hl [1, 2, 0] rfl)
set_option maxHeartbeats 4000000 in
set_option maxRecDepth 100000 in
theorem c_X0_makeRoom (l : Launch) (X : fs_X) (sz : Nat) (h0 : Nat) (qr : Nat) (qi : Nat) (S : fs_K) (cn : Nat) (hcn : cn ≤ 32) : fs_M l X yX0_makeRoom cX0_makeRoom 4 none ({ frames := 2, cells := 0, slots := 0, locals := 43 }) [.ref h0, .int (nI cn)] [(h0, .inr (0, [.ref qr, .ref qi, .int S.2.2])), (qr, fs_ai X 32 S.1), (qi, fs_ai X 32 S.2.1)] sz (fs_Qv X (fun (_ : Unit) => True) (fun _ => [(h0, .inr (0, [.ref qr, .ref qi, .int ((fs_low cn (fs_low cn S)).2.2)])), (qr, fs_ai X 32 ((fs_low cn (fs_low cn S)).1)), (qi, fs_ai X 32 ((fs_low cn (fs_low cn S)).2.1))])) 0 0 := by
  refine fs_ofW (by decide) (Nat.le_of_ble_eq_true rfl) ?_
  intro p e s m args below meth c A ls C hH hl
  have C : fs_At X A p s m args meth c cX0_makeRoom 4 none RX0 "makeRoom" := C
  have hx := C.1
  have hb := C.2.1
  have hown := C.2.2.2.2.1
  have hts := C.2.2.2.2.2.1
  have hl : lv_has ls 4 [(0, .ref h0), (1, .int (nI cn))] := hl
  have K_17 : ∀ (n : Nat) (S1 : fs_K) (ii : Nat) (k : Nat), (k ≤ cn) → (ii < 2) → (fs_mr cn (1 - ii) (fs_lo S1.1 cn, fs_lo S1.2.1 cn, S1.2.2 + 1) = fs_low cn (fs_low cn S)) → ((2 - ii) * 40 + (cn - k) < n) → ∀ (H : Heap) (locs : List Loc), fs_H X A s [(h0, .inr (0, [.ref qr, .ref qi, .int S1.2.2])), (qr, fs_ai X 32 (fs_lo S1.1 k)), (qi, fs_ai X 32 (fs_lo S1.2.1 k))] H locs → ∀ (ls : Array Slot), lv_has ls 4 [(0, .ref h0), (1, .int (nI cn)), (2, .int (nI ii)), (3, .int (nI k))] → W p l e ({ frames := 2, cells := 0, slots := 0, locals := 43 }) s m args below meth c H locs 0 0 (MQ below (fs_Qv X (fun (_ : Unit) => True) (fun _ => [(h0, .inr (0, [.ref qr, .ref qi, .int ((fs_low cn (fs_low cn S)).2.2)])), (qr, fs_ai X 32 ((fs_low cn (fs_low cn S)).1)), (qi, fs_ai X 32 ((fs_low cn (fs_low cn S)).2.1))]) A) args s 0 0 A) (F0 m 17 ls []) := by
    intro n
    induction n with
    | zero => intro S1 ii k hk hii hq hfu; exact absurd hfu (by omega)
    | succ n ih_17 =>
      intro S1 ii k hk hii hq hfu H locs hH ls hl
      refine lv_iload_n hx hb dX0_makeRoom_17 rfl (lv_at hl 3 rfl) ?_
      refine lv_iload_n hx hb dX0_makeRoom_18 rfl (lv_at hl 1 rfl) ?_
      refine lv_icmp_ge (tgt := 64) hx hb dX0_makeRoom_19 (by decide) (fun c_1 => ?_) (fun c_1 => ?_)
      · have hge := fs_geT (a := k) (b := cn) (by omega) (by omega) c_1
        have hkn : k = cn := by omega
        have hH : fs_H X A s [(h0, .inr (0, [.ref qr, .ref qi, .int S1.2.2])), (qr, fs_ai X 32 (fs_lo S1.1 cn)), (qi, fs_ai X 32 (fs_lo S1.2.1 cn))] _ _ := hH.to (by rw [hkn])
        refine lv_aload_n hx hb dX0_makeRoom_64 rfl (lv_at hl 0 rfl) ?_
        refine lv_dup hx hb dX0_makeRoom_65 rfl ?_
        refine fs_get C in_0 hH 0 rfl rfl 2 (by decide) mw_52 (v := .int S1.2.2) rfl dX0_makeRoom_66 ?_
        refine lv_iconst (v := 1) hx hb dX0_makeRoom_69 (by decide) ?_
        refine lv_iadd hx hb dX0_makeRoom_70 ?_
        refine fs_put C in_0 tyX0 tyX0_ok nmX0 hH 0 rfl rfl 2 (by decide) mw_52 rfl rfl rfl (Nat.le_of_ble_eq_true rfl) (ws' := [(h0, .inr (0, [.ref qr, .ref qi, .int (S1.2.2 + 1)])), (qr, fs_ai X 32 (fs_lo S1.1 cn)), (qi, fs_ai X 32 (fs_lo S1.2.1 cn))]) rfl dX0_makeRoom_71 (fun H locs hH => ?_)
        refine lv_iinc (v := (nI (ii + 1))) (lv' := [(2, .int (nI (ii + 1))), (0, .ref h0), (1, .int (nI cn)), (3, .int (nI k))]) hx hb dX0_makeRoom_74 hl (k := 2) rfl (nI_1 ii) (by decide) rfl (fun ls hl => ?_)
        refine lv_goto (tgt := 2) hx hb dX0_makeRoom_77 (by decide) ?_
        refine lv_iload_n hx hb dX0_makeRoom_2 rfl (lv_at hl 0 rfl) ?_
        refine lv_iconst (v := 2) hx hb dX0_makeRoom_3 (by decide) ?_
        refine lv_icmp_ge (tgt := 80) hx hb dX0_makeRoom_4 (by decide) (fun c_2 => ?_) (fun c_2 => ?_)
        · have h2 := fs_geT (a := ii + 1) (b := 2) (by omega) (by omega) c_2
          obtain rfl : ii = 1 := by omega
          have hH : fs_H X A s [(h0, .inr (0, [.ref qr, .ref qi, .int ((fs_low cn (fs_low cn S)).2.2)])), (qr, fs_ai X 32 ((fs_low cn (fs_low cn S)).1)), (qi, fs_ai X 32 ((fs_low cn (fs_low cn S)).2.1))] _ _ := hH.to (by rw [← hq, fs_mr])
          exact fs_vret C hH () rfl trivial dX0_makeRoom_80
        · have h2 := fs_geF (a := ii + 1) (b := 2) (by omega) (by omega) c_2
          obtain rfl : ii = 0 := by omega
          refine lv_aload_n hx hb dX0_makeRoom_7 rfl (lv_at hl 1 rfl) ?_
          refine lv_iload_n hx hb dX0_makeRoom_8 rfl (lv_at hl 2 rfl) ?_
          refine fs_ci C hH (wr := []) [0, 1, 2] [] rfl rfl (by decide) (by decide) (fs_rV (rest := []) (As := [.int (nI cn)]) (n := 1) (q0 := 0) (ci := 0) C hH (wc := [(h0, .inr (0, [.ref qr, .ref qi, .int (S1.2.2 + 1)])), (qr, fs_ai X 32 (fs_lo S1.1 cn)), (qi, fs_ai X 32 (fs_lo S1.2.1 cn))]) [0, 1, 2] (by decide) rfl (c_X0_isTooBig l X _ h0 qr qi (fs_lo S1.1 cn, fs_lo S1.2.1 cn, S1.2.2 + 1) cn (by omega)) rfl rfl rfl rfl mw_256 mw_254 mw_255 mw_490 mw_4 (by decide +kernel) ⟨Nat.le_of_ble_eq_true rfl, Nat.le_of_ble_eq_true rfl⟩ rfl hl.1 rfl (Nat.le_of_ble_eq_true rfl) dX0_makeRoom_9 ⟨Nat.le_of_ble_eq_true rfl, Nat.le_of_ble_eq_true rfl⟩) (fun r_3 u_4 H locs hr_5 hH => ?_)
          subst hr_5
          have hH : fs_H X A s [(h0, .inr (0, [.ref qr, .ref qi, .int (S1.2.2 + 1)])), (qr, fs_ai X 32 (fs_lo S1.1 cn)), (qi, fs_ai X 32 (fs_lo S1.2.1 cn))] _ _ := hH
          refine lv_if_eq (tgt := 80) hx hb dX0_makeRoom_12 (by decide) (fun c_6 => ?_) (fun c_6 => ?_)
          · have hbg := fs_bi_0.mp c_6
            have hH : fs_H X A s [(h0, .inr (0, [.ref qr, .ref qi, .int ((fs_low cn (fs_low cn S)).2.2)])), (qr, fs_ai X 32 ((fs_low cn (fs_low cn S)).1)), (qi, fs_ai X 32 ((fs_low cn (fs_low cn S)).2.1))] _ _ := hH.to (by rw [← hq, fs_mr, fs_mr, fs_low_f hbg])
            exact fs_vret C hH () rfl trivial dX0_makeRoom_80
          · have hbg := fs_bi_nz.mp c_6
            refine lv_iconst (v := 0) hx hb dX0_makeRoom_15 (by decide) ?_
            have hH : fs_H X A s [(h0, .inr (0, [.ref qr, .ref qi, .int (S1.2.2 + 1)])), (qr, fs_ai X 32 (fs_lo (fs_lo S1.1 cn) 0)), (qi, fs_ai X 32 (fs_lo (fs_lo S1.2.1 cn) 0))] _ _ := hH.to (by rw [fs_lo_0, fs_lo_0])
            refine lv_istore_n (lv' := [(3, .int 0), (2, .int (nI (0 + 1))), (0, .ref h0), (1, .int (nI cn))]) hx hb dX0_makeRoom_16 rfl hl (by decide) rfl (fun ls hl => ?_)
            exact ih_17 (fs_lo S1.1 cn, fs_lo S1.2.1 cn, S1.2.2 + 1) 1 0 (by omega) (by omega) (by rw [← hq, fs_mr, fs_mr, fs_mr, fs_low_t hbg]) (by omega) _ _ hH ls (lv_sub hl [2, 3, 1, 0] rfl)
      · have hlt := fs_geF (a := k) (b := cn) (by omega) (by omega) c_1
        refine lv_aload_n hx hb dX0_makeRoom_22 rfl (lv_at hl 0 rfl) ?_
        refine fs_get C in_0 hH 0 rfl rfl 0 (by decide) mw_50 (v := .ref qr) rfl dX0_makeRoom_23 ?_
        refine lv_iload_n hx hb dX0_makeRoom_26 rfl (lv_at hl 3 rfl) ?_
        refine lv_aload_n hx hb dX0_makeRoom_27 rfl (lv_at hl 0 rfl) ?_
        refine fs_get C in_0 hH 0 rfl rfl 0 (by decide) mw_50 (v := .ref qr) rfl dX0_makeRoom_28 ?_
        refine lv_iload_n hx hb dX0_makeRoom_31 rfl (lv_at hl 3 rfl) ?_
        refine fs_iald C hH 1 rfl (k := k) rfl (by omega) (by decide) dX0_makeRoom_32 ?_
        refine fs_topi (y := (S1.1 k)) (fs_lo_k S1.1 k) ?_
        refine lv_i2l hx hb dX0_makeRoom_33 rfl ?_
        refine lv_iconst (v := 1) hx hb dX0_makeRoom_34 (by decide) ?_
        refine fs_cl C hH (wr := [(h0, .inr (0, [.ref qr, .ref qi, .int S1.2.2])), (qr, fs_ai X 32 (fs_lo S1.1 k)), (qi, fs_ai X 32 (fs_lo S1.2.1 k))]) [] [0, 1, 2] rfl rfl (by decide) (by decide) (fs_rSN (rest := [.int (nI k), .ref qr]) (As := [.long (Int32.toInt64 (S1.1 k)), .int 1]) (n := 2) C hH (wc := []) [] (by decide) rfl (c_X4_rounded l X _ (Int32.toInt64 (S1.1 k)) 1 ) rfl rfl mw_81 (List.mem_of_getElem? (i := 16) rfl) mw_80 mw_1 (by decide +kernel) ⟨Nat.le_of_ble_eq_true rfl, Nat.le_of_ble_eq_true rfl⟩ rfl hl.1 rfl (Nat.le_of_ble_eq_true rfl) dX0_makeRoom_35 ⟨Nat.le_of_ble_eq_true rfl, Nat.le_of_ble_eq_true rfl⟩) (fun r_7 u_8 H locs hr_9 hH => ?_)
        subst hr_9
        have hH : fs_H X A s [(h0, .inr (0, [.ref qr, .ref qi, .int S1.2.2])), (qr, fs_ai X 32 (fs_lo S1.1 k)), (qi, fs_ai X 32 (fs_lo S1.2.1 k))] _ _ := hH
        refine lv_l2i hx hb dX0_makeRoom_38 rfl ?_
        refine fs_iast C hH 1 rfl (k := k) rfl (by omega) (by decide) (ws' := [(h0, .inr (0, [.ref qr, .ref qi, .int S1.2.2])), (qr, fs_ai X 32 (upd (fs_lo S1.1 k) k (Int64.toInt32 (fs_rd (Int32.toInt64 (S1.1 k)) 1)))), (qi, fs_ai X 32 (fs_lo S1.2.1 k))]) rfl dX0_makeRoom_39 (fun H locs hH => ?_)
        have hH : fs_H X A s [(h0, .inr (0, [.ref qr, .ref qi, .int S1.2.2])), (qr, fs_ai X 32 (fs_lo S1.1 (k + 1))), (qi, fs_ai X 32 (fs_lo S1.2.1 k))] _ _ := hH.to (by rw [fs_lo_s])
        refine lv_aload_n hx hb dX0_makeRoom_40 rfl (lv_at hl 0 rfl) ?_
        refine fs_get C in_0 hH 0 rfl rfl 1 (by decide) mw_51 (v := .ref qi) rfl dX0_makeRoom_41 ?_
        refine lv_iload_n hx hb dX0_makeRoom_44 rfl (lv_at hl 3 rfl) ?_
        refine lv_aload_n hx hb dX0_makeRoom_45 rfl (lv_at hl 0 rfl) ?_
        refine fs_get C in_0 hH 0 rfl rfl 1 (by decide) mw_51 (v := .ref qi) rfl dX0_makeRoom_46 ?_
        refine lv_iload_n hx hb dX0_makeRoom_49 rfl (lv_at hl 3 rfl) ?_
        refine fs_iald C hH 2 rfl (k := k) rfl (by omega) (by decide) dX0_makeRoom_50 ?_
        refine fs_topi (y := (S1.2.1 k)) (fs_lo_k S1.2.1 k) ?_
        refine lv_i2l hx hb dX0_makeRoom_51 rfl ?_
        refine lv_iconst (v := 1) hx hb dX0_makeRoom_52 (by decide) ?_
        refine fs_cl C hH (wr := [(h0, .inr (0, [.ref qr, .ref qi, .int S1.2.2])), (qr, fs_ai X 32 (fs_lo S1.1 (k + 1))), (qi, fs_ai X 32 (fs_lo S1.2.1 k))]) [] [0, 1, 2] rfl rfl (by decide) (by decide) (fs_rSN (rest := [.int (nI k), .ref qi]) (As := [.long (Int32.toInt64 (S1.2.1 k)), .int 1]) (n := 2) C hH (wc := []) [] (by decide) rfl (c_X4_rounded l X _ (Int32.toInt64 (S1.2.1 k)) 1 ) rfl rfl mw_81 (List.mem_of_getElem? (i := 16) rfl) mw_80 mw_1 (by decide +kernel) ⟨Nat.le_of_ble_eq_true rfl, Nat.le_of_ble_eq_true rfl⟩ rfl hl.1 rfl (Nat.le_of_ble_eq_true rfl) dX0_makeRoom_53 ⟨Nat.le_of_ble_eq_true rfl, Nat.le_of_ble_eq_true rfl⟩) (fun r_10 u_11 H locs hr_12 hH => ?_)
        subst hr_12
        have hH : fs_H X A s [(h0, .inr (0, [.ref qr, .ref qi, .int S1.2.2])), (qr, fs_ai X 32 (fs_lo S1.1 (k + 1))), (qi, fs_ai X 32 (fs_lo S1.2.1 k))] _ _ := hH
        refine lv_l2i hx hb dX0_makeRoom_56 rfl ?_
        refine fs_iast C hH 2 rfl (k := k) rfl (by omega) (by decide) (ws' := [(h0, .inr (0, [.ref qr, .ref qi, .int S1.2.2])), (qr, fs_ai X 32 (fs_lo S1.1 (k + 1))), (qi, fs_ai X 32 (upd (fs_lo S1.2.1 k) k (Int64.toInt32 (fs_rd (Int32.toInt64 (S1.2.1 k)) 1))))]) rfl dX0_makeRoom_57 (fun H locs hH => ?_)
        have hH : fs_H X A s [(h0, .inr (0, [.ref qr, .ref qi, .int S1.2.2])), (qr, fs_ai X 32 (fs_lo S1.1 (k + 1))), (qi, fs_ai X 32 (fs_lo S1.2.1 (k + 1)))] _ _ := hH.to (by rw [fs_lo_s])
        refine lv_iinc (v := (nI (k + 1))) (lv' := [(3, .int (nI (k + 1))), (0, .ref h0), (1, .int (nI cn)), (2, .int (nI ii))]) hx hb dX0_makeRoom_58 hl (k := 3) rfl (nI_1 k) (by decide) rfl (fun ls hl => ?_)
        refine lv_goto (tgt := 17) hx hb dX0_makeRoom_61 (by decide) ?_
        exact ih_17 S1 ii (k + 1) (by omega) (by omega) hq (by omega) _ _ hH ls (lv_sub hl [1, 2, 3, 0] rfl)
  have hH : fs_H X A s [(h0, .inr (0, [.ref qr, .ref qi, .int S.2.2])), (qr, fs_ai X 32 S.1), (qi, fs_ai X 32 S.2.1)] s.heap [] := hH
  refine lv_iconst (v := 0) hx hb dX0_makeRoom_0 (by decide) ?_
  refine lv_istore_n (lv' := [(2, .int 0), (0, .ref h0), (1, .int (nI cn))]) hx hb dX0_makeRoom_1 rfl hl (by decide) rfl (fun ls hl => ?_)
  refine lv_iload_n hx hb dX0_makeRoom_2 rfl (lv_at hl 0 rfl) ?_
  refine lv_iconst (v := 2) hx hb dX0_makeRoom_3 (by decide) ?_
  refine lv_icmp_ge (tgt := 80) hx hb dX0_makeRoom_4 (by decide) (fun c_13 => ?_) (fun c_13 => ?_)
  · exact absurd c_13 (by decide)
  · refine lv_aload_n hx hb dX0_makeRoom_7 rfl (lv_at hl 1 rfl) ?_
    refine lv_iload_n hx hb dX0_makeRoom_8 rfl (lv_at hl 2 rfl) ?_
    refine fs_ci C hH (wr := []) [0, 1, 2] [] rfl rfl (by decide) (by decide) (fs_rV (rest := []) (As := [.int (nI cn)]) (n := 1) (q0 := 0) (ci := 0) C hH (wc := [(h0, .inr (0, [.ref qr, .ref qi, .int S.2.2])), (qr, fs_ai X 32 S.1), (qi, fs_ai X 32 S.2.1)]) [0, 1, 2] (by decide) rfl (c_X0_isTooBig l X _ h0 qr qi S cn (by omega)) rfl rfl rfl rfl mw_256 mw_254 mw_255 mw_490 mw_4 (by decide +kernel) ⟨Nat.le_of_ble_eq_true rfl, Nat.le_of_ble_eq_true rfl⟩ rfl hl.1 rfl (Nat.le_of_ble_eq_true rfl) dX0_makeRoom_9 ⟨Nat.le_of_ble_eq_true rfl, Nat.le_of_ble_eq_true rfl⟩) (fun r_14 u_15 H locs hr_16 hH => ?_)
    subst hr_16
    have hH : fs_H X A s [(h0, .inr (0, [.ref qr, .ref qi, .int S.2.2])), (qr, fs_ai X 32 S.1), (qi, fs_ai X 32 S.2.1)] _ _ := hH
    refine lv_if_eq (tgt := 80) hx hb dX0_makeRoom_12 (by decide) (fun c_17 => ?_) (fun c_17 => ?_)
    · have hbg := fs_bi_0.mp c_17
      have hH : fs_H X A s [(h0, .inr (0, [.ref qr, .ref qi, .int ((fs_low cn (fs_low cn S)).2.2)])), (qr, fs_ai X 32 ((fs_low cn (fs_low cn S)).1)), (qi, fs_ai X 32 ((fs_low cn (fs_low cn S)).2.1))] _ _ := hH.to (by rw [fs_low_f hbg, fs_low_f hbg])
      exact fs_vret C hH () rfl trivial dX0_makeRoom_80
    · have hbg := fs_bi_nz.mp c_17
      refine lv_iconst (v := 0) hx hb dX0_makeRoom_15 (by decide) ?_
      have hH : fs_H X A s [(h0, .inr (0, [.ref qr, .ref qi, .int S.2.2])), (qr, fs_ai X 32 (fs_lo S.1 0)), (qi, fs_ai X 32 (fs_lo S.2.1 0))] _ _ := hH.to (by rw [fs_lo_0, fs_lo_0])
      refine lv_istore_n (lv' := [(3, .int 0), (2, .int 0), (0, .ref h0), (1, .int (nI cn))]) hx hb dX0_makeRoom_16 rfl hl (by decide) rfl (fun ls hl => ?_)
      exact K_17 200 S 0 0 (by omega) (by omega) (by rw [fs_mr, fs_mr, ← fs_low_t hbg]) (by omega) _ _ hH ls (lv_sub hl [2, 3, 1, 0] rfl)
set_option maxHeartbeats 4000000 in
set_option maxRecDepth 100000 in
theorem c_X0_cross (l : Launch) (X : fs_X) (sz : Nat) (h0 : Nat) (qr : Nat) (qi : Nat) (S : fs_K) (k : Nat) (i : Nat) (w : Nat) (back : Int32) (hi : i < 5) (hk : k + 2 ^ i < 32) (hw : (nI k &&& (nI (2 ^ i) - 1)) * 16 / nI (2 ^ i) = nI w) (hw16 : w < 16) : fs_M l X yX0_cross cX0_cross 18 none ({ frames := 2, cells := 0, slots := 0, locals := 38 }) [.ref h0, .int (nI k), .int (nI (2 ^ i)), .int back] [(h0, .inr (0, [.ref qr, .ref qi, .int S.2.2])), (qr, fs_ai X 32 S.1), (qi, fs_ai X 32 S.2.1)] sz (fs_Qv X (fun (_ : Unit) => True) (fun _ => [(h0, .inr (0, [.ref qr, .ref qi, .int S.2.2])), (qr, fs_ai X 32 (fs_xr S.1 S.2.1 k (k + 2 ^ i) w back)), (qi, fs_ai X 32 (fs_xi S.1 S.2.1 k (k + 2 ^ i) w back))])) 0 0 := by
  refine fs_ofW (by decide) (Nat.le_of_ble_eq_true rfl) ?_
  intro p e s m args below meth c A ls C hH hl
  have C : fs_At X A p s m args meth c cX0_cross 18 none RX0 "cross" := C
  have hx := C.1
  have hb := C.2.1
  have hown := C.2.2.2.2.1
  have hts := C.2.2.2.2.2.1
  have hl : lv_has ls 18 [(0, .ref h0), (1, .int (nI k)), (2, .int (nI (2 ^ i))), (3, .int back)] := hl
  have hk0 : k < 32 := Nat.lt_of_le_of_lt (Nat.le_add_right _ _) hk
  have hH : fs_H X A s [(h0, .inr (0, [.ref qr, .ref qi, .int S.2.2])), (qr, fs_ai X 32 S.1), (qi, fs_ai X 32 S.2.1)] s.heap [] := hH
  refine lv_iload_n hx hb dX0_cross_0 rfl (lv_at hl 1 rfl) ?_
  refine lv_iload_n hx hb dX0_cross_1 rfl (lv_at hl 2 rfl) ?_
  refine lv_iadd hx hb dX0_cross_2 ?_
  refine fs_topi (y := (nI (k + 2 ^ i))) (nI_add k (2 ^ i)) ?_
  refine lv_istore (lv' := [(4, .int (nI (k + 2 ^ i))), (0, .ref h0), (1, .int (nI k)), (2, .int (nI (2 ^ i))), (3, .int back)]) hx hb dX0_cross_3 hl (by decide) rfl (fun ls hl => ?_)
  refine lv_iload_n hx hb dX0_cross_5 rfl (lv_at hl 2 rfl) ?_
  refine lv_iload_n hx hb dX0_cross_6 rfl (lv_at hl 3 rfl) ?_
  refine lv_iconst (v := 1) hx hb dX0_cross_7 (by decide) ?_
  refine lv_isub hx hb dX0_cross_8 ?_
  refine lv_iand hx hb dX0_cross_9 ?_
  refine lv_bipush (v := 16) hx hb dX0_cross_10 (by decide) ?_
  refine lv_imul hx hb dX0_cross_12 ?_
  refine lv_iload_n hx hb dX0_cross_13 rfl (lv_at hl 3 rfl) ?_
  refine lv_idiv hx hb dX0_cross_14 (fs_pwn i (by omega)) ?_
  refine fs_topi (y := (nI w)) (hw) ?_
  refine lv_istore (lv' := [(5, .int (nI w)), (4, .int (nI (k + 2 ^ i))), (0, .ref h0), (1, .int (nI k)), (2, .int (nI (2 ^ i))), (3, .int back)]) hx hb dX0_cross_15 hl (by decide) rfl (fun ls hl => ?_)
  refine lv_iload hx hb dX0_cross_17 (lv_at hl 0 rfl) ?_
  refine fs_cl C hH (wr := [(h0, .inr (0, [.ref qr, .ref qi, .int S.2.2])), (qr, fs_ai X 32 S.1), (qi, fs_ai X 32 S.2.1)]) [] [0, 1, 2] rfl rfl (by decide) (by decide) (fs_rS (rest := []) (As := [.int (nI w)]) (n := 1) C hH (wc := []) [] (by decide) rfl (c_X0_cosineOf l X _ w (by omega)) rfl rfl mw_263 mw_261 mw_262 mw_4 (by decide +kernel) ⟨Nat.le_of_ble_eq_true rfl, Nat.le_of_ble_eq_true rfl⟩ rfl hl.1 rfl (Nat.le_of_ble_eq_true rfl) dX0_cross_19 ⟨Nat.le_of_ble_eq_true rfl, Nat.le_of_ble_eq_true rfl⟩) (fun r_1 u_2 H locs hr_3 hH => ?_)
  subst hr_3
  have hH : fs_H X A s [(h0, .inr (0, [.ref qr, .ref qi, .int S.2.2])), (qr, fs_ai X 32 S.1), (qi, fs_ai X 32 S.2.1)] _ _ := hH
  refine lv_lstore (lv' := [(6, .long (fs_cos w)), (5, .int (nI w)), (4, .int (nI (k + 2 ^ i))), (0, .ref h0), (1, .int (nI k)), (2, .int (nI (2 ^ i))), (3, .int back)]) hx hb dX0_cross_22 hl (by decide) rfl (fun ls hl => ?_)
  refine lv_iload_n hx hb dX0_cross_24 rfl (lv_at hl 6 rfl) ?_
  refine lv_if_eq (tgt := 37) hx hb dX0_cross_25 (by decide) (fun c_4 => ?_) (fun c_4 => ?_)
  · refine lv_iload hx hb dX0_cross_37 (lv_at hl 1 rfl) ?_
    refine fs_cl C hH (wr := [(h0, .inr (0, [.ref qr, .ref qi, .int S.2.2])), (qr, fs_ai X 32 S.1), (qi, fs_ai X 32 S.2.1)]) [] [0, 1, 2] rfl rfl (by decide) (by decide) (fs_rS (rest := []) (As := [.int (nI w)]) (n := 1) C hH (wc := []) [] (by decide) rfl (c_X0_sineOf l X _ w (by omega)) rfl rfl mw_267 mw_265 mw_266 mw_4 (by decide +kernel) ⟨Nat.le_of_ble_eq_true rfl, Nat.le_of_ble_eq_true rfl⟩ rfl hl.1 rfl (Nat.le_of_ble_eq_true rfl) dX0_cross_39 ⟨Nat.le_of_ble_eq_true rfl, Nat.le_of_ble_eq_true rfl⟩) (fun r_5 u_6 H locs hr_7 hH => ?_)
    subst hr_7
    have hH : fs_H X A s [(h0, .inr (0, [.ref qr, .ref qi, .int S.2.2])), (qr, fs_ai X 32 S.1), (qi, fs_ai X 32 S.2.1)] _ _ := hH
    refine fs_topl (y := (fs_ss w back)) (by rw [fs_ss, if_pos c_4]) ?_
    refine lv_lstore (lv' := [(8, .long (fs_ss w back)), (6, .long (fs_cos w)), (5, .int (nI w)), (4, .int (nI (k + 2 ^ i))), (0, .ref h0), (1, .int (nI k)), (2, .int (nI (2 ^ i))), (3, .int back)]) hx hb dX0_cross_42 hl (by decide) rfl (fun ls hl => ?_)
    refine lv_aload_n hx hb dX0_cross_44 rfl (lv_at hl 4 rfl) ?_
    refine fs_get C in_0 hH 0 rfl rfl 0 (by decide) mw_50 (v := .ref qr) rfl dX0_cross_45 ?_
    refine lv_iload hx hb dX0_cross_48 (lv_at hl 3 rfl) ?_
    refine fs_iald C hH 1 rfl (k := (k + 2 ^ i)) rfl (by omega) (by decide) dX0_cross_50 ?_
    refine lv_i2l hx hb dX0_cross_51 rfl ?_
    refine lv_lload hx hb dX0_cross_52 (lv_at hl 1 rfl) ?_
    refine lv_lmul hx hb dX0_cross_54 ?_
    refine lv_aload_n hx hb dX0_cross_55 rfl (lv_at hl 4 rfl) ?_
    refine fs_get C in_0 hH 0 rfl rfl 1 (by decide) mw_51 (v := .ref qi) rfl dX0_cross_56 ?_
    refine lv_iload hx hb dX0_cross_59 (lv_at hl 3 rfl) ?_
    refine fs_iald C hH 2 rfl (k := (k + 2 ^ i)) rfl (by omega) (by decide) dX0_cross_61 ?_
    refine lv_i2l hx hb dX0_cross_62 rfl ?_
    refine lv_lload hx hb dX0_cross_63 (lv_at hl 0 rfl) ?_
    refine lv_lmul hx hb dX0_cross_65 ?_
    refine lv_ladd hx hb dX0_cross_66 ?_
    refine lv_bipush (v := 31) hx hb dX0_cross_67 (by decide) ?_
    refine fs_cl C hH (wr := [(h0, .inr (0, [.ref qr, .ref qi, .int S.2.2])), (qr, fs_ai X 32 S.1), (qi, fs_ai X 32 S.2.1)]) [] [0, 1, 2] rfl rfl (by decide) (by decide) (fs_rSN (rest := []) (As := [.long (((Int32.toInt64 (S.1 (k + 2 ^ i))) * (fs_cos w)) + ((Int32.toInt64 (S.2.1 (k + 2 ^ i))) * (fs_ss w back))), .int 31]) (n := 2) C hH (wc := []) [] (by decide) rfl (c_X4_rounded l X _ (((Int32.toInt64 (S.1 (k + 2 ^ i))) * (fs_cos w)) + ((Int32.toInt64 (S.2.1 (k + 2 ^ i))) * (fs_ss w back))) 31 ) rfl rfl mw_81 (List.mem_of_getElem? (i := 16) rfl) mw_80 mw_1 (by decide +kernel) ⟨Nat.le_of_ble_eq_true rfl, Nat.le_of_ble_eq_true rfl⟩ rfl hl.1 rfl (Nat.le_of_ble_eq_true rfl) dX0_cross_69 ⟨Nat.le_of_ble_eq_true rfl, Nat.le_of_ble_eq_true rfl⟩) (fun r_8 u_9 H locs hr_10 hH => ?_)
    subst hr_10
    have hH : fs_H X A s [(h0, .inr (0, [.ref qr, .ref qi, .int S.2.2])), (qr, fs_ai X 32 S.1), (qi, fs_ai X 32 S.2.1)] _ _ := hH
    refine fs_topl (y := (fs_u S.1 S.2.1 (k + 2 ^ i) w back)) (rfl) ?_
    refine lv_lstore (lv' := [(10, .long (fs_u S.1 S.2.1 (k + 2 ^ i) w back)), (8, .long (fs_ss w back)), (6, .long (fs_cos w)), (5, .int (nI w)), (4, .int (nI (k + 2 ^ i))), (0, .ref h0), (1, .int (nI k)), (2, .int (nI (2 ^ i))), (3, .int back)]) hx hb dX0_cross_72 hl (by decide) rfl (fun ls hl => ?_)
    refine lv_aload_n hx hb dX0_cross_74 rfl (lv_at hl 5 rfl) ?_
    refine fs_get C in_0 hH 0 rfl rfl 1 (by decide) mw_51 (v := .ref qi) rfl dX0_cross_75 ?_
    refine lv_iload hx hb dX0_cross_78 (lv_at hl 4 rfl) ?_
    refine fs_iald C hH 2 rfl (k := (k + 2 ^ i)) rfl (by omega) (by decide) dX0_cross_80 ?_
    refine lv_i2l hx hb dX0_cross_81 rfl ?_
    refine lv_lload hx hb dX0_cross_82 (lv_at hl 2 rfl) ?_
    refine lv_lmul hx hb dX0_cross_84 ?_
    refine lv_aload_n hx hb dX0_cross_85 rfl (lv_at hl 5 rfl) ?_
    refine fs_get C in_0 hH 0 rfl rfl 0 (by decide) mw_50 (v := .ref qr) rfl dX0_cross_86 ?_
    refine lv_iload hx hb dX0_cross_89 (lv_at hl 4 rfl) ?_
    refine fs_iald C hH 1 rfl (k := (k + 2 ^ i)) rfl (by omega) (by decide) dX0_cross_91 ?_
    refine lv_i2l hx hb dX0_cross_92 rfl ?_
    refine lv_lload hx hb dX0_cross_93 (lv_at hl 1 rfl) ?_
    refine lv_lmul hx hb dX0_cross_95 ?_
    refine lv_lsub hx hb dX0_cross_96 ?_
    refine lv_bipush (v := 31) hx hb dX0_cross_97 (by decide) ?_
    refine fs_cl C hH (wr := [(h0, .inr (0, [.ref qr, .ref qi, .int S.2.2])), (qr, fs_ai X 32 S.1), (qi, fs_ai X 32 S.2.1)]) [] [0, 1, 2] rfl rfl (by decide) (by decide) (fs_rSN (rest := []) (As := [.long (((Int32.toInt64 (S.2.1 (k + 2 ^ i))) * (fs_cos w)) - ((Int32.toInt64 (S.1 (k + 2 ^ i))) * (fs_ss w back))), .int 31]) (n := 2) C hH (wc := []) [] (by decide) rfl (c_X4_rounded l X _ (((Int32.toInt64 (S.2.1 (k + 2 ^ i))) * (fs_cos w)) - ((Int32.toInt64 (S.1 (k + 2 ^ i))) * (fs_ss w back))) 31 ) rfl rfl mw_81 (List.mem_of_getElem? (i := 16) rfl) mw_80 mw_1 (by decide +kernel) ⟨Nat.le_of_ble_eq_true rfl, Nat.le_of_ble_eq_true rfl⟩ rfl hl.1 rfl (Nat.le_of_ble_eq_true rfl) dX0_cross_99 ⟨Nat.le_of_ble_eq_true rfl, Nat.le_of_ble_eq_true rfl⟩) (fun r_11 u_12 H locs hr_13 hH => ?_)
    subst hr_13
    have hH : fs_H X A s [(h0, .inr (0, [.ref qr, .ref qi, .int S.2.2])), (qr, fs_ai X 32 S.1), (qi, fs_ai X 32 S.2.1)] _ _ := hH
    refine fs_topl (y := (fs_v S.1 S.2.1 (k + 2 ^ i) w back)) (rfl) ?_
    refine lv_lstore (lv' := [(12, .long (fs_v S.1 S.2.1 (k + 2 ^ i) w back)), (10, .long (fs_u S.1 S.2.1 (k + 2 ^ i) w back)), (8, .long (fs_ss w back)), (6, .long (fs_cos w)), (5, .int (nI w)), (4, .int (nI (k + 2 ^ i))), (0, .ref h0), (1, .int (nI k)), (2, .int (nI (2 ^ i))), (3, .int back)]) hx hb dX0_cross_102 hl (by decide) rfl (fun ls hl => ?_)
    refine lv_aload_n hx hb dX0_cross_104 rfl (lv_at hl 6 rfl) ?_
    refine fs_get C in_0 hH 0 rfl rfl 0 (by decide) mw_50 (v := .ref qr) rfl dX0_cross_105 ?_
    refine lv_iload_n hx hb dX0_cross_108 rfl (lv_at hl 7 rfl) ?_
    refine fs_iald C hH 1 rfl (k := k) rfl (by omega) (by decide) dX0_cross_109 ?_
    refine lv_i2l hx hb dX0_cross_110 rfl ?_
    refine lv_lstore (lv' := [(14, .long (Int32.toInt64 (S.1 k))), (12, .long (fs_v S.1 S.2.1 (k + 2 ^ i) w back)), (10, .long (fs_u S.1 S.2.1 (k + 2 ^ i) w back)), (8, .long (fs_ss w back)), (6, .long (fs_cos w)), (5, .int (nI w)), (4, .int (nI (k + 2 ^ i))), (0, .ref h0), (1, .int (nI k)), (2, .int (nI (2 ^ i))), (3, .int back)]) hx hb dX0_cross_111 hl (by decide) rfl (fun ls hl => ?_)
    refine lv_aload_n hx hb dX0_cross_113 rfl (lv_at hl 7 rfl) ?_
    refine fs_get C in_0 hH 0 rfl rfl 1 (by decide) mw_51 (v := .ref qi) rfl dX0_cross_114 ?_
    refine lv_iload_n hx hb dX0_cross_117 rfl (lv_at hl 8 rfl) ?_
    refine fs_iald C hH 2 rfl (k := k) rfl (by omega) (by decide) dX0_cross_118 ?_
    refine lv_i2l hx hb dX0_cross_119 rfl ?_
    refine lv_lstore (lv' := [(16, .long (Int32.toInt64 (S.2.1 k))), (14, .long (Int32.toInt64 (S.1 k))), (12, .long (fs_v S.1 S.2.1 (k + 2 ^ i) w back)), (10, .long (fs_u S.1 S.2.1 (k + 2 ^ i) w back)), (8, .long (fs_ss w back)), (6, .long (fs_cos w)), (5, .int (nI w)), (4, .int (nI (k + 2 ^ i))), (0, .ref h0), (1, .int (nI k)), (2, .int (nI (2 ^ i))), (3, .int back)]) hx hb dX0_cross_120 hl (by decide) rfl (fun ls hl => ?_)
    refine lv_aload_n hx hb dX0_cross_122 rfl (lv_at hl 8 rfl) ?_
    refine fs_get C in_0 hH 0 rfl rfl 0 (by decide) mw_50 (v := .ref qr) rfl dX0_cross_123 ?_
    refine lv_iload_n hx hb dX0_cross_126 rfl (lv_at hl 9 rfl) ?_
    refine lv_lload hx hb dX0_cross_127 (lv_at hl 1 rfl) ?_
    refine lv_lload hx hb dX0_cross_129 (lv_at hl 3 rfl) ?_
    refine lv_ladd hx hb dX0_cross_131 ?_
    refine fs_ci C hH (wr := [(h0, .inr (0, [.ref qr, .ref qi, .int S.2.2])), (qr, fs_ai X 32 S.1), (qi, fs_ai X 32 S.2.1)]) [] [0, 1, 2] rfl rfl (by decide) (by decide) (fs_rSN (rest := [.int (nI k), .ref qr]) (As := [.long ((Int32.toInt64 (S.1 k)) + (fs_u S.1 S.2.1 (k + 2 ^ i) w back))]) (n := 1) C hH (wc := []) [] (by decide) rfl (c_X4_satLong l X _ ((Int32.toInt64 (S.1 k)) + (fs_u S.1 S.2.1 (k + 2 ^ i) w back)) ) rfl rfl mw_175 (List.mem_of_getElem? (i := 17) rfl) mw_174 mw_1 (by decide +kernel) ⟨Nat.le_of_ble_eq_true rfl, Nat.le_of_ble_eq_true rfl⟩ rfl hl.1 rfl (Nat.le_of_ble_eq_true rfl) dX0_cross_132 ⟨Nat.le_of_ble_eq_true rfl, Nat.le_of_ble_eq_true rfl⟩) (fun r_14 u_15 H locs hr_16 hH => ?_)
    subst hr_16
    have hH : fs_H X A s [(h0, .inr (0, [.ref qr, .ref qi, .int S.2.2])), (qr, fs_ai X 32 S.1), (qi, fs_ai X 32 S.2.1)] _ _ := hH
    refine fs_iast C hH 1 rfl (k := k) rfl (by omega) (by decide) (ws' := [(h0, .inr (0, [.ref qr, .ref qi, .int S.2.2])), (qr, fs_ai X 32 (upd S.1 k (fs_sat ((Int32.toInt64 (S.1 k)) + (fs_u S.1 S.2.1 (k + 2 ^ i) w back)) 2147483647))), (qi, fs_ai X 32 S.2.1)]) rfl dX0_cross_135 (fun H locs hH => ?_)
    refine lv_aload_n hx hb dX0_cross_136 rfl (lv_at hl 8 rfl) ?_
    refine fs_get C in_0 hH 0 rfl rfl 1 (by decide) mw_51 (v := .ref qi) rfl dX0_cross_137 ?_
    refine lv_iload_n hx hb dX0_cross_140 rfl (lv_at hl 9 rfl) ?_
    refine lv_lload hx hb dX0_cross_141 (lv_at hl 0 rfl) ?_
    refine lv_lload hx hb dX0_cross_143 (lv_at hl 2 rfl) ?_
    refine lv_ladd hx hb dX0_cross_145 ?_
    refine fs_ci C hH (wr := [(h0, .inr (0, [.ref qr, .ref qi, .int S.2.2])), (qr, fs_ai X 32 (upd S.1 k (fs_sat ((Int32.toInt64 (S.1 k)) + (fs_u S.1 S.2.1 (k + 2 ^ i) w back)) 2147483647))), (qi, fs_ai X 32 S.2.1)]) [] [0, 1, 2] rfl rfl (by decide) (by decide) (fs_rSN (rest := [.int (nI k), .ref qi]) (As := [.long ((Int32.toInt64 (S.2.1 k)) + (fs_v S.1 S.2.1 (k + 2 ^ i) w back))]) (n := 1) C hH (wc := []) [] (by decide) rfl (c_X4_satLong l X _ ((Int32.toInt64 (S.2.1 k)) + (fs_v S.1 S.2.1 (k + 2 ^ i) w back)) ) rfl rfl mw_175 (List.mem_of_getElem? (i := 17) rfl) mw_174 mw_1 (by decide +kernel) ⟨Nat.le_of_ble_eq_true rfl, Nat.le_of_ble_eq_true rfl⟩ rfl hl.1 rfl (Nat.le_of_ble_eq_true rfl) dX0_cross_146 ⟨Nat.le_of_ble_eq_true rfl, Nat.le_of_ble_eq_true rfl⟩) (fun r_17 u_18 H locs hr_19 hH => ?_)
    subst hr_19
    have hH : fs_H X A s [(h0, .inr (0, [.ref qr, .ref qi, .int S.2.2])), (qr, fs_ai X 32 (upd S.1 k (fs_sat ((Int32.toInt64 (S.1 k)) + (fs_u S.1 S.2.1 (k + 2 ^ i) w back)) 2147483647))), (qi, fs_ai X 32 S.2.1)] _ _ := hH
    refine fs_iast C hH 2 rfl (k := k) rfl (by omega) (by decide) (ws' := [(h0, .inr (0, [.ref qr, .ref qi, .int S.2.2])), (qr, fs_ai X 32 (upd S.1 k (fs_sat ((Int32.toInt64 (S.1 k)) + (fs_u S.1 S.2.1 (k + 2 ^ i) w back)) 2147483647))), (qi, fs_ai X 32 (upd S.2.1 k (fs_sat ((Int32.toInt64 (S.2.1 k)) + (fs_v S.1 S.2.1 (k + 2 ^ i) w back)) 2147483647)))]) rfl dX0_cross_149 (fun H locs hH => ?_)
    refine lv_aload_n hx hb dX0_cross_150 rfl (lv_at hl 8 rfl) ?_
    refine fs_get C in_0 hH 0 rfl rfl 0 (by decide) mw_50 (v := .ref qr) rfl dX0_cross_151 ?_
    refine lv_iload hx hb dX0_cross_154 (lv_at hl 7 rfl) ?_
    refine lv_lload hx hb dX0_cross_156 (lv_at hl 1 rfl) ?_
    refine lv_lload hx hb dX0_cross_158 (lv_at hl 3 rfl) ?_
    refine lv_lsub hx hb dX0_cross_160 ?_
    refine fs_ci C hH (wr := [(h0, .inr (0, [.ref qr, .ref qi, .int S.2.2])), (qr, fs_ai X 32 (upd S.1 k (fs_sat ((Int32.toInt64 (S.1 k)) + (fs_u S.1 S.2.1 (k + 2 ^ i) w back)) 2147483647))), (qi, fs_ai X 32 (upd S.2.1 k (fs_sat ((Int32.toInt64 (S.2.1 k)) + (fs_v S.1 S.2.1 (k + 2 ^ i) w back)) 2147483647)))]) [] [0, 1, 2] rfl rfl (by decide) (by decide) (fs_rSN (rest := [.int (nI (k + 2 ^ i)), .ref qr]) (As := [.long ((Int32.toInt64 (S.1 k)) - (fs_u S.1 S.2.1 (k + 2 ^ i) w back))]) (n := 1) C hH (wc := []) [] (by decide) rfl (c_X4_satLong l X _ ((Int32.toInt64 (S.1 k)) - (fs_u S.1 S.2.1 (k + 2 ^ i) w back)) ) rfl rfl mw_175 (List.mem_of_getElem? (i := 17) rfl) mw_174 mw_1 (by decide +kernel) ⟨Nat.le_of_ble_eq_true rfl, Nat.le_of_ble_eq_true rfl⟩ rfl hl.1 rfl (Nat.le_of_ble_eq_true rfl) dX0_cross_161 ⟨Nat.le_of_ble_eq_true rfl, Nat.le_of_ble_eq_true rfl⟩) (fun r_20 u_21 H locs hr_22 hH => ?_)
    subst hr_22
    have hH : fs_H X A s [(h0, .inr (0, [.ref qr, .ref qi, .int S.2.2])), (qr, fs_ai X 32 (upd S.1 k (fs_sat ((Int32.toInt64 (S.1 k)) + (fs_u S.1 S.2.1 (k + 2 ^ i) w back)) 2147483647))), (qi, fs_ai X 32 (upd S.2.1 k (fs_sat ((Int32.toInt64 (S.2.1 k)) + (fs_v S.1 S.2.1 (k + 2 ^ i) w back)) 2147483647)))] _ _ := hH
    refine fs_iast C hH 1 rfl (k := (k + 2 ^ i)) rfl (by omega) (by decide) (ws' := [(h0, .inr (0, [.ref qr, .ref qi, .int S.2.2])), (qr, fs_ai X 32 (upd (upd S.1 k (fs_sat ((Int32.toInt64 (S.1 k)) + (fs_u S.1 S.2.1 (k + 2 ^ i) w back)) 2147483647)) (k + 2 ^ i) (fs_sat ((Int32.toInt64 (S.1 k)) - (fs_u S.1 S.2.1 (k + 2 ^ i) w back)) 2147483647))), (qi, fs_ai X 32 (upd S.2.1 k (fs_sat ((Int32.toInt64 (S.2.1 k)) + (fs_v S.1 S.2.1 (k + 2 ^ i) w back)) 2147483647)))]) rfl dX0_cross_164 (fun H locs hH => ?_)
    refine lv_aload_n hx hb dX0_cross_165 rfl (lv_at hl 8 rfl) ?_
    refine fs_get C in_0 hH 0 rfl rfl 1 (by decide) mw_51 (v := .ref qi) rfl dX0_cross_166 ?_
    refine lv_iload hx hb dX0_cross_169 (lv_at hl 7 rfl) ?_
    refine lv_lload hx hb dX0_cross_171 (lv_at hl 0 rfl) ?_
    refine lv_lload hx hb dX0_cross_173 (lv_at hl 2 rfl) ?_
    refine lv_lsub hx hb dX0_cross_175 ?_
    refine fs_ci C hH (wr := [(h0, .inr (0, [.ref qr, .ref qi, .int S.2.2])), (qr, fs_ai X 32 (upd (upd S.1 k (fs_sat ((Int32.toInt64 (S.1 k)) + (fs_u S.1 S.2.1 (k + 2 ^ i) w back)) 2147483647)) (k + 2 ^ i) (fs_sat ((Int32.toInt64 (S.1 k)) - (fs_u S.1 S.2.1 (k + 2 ^ i) w back)) 2147483647))), (qi, fs_ai X 32 (upd S.2.1 k (fs_sat ((Int32.toInt64 (S.2.1 k)) + (fs_v S.1 S.2.1 (k + 2 ^ i) w back)) 2147483647)))]) [] [0, 1, 2] rfl rfl (by decide) (by decide) (fs_rSN (rest := [.int (nI (k + 2 ^ i)), .ref qi]) (As := [.long ((Int32.toInt64 (S.2.1 k)) - (fs_v S.1 S.2.1 (k + 2 ^ i) w back))]) (n := 1) C hH (wc := []) [] (by decide) rfl (c_X4_satLong l X _ ((Int32.toInt64 (S.2.1 k)) - (fs_v S.1 S.2.1 (k + 2 ^ i) w back)) ) rfl rfl mw_175 (List.mem_of_getElem? (i := 17) rfl) mw_174 mw_1 (by decide +kernel) ⟨Nat.le_of_ble_eq_true rfl, Nat.le_of_ble_eq_true rfl⟩ rfl hl.1 rfl (Nat.le_of_ble_eq_true rfl) dX0_cross_176 ⟨Nat.le_of_ble_eq_true rfl, Nat.le_of_ble_eq_true rfl⟩) (fun r_23 u_24 H locs hr_25 hH => ?_)
    subst hr_25
    have hH : fs_H X A s [(h0, .inr (0, [.ref qr, .ref qi, .int S.2.2])), (qr, fs_ai X 32 (upd (upd S.1 k (fs_sat ((Int32.toInt64 (S.1 k)) + (fs_u S.1 S.2.1 (k + 2 ^ i) w back)) 2147483647)) (k + 2 ^ i) (fs_sat ((Int32.toInt64 (S.1 k)) - (fs_u S.1 S.2.1 (k + 2 ^ i) w back)) 2147483647))), (qi, fs_ai X 32 (upd S.2.1 k (fs_sat ((Int32.toInt64 (S.2.1 k)) + (fs_v S.1 S.2.1 (k + 2 ^ i) w back)) 2147483647)))] _ _ := hH
    refine fs_iast C hH 2 rfl (k := (k + 2 ^ i)) rfl (by omega) (by decide) (ws' := [(h0, .inr (0, [.ref qr, .ref qi, .int S.2.2])), (qr, fs_ai X 32 (upd (upd S.1 k (fs_sat ((Int32.toInt64 (S.1 k)) + (fs_u S.1 S.2.1 (k + 2 ^ i) w back)) 2147483647)) (k + 2 ^ i) (fs_sat ((Int32.toInt64 (S.1 k)) - (fs_u S.1 S.2.1 (k + 2 ^ i) w back)) 2147483647))), (qi, fs_ai X 32 (upd (upd S.2.1 k (fs_sat ((Int32.toInt64 (S.2.1 k)) + (fs_v S.1 S.2.1 (k + 2 ^ i) w back)) 2147483647)) (k + 2 ^ i) (fs_sat ((Int32.toInt64 (S.2.1 k)) - (fs_v S.1 S.2.1 (k + 2 ^ i) w back)) 2147483647)))]) rfl dX0_cross_179 (fun H locs hH => ?_)
    have hH : fs_H X A s [(h0, .inr (0, [.ref qr, .ref qi, .int S.2.2])), (qr, fs_ai X 32 (fs_xr S.1 S.2.1 k (k + 2 ^ i) w back)), (qi, fs_ai X 32 (fs_xi S.1 S.2.1 k (k + 2 ^ i) w back))] _ _ := hH.to (by rw [fs_xr, fs_xi])
    exact fs_vret C hH () rfl trivial dX0_cross_180
  · refine lv_iload hx hb dX0_cross_28 (lv_at hl 1 rfl) ?_
    refine fs_cl C hH (wr := [(h0, .inr (0, [.ref qr, .ref qi, .int S.2.2])), (qr, fs_ai X 32 S.1), (qi, fs_ai X 32 S.2.1)]) [] [0, 1, 2] rfl rfl (by decide) (by decide) (fs_rS (rest := []) (As := [.int (nI w)]) (n := 1) C hH (wc := []) [] (by decide) rfl (c_X0_sineOf l X _ w (by omega)) rfl rfl mw_267 mw_265 mw_266 mw_4 (by decide +kernel) ⟨Nat.le_of_ble_eq_true rfl, Nat.le_of_ble_eq_true rfl⟩ rfl hl.1 rfl (Nat.le_of_ble_eq_true rfl) dX0_cross_30 ⟨Nat.le_of_ble_eq_true rfl, Nat.le_of_ble_eq_true rfl⟩) (fun r_26 u_27 H locs hr_28 hH => ?_)
    subst hr_28
    have hH : fs_H X A s [(h0, .inr (0, [.ref qr, .ref qi, .int S.2.2])), (qr, fs_ai X 32 S.1), (qi, fs_ai X 32 S.2.1)] _ _ := hH
    refine lv_lneg hx hb dX0_cross_33 ?_
    refine lv_goto (tgt := 42) hx hb dX0_cross_34 (by decide) ?_
    refine fs_topl (y := (fs_ss w back)) (by rw [fs_ss, if_neg c_4]) ?_
    refine lv_lstore (lv' := [(8, .long (fs_ss w back)), (6, .long (fs_cos w)), (5, .int (nI w)), (4, .int (nI (k + 2 ^ i))), (0, .ref h0), (1, .int (nI k)), (2, .int (nI (2 ^ i))), (3, .int back)]) hx hb dX0_cross_42 hl (by decide) rfl (fun ls hl => ?_)
    refine lv_aload_n hx hb dX0_cross_44 rfl (lv_at hl 4 rfl) ?_
    refine fs_get C in_0 hH 0 rfl rfl 0 (by decide) mw_50 (v := .ref qr) rfl dX0_cross_45 ?_
    refine lv_iload hx hb dX0_cross_48 (lv_at hl 3 rfl) ?_
    refine fs_iald C hH 1 rfl (k := (k + 2 ^ i)) rfl (by omega) (by decide) dX0_cross_50 ?_
    refine lv_i2l hx hb dX0_cross_51 rfl ?_
    refine lv_lload hx hb dX0_cross_52 (lv_at hl 1 rfl) ?_
    refine lv_lmul hx hb dX0_cross_54 ?_
    refine lv_aload_n hx hb dX0_cross_55 rfl (lv_at hl 4 rfl) ?_
    refine fs_get C in_0 hH 0 rfl rfl 1 (by decide) mw_51 (v := .ref qi) rfl dX0_cross_56 ?_
    refine lv_iload hx hb dX0_cross_59 (lv_at hl 3 rfl) ?_
    refine fs_iald C hH 2 rfl (k := (k + 2 ^ i)) rfl (by omega) (by decide) dX0_cross_61 ?_
    refine lv_i2l hx hb dX0_cross_62 rfl ?_
    refine lv_lload hx hb dX0_cross_63 (lv_at hl 0 rfl) ?_
    refine lv_lmul hx hb dX0_cross_65 ?_
    refine lv_ladd hx hb dX0_cross_66 ?_
    refine lv_bipush (v := 31) hx hb dX0_cross_67 (by decide) ?_
    refine fs_cl C hH (wr := [(h0, .inr (0, [.ref qr, .ref qi, .int S.2.2])), (qr, fs_ai X 32 S.1), (qi, fs_ai X 32 S.2.1)]) [] [0, 1, 2] rfl rfl (by decide) (by decide) (fs_rSN (rest := []) (As := [.long (((Int32.toInt64 (S.1 (k + 2 ^ i))) * (fs_cos w)) + ((Int32.toInt64 (S.2.1 (k + 2 ^ i))) * (fs_ss w back))), .int 31]) (n := 2) C hH (wc := []) [] (by decide) rfl (c_X4_rounded l X _ (((Int32.toInt64 (S.1 (k + 2 ^ i))) * (fs_cos w)) + ((Int32.toInt64 (S.2.1 (k + 2 ^ i))) * (fs_ss w back))) 31 ) rfl rfl mw_81 (List.mem_of_getElem? (i := 16) rfl) mw_80 mw_1 (by decide +kernel) ⟨Nat.le_of_ble_eq_true rfl, Nat.le_of_ble_eq_true rfl⟩ rfl hl.1 rfl (Nat.le_of_ble_eq_true rfl) dX0_cross_69 ⟨Nat.le_of_ble_eq_true rfl, Nat.le_of_ble_eq_true rfl⟩) (fun r_29 u_30 H locs hr_31 hH => ?_)
    subst hr_31
    have hH : fs_H X A s [(h0, .inr (0, [.ref qr, .ref qi, .int S.2.2])), (qr, fs_ai X 32 S.1), (qi, fs_ai X 32 S.2.1)] _ _ := hH
    refine fs_topl (y := (fs_u S.1 S.2.1 (k + 2 ^ i) w back)) (rfl) ?_
    refine lv_lstore (lv' := [(10, .long (fs_u S.1 S.2.1 (k + 2 ^ i) w back)), (8, .long (fs_ss w back)), (6, .long (fs_cos w)), (5, .int (nI w)), (4, .int (nI (k + 2 ^ i))), (0, .ref h0), (1, .int (nI k)), (2, .int (nI (2 ^ i))), (3, .int back)]) hx hb dX0_cross_72 hl (by decide) rfl (fun ls hl => ?_)
    refine lv_aload_n hx hb dX0_cross_74 rfl (lv_at hl 5 rfl) ?_
    refine fs_get C in_0 hH 0 rfl rfl 1 (by decide) mw_51 (v := .ref qi) rfl dX0_cross_75 ?_
    refine lv_iload hx hb dX0_cross_78 (lv_at hl 4 rfl) ?_
    refine fs_iald C hH 2 rfl (k := (k + 2 ^ i)) rfl (by omega) (by decide) dX0_cross_80 ?_
    refine lv_i2l hx hb dX0_cross_81 rfl ?_
    refine lv_lload hx hb dX0_cross_82 (lv_at hl 2 rfl) ?_
    refine lv_lmul hx hb dX0_cross_84 ?_
    refine lv_aload_n hx hb dX0_cross_85 rfl (lv_at hl 5 rfl) ?_
    refine fs_get C in_0 hH 0 rfl rfl 0 (by decide) mw_50 (v := .ref qr) rfl dX0_cross_86 ?_
    refine lv_iload hx hb dX0_cross_89 (lv_at hl 4 rfl) ?_
    refine fs_iald C hH 1 rfl (k := (k + 2 ^ i)) rfl (by omega) (by decide) dX0_cross_91 ?_
    refine lv_i2l hx hb dX0_cross_92 rfl ?_
    refine lv_lload hx hb dX0_cross_93 (lv_at hl 1 rfl) ?_
    refine lv_lmul hx hb dX0_cross_95 ?_
    refine lv_lsub hx hb dX0_cross_96 ?_
    refine lv_bipush (v := 31) hx hb dX0_cross_97 (by decide) ?_
    refine fs_cl C hH (wr := [(h0, .inr (0, [.ref qr, .ref qi, .int S.2.2])), (qr, fs_ai X 32 S.1), (qi, fs_ai X 32 S.2.1)]) [] [0, 1, 2] rfl rfl (by decide) (by decide) (fs_rSN (rest := []) (As := [.long (((Int32.toInt64 (S.2.1 (k + 2 ^ i))) * (fs_cos w)) - ((Int32.toInt64 (S.1 (k + 2 ^ i))) * (fs_ss w back))), .int 31]) (n := 2) C hH (wc := []) [] (by decide) rfl (c_X4_rounded l X _ (((Int32.toInt64 (S.2.1 (k + 2 ^ i))) * (fs_cos w)) - ((Int32.toInt64 (S.1 (k + 2 ^ i))) * (fs_ss w back))) 31 ) rfl rfl mw_81 (List.mem_of_getElem? (i := 16) rfl) mw_80 mw_1 (by decide +kernel) ⟨Nat.le_of_ble_eq_true rfl, Nat.le_of_ble_eq_true rfl⟩ rfl hl.1 rfl (Nat.le_of_ble_eq_true rfl) dX0_cross_99 ⟨Nat.le_of_ble_eq_true rfl, Nat.le_of_ble_eq_true rfl⟩) (fun r_32 u_33 H locs hr_34 hH => ?_)
    subst hr_34
    have hH : fs_H X A s [(h0, .inr (0, [.ref qr, .ref qi, .int S.2.2])), (qr, fs_ai X 32 S.1), (qi, fs_ai X 32 S.2.1)] _ _ := hH
    refine fs_topl (y := (fs_v S.1 S.2.1 (k + 2 ^ i) w back)) (rfl) ?_
    refine lv_lstore (lv' := [(12, .long (fs_v S.1 S.2.1 (k + 2 ^ i) w back)), (10, .long (fs_u S.1 S.2.1 (k + 2 ^ i) w back)), (8, .long (fs_ss w back)), (6, .long (fs_cos w)), (5, .int (nI w)), (4, .int (nI (k + 2 ^ i))), (0, .ref h0), (1, .int (nI k)), (2, .int (nI (2 ^ i))), (3, .int back)]) hx hb dX0_cross_102 hl (by decide) rfl (fun ls hl => ?_)
    refine lv_aload_n hx hb dX0_cross_104 rfl (lv_at hl 6 rfl) ?_
    refine fs_get C in_0 hH 0 rfl rfl 0 (by decide) mw_50 (v := .ref qr) rfl dX0_cross_105 ?_
    refine lv_iload_n hx hb dX0_cross_108 rfl (lv_at hl 7 rfl) ?_
    refine fs_iald C hH 1 rfl (k := k) rfl (by omega) (by decide) dX0_cross_109 ?_
    refine lv_i2l hx hb dX0_cross_110 rfl ?_
    refine lv_lstore (lv' := [(14, .long (Int32.toInt64 (S.1 k))), (12, .long (fs_v S.1 S.2.1 (k + 2 ^ i) w back)), (10, .long (fs_u S.1 S.2.1 (k + 2 ^ i) w back)), (8, .long (fs_ss w back)), (6, .long (fs_cos w)), (5, .int (nI w)), (4, .int (nI (k + 2 ^ i))), (0, .ref h0), (1, .int (nI k)), (2, .int (nI (2 ^ i))), (3, .int back)]) hx hb dX0_cross_111 hl (by decide) rfl (fun ls hl => ?_)
    refine lv_aload_n hx hb dX0_cross_113 rfl (lv_at hl 7 rfl) ?_
    refine fs_get C in_0 hH 0 rfl rfl 1 (by decide) mw_51 (v := .ref qi) rfl dX0_cross_114 ?_
    refine lv_iload_n hx hb dX0_cross_117 rfl (lv_at hl 8 rfl) ?_
    refine fs_iald C hH 2 rfl (k := k) rfl (by omega) (by decide) dX0_cross_118 ?_
    refine lv_i2l hx hb dX0_cross_119 rfl ?_
    refine lv_lstore (lv' := [(16, .long (Int32.toInt64 (S.2.1 k))), (14, .long (Int32.toInt64 (S.1 k))), (12, .long (fs_v S.1 S.2.1 (k + 2 ^ i) w back)), (10, .long (fs_u S.1 S.2.1 (k + 2 ^ i) w back)), (8, .long (fs_ss w back)), (6, .long (fs_cos w)), (5, .int (nI w)), (4, .int (nI (k + 2 ^ i))), (0, .ref h0), (1, .int (nI k)), (2, .int (nI (2 ^ i))), (3, .int back)]) hx hb dX0_cross_120 hl (by decide) rfl (fun ls hl => ?_)
    refine lv_aload_n hx hb dX0_cross_122 rfl (lv_at hl 8 rfl) ?_
    refine fs_get C in_0 hH 0 rfl rfl 0 (by decide) mw_50 (v := .ref qr) rfl dX0_cross_123 ?_
    refine lv_iload_n hx hb dX0_cross_126 rfl (lv_at hl 9 rfl) ?_
    refine lv_lload hx hb dX0_cross_127 (lv_at hl 1 rfl) ?_
    refine lv_lload hx hb dX0_cross_129 (lv_at hl 3 rfl) ?_
    refine lv_ladd hx hb dX0_cross_131 ?_
    refine fs_ci C hH (wr := [(h0, .inr (0, [.ref qr, .ref qi, .int S.2.2])), (qr, fs_ai X 32 S.1), (qi, fs_ai X 32 S.2.1)]) [] [0, 1, 2] rfl rfl (by decide) (by decide) (fs_rSN (rest := [.int (nI k), .ref qr]) (As := [.long ((Int32.toInt64 (S.1 k)) + (fs_u S.1 S.2.1 (k + 2 ^ i) w back))]) (n := 1) C hH (wc := []) [] (by decide) rfl (c_X4_satLong l X _ ((Int32.toInt64 (S.1 k)) + (fs_u S.1 S.2.1 (k + 2 ^ i) w back)) ) rfl rfl mw_175 (List.mem_of_getElem? (i := 17) rfl) mw_174 mw_1 (by decide +kernel) ⟨Nat.le_of_ble_eq_true rfl, Nat.le_of_ble_eq_true rfl⟩ rfl hl.1 rfl (Nat.le_of_ble_eq_true rfl) dX0_cross_132 ⟨Nat.le_of_ble_eq_true rfl, Nat.le_of_ble_eq_true rfl⟩) (fun r_35 u_36 H locs hr_37 hH => ?_)
    subst hr_37
    have hH : fs_H X A s [(h0, .inr (0, [.ref qr, .ref qi, .int S.2.2])), (qr, fs_ai X 32 S.1), (qi, fs_ai X 32 S.2.1)] _ _ := hH
    refine fs_iast C hH 1 rfl (k := k) rfl (by omega) (by decide) (ws' := [(h0, .inr (0, [.ref qr, .ref qi, .int S.2.2])), (qr, fs_ai X 32 (upd S.1 k (fs_sat ((Int32.toInt64 (S.1 k)) + (fs_u S.1 S.2.1 (k + 2 ^ i) w back)) 2147483647))), (qi, fs_ai X 32 S.2.1)]) rfl dX0_cross_135 (fun H locs hH => ?_)
    refine lv_aload_n hx hb dX0_cross_136 rfl (lv_at hl 8 rfl) ?_
    refine fs_get C in_0 hH 0 rfl rfl 1 (by decide) mw_51 (v := .ref qi) rfl dX0_cross_137 ?_
    refine lv_iload_n hx hb dX0_cross_140 rfl (lv_at hl 9 rfl) ?_
    refine lv_lload hx hb dX0_cross_141 (lv_at hl 0 rfl) ?_
    refine lv_lload hx hb dX0_cross_143 (lv_at hl 2 rfl) ?_
    refine lv_ladd hx hb dX0_cross_145 ?_
    refine fs_ci C hH (wr := [(h0, .inr (0, [.ref qr, .ref qi, .int S.2.2])), (qr, fs_ai X 32 (upd S.1 k (fs_sat ((Int32.toInt64 (S.1 k)) + (fs_u S.1 S.2.1 (k + 2 ^ i) w back)) 2147483647))), (qi, fs_ai X 32 S.2.1)]) [] [0, 1, 2] rfl rfl (by decide) (by decide) (fs_rSN (rest := [.int (nI k), .ref qi]) (As := [.long ((Int32.toInt64 (S.2.1 k)) + (fs_v S.1 S.2.1 (k + 2 ^ i) w back))]) (n := 1) C hH (wc := []) [] (by decide) rfl (c_X4_satLong l X _ ((Int32.toInt64 (S.2.1 k)) + (fs_v S.1 S.2.1 (k + 2 ^ i) w back)) ) rfl rfl mw_175 (List.mem_of_getElem? (i := 17) rfl) mw_174 mw_1 (by decide +kernel) ⟨Nat.le_of_ble_eq_true rfl, Nat.le_of_ble_eq_true rfl⟩ rfl hl.1 rfl (Nat.le_of_ble_eq_true rfl) dX0_cross_146 ⟨Nat.le_of_ble_eq_true rfl, Nat.le_of_ble_eq_true rfl⟩) (fun r_38 u_39 H locs hr_40 hH => ?_)
    subst hr_40
    have hH : fs_H X A s [(h0, .inr (0, [.ref qr, .ref qi, .int S.2.2])), (qr, fs_ai X 32 (upd S.1 k (fs_sat ((Int32.toInt64 (S.1 k)) + (fs_u S.1 S.2.1 (k + 2 ^ i) w back)) 2147483647))), (qi, fs_ai X 32 S.2.1)] _ _ := hH
    refine fs_iast C hH 2 rfl (k := k) rfl (by omega) (by decide) (ws' := [(h0, .inr (0, [.ref qr, .ref qi, .int S.2.2])), (qr, fs_ai X 32 (upd S.1 k (fs_sat ((Int32.toInt64 (S.1 k)) + (fs_u S.1 S.2.1 (k + 2 ^ i) w back)) 2147483647))), (qi, fs_ai X 32 (upd S.2.1 k (fs_sat ((Int32.toInt64 (S.2.1 k)) + (fs_v S.1 S.2.1 (k + 2 ^ i) w back)) 2147483647)))]) rfl dX0_cross_149 (fun H locs hH => ?_)
    refine lv_aload_n hx hb dX0_cross_150 rfl (lv_at hl 8 rfl) ?_
    refine fs_get C in_0 hH 0 rfl rfl 0 (by decide) mw_50 (v := .ref qr) rfl dX0_cross_151 ?_
    refine lv_iload hx hb dX0_cross_154 (lv_at hl 7 rfl) ?_
    refine lv_lload hx hb dX0_cross_156 (lv_at hl 1 rfl) ?_
    refine lv_lload hx hb dX0_cross_158 (lv_at hl 3 rfl) ?_
    refine lv_lsub hx hb dX0_cross_160 ?_
    refine fs_ci C hH (wr := [(h0, .inr (0, [.ref qr, .ref qi, .int S.2.2])), (qr, fs_ai X 32 (upd S.1 k (fs_sat ((Int32.toInt64 (S.1 k)) + (fs_u S.1 S.2.1 (k + 2 ^ i) w back)) 2147483647))), (qi, fs_ai X 32 (upd S.2.1 k (fs_sat ((Int32.toInt64 (S.2.1 k)) + (fs_v S.1 S.2.1 (k + 2 ^ i) w back)) 2147483647)))]) [] [0, 1, 2] rfl rfl (by decide) (by decide) (fs_rSN (rest := [.int (nI (k + 2 ^ i)), .ref qr]) (As := [.long ((Int32.toInt64 (S.1 k)) - (fs_u S.1 S.2.1 (k + 2 ^ i) w back))]) (n := 1) C hH (wc := []) [] (by decide) rfl (c_X4_satLong l X _ ((Int32.toInt64 (S.1 k)) - (fs_u S.1 S.2.1 (k + 2 ^ i) w back)) ) rfl rfl mw_175 (List.mem_of_getElem? (i := 17) rfl) mw_174 mw_1 (by decide +kernel) ⟨Nat.le_of_ble_eq_true rfl, Nat.le_of_ble_eq_true rfl⟩ rfl hl.1 rfl (Nat.le_of_ble_eq_true rfl) dX0_cross_161 ⟨Nat.le_of_ble_eq_true rfl, Nat.le_of_ble_eq_true rfl⟩) (fun r_41 u_42 H locs hr_43 hH => ?_)
    subst hr_43
    have hH : fs_H X A s [(h0, .inr (0, [.ref qr, .ref qi, .int S.2.2])), (qr, fs_ai X 32 (upd S.1 k (fs_sat ((Int32.toInt64 (S.1 k)) + (fs_u S.1 S.2.1 (k + 2 ^ i) w back)) 2147483647))), (qi, fs_ai X 32 (upd S.2.1 k (fs_sat ((Int32.toInt64 (S.2.1 k)) + (fs_v S.1 S.2.1 (k + 2 ^ i) w back)) 2147483647)))] _ _ := hH
    refine fs_iast C hH 1 rfl (k := (k + 2 ^ i)) rfl (by omega) (by decide) (ws' := [(h0, .inr (0, [.ref qr, .ref qi, .int S.2.2])), (qr, fs_ai X 32 (upd (upd S.1 k (fs_sat ((Int32.toInt64 (S.1 k)) + (fs_u S.1 S.2.1 (k + 2 ^ i) w back)) 2147483647)) (k + 2 ^ i) (fs_sat ((Int32.toInt64 (S.1 k)) - (fs_u S.1 S.2.1 (k + 2 ^ i) w back)) 2147483647))), (qi, fs_ai X 32 (upd S.2.1 k (fs_sat ((Int32.toInt64 (S.2.1 k)) + (fs_v S.1 S.2.1 (k + 2 ^ i) w back)) 2147483647)))]) rfl dX0_cross_164 (fun H locs hH => ?_)
    refine lv_aload_n hx hb dX0_cross_165 rfl (lv_at hl 8 rfl) ?_
    refine fs_get C in_0 hH 0 rfl rfl 1 (by decide) mw_51 (v := .ref qi) rfl dX0_cross_166 ?_
    refine lv_iload hx hb dX0_cross_169 (lv_at hl 7 rfl) ?_
    refine lv_lload hx hb dX0_cross_171 (lv_at hl 0 rfl) ?_
    refine lv_lload hx hb dX0_cross_173 (lv_at hl 2 rfl) ?_
    refine lv_lsub hx hb dX0_cross_175 ?_
    refine fs_ci C hH (wr := [(h0, .inr (0, [.ref qr, .ref qi, .int S.2.2])), (qr, fs_ai X 32 (upd (upd S.1 k (fs_sat ((Int32.toInt64 (S.1 k)) + (fs_u S.1 S.2.1 (k + 2 ^ i) w back)) 2147483647)) (k + 2 ^ i) (fs_sat ((Int32.toInt64 (S.1 k)) - (fs_u S.1 S.2.1 (k + 2 ^ i) w back)) 2147483647))), (qi, fs_ai X 32 (upd S.2.1 k (fs_sat ((Int32.toInt64 (S.2.1 k)) + (fs_v S.1 S.2.1 (k + 2 ^ i) w back)) 2147483647)))]) [] [0, 1, 2] rfl rfl (by decide) (by decide) (fs_rSN (rest := [.int (nI (k + 2 ^ i)), .ref qi]) (As := [.long ((Int32.toInt64 (S.2.1 k)) - (fs_v S.1 S.2.1 (k + 2 ^ i) w back))]) (n := 1) C hH (wc := []) [] (by decide) rfl (c_X4_satLong l X _ ((Int32.toInt64 (S.2.1 k)) - (fs_v S.1 S.2.1 (k + 2 ^ i) w back)) ) rfl rfl mw_175 (List.mem_of_getElem? (i := 17) rfl) mw_174 mw_1 (by decide +kernel) ⟨Nat.le_of_ble_eq_true rfl, Nat.le_of_ble_eq_true rfl⟩ rfl hl.1 rfl (Nat.le_of_ble_eq_true rfl) dX0_cross_176 ⟨Nat.le_of_ble_eq_true rfl, Nat.le_of_ble_eq_true rfl⟩) (fun r_44 u_45 H locs hr_46 hH => ?_)
    subst hr_46
    have hH : fs_H X A s [(h0, .inr (0, [.ref qr, .ref qi, .int S.2.2])), (qr, fs_ai X 32 (upd (upd S.1 k (fs_sat ((Int32.toInt64 (S.1 k)) + (fs_u S.1 S.2.1 (k + 2 ^ i) w back)) 2147483647)) (k + 2 ^ i) (fs_sat ((Int32.toInt64 (S.1 k)) - (fs_u S.1 S.2.1 (k + 2 ^ i) w back)) 2147483647))), (qi, fs_ai X 32 (upd S.2.1 k (fs_sat ((Int32.toInt64 (S.2.1 k)) + (fs_v S.1 S.2.1 (k + 2 ^ i) w back)) 2147483647)))] _ _ := hH
    refine fs_iast C hH 2 rfl (k := (k + 2 ^ i)) rfl (by omega) (by decide) (ws' := [(h0, .inr (0, [.ref qr, .ref qi, .int S.2.2])), (qr, fs_ai X 32 (upd (upd S.1 k (fs_sat ((Int32.toInt64 (S.1 k)) + (fs_u S.1 S.2.1 (k + 2 ^ i) w back)) 2147483647)) (k + 2 ^ i) (fs_sat ((Int32.toInt64 (S.1 k)) - (fs_u S.1 S.2.1 (k + 2 ^ i) w back)) 2147483647))), (qi, fs_ai X 32 (upd (upd S.2.1 k (fs_sat ((Int32.toInt64 (S.2.1 k)) + (fs_v S.1 S.2.1 (k + 2 ^ i) w back)) 2147483647)) (k + 2 ^ i) (fs_sat ((Int32.toInt64 (S.2.1 k)) - (fs_v S.1 S.2.1 (k + 2 ^ i) w back)) 2147483647)))]) rfl dX0_cross_179 (fun H locs hH => ?_)
    have hH : fs_H X A s [(h0, .inr (0, [.ref qr, .ref qi, .int S.2.2])), (qr, fs_ai X 32 (fs_xr S.1 S.2.1 k (k + 2 ^ i) w back)), (qi, fs_ai X 32 (fs_xi S.1 S.2.1 k (k + 2 ^ i) w back))] _ _ := hH.to (by rw [fs_xr, fs_xi])
    exact fs_vret C hH () rfl trivial dX0_cross_180
set_option maxHeartbeats 4000000 in
set_option maxRecDepth 100000 in
theorem c_X0_intoWaves (l : Launch) (X : fs_X) (sz : Nat) (h0 : Nat) (qr : Nat) (qi : Nat) (S : fs_K) (mm : Nat) (back : Int32) (hmm : mm < 6) : fs_M l X yX0_intoWaves cX0_intoWaves 6 none ({ frames := 3, cells := 0, slots := 0, locals := 75 }) [.ref h0, .int (nI mm), .int back] [(h0, .inr (0, [.ref qr, .ref qi, .int S.2.2])), (qr, fs_ai X 32 S.1), (qi, fs_ai X 32 S.2.1)] sz (fs_Qv X (fun (_ : Unit) => True) (fun _ => [(h0, .inr (0, [.ref qr, .ref qi, .int ((fs_tr mm back S mm).2.2)])), (qr, fs_ai X 32 ((fs_tr mm back S mm).1)), (qi, fs_ai X 32 ((fs_tr mm back S mm).2.1))])) 0 0 := by
  refine fs_ofW (by decide) (Nat.le_of_ble_eq_true rfl) ?_
  intro p e s m args below meth c A ls C hH hl
  have C : fs_At X A p s m args meth c cX0_intoWaves 6 none RX0 "intoWaves" := C
  have hx := C.1
  have hb := C.2.1
  have hown := C.2.2.2.2.1
  have hts := C.2.2.2.2.2.1
  have hl : lv_has ls 6 [(0, .ref h0), (1, .int (nI mm)), (2, .int back)] := hl
  have hp := fs_pw4 mm hmm
  have K_12 : ∀ (n : Nat) (i : Nat), (i ≤ mm) → (mm < i + n) → ∀ (H : Heap) (locs : List Loc), fs_H X A s [(h0, .inr (0, [.ref qr, .ref qi, .int ((fs_tr mm back S i).2.2)])), (qr, fs_ai X 32 ((fs_tr mm back S i).1)), (qi, fs_ai X 32 ((fs_tr mm back S i).2.1))] H locs → ∀ (ls : Array Slot), lv_has ls 6 [(0, .ref h0), (2, .int back), (3, .int (nI (2 ^ mm))), (4, .int (nI (2 ^ i)))] → W p l e ({ frames := 3, cells := 0, slots := 0, locals := 75 }) s m args below meth c H locs 0 0 (MQ below (fs_Qv X (fun (_ : Unit) => True) (fun _ => [(h0, .inr (0, [.ref qr, .ref qi, .int ((fs_tr mm back S mm).2.2)])), (qr, fs_ai X 32 ((fs_tr mm back S mm).1)), (qi, fs_ai X 32 ((fs_tr mm back S mm).2.1))]) A) args s 0 0 A) (F0 m 12 ls []) := by
    intro n
    induction n with
    | zero => intro i hi hfu; exact absurd hfu (by omega)
    | succ n ih_12 =>
      intro i hi hfu H locs hH ls hl
      have K_26 : ∀ (n : Nat) (k : Nat), (i < mm) → (k ≤ 2 ^ mm) → (2 ^ mm < k + n) → ∀ (H : Heap) (locs : List Loc), fs_H X A s [(h0, .inr (0, [.ref qr, .ref qi, .int ((fs_low (2 ^ mm) (fs_low (2 ^ mm) (fs_tr mm back S i))).2.2)])), (qr, fs_ai X 32 ((fs_cr i back (fs_low (2 ^ mm) (fs_low (2 ^ mm) (fs_tr mm back S i))).1 (fs_low (2 ^ mm) (fs_low (2 ^ mm) (fs_tr mm back S i))).2.1 k).1)), (qi, fs_ai X 32 ((fs_cr i back (fs_low (2 ^ mm) (fs_low (2 ^ mm) (fs_tr mm back S i))).1 (fs_low (2 ^ mm) (fs_low (2 ^ mm) (fs_tr mm back S i))).2.1 k).2))] H locs → ∀ (ls : Array Slot), lv_has ls 6 [(0, .ref h0), (2, .int back), (3, .int (nI (2 ^ mm))), (4, .int (nI (2 ^ i))), (5, .int (nI k))] → W p l e ({ frames := 3, cells := 0, slots := 0, locals := 75 }) s m args below meth c H locs 0 0 (MQ below (fs_Qv X (fun (_ : Unit) => True) (fun _ => [(h0, .inr (0, [.ref qr, .ref qi, .int ((fs_tr mm back S mm).2.2)])), (qr, fs_ai X 32 ((fs_tr mm back S mm).1)), (qi, fs_ai X 32 ((fs_tr mm back S mm).2.1))]) A) args s 0 0 A) (F0 m 26 ls []) := by
        intro n
        induction n with
        | zero => intro k him hk hfu; exact absurd hfu (by omega)
        | succ n ih_26 =>
          intro k him hk hfu H locs hH ls hl
          refine lv_iload hx hb dX0_intoWaves_26 (lv_at hl 4 rfl) ?_
          refine lv_iload_n hx hb dX0_intoWaves_28 rfl (lv_at hl 2 rfl) ?_
          refine lv_icmp_ge (tgt := 55) hx hb dX0_intoWaves_29 (by decide) (fun c_1 => ?_) (fun c_1 => ?_)
          · have hge := fs_geT (a := k) (b := 2 ^ mm) (by omega) (by omega) c_1
            have hkn : k = 2 ^ mm := by omega
            have hH : fs_H X A s [(h0, .inr (0, [.ref qr, .ref qi, .int ((fs_tr mm back S (i + 1)).2.2)])), (qr, fs_ai X 32 ((fs_tr mm back S (i + 1)).1)), (qi, fs_ai X 32 ((fs_tr mm back S (i + 1)).2.1))] _ _ := hH.to (by rw [hkn, fs_tr, fs_pass])
            refine lv_iload hx hb dX0_intoWaves_55 (lv_at hl 3 rfl) ?_
            refine lv_iconst (v := 2) hx hb dX0_intoWaves_57 (by decide) ?_
            refine lv_imul hx hb dX0_intoWaves_58 ?_
            refine fs_topi (y := (nI (2 ^ (i + 1)))) ((fs_pw2 i (by omega)).1) ?_
            refine lv_istore (lv' := [(4, .int (nI (2 ^ (i + 1)))), (0, .ref h0), (2, .int back), (3, .int (nI (2 ^ mm))), (5, .int (nI k))]) hx hb dX0_intoWaves_59 hl (by decide) rfl (fun ls hl => ?_)
            refine lv_goto (tgt := 12) hx hb dX0_intoWaves_61 (by decide) ?_
            exact ih_12 (i + 1) (by omega) (by omega) _ _ hH ls (lv_sub hl [1, 2, 3, 0] rfl)
          · have hlt := fs_geF (a := k) (b := 2 ^ mm) (by omega) (by omega) c_1
            refine lv_iload hx hb dX0_intoWaves_32 (lv_at hl 4 rfl) ?_
            refine lv_iload hx hb dX0_intoWaves_34 (lv_at hl 3 rfl) ?_
            refine lv_iand hx hb dX0_intoWaves_36 ?_
            refine lv_if_ne (tgt := 49) hx hb dX0_intoWaves_37 (by decide) (fun c_2 => ?_) (fun c_2 => ?_)
            · have hc : ¬ k / 2 ^ i % 2 = 0 := fun z => c_2 ((fs_and1 i (by omega) k (by omega)).mpr z)
              have hH : fs_H X A s [(h0, .inr (0, [.ref qr, .ref qi, .int ((fs_low (2 ^ mm) (fs_low (2 ^ mm) (fs_tr mm back S i))).2.2)])), (qr, fs_ai X 32 ((fs_cr i back (fs_low (2 ^ mm) (fs_low (2 ^ mm) (fs_tr mm back S i))).1 (fs_low (2 ^ mm) (fs_low (2 ^ mm) (fs_tr mm back S i))).2.1 (k + 1)).1)), (qi, fs_ai X 32 ((fs_cr i back (fs_low (2 ^ mm) (fs_low (2 ^ mm) (fs_tr mm back S i))).1 (fs_low (2 ^ mm) (fs_low (2 ^ mm) (fs_tr mm back S i))).2.1 (k + 1)).2))] _ _ := hH.to (by rw [fs_crF hc])
              refine lv_iinc (v := (nI (k + 1))) (lv' := [(5, .int (nI (k + 1))), (0, .ref h0), (2, .int back), (3, .int (nI (2 ^ mm))), (4, .int (nI (2 ^ i)))]) hx hb dX0_intoWaves_49 hl (k := 4) rfl (nI_1 k) (by decide) rfl (fun ls hl => ?_)
              refine lv_goto (tgt := 26) hx hb dX0_intoWaves_52 (by decide) ?_
              exact ih_26 (k + 1) him (by omega) (by omega) _ _ hH ls (lv_sub hl [1, 2, 3, 4, 0] rfl)
            · have hc := (fs_and1 i (by omega) k (by omega)).mp c_2
              have htop := fs_top mm hmm i him k hlt hc
              refine lv_aload_n hx hb dX0_intoWaves_40 rfl (lv_at hl 0 rfl) ?_
              refine lv_iload hx hb dX0_intoWaves_41 (lv_at hl 4 rfl) ?_
              refine lv_iload hx hb dX0_intoWaves_43 (lv_at hl 3 rfl) ?_
              refine lv_iload_n hx hb dX0_intoWaves_45 rfl (lv_at hl 1 rfl) ?_
              refine fs_cv C hH (wr := []) [0, 1, 2] [] rfl rfl (by decide) (by decide) (fs_rV (rest := []) (As := [.int (nI k), .int (nI (2 ^ i)), .int back]) (n := 3) (q0 := 0) (ci := 0) C hH (wc := [(h0, .inr (0, [.ref qr, .ref qi, .int ((fs_low (2 ^ mm) (fs_low (2 ^ mm) (fs_tr mm back S i))).2.2)])), (qr, fs_ai X 32 ((fs_cr i back (fs_low (2 ^ mm) (fs_low (2 ^ mm) (fs_tr mm back S i))).1 (fs_low (2 ^ mm) (fs_low (2 ^ mm) (fs_tr mm back S i))).2.1 k).1)), (qi, fs_ai X 32 ((fs_cr i back (fs_low (2 ^ mm) (fs_low (2 ^ mm) (fs_tr mm back S i))).1 (fs_low (2 ^ mm) (fs_low (2 ^ mm) (fs_tr mm back S i))).2.1 k).2))]) [0, 1, 2] (by decide) rfl (c_X0_cross l X _ h0 qr qi (((fs_cr i back (fs_low (2 ^ mm) (fs_low (2 ^ mm) (fs_tr mm back S i))).1 (fs_low (2 ^ mm) (fs_low (2 ^ mm) (fs_tr mm back S i))).2.1 k).1, (fs_cr i back (fs_low (2 ^ mm) (fs_low (2 ^ mm) (fs_tr mm back S i))).1 (fs_low (2 ^ mm) (fs_low (2 ^ mm) (fs_tr mm back S i))).2.1 k).2, (fs_low (2 ^ mm) (fs_low (2 ^ mm) (fs_tr mm back S i))).2.2) : fs_K) k i (k % 2 ^ i * 16 / 2 ^ i) back (by omega) (by omega) (fs_and2 i (by omega) k (by omega)) (fs_wv i (by omega) k (by omega))) rfl rfl rfl rfl mw_260 mw_258 mw_259 mw_491 mw_4 (by decide +kernel) ⟨Nat.le_of_ble_eq_true rfl, Nat.le_of_ble_eq_true rfl⟩ rfl hl.1 rfl (Nat.le_of_ble_eq_true rfl) dX0_intoWaves_46 ⟨Nat.le_of_ble_eq_true rfl, Nat.le_of_ble_eq_true rfl⟩) (fun u_4 H locs hr_5 hH => ?_)
              have hH : fs_H X A s [(h0, .inr (0, [.ref qr, .ref qi, .int ((fs_low (2 ^ mm) (fs_low (2 ^ mm) (fs_tr mm back S i))).2.2)])), (qr, fs_ai X 32 (fs_xr (fs_cr i back (fs_low (2 ^ mm) (fs_low (2 ^ mm) (fs_tr mm back S i))).1 (fs_low (2 ^ mm) (fs_low (2 ^ mm) (fs_tr mm back S i))).2.1 k).1 (fs_cr i back (fs_low (2 ^ mm) (fs_low (2 ^ mm) (fs_tr mm back S i))).1 (fs_low (2 ^ mm) (fs_low (2 ^ mm) (fs_tr mm back S i))).2.1 k).2 k (k + 2 ^ i) (k % 2 ^ i * 16 / 2 ^ i) back)), (qi, fs_ai X 32 (fs_xi (fs_cr i back (fs_low (2 ^ mm) (fs_low (2 ^ mm) (fs_tr mm back S i))).1 (fs_low (2 ^ mm) (fs_low (2 ^ mm) (fs_tr mm back S i))).2.1 k).1 (fs_cr i back (fs_low (2 ^ mm) (fs_low (2 ^ mm) (fs_tr mm back S i))).1 (fs_low (2 ^ mm) (fs_low (2 ^ mm) (fs_tr mm back S i))).2.1 k).2 k (k + 2 ^ i) (k % 2 ^ i * 16 / 2 ^ i) back))] _ _ := hH
              have hH : fs_H X A s [(h0, .inr (0, [.ref qr, .ref qi, .int ((fs_low (2 ^ mm) (fs_low (2 ^ mm) (fs_tr mm back S i))).2.2)])), (qr, fs_ai X 32 ((fs_cr i back (fs_low (2 ^ mm) (fs_low (2 ^ mm) (fs_tr mm back S i))).1 (fs_low (2 ^ mm) (fs_low (2 ^ mm) (fs_tr mm back S i))).2.1 (k + 1)).1)), (qi, fs_ai X 32 ((fs_cr i back (fs_low (2 ^ mm) (fs_low (2 ^ mm) (fs_tr mm back S i))).1 (fs_low (2 ^ mm) (fs_low (2 ^ mm) (fs_tr mm back S i))).2.1 (k + 1)).2))] _ _ := hH.to (by rw [fs_crT hc])
              refine lv_iinc (v := (nI (k + 1))) (lv' := [(5, .int (nI (k + 1))), (0, .ref h0), (2, .int back), (3, .int (nI (2 ^ mm))), (4, .int (nI (2 ^ i)))]) hx hb dX0_intoWaves_49 hl (k := 4) rfl (nI_1 k) (by decide) rfl (fun ls hl => ?_)
              refine lv_goto (tgt := 26) hx hb dX0_intoWaves_52 (by decide) ?_
              exact ih_26 (k + 1) him (by omega) (by omega) _ _ hH ls (lv_sub hl [1, 2, 3, 4, 0] rfl)
      refine lv_iload hx hb dX0_intoWaves_12 (lv_at hl 3 rfl) ?_
      refine lv_iload_n hx hb dX0_intoWaves_14 rfl (lv_at hl 2 rfl) ?_
      refine lv_icmp_ge (tgt := 64) hx hb dX0_intoWaves_15 (by decide) (fun c_6 => ?_) (fun c_6 => ?_)
      · have hge := (fs_pw3 mm hmm i (by omega)).mp c_6
        have hie : i = mm := by omega
        have hH : fs_H X A s [(h0, .inr (0, [.ref qr, .ref qi, .int ((fs_tr mm back S mm).2.2)])), (qr, fs_ai X 32 ((fs_tr mm back S mm).1)), (qi, fs_ai X 32 ((fs_tr mm back S mm).2.1))] _ _ := hH.to (by rw [hie])
        exact fs_vret C hH () rfl trivial dX0_intoWaves_64
      · have him : i < mm := Nat.lt_of_not_le fun z => c_6 ((fs_pw3 mm hmm i (by omega)).mpr z)
        refine lv_aload_n hx hb dX0_intoWaves_18 rfl (lv_at hl 0 rfl) ?_
        refine lv_iload_n hx hb dX0_intoWaves_19 rfl (lv_at hl 2 rfl) ?_
        refine fs_cv C hH (wr := []) [0, 1, 2] [] rfl rfl (by decide) (by decide) (fs_rV (rest := []) (As := [.int (nI (2 ^ mm))]) (n := 1) (q0 := 0) (ci := 0) C hH (wc := [(h0, .inr (0, [.ref qr, .ref qi, .int ((fs_tr mm back S i).2.2)])), (qr, fs_ai X 32 ((fs_tr mm back S i).1)), (qi, fs_ai X 32 ((fs_tr mm back S i).2.1))]) [0, 1, 2] (by decide) rfl (c_X0_makeRoom l X _ h0 qr qi (fs_tr mm back S i) (2 ^ mm) (by omega)) rfl rfl rfl rfl mw_253 mw_251 mw_252 mw_489 mw_4 (by decide +kernel) ⟨Nat.le_of_ble_eq_true rfl, Nat.le_of_ble_eq_true rfl⟩ rfl hl.1 rfl (Nat.le_of_ble_eq_true rfl) dX0_intoWaves_20 ⟨Nat.le_of_ble_eq_true rfl, Nat.le_of_ble_eq_true rfl⟩) (fun u_8 H locs hr_9 hH => ?_)
        have hH : fs_H X A s [(h0, .inr (0, [.ref qr, .ref qi, .int ((fs_low (2 ^ mm) (fs_low (2 ^ mm) (fs_tr mm back S i))).2.2)])), (qr, fs_ai X 32 ((fs_low (2 ^ mm) (fs_low (2 ^ mm) (fs_tr mm back S i))).1)), (qi, fs_ai X 32 ((fs_low (2 ^ mm) (fs_low (2 ^ mm) (fs_tr mm back S i))).2.1))] _ _ := hH
        refine lv_iconst (v := 0) hx hb dX0_intoWaves_23 (by decide) ?_
        have hH : fs_H X A s [(h0, .inr (0, [.ref qr, .ref qi, .int ((fs_low (2 ^ mm) (fs_low (2 ^ mm) (fs_tr mm back S i))).2.2)])), (qr, fs_ai X 32 ((fs_cr i back (fs_low (2 ^ mm) (fs_low (2 ^ mm) (fs_tr mm back S i))).1 (fs_low (2 ^ mm) (fs_low (2 ^ mm) (fs_tr mm back S i))).2.1 0).1)), (qi, fs_ai X 32 ((fs_cr i back (fs_low (2 ^ mm) (fs_low (2 ^ mm) (fs_tr mm back S i))).1 (fs_low (2 ^ mm) (fs_low (2 ^ mm) (fs_tr mm back S i))).2.1 0).2))] _ _ := hH.to (by rw [fs_cr])
        refine lv_istore (lv' := [(5, .int 0), (0, .ref h0), (2, .int back), (3, .int (nI (2 ^ mm))), (4, .int (nI (2 ^ i)))]) hx hb dX0_intoWaves_24 hl (by decide) rfl (fun ls hl => ?_)
        exact K_26 (2 ^ mm + 1) 0 him (by omega) (by omega) _ _ hH ls (lv_sub hl [1, 2, 3, 4, 0] rfl)
  have hH : fs_H X A s [(h0, .inr (0, [.ref qr, .ref qi, .int S.2.2])), (qr, fs_ai X 32 S.1), (qi, fs_ai X 32 S.2.1)] s.heap [] := hH
  refine lv_iconst (v := 1) hx hb dX0_intoWaves_0 (by decide) ?_
  refine lv_iload_n hx hb dX0_intoWaves_1 rfl (lv_at hl 1 rfl) ?_
  refine lv_ishl hx hb dX0_intoWaves_2 ?_
  refine fs_topi (y := (nI (2 ^ mm))) (fs_pw1 mm hmm) ?_
  refine lv_istore_n (lv' := [(3, .int (nI (2 ^ mm))), (0, .ref h0), (1, .int (nI mm)), (2, .int back)]) hx hb dX0_intoWaves_3 rfl hl (by decide) rfl (fun ls hl => ?_)
  refine lv_aload_n hx hb dX0_intoWaves_4 rfl (lv_at hl 1 rfl) ?_
  refine lv_iload_n hx hb dX0_intoWaves_5 rfl (lv_at hl 2 rfl) ?_
  refine fs_cv C hH (wr := []) [0, 1, 2] [] rfl rfl (by decide) (by decide) (fs_rV (rest := []) (As := [.int (nI mm)]) (n := 1) (q0 := 0) (ci := 0) C hH (wc := [(h0, .inr (0, [.ref qr, .ref qi, .int S.2.2])), (qr, fs_ai X 32 S.1), (qi, fs_ai X 32 S.2.1)]) [0, 1, 2] (by decide) rfl (c_X0_reorder l X _ h0 qr qi S mm (by omega)) rfl rfl rfl rfl mw_244 mw_242 mw_243 mw_488 mw_4 (by decide +kernel) ⟨Nat.le_of_ble_eq_true rfl, Nat.le_of_ble_eq_true rfl⟩ rfl hl.1 rfl (Nat.le_of_ble_eq_true rfl) dX0_intoWaves_6 ⟨Nat.le_of_ble_eq_true rfl, Nat.le_of_ble_eq_true rfl⟩) (fun u_11 H locs hr_12 hH => ?_)
  have hH : fs_H X A s [(h0, .inr (0, [.ref qr, .ref qi, .int S.2.2])), (qr, fs_ai X 32 (fs_pm mm S.1)), (qi, fs_ai X 32 (fs_pm mm S.2.1))] _ _ := hH
  refine lv_iconst (v := 1) hx hb dX0_intoWaves_9 (by decide) ?_
  have hH : fs_H X A s [(h0, .inr (0, [.ref qr, .ref qi, .int ((fs_tr mm back S 0).2.2)])), (qr, fs_ai X 32 ((fs_tr mm back S 0).1)), (qi, fs_ai X 32 ((fs_tr mm back S 0).2.1))] _ _ := hH.to (by rw [fs_tr])
  refine lv_istore (lv' := [(4, .int 1), (3, .int (nI (2 ^ mm))), (0, .ref h0), (1, .int (nI mm)), (2, .int back)]) hx hb dX0_intoWaves_10 hl (by decide) rfl (fun ls hl => ?_)
  exact K_12 (mm + 1) 0 (by omega) (by omega) _ _ hH ls (lv_sub hl [2, 4, 1, 0] rfl)
end
section
-- methods that may throw; methods with a table
abbrev fs_IAE : String := "java/lang/IllegalArgumentException"
abbrev fs_EX : List String := ["java/lang/RuntimeException", "java/lang/Exception"]
def fs_XC (X : fs_X) (ws : va_W) (bad : Prop) (A : Nat → Prop) : String → State → State → Prop := vx_X (S := Unit) (fun _ => bad) (fun E _ t => E = fs_IAE ∧ va_P X.1 vwCl ws t.heap ∧ va_D A ws) A
def fs_MX (l : Launch) (X : fs_X) (y : MethodName) (cc : ByteArray) (maxL : Nat) (ret : Option FieldType) (rm : Room) (av : List Value) (ws : va_W) (sz : Nat) (Qc : (Nat → Prop) → Array Value → State → Outcome → State → Prop) (bad : Prop) (mc ms : Nat) : Prop :=
  vx_Met l y (Cond.code y cc maxL ret :: fs_G) rm (fs_Pc X av ws sz) (Qc (va_A ws sz)) (fs_XC X ws bad (va_A ws sz)) mc ms (va_A ws sz)
theorem fs_ofX {l : Launch} {X : fs_X} {y : MethodName} {cc : ByteArray} {maxL : Nat} {ret : Option FieldType} {rm : Room} {av : List Value} {ws : va_W} {sz : Nat} {Qc : (Nat → Prop) → Array Value → State → Outcome → State → Prop} {bad : Prop} {mc ms : Nat} (hy : plainName y.cls = true) (hlen : (lg_sl av).length ≤ maxL)
    (body : ∀ (p : Program) (e : Env) (s : State) (m : MethodId) (args : Array Value) (below : List Frame) (meth : Method) (c : Code) (A : Nat → Prop) (ls : Array Slot), fs_At X A p s m args meth c cc maxL ret y.cls y.name → fs_H X A s ws s.heap [] → lv_has ls maxL (lv_args 0 av) → (∀ x ∈ c.exceptionTable.toList, False) →
      W p l e rm s m args below meth c s.heap [] 0 0 (vx_MQ below (Qc A) (fs_XC X ws bad A) args s mc ms A) (F0 m 0 ls [])) : fs_MX l X y cc maxL ret rm av ws sz Qc bad mc ms := by
  refine vx_ofW (cc := cc) (maxL := maxL) (ret := ret) hy rfl ?_
  intro p e s m args below meth c s₁ B hml ht hv
  obtain ⟨rfl, hsz, hP, hE, hD, hB⟩ := hv
  have hts := atoms_spec (ws := Cond.code y cc maxL ret :: fs_G) B.pre
  have hl := lv_entry av (n := maxL) hlen
  rw [lg_entry_eq]
  generalize (lg_sl av ++ List.replicate (maxL - (lg_sl av).length) Slot.unset).toArray = ls at hl ⊢
  refine body p e s m _ below meth c (va_A ws sz) ls ⟨B.exec, B.bytes, B.returns, hml, findClass_of_methodNamed B.named, fun w hw => hts w (List.mem_cons_of_mem _ hw), B.notSynchronized, (name_of_methodNamed B.named B.method).1, hE, ?_, ?_⟩ ⟨hP, hD.self, va_S.rf⟩ hl ht
  · intro q hq; rw [hsz] at hq; exact Or.inr hq
  · intro q hq
    rcases hq with ⟨k, e9, h9⟩ | h9
    · exact hD.2 k _ h9
    · exact Nat.le_trans hB h9
def fs_ML (l : Launch) (X : fs_X) (y : MethodName) (cc : ByteArray) (maxL : Nat) (ret : Option FieldType) (hh : List (Nat × Nat × Nat × Nat)) (rm : Room) (av : List Value) (ws : va_W) (sz : Nat) (Qc : (Nat → Prop) → Array Value → State → Outcome → State → Prop) (mc ms : Nat) : Prop :=
  Met l y (Cond.codeWith y cc maxL ret hh :: fs_G) rm (fs_Pc X av ws sz) (Qc (va_A ws sz)) mc ms (va_A ws sz)
theorem fs_ofL {l : Launch} {X : fs_X} {y : MethodName} {cc : ByteArray} {maxL : Nat} {ret : Option FieldType} {hh : List (Nat × Nat × Nat × Nat)} {rm : Room} {av : List Value} {ws : va_W} {sz : Nat} {Qc : (Nat → Prop) → Array Value → State → Outcome → State → Prop} {mc ms : Nat} (hy : plainName y.cls = true) (hlen : (lg_sl av).length ≤ maxL)
    (body : ∀ (p : Program) (e : Env) (s : State) (m : MethodId) (args : Array Value) (below : List Frame) (meth : Method) (c : Code) (A : Nat → Prop) (ls : Array Slot), fs_At X A p s m args meth c cc maxL ret y.cls y.name → fs_H X A s ws s.heap [] → lv_has ls maxL (lv_args 0 av) → c.exceptionTable.toList = tableOf hh →
      W p l e rm s m args below meth c s.heap [] 0 0 (MQ below (Qc A) args s mc ms A) (F0 m 0 ls [])) : fs_ML l X y cc maxL ret hh rm av ws sz Qc mc ms := by
  refine va_MetW (cc := cc) (maxL := maxL) (ret := ret) (hh := hh) hy rfl ?_
  intro p e s m args below meth c s₁ B hml hv
  obtain ⟨rfl, hsz, hP, hE, hD, hB⟩ := hv
  have hts := atoms_spec (ws := Cond.codeWith y cc maxL ret hh :: fs_G) B.pre
  have ht : c.exceptionTable.toList = tableOf hh := vx_table (x := y) B (hts _ List.mem_cons_self)
  have hl := lv_entry av (n := maxL) hlen
  rw [lg_entry_eq]
  generalize (lg_sl av ++ List.replicate (maxL - (lg_sl av).length) Slot.unset).toArray = ls at hl ⊢
  refine body p e s m _ below meth c (va_A ws sz) ls ⟨B.exec, B.bytes, B.returns, hml, findClass_of_methodNamed B.named, fun w hw => hts w (List.mem_cons_of_mem _ hw), B.notSynchronized, (name_of_methodNamed B.named B.method).1, hE, ?_, ?_⟩ ⟨hP, hD.self, va_S.rf⟩ hl ht
  · intro q hq; rw [hsz] at hq; exact Or.inr hq
  · intro q hq
    rcases hq with ⟨k, e9, h9⟩ | h9
    · exact hD.2 k _ h9
    · exact Nat.le_trans hB h9
theorem fs_x0 : ∀ w ∈ (vx_at0 RX4 43 fs_IAE fs_EX).filter goodWord, w ∈ lw_tbl := by decide +kernel
theorem fs_x1 : ∀ w ∈ (vx_at0 RX4 43 fs_IAE fs_EX).filter (fun w => !goodWord w), w ∈ Cond.castable fs_IAE fs_IAE :: fs_ND.map Cond.declares := by decide +kernel
theorem fs_x2 : ∀ w ∈ Cond.classLink RX4 41 fs_IAE :: Cond.initialized fs_IAE :: vx_at0 RX4 43 fs_IAE fs_EX, vx_ot w = true := by decide +kernel
theorem fs_at0 {args : Array Value} {s : State} (hts : ∀ w ∈ fs_G, w.before args s = true) (hN : fs_N s) : ∀ w ∈ vx_at0 RX4 43 fs_IAE fs_EX, w.before args s = true :=
  vx_hat (fun w hw => hts w (List.mem_filter.mpr ⟨fs_x0 w hw, (List.mem_filter.mp hw).2⟩)) fs_x1 (vx_c (va_Nw.use rfl hN.2.2.1.1) (fun w hw => by obtain ⟨y, hy, rfl⟩ := List.mem_map.mp hw; exact va_Nw.use rfl (hN.2.2.1.2 y hy)))
section FST
variable {p : Program} {l : Launch} {e : Env} {R : Room} {s : State} {m : MethodId} {args : Array Value} {below : List Frame} {meth : Method} {c : Code} {H : Heap} {locs : List Loc} {cells slots : Nat} {Q : State → Prop}
variable {cc : ByteArray} {pc : Nat} {ls : Array Slot} {rest : List Value} {A : Nat → Prop} {a : Nat} {ws : va_W} {X : fs_X} {maxL : Nat} {ret : Option FieldType} {own nm : String}
theorem fs_throw (C : fs_At X A p s m args meth c cc maxL ret RX4 nm) (hl9 : l.stackTraces = false) (ht : ∀ x ∈ c.exceptionTable.toList, False) (hH : fs_H X A s ws H locs) (hsz : ls.size = maxL) {bad : Prop} (hbad : bad) {Qc : Array Value → State → Outcome → State → Prop} {mc ms : Nat} (hk : Cond.classLink RX4 41 fs_IAE ∈ fs_G) (hini : Cond.initialized fs_IAE ∈ fs_G)
    (d0 : decode cc pc = .ok (.new 41, 3)) (d3 : decode cc (pc + 3) = .ok (.dup, 1)) (d4 : decode cc (pc + 4) = .ok (.invokespecial 43, 3)) (d7 : decode cc (pc + 7) = .ok (.athrow, 1))
    (hRf : 5 < R.frames) (hRl : (rest.map fun v => v.category).sum + 81 ≤ R.locals) (hRc : cells + 1 ≤ R.cells) (hRs : slots + 6 ≤ R.slots) (hc : cells + 1 ≤ mc) (hs : slots + 6 ≤ ms) :
    W p l e R s m args below meth c H locs cells slots (vx_MQ below Qc (fs_XC X ws bad A) args s mc ms A) (F0 m pc ls rest) := by
  obtain ⟨hx, hb, hr, hml, hown, hts, hlocks, -, hE, hA, hAB⟩ := C
  refine vx_throw0 (names := fs_EX) (A := A) hx hb hl9 hown (by decide) (by decide) (hts _ hk) (hts _ hini) (fs_at0 hts hE.2.1) fs_x2 (hE.2.2.2.2.1.narrow hAB) (hE.2.2.2.2.2.narrow hAB) hH.2.2 (by rw [hml]; exact hsz) d0 d3 d4 d7 (fun x hx9 => (ht x hx9).elim) hRf (by show _ + (13 * (2 + 1) + 42) ≤ _; exact hRl) hRc hRs hlocks ?_ hH.2.2.2.2 hc hs
  intro t hal hz hk9
  refine ⟨(), hbad, ⟨rfl, hH.1.kept (fun k q hq => hk9 q.1 ((hH.1 k q hq).lt)), hH.2.1⟩, Nat.le_trans hH.2.2.1 hz, fun q h1 h2 => ?_⟩
  rw [hk9 q (Nat.lt_of_lt_of_le h1 hH.2.2.1)]
  exact hH.2.2.2.1 q h1 h2
theorem fs_rVX (C : fs_At X A p s m args meth c cc maxL ret own nm) (hH : fs_H X A s ws H locs) {wc : va_W} (isC : List Nat) (hn : va_nd isC = true) (hC : isC.map (fun i => ws[i]?) = wc.map some) {y : MethodName} {b9 : ByteArray} {n9 n index mc ms q0 ci b : Nat} {fs : List Value} {C9 : vw_C} {r9 : Option FieldType} {rm : Room} {As : List Value} {Qc : (Nat → Prop) → Array Value → State → Outcome → State → Prop} {bad : Prop} (hM : fs_MX l X y b9 n9 r9 rm (.ref b :: As) wc H.size Qc bad mc ms) (hcl : vwCl[ci]? = some C9) (hq : ws[q0]? = some (b, .inr (ci, fs)))
    (hrc : rm.cells = mc) (hrs : rm.slots = ms) (hcode : Cond.code y b9 n9 r9 ∈ fs_G) (hlink : Cond.methodLink own index y ∈ fs_G) (hinst : Cond.instanceMethod y ∈ fs_G) (hsel : Cond.selects C9.1 y y ∈ fs_G) (hini : Cond.initialized y.cls ∈ fs_G) (hd : fs_des y n) (hR : rm.frames + 1 ≤ R.frames ∧ 8 + (n9 + 11) + rm.locals ≤ R.locals) (hlen : As.length = n) (hsz : ls.size = maxL) {st0 : List Value} (hst : st0 = As.reverse ++ .ref b :: rest) (hrm : (rest.map fun v => v.category).sum ≤ 8) (hdg : decode cc pc = .ok (.invokevirtual index, 3)) (hf : cells + mc ≤ R.cells ∧ slots + ms ≤ R.slots) :
    vx_Run p l e R s m args below meth c H locs cells slots mc ms (F0 m pc ls st0) rest (Qc (va_A wc H.size) (Value.ref b :: As).toArray) (fs_XC X wc bad (va_A wc H.size)) (va_A wc H.size) := by
  obtain ⟨hx, hb, -, hml, hown, hts, -, -, hE, -, -⟩ := id C
  exact vx_runV (Ts := fs_G) (C := C9.1) ⟨hx, hb, hml, hown, hts⟩ hM ⟨callB_of n hts (fs_good hcode) rfl hrc hrs (hts _ hini) (hts _ hlink) hd hR, hts _ hinst, hts _ hsel⟩ ⟨fs_blind, va_recv hE.1 hH.1 hcl hq, fun U hU hW => fs_pre C hH isC hn hC U hU hW⟩ rfl hlen hsz hst (lv_room hrm) hdg hf
theorem fs_xci (C : fs_At X A p s m args meth c cc maxL ret own nm) (hH : fs_H X A s ws H locs) {wc wr : va_W} (isC isR : List Nat) (hC : isC.map (fun i => ws[i]?) = wc.map some) (hR : isR.map (fun i => ws[i]?) = wr.map some) (hn : va_nd isR = true) (hdis : ∀ i ∈ isR, i ∉ isC) (hnC : va_nd isC = true) {mc ms : Nat} {st0 : List Value} {S : Type} {post : Int32 → S → Prop} {wf : S → va_W} {a9 : Array Value} {bad : Prop}
    (x : ExceptionTableEntry) (htab : c.exceptionTable.toList = [x]) (hcov : covers x pc = true) (h0 : x.catchType ≠ 0) (hlink : Cond.classLink own x.catchType fs_IAE ∈ fs_G)
    (hr : vx_Run p l e R s m args below meth c H locs cells slots mc ms (F0 m pc ls st0) rest (fs_Qi X post wf (va_A wc H.size) a9) (fs_XC X wc bad (va_A wc H.size)) (va_A wc H.size))
    (kx : ∀ (q9 : Nat) (H1 : Heap) (locs1 : List Loc), bad → fs_H X A s (wr ++ wc) H1 locs1 → W p l e R s m args below meth c H1 locs1 (cells + mc) (slots + ms) Q (F0 m x.handlerPc ls [.ref q9]))
    (kk : ∀ (r : Int32) (u : S) (H1 : Heap) (locs1 : List Loc), post r u → fs_H X A s (wr ++ wf u) H1 locs1 → W p l e R s m args below meth c H1 locs1 (cells + mc) (slots + ms) Q (F0 m (pc + 3) ls (.int r :: rest))) : W p l e R s m args below meth c H locs cells slots Q (F0 m pc ls st0) := by
  have hF := va_free hH.2.1 hH.2.2 C.2.2.2.2.2.2.2.2.2.1 isC hC
  obtain ⟨hx, hb, -, hml, hown, hts, -, -, hE, -, -⟩ := id C
  refine vx_calli hr hH.2.2 (fun q _ h => hF q h) hF (fun q _ h => hF q h) (fun E ce q9 u t H1 locs1 ht hvm hp hB hz hk hS hce hcv hcl => ?_) (fun r u t H1 locs1 ht hvm hp hB hz hk hS => kk r u H1 locs1 hp (fs_join C hH isC isR hC hR hn hdis hk (by rw [← ht]; exact hB.1) hB.2 hS))
  obtain ⟨hE1, hP1, hD1⟩ := hB
  subst hE1
  exact fs_catch (name := fs_IAE) hown x htab hcov h0 (hts _ hlink) (va_Nw.use rfl hE.2.1.2.2.1.1) hce hcv hcl (kx q9 H1 locs1 hp (fs_join C hH isC isR hC hR hn hdis hk (by rw [← ht]; exact hP1) hD1 hS))
theorem fs_xcv (C : fs_At X A p s m args meth c cc maxL ret own nm) (hH : fs_H X A s ws H locs) {wc wr : va_W} (isC isR : List Nat) (hC : isC.map (fun i => ws[i]?) = wc.map some) (hR : isR.map (fun i => ws[i]?) = wr.map some) (hn : va_nd isR = true) (hdis : ∀ i ∈ isR, i ∉ isC) (hnC : va_nd isC = true) {mc ms : Nat} {st0 : List Value} {S : Type} {post : S → Prop} {wf : S → va_W} {a9 : Array Value} {bad : Prop}
    (x : ExceptionTableEntry) (htab : c.exceptionTable.toList = [x]) (hcov : covers x pc = true) (h0 : x.catchType ≠ 0) (hlink : Cond.classLink own x.catchType fs_IAE ∈ fs_G)
    (hr : vx_Run p l e R s m args below meth c H locs cells slots mc ms (F0 m pc ls st0) rest (fs_Qv X post wf (va_A wc H.size) a9) (fs_XC X wc bad (va_A wc H.size)) (va_A wc H.size))
    (kx : ∀ (q9 : Nat) (H1 : Heap) (locs1 : List Loc), bad → fs_H X A s (wr ++ wc) H1 locs1 → W p l e R s m args below meth c H1 locs1 (cells + mc) (slots + ms) Q (F0 m x.handlerPc ls [.ref q9]))
    (kk : ∀ (u : S) (H1 : Heap) (locs1 : List Loc), post u → fs_H X A s (wr ++ wf u) H1 locs1 → W p l e R s m args below meth c H1 locs1 (cells + mc) (slots + ms) Q (F0 m (pc + 3) ls rest)) : W p l e R s m args below meth c H locs cells slots Q (F0 m pc ls st0) := by
  have hF := va_free hH.2.1 hH.2.2 C.2.2.2.2.2.2.2.2.2.1 isC hC
  obtain ⟨hx, hb, -, hml, hown, hts, -, -, hE, -, -⟩ := id C
  refine vx_callv hr hH.2.2 (fun q _ h => hF q h) hF (fun q _ h => hF q h) (fun E ce q9 u t H1 locs1 ht hvm hp hB hz hk hS hce hcv hcl => ?_) (fun u t H1 locs1 ht hvm hp hB hz hk hS => kk u H1 locs1 hp (fs_join C hH isC isR hC hR hn hdis hk (by rw [← ht]; exact hB.1) hB.2 hS))
  obtain ⟨hE1, hP1, hD1⟩ := hB
  subst hE1
  exact fs_catch (name := fs_IAE) hown x htab hcov h0 (hts _ hlink) (va_Nw.use rfl hE.2.1.2.2.1.1) hce hcv hcl (kx q9 H1 locs1 hp (fs_join C hH isC isR hC hR hn hdis hk (by rw [← ht]; exact hP1) hD1 hS))
end FST
theorem fs_ixn {i : Int32} {n : Nat} (hn : n < 2 ^ 31) (h : ¬ i < 0 ∧ ¬ nI n ≤ i) : i = nI i.toNatClampNeg ∧ i.toNatClampNeg < n := by
  rcases pk_ix i hn with h1 | h1 | ⟨j, hj, rfl⟩
  · exact absurd h1 h.1
  · exact absurd h1 h.2
  · rw [nI_clamp (Nat.lt_trans hj hn)]; exact ⟨rfl, hj⟩
def fs_sts (s0 s1 s2 s3 : Nat) : Nat → Option Nat := va_up (va_up (va_up (va_up (fun _ => none) 0 (some s0)) 1 (some s1)) 2 (some s2)) 3 (some s3)
def fs_cu (cf : Nat → Int32) (j : Nat) (a b v : Int32) : Nat → Int32 := if a = nI j then upd cf b.toNatClampNeg v else cf
theorem fs_cuT (cf : Nat → Int32) (j : Nat) (b v : Int32) : fs_cu cf j (nI j) b v = upd cf b.toNatClampNeg v := if_pos rfl
theorem fs_cuF (cf : Nat → Int32) {j i : Nat} (hj : j < 4) (hi : i < 4) (h : j ≠ i) (b v : Int32) : fs_cu cf j (nI i) b v = cf := by
  unfold fs_cu; rw [if_neg]; intro e; exact h ((nI_eq (by omega) (by omega)).mp e.symm)
end
section
theorem fs_ix6 {m : Int32} (h0 : ¬ m < 0) (h5 : m ≤ 5) : ∃ j, j < 6 ∧ m = nI j := by
  obtain ⟨j, hj, rfl⟩ := nI_of2 (n := 5) (M := 5) (by decide) h0 h5
  exact ⟨j, by omega, rfl⟩
def fs_wvi (a cs : Int32) : Int32 := if cs = 0 then Int64.toInt32 (fs_wave (Int32.toInt64 a)).2.1 else Int64.toInt32 (fs_wave (Int32.toInt64 a)).1
def fs_ang (x y : Int32) : Int32 := if x = 0 ∧ y = 0 then 0 else Int64.toInt32 (fs_axis (Int32.toInt64 x) (Int32.toInt64 y)).2.2
def fs_len (x y : Int32) : Int32 := Int64.toInt32 (fs_rd ((fs_axis (Int32.toInt64 x) (Int32.toInt64 y)).1 * 652032874) 30)
set_option maxHeartbeats 4000000 in
set_option maxRecDepth 100000 in
theorem c_X4_work (l : Launch) (X : fs_X) (sz : Nat) (h0 : Nat) (nt : Nat) (ns : Nat) (nb : Nat) (nu : Nat) (way : Int32) (a : Int32) (b : Int32)  (hl9 : l.stackTraces = false) : fs_MX l X yX4_work cX4_work 4 (some .int) ({ frames := 6, cells := 1, slots := 6, locals := 81 }) [.ref h0, .int way, .int a, .int b] [(h0, .inr (4, [.ref nt, .ref ns, .ref nb, .ref nu]))] sz (fs_Qi X (fun r (_ : Unit) => r = (fs_sat (fs_reck way (Int32.toInt64 a) (Int32.toInt64 b) 31) 2147483647) ∧ (fs_way way b 31)) (fun _ => [(h0, .inr (4, [.ref nt, .ref ns, .ref nb, .ref nu]))])) (¬ (fs_way way b 31)) 1 6 := by
  refine fs_ofX (by decide) (Nat.le_of_ble_eq_true rfl) ?_
  intro p e s m args below meth c A ls C hH hl ht9
  have C : fs_At X A p s m args meth c cX4_work 4 (some .int) RX4 "work" := C
  have hx := C.1
  have hb := C.2.1
  have hown := C.2.2.2.2.1
  have hts := C.2.2.2.2.2.1
  have hl : lv_has ls 4 [(0, .ref h0), (1, .int way), (2, .int a), (3, .int b)] := hl
  have hH : fs_H X A s [(h0, .inr (4, [.ref nt, .ref ns, .ref nb, .ref nu]))] s.heap [] := hH
  refine lv_iload_n hx hb dX4_work_0 rfl (lv_at hl 1 rfl) ?_
  refine lv_iload_n hx hb dX4_work_1 rfl (lv_at hl 3 rfl) ?_
  refine lv_bipush (v := 31) hx hb dX4_work_2 (by decide) ?_
  refine fs_ci C hH (wr := [(h0, .inr (4, [.ref nt, .ref ns, .ref nb, .ref nu]))]) [] [0] rfl rfl (by decide) (by decide) (fs_rS (rest := []) (As := [.int way, .int b, .int 31]) (n := 3) C hH (wc := []) [] (by decide) rfl (c_X4_isWay l X _ way b 31 ) rfl rfl mw_126 mw_124 mw_125 mw_1 (by decide +kernel) ⟨Nat.le_of_ble_eq_true rfl, Nat.le_of_ble_eq_true rfl⟩ rfl hl.1 rfl (Nat.le_of_ble_eq_true rfl) dX4_work_4 ⟨Nat.le_of_ble_eq_true rfl, Nat.le_of_ble_eq_true rfl⟩) (fun r_1 u_2 H locs hr_3 hH => ?_)
  subst hr_3
  have hH : fs_H X A s [(h0, .inr (4, [.ref nt, .ref ns, .ref nb, .ref nu]))] _ _ := hH
  refine lv_if_ne (tgt := 18) hx hb dX4_work_7 (by decide) (fun c_4 => ?_) (fun c_4 => ?_)
  · refine lv_iload_n hx hb dX4_work_18 rfl (lv_at hl 1 rfl) ?_
    refine lv_iload_n hx hb dX4_work_19 rfl (lv_at hl 2 rfl) ?_
    refine lv_i2l hx hb dX4_work_20 rfl ?_
    refine lv_iload_n hx hb dX4_work_21 rfl (lv_at hl 3 rfl) ?_
    refine lv_i2l hx hb dX4_work_22 rfl ?_
    refine lv_bipush (v := 31) hx hb dX4_work_23 (by decide) ?_
    refine fs_cl C hH (wr := [(h0, .inr (4, [.ref nt, .ref ns, .ref nb, .ref nu]))]) [] [0] rfl rfl (by decide) (by decide) (fs_rS (rest := []) (As := [.int way, .long (Int32.toInt64 a), .long (Int32.toInt64 b), .int 31]) (n := 4) C hH (wc := []) [] (by decide) rfl (c_X4_reckoned l X _ way (Int32.toInt64 a) (Int32.toInt64 b) 31 ) rfl rfl mw_168 mw_166 mw_167 mw_1 (by decide +kernel) ⟨Nat.le_of_ble_eq_true rfl, Nat.le_of_ble_eq_true rfl⟩ rfl hl.1 rfl (Nat.le_of_ble_eq_true rfl) dX4_work_25 ⟨Nat.le_of_ble_eq_true rfl, Nat.le_of_ble_eq_true rfl⟩) (fun r_5 u_6 H locs hr_7 hH => ?_)
    subst hr_7
    have hH : fs_H X A s [(h0, .inr (4, [.ref nt, .ref ns, .ref nb, .ref nu]))] _ _ := hH
    refine fs_ci C hH (wr := [(h0, .inr (4, [.ref nt, .ref ns, .ref nb, .ref nu]))]) [] [0] rfl rfl (by decide) (by decide) (fs_rS (rest := []) (As := [.long (fs_reck way (Int32.toInt64 a) (Int32.toInt64 b) 31)]) (n := 1) C hH (wc := []) [] (by decide) rfl (c_X4_satLong l X _ (fs_reck way (Int32.toInt64 a) (Int32.toInt64 b) 31) ) rfl rfl mw_175 mw_173 mw_174 mw_1 (by decide +kernel) ⟨Nat.le_of_ble_eq_true rfl, Nat.le_of_ble_eq_true rfl⟩ rfl hl.1 rfl (Nat.le_of_ble_eq_true rfl) dX4_work_28 ⟨Nat.le_of_ble_eq_true rfl, Nat.le_of_ble_eq_true rfl⟩) (fun r_8 u_9 H locs hr_10 hH => ?_)
    subst hr_10
    have hH : fs_H X A s [(h0, .inr (4, [.ref nt, .ref ns, .ref nb, .ref nu]))] _ _ := hH
    refine W.widen (k := 1) (n := 6) (by decide) (by decide) ?_
    exact vx_ret (fs_iret C hH () rfl (⟨rfl, fs_bi_nz.mp c_4⟩) dX4_work_31)
  · exact fs_throw C hl9 ht9 hH hl.1 (fs_bi_0.mp c_4) mw_127 mw_10 dX4_work_10 dX4_work_13 dX4_work_14 dX4_work_17 (by decide) (Nat.le_of_ble_eq_true rfl) (by decide) (by decide) (by decide) (by decide)
set_option maxHeartbeats 4000000 in
set_option maxRecDepth 100000 in
theorem c_X4_small (l : Launch) (X : fs_X) (sz : Nat) (h0 : Nat) (nt : Nat) (ns : Nat) (nb : Nat) (nu : Nat) (way : Int32) (a : Int32) (b : Int32)  (hl9 : l.stackTraces = false) : fs_MX l X yX4_small cX4_small 4 (some .int) ({ frames := 6, cells := 1, slots := 6, locals := 81 }) [.ref h0, .int way, .int a, .int b] [(h0, .inr (4, [.ref nt, .ref ns, .ref nb, .ref nu]))] sz (fs_Qi X (fun r (_ : Unit) => r = (fs_sat (fs_reck way (Int32.toInt64 a) (Int32.toInt64 b) 15) 32767) ∧ (fs_way way b 15 ∧ fs_short a ∧ (¬ 2 < way → fs_short b))) (fun _ => [(h0, .inr (4, [.ref nt, .ref ns, .ref nb, .ref nu]))])) (¬ (fs_way way b 15 ∧ fs_short a ∧ (¬ 2 < way → fs_short b))) 1 6 := by
  refine fs_ofX (by decide) (Nat.le_of_ble_eq_true rfl) ?_
  intro p e s m args below meth c A ls C hH hl ht9
  have C : fs_At X A p s m args meth c cX4_small 4 (some .int) RX4 "small" := C
  have hx := C.1
  have hb := C.2.1
  have hown := C.2.2.2.2.1
  have hts := C.2.2.2.2.2.1
  have hl : lv_has ls 4 [(0, .ref h0), (1, .int way), (2, .int a), (3, .int b)] := hl
  have hH : fs_H X A s [(h0, .inr (4, [.ref nt, .ref ns, .ref nb, .ref nu]))] s.heap [] := hH
  refine lv_iload_n hx hb dX4_small_0 rfl (lv_at hl 1 rfl) ?_
  refine lv_iload_n hx hb dX4_small_1 rfl (lv_at hl 3 rfl) ?_
  refine lv_bipush (v := 15) hx hb dX4_small_2 (by decide) ?_
  refine fs_ci C hH (wr := [(h0, .inr (4, [.ref nt, .ref ns, .ref nb, .ref nu]))]) [] [0] rfl rfl (by decide) (by decide) (fs_rS (rest := []) (As := [.int way, .int b, .int 15]) (n := 3) C hH (wc := []) [] (by decide) rfl (c_X4_isWay l X _ way b 15 ) rfl rfl mw_126 mw_124 mw_125 mw_1 (by decide +kernel) ⟨Nat.le_of_ble_eq_true rfl, Nat.le_of_ble_eq_true rfl⟩ rfl hl.1 rfl (Nat.le_of_ble_eq_true rfl) dX4_small_4 ⟨Nat.le_of_ble_eq_true rfl, Nat.le_of_ble_eq_true rfl⟩) (fun r_1 u_2 H locs hr_3 hH => ?_)
  subst hr_3
  have hH : fs_H X A s [(h0, .inr (4, [.ref nt, .ref ns, .ref nb, .ref nu]))] _ _ := hH
  refine lv_if_eq (tgt := 17) hx hb dX4_small_7 (by decide) (fun c_4 => ?_) (fun c_4 => ?_)
  · exact fs_throw C hl9 ht9 hH hl.1 (fun h => (fs_bi_0.mp c_4) h.1) mw_127 mw_10 dX4_small_17 dX4_small_20 dX4_small_21 dX4_small_24 (by decide) (Nat.le_of_ble_eq_true rfl) (by decide) (by decide) (by decide) (by decide)
  · refine lv_iload_n hx hb dX4_small_10 rfl (lv_at hl 2 rfl) ?_
    refine fs_ci C hH (wr := [(h0, .inr (4, [.ref nt, .ref ns, .ref nb, .ref nu]))]) [] [0] rfl rfl (by decide) (by decide) (fs_rS (rest := []) (As := [.int a]) (n := 1) C hH (wc := []) [] (by decide) rfl (c_X4_isShort l X _ a ) rfl rfl mw_187 mw_185 mw_186 mw_1 (by decide +kernel) ⟨Nat.le_of_ble_eq_true rfl, Nat.le_of_ble_eq_true rfl⟩ rfl hl.1 rfl (Nat.le_of_ble_eq_true rfl) dX4_small_11 ⟨Nat.le_of_ble_eq_true rfl, Nat.le_of_ble_eq_true rfl⟩) (fun r_5 u_6 H locs hr_7 hH => ?_)
    subst hr_7
    have hH : fs_H X A s [(h0, .inr (4, [.ref nt, .ref ns, .ref nb, .ref nu]))] _ _ := hH
    refine lv_if_ne (tgt := 25) hx hb dX4_small_14 (by decide) (fun c_8 => ?_) (fun c_8 => ?_)
    · refine lv_iload_n hx hb dX4_small_25 rfl (lv_at hl 1 rfl) ?_
      refine lv_iconst (v := 2) hx hb dX4_small_26 (by decide) ?_
      refine lv_icmp_gt (tgt := 45) hx hb dX4_small_27 (by decide) (fun c_9 => ?_) (fun c_9 => ?_)
      · refine lv_iload_n hx hb dX4_small_45 rfl (lv_at hl 1 rfl) ?_
        refine lv_iload_n hx hb dX4_small_46 rfl (lv_at hl 2 rfl) ?_
        refine lv_i2l hx hb dX4_small_47 rfl ?_
        refine lv_iload_n hx hb dX4_small_48 rfl (lv_at hl 3 rfl) ?_
        refine lv_i2l hx hb dX4_small_49 rfl ?_
        refine lv_bipush (v := 15) hx hb dX4_small_50 (by decide) ?_
        refine fs_cl C hH (wr := [(h0, .inr (4, [.ref nt, .ref ns, .ref nb, .ref nu]))]) [] [0] rfl rfl (by decide) (by decide) (fs_rS (rest := []) (As := [.int way, .long (Int32.toInt64 a), .long (Int32.toInt64 b), .int 15]) (n := 4) C hH (wc := []) [] (by decide) rfl (c_X4_reckoned l X _ way (Int32.toInt64 a) (Int32.toInt64 b) 15 ) rfl rfl mw_168 mw_166 mw_167 mw_1 (by decide +kernel) ⟨Nat.le_of_ble_eq_true rfl, Nat.le_of_ble_eq_true rfl⟩ rfl hl.1 rfl (Nat.le_of_ble_eq_true rfl) dX4_small_52 ⟨Nat.le_of_ble_eq_true rfl, Nat.le_of_ble_eq_true rfl⟩) (fun r_10 u_11 H locs hr_12 hH => ?_)
        subst hr_12
        have hH : fs_H X A s [(h0, .inr (4, [.ref nt, .ref ns, .ref nb, .ref nu]))] _ _ := hH
        refine fs_ci C hH (wr := [(h0, .inr (4, [.ref nt, .ref ns, .ref nb, .ref nu]))]) [] [0] rfl rfl (by decide) (by decide) (fs_rS (rest := []) (As := [.long (fs_reck way (Int32.toInt64 a) (Int32.toInt64 b) 15)]) (n := 1) C hH (wc := []) [] (by decide) rfl (c_X4_satShort l X _ (fs_reck way (Int32.toInt64 a) (Int32.toInt64 b) 15) ) rfl rfl mw_84 mw_82 mw_83 mw_1 (by decide +kernel) ⟨Nat.le_of_ble_eq_true rfl, Nat.le_of_ble_eq_true rfl⟩ rfl hl.1 rfl (Nat.le_of_ble_eq_true rfl) dX4_small_55 ⟨Nat.le_of_ble_eq_true rfl, Nat.le_of_ble_eq_true rfl⟩) (fun r_13 u_14 H locs hr_15 hH => ?_)
        subst hr_15
        have hH : fs_H X A s [(h0, .inr (4, [.ref nt, .ref ns, .ref nb, .ref nu]))] _ _ := hH
        refine W.widen (k := 1) (n := 6) (by decide) (by decide) ?_
        exact vx_ret (fs_iret C hH () rfl (⟨rfl, fs_bi_nz.mp c_4, fs_bi_nz.mp c_8, fun h => absurd c_9 h⟩) dX4_small_58)
      · refine lv_iload_n hx hb dX4_small_30 rfl (lv_at hl 3 rfl) ?_
        refine fs_ci C hH (wr := [(h0, .inr (4, [.ref nt, .ref ns, .ref nb, .ref nu]))]) [] [0] rfl rfl (by decide) (by decide) (fs_rS (rest := []) (As := [.int b]) (n := 1) C hH (wc := []) [] (by decide) rfl (c_X4_isShort l X _ b ) rfl rfl mw_187 mw_185 mw_186 mw_1 (by decide +kernel) ⟨Nat.le_of_ble_eq_true rfl, Nat.le_of_ble_eq_true rfl⟩ rfl hl.1 rfl (Nat.le_of_ble_eq_true rfl) dX4_small_31 ⟨Nat.le_of_ble_eq_true rfl, Nat.le_of_ble_eq_true rfl⟩) (fun r_16 u_17 H locs hr_18 hH => ?_)
        subst hr_18
        have hH : fs_H X A s [(h0, .inr (4, [.ref nt, .ref ns, .ref nb, .ref nu]))] _ _ := hH
        refine lv_if_ne (tgt := 45) hx hb dX4_small_34 (by decide) (fun c_19 => ?_) (fun c_19 => ?_)
        · refine lv_iload_n hx hb dX4_small_45 rfl (lv_at hl 1 rfl) ?_
          refine lv_iload_n hx hb dX4_small_46 rfl (lv_at hl 2 rfl) ?_
          refine lv_i2l hx hb dX4_small_47 rfl ?_
          refine lv_iload_n hx hb dX4_small_48 rfl (lv_at hl 3 rfl) ?_
          refine lv_i2l hx hb dX4_small_49 rfl ?_
          refine lv_bipush (v := 15) hx hb dX4_small_50 (by decide) ?_
          refine fs_cl C hH (wr := [(h0, .inr (4, [.ref nt, .ref ns, .ref nb, .ref nu]))]) [] [0] rfl rfl (by decide) (by decide) (fs_rS (rest := []) (As := [.int way, .long (Int32.toInt64 a), .long (Int32.toInt64 b), .int 15]) (n := 4) C hH (wc := []) [] (by decide) rfl (c_X4_reckoned l X _ way (Int32.toInt64 a) (Int32.toInt64 b) 15 ) rfl rfl mw_168 mw_166 mw_167 mw_1 (by decide +kernel) ⟨Nat.le_of_ble_eq_true rfl, Nat.le_of_ble_eq_true rfl⟩ rfl hl.1 rfl (Nat.le_of_ble_eq_true rfl) dX4_small_52 ⟨Nat.le_of_ble_eq_true rfl, Nat.le_of_ble_eq_true rfl⟩) (fun r_20 u_21 H locs hr_22 hH => ?_)
          subst hr_22
          have hH : fs_H X A s [(h0, .inr (4, [.ref nt, .ref ns, .ref nb, .ref nu]))] _ _ := hH
          refine fs_ci C hH (wr := [(h0, .inr (4, [.ref nt, .ref ns, .ref nb, .ref nu]))]) [] [0] rfl rfl (by decide) (by decide) (fs_rS (rest := []) (As := [.long (fs_reck way (Int32.toInt64 a) (Int32.toInt64 b) 15)]) (n := 1) C hH (wc := []) [] (by decide) rfl (c_X4_satShort l X _ (fs_reck way (Int32.toInt64 a) (Int32.toInt64 b) 15) ) rfl rfl mw_84 mw_82 mw_83 mw_1 (by decide +kernel) ⟨Nat.le_of_ble_eq_true rfl, Nat.le_of_ble_eq_true rfl⟩ rfl hl.1 rfl (Nat.le_of_ble_eq_true rfl) dX4_small_55 ⟨Nat.le_of_ble_eq_true rfl, Nat.le_of_ble_eq_true rfl⟩) (fun r_23 u_24 H locs hr_25 hH => ?_)
          subst hr_25
          have hH : fs_H X A s [(h0, .inr (4, [.ref nt, .ref ns, .ref nb, .ref nu]))] _ _ := hH
          refine W.widen (k := 1) (n := 6) (by decide) (by decide) ?_
          exact vx_ret (fs_iret C hH () rfl (⟨rfl, fs_bi_nz.mp c_4, fs_bi_nz.mp c_8, fun _ => fs_bi_nz.mp c_19⟩) dX4_small_58)
        · exact fs_throw C hl9 ht9 hH hl.1 (fun h => (fs_bi_0.mp c_19) (h.2.2 c_9)) mw_127 mw_10 dX4_small_37 dX4_small_40 dX4_small_41 dX4_small_44 (by decide) (Nat.le_of_ble_eq_true rfl) (by decide) (by decide) (by decide) (by decide)
    · exact fs_throw C hl9 ht9 hH hl.1 (fun h => (fs_bi_0.mp c_8) h.2.1) mw_127 mw_10 dX4_small_17 dX4_small_20 dX4_small_21 dX4_small_24 (by decide) (Nat.le_of_ble_eq_true rfl) (by decide) (by decide) (by decide) (by decide)
set_option maxHeartbeats 4000000 in
set_option maxRecDepth 100000 in
theorem c_X4_narrow (l : Launch) (X : fs_X) (sz : Nat) (h0 : Nat) (nt : Nat) (ns : Nat) (nb : Nat) (nu : Nat) (a : Int32)  : fs_M l X yX4_narrow cX4_narrow 2 (some .int) ({ frames := 2, cells := 0, slots := 0, locals := 38 }) [.ref h0, .int a] [(h0, .inr (4, [.ref nt, .ref ns, .ref nb, .ref nu]))] sz (fs_Qi X (fun r (_ : Unit) => r = (fs_sat (fs_rd (Int32.toInt64 a) 16) 32767)) (fun _ => [(h0, .inr (4, [.ref nt, .ref ns, .ref nb, .ref nu]))])) 0 0 := by
  refine fs_ofW (by decide) (Nat.le_of_ble_eq_true rfl) ?_
  intro p e s m args below meth c A ls C hH hl
  have C : fs_At X A p s m args meth c cX4_narrow 2 (some .int) RX4 "narrow" := C
  have hx := C.1
  have hb := C.2.1
  have hown := C.2.2.2.2.1
  have hts := C.2.2.2.2.2.1
  have hl : lv_has ls 2 [(0, .ref h0), (1, .int a)] := hl
  have hH : fs_H X A s [(h0, .inr (4, [.ref nt, .ref ns, .ref nb, .ref nu]))] s.heap [] := hH
  refine lv_iload_n hx hb dX4_narrow_0 rfl (lv_at hl 1 rfl) ?_
  refine lv_i2l hx hb dX4_narrow_1 rfl ?_
  refine lv_bipush (v := 16) hx hb dX4_narrow_2 (by decide) ?_
  refine fs_cl C hH (wr := [(h0, .inr (4, [.ref nt, .ref ns, .ref nb, .ref nu]))]) [] [0] rfl rfl (by decide) (by decide) (fs_rS (rest := []) (As := [.long (Int32.toInt64 a), .int 16]) (n := 2) C hH (wc := []) [] (by decide) rfl (c_X4_rounded l X _ (Int32.toInt64 a) 16 ) rfl rfl mw_81 mw_79 mw_80 mw_1 (by decide +kernel) ⟨Nat.le_of_ble_eq_true rfl, Nat.le_of_ble_eq_true rfl⟩ rfl hl.1 rfl (Nat.le_of_ble_eq_true rfl) dX4_narrow_4 ⟨Nat.le_of_ble_eq_true rfl, Nat.le_of_ble_eq_true rfl⟩) (fun r_1 u_2 H locs hr_3 hH => ?_)
  subst hr_3
  have hH : fs_H X A s [(h0, .inr (4, [.ref nt, .ref ns, .ref nb, .ref nu]))] _ _ := hH
  refine fs_ci C hH (wr := [(h0, .inr (4, [.ref nt, .ref ns, .ref nb, .ref nu]))]) [] [0] rfl rfl (by decide) (by decide) (fs_rS (rest := []) (As := [.long (fs_rd (Int32.toInt64 a) 16)]) (n := 1) C hH (wc := []) [] (by decide) rfl (c_X4_satShort l X _ (fs_rd (Int32.toInt64 a) 16) ) rfl rfl mw_84 mw_82 mw_83 mw_1 (by decide +kernel) ⟨Nat.le_of_ble_eq_true rfl, Nat.le_of_ble_eq_true rfl⟩ rfl hl.1 rfl (Nat.le_of_ble_eq_true rfl) dX4_narrow_7 ⟨Nat.le_of_ble_eq_true rfl, Nat.le_of_ble_eq_true rfl⟩) (fun r_4 u_5 H locs hr_6 hH => ?_)
  subst hr_6
  have hH : fs_H X A s [(h0, .inr (4, [.ref nt, .ref ns, .ref nb, .ref nu]))] _ _ := hH
  exact fs_iret C hH () rfl rfl dX4_narrow_10
set_option maxHeartbeats 4000000 in
set_option maxRecDepth 100000 in
theorem c_X4_tap (l : Launch) (X : fs_X) (sz : Nat) (h0 : Nat) (nt : Nat) (ns : Nat) (nb : Nat) (nu : Nat) (q1 : Nat) (q2 : Nat) (ff : Nat → Int32) (k : Int32) (v : Int32)  (hl9 : l.stackTraces = false) : fs_MX l X yX4_tap cX4_tap 3 none ({ frames := 6, cells := 1, slots := 6, locals := 81 }) [.ref h0, .int k, .int v] [(h0, .inr (4, [.ref nt, .ref ns, .ref nb, .ref nu])), (nt, .inr (2, [.ref q1, .ref q2])), (q1, fs_ai X 16 ff)] sz (fs_Qv X (fun (_ : Unit) => ((¬ k < 0 ∧ ¬ 16 ≤ k) ∧ fs_short v)) (fun _ => [(h0, .inr (4, [.ref nt, .ref ns, .ref nb, .ref nu])), (nt, .inr (2, [.ref q1, .ref q2])), (q1, fs_ai X 16 (upd ff (Int32.toNatClampNeg k) v))])) (¬ ((¬ k < 0 ∧ ¬ 16 ≤ k) ∧ fs_short v)) 1 6 := by
  refine fs_ofX (by decide) (Nat.le_of_ble_eq_true rfl) ?_
  intro p e s m args below meth c A ls C hH hl ht9
  have C : fs_At X A p s m args meth c cX4_tap 3 none RX4 "tap" := C
  have hx := C.1
  have hb := C.2.1
  have hown := C.2.2.2.2.1
  have hts := C.2.2.2.2.2.1
  have hl : lv_has ls 3 [(0, .ref h0), (1, .int k), (2, .int v)] := hl
  have hH : fs_H X A s [(h0, .inr (4, [.ref nt, .ref ns, .ref nb, .ref nu])), (nt, .inr (2, [.ref q1, .ref q2])), (q1, fs_ai X 16 ff)] s.heap [] := hH
  refine lv_iload_n hx hb dX4_tap_0 rfl (lv_at hl 1 rfl) ?_
  refine lv_bipush (v := 16) hx hb dX4_tap_1 (by decide) ?_
  refine fs_ci C hH (wr := [(h0, .inr (4, [.ref nt, .ref ns, .ref nb, .ref nu])), (nt, .inr (2, [.ref q1, .ref q2])), (q1, fs_ai X 16 ff)]) [] [0, 1, 2] rfl rfl (by decide) (by decide) (fs_rS (rest := []) (As := [.int k, .int 16]) (n := 2) C hH (wc := []) [] (by decide) rfl (c_X4_isWithin l X _ k 16 ) rfl rfl mw_197 mw_195 mw_196 mw_1 (by decide +kernel) ⟨Nat.le_of_ble_eq_true rfl, Nat.le_of_ble_eq_true rfl⟩ rfl hl.1 rfl (Nat.le_of_ble_eq_true rfl) dX4_tap_3 ⟨Nat.le_of_ble_eq_true rfl, Nat.le_of_ble_eq_true rfl⟩) (fun r_1 u_2 H locs hr_3 hH => ?_)
  subst hr_3
  have hH : fs_H X A s [(h0, .inr (4, [.ref nt, .ref ns, .ref nb, .ref nu])), (nt, .inr (2, [.ref q1, .ref q2])), (q1, fs_ai X 16 ff)] _ _ := hH
  refine lv_if_eq (tgt := 16) hx hb dX4_tap_6 (by decide) (fun c_4 => ?_) (fun c_4 => ?_)
  · exact fs_throw C hl9 ht9 hH hl.1 (fun h => (fs_bi_0.mp c_4) h.1) mw_127 mw_10 dX4_tap_16 dX4_tap_19 dX4_tap_20 dX4_tap_23 (by decide) (Nat.le_of_ble_eq_true rfl) (by decide) (by decide) (by decide) (by decide)
  · refine lv_iload_n hx hb dX4_tap_9 rfl (lv_at hl 2 rfl) ?_
    refine fs_ci C hH (wr := [(h0, .inr (4, [.ref nt, .ref ns, .ref nb, .ref nu])), (nt, .inr (2, [.ref q1, .ref q2])), (q1, fs_ai X 16 ff)]) [] [0, 1, 2] rfl rfl (by decide) (by decide) (fs_rS (rest := []) (As := [.int v]) (n := 1) C hH (wc := []) [] (by decide) rfl (c_X4_isShort l X _ v ) rfl rfl mw_187 mw_185 mw_186 mw_1 (by decide +kernel) ⟨Nat.le_of_ble_eq_true rfl, Nat.le_of_ble_eq_true rfl⟩ rfl hl.1 rfl (Nat.le_of_ble_eq_true rfl) dX4_tap_10 ⟨Nat.le_of_ble_eq_true rfl, Nat.le_of_ble_eq_true rfl⟩) (fun r_5 u_6 H locs hr_7 hH => ?_)
    subst hr_7
    have hH : fs_H X A s [(h0, .inr (4, [.ref nt, .ref ns, .ref nb, .ref nu])), (nt, .inr (2, [.ref q1, .ref q2])), (q1, fs_ai X 16 ff)] _ _ := hH
    refine lv_if_ne (tgt := 24) hx hb dX4_tap_13 (by decide) (fun c_8 => ?_) (fun c_8 => ?_)
    · refine lv_aload_n hx hb dX4_tap_24 rfl (lv_at hl 0 rfl) ?_
      refine fs_get C in_4 hH 0 rfl rfl 0 (by decide) mw_67 (v := .ref nt) rfl dX4_tap_25 ?_
      refine fs_getN C in_2 hH 1 rfl rfl 0 (by decide) (List.mem_of_getElem? (i := 0) rfl) (v := .ref q1) rfl dX4_tap_28 ?_
      refine lv_iload_n hx hb dX4_tap_31 rfl (lv_at hl 1 rfl) ?_
      refine lv_iload_n hx hb dX4_tap_32 rfl (lv_at hl 2 rfl) ?_
      refine fs_iast C hH 2 rfl (k := (Int32.toNatClampNeg k)) (fs_ixn (n := 16) (by decide) (fs_bi_nz.mp c_4)).1 (fs_ixn (n := 16) (by decide) (fs_bi_nz.mp c_4)).2 (by decide) (ws' := [(h0, .inr (4, [.ref nt, .ref ns, .ref nb, .ref nu])), (nt, .inr (2, [.ref q1, .ref q2])), (q1, fs_ai X 16 (upd ff (Int32.toNatClampNeg k) v))]) rfl dX4_tap_33 (fun H locs hH => ?_)
      refine W.widen (k := 1) (n := 6) (by decide) (by decide) ?_
      exact vx_ret (fs_vret C hH () rfl (⟨fs_bi_nz.mp c_4, fs_bi_nz.mp c_8⟩) dX4_tap_34)
    · exact fs_throw C hl9 ht9 hH hl.1 (fun h => (fs_bi_0.mp c_8) h.2) mw_127 mw_10 dX4_tap_16 dX4_tap_19 dX4_tap_20 dX4_tap_23 (by decide) (Nat.le_of_ble_eq_true rfl) (by decide) (by decide) (by decide) (by decide)
set_option maxHeartbeats 4000000 in
set_option maxRecDepth 100000 in
theorem c_X4_filter (l : Launch) (X : fs_X) (sz : Nat) (h0 : Nat) (nt : Nat) (ns : Nat) (nb : Nat) (nu : Nat) (q1 : Nat) (q2 : Nat) (ff : Nat → Int32) (gg : Nat → Int32) (x : Int32)  (hl9 : l.stackTraces = false) : fs_MX l X yX4_filter cX4_filter 2 (some .int) ({ frames := 6, cells := 1, slots := 6, locals := 81 }) [.ref h0, .int x] [(h0, .inr (4, [.ref nt, .ref ns, .ref nb, .ref nu])), (nt, .inr (2, [.ref q1, .ref q2])), (q1, fs_ai X 16 ff), (q2, fs_ai X 16 gg)] sz (fs_Qi X (fun r (_ : Unit) => r = (fs_sat (fs_rd (fs_dot ff (fs_shift gg x) 16) 15) 32767) ∧ (fs_short x)) (fun _ => [(h0, .inr (4, [.ref nt, .ref ns, .ref nb, .ref nu])), (nt, .inr (2, [.ref q1, .ref q2])), (q1, fs_ai X 16 ff), (q2, fs_ai X 16 (fs_shift gg x))])) (¬ (fs_short x)) 1 6 := by
  refine fs_ofX (by decide) (Nat.le_of_ble_eq_true rfl) ?_
  intro p e s m args below meth c A ls C hH hl ht9
  have C : fs_At X A p s m args meth c cX4_filter 2 (some .int) RX4 "filter" := C
  have hx := C.1
  have hb := C.2.1
  have hown := C.2.2.2.2.1
  have hts := C.2.2.2.2.2.1
  have hl : lv_has ls 2 [(0, .ref h0), (1, .int x)] := hl
  have hH : fs_H X A s [(h0, .inr (4, [.ref nt, .ref ns, .ref nb, .ref nu])), (nt, .inr (2, [.ref q1, .ref q2])), (q1, fs_ai X 16 ff), (q2, fs_ai X 16 gg)] s.heap [] := hH
  refine lv_iload_n hx hb dX4_filter_0 rfl (lv_at hl 1 rfl) ?_
  refine fs_ci C hH (wr := [(h0, .inr (4, [.ref nt, .ref ns, .ref nb, .ref nu])), (nt, .inr (2, [.ref q1, .ref q2])), (q1, fs_ai X 16 ff), (q2, fs_ai X 16 gg)]) [] [0, 1, 2, 3] rfl rfl (by decide) (by decide) (fs_rS (rest := []) (As := [.int x]) (n := 1) C hH (wc := []) [] (by decide) rfl (c_X4_isShort l X _ x ) rfl rfl mw_187 mw_185 mw_186 mw_1 (by decide +kernel) ⟨Nat.le_of_ble_eq_true rfl, Nat.le_of_ble_eq_true rfl⟩ rfl hl.1 rfl (Nat.le_of_ble_eq_true rfl) dX4_filter_1 ⟨Nat.le_of_ble_eq_true rfl, Nat.le_of_ble_eq_true rfl⟩) (fun r_1 u_2 H locs hr_3 hH => ?_)
  subst hr_3
  have hH : fs_H X A s [(h0, .inr (4, [.ref nt, .ref ns, .ref nb, .ref nu])), (nt, .inr (2, [.ref q1, .ref q2])), (q1, fs_ai X 16 ff), (q2, fs_ai X 16 gg)] _ _ := hH
  refine lv_if_ne (tgt := 15) hx hb dX4_filter_4 (by decide) (fun c_4 => ?_) (fun c_4 => ?_)
  · refine lv_aload_n hx hb dX4_filter_15 rfl (lv_at hl 0 rfl) ?_
    refine fs_get C in_4 hH 0 rfl rfl 0 (by decide) mw_67 (v := .ref nt) rfl dX4_filter_16 ?_
    refine lv_iload_n hx hb dX4_filter_19 rfl (lv_at hl 1 rfl) ?_
    refine fs_ci C hH (wr := [(h0, .inr (4, [.ref nt, .ref ns, .ref nb, .ref nu]))]) [1, 2, 3] [0] rfl rfl (by decide) (by decide) (fs_rVN (rest := []) (As := [.int x]) (n := 1) (q0 := 1) (ci := 2) C hH (wc := [(nt, .inr (2, [.ref q1, .ref q2])), (q1, fs_ai X 16 ff), (q2, fs_ai X 16 gg)]) [1, 2, 3] (by decide) rfl (c_X2_answerTo l X _ nt q1 q2 ff gg x ) rfl rfl rfl rfl mw_206 (List.mem_of_getElem? (i := 8) rfl) mw_205 mw_484 mw_2 (by decide +kernel) ⟨Nat.le_of_ble_eq_true rfl, Nat.le_of_ble_eq_true rfl⟩ rfl hl.1 rfl (Nat.le_of_ble_eq_true rfl) dX4_filter_20 ⟨Nat.le_of_ble_eq_true rfl, Nat.le_of_ble_eq_true rfl⟩) (fun r_5 u_6 H locs hr_7 hH => ?_)
    subst hr_7
    have hH : fs_H X A s [(h0, .inr (4, [.ref nt, .ref ns, .ref nb, .ref nu])), (nt, .inr (2, [.ref q1, .ref q2])), (q1, fs_ai X 16 ff), (q2, fs_ai X 16 (fs_shift gg x))] _ _ := hH
    refine W.widen (k := 1) (n := 6) (by decide) (by decide) ?_
    exact vx_ret (fs_iret C hH () rfl (⟨rfl, fs_bi_nz.mp c_4⟩) dX4_filter_23)
  · exact fs_throw C hl9 ht9 hH hl.1 (fs_bi_0.mp c_4) mw_127 mw_10 dX4_filter_7 dX4_filter_10 dX4_filter_11 dX4_filter_14 (by decide) (Nat.le_of_ble_eq_true rfl) (by decide) (by decide) (by decide) (by decide)
set_option maxHeartbeats 4000000 in
set_option maxRecDepth 100000 in
theorem c_X4_stage (l : Launch) (X : fs_X) (sz : Nat) (h0 : Nat) (nt : Nat) (ns : Nat) (nb : Nat) (nu : Nat) (s0 : Nat) (k0 : Nat) (f0 : Nat → Int32) (a0 : Int32) (b0 : Int32) (c0 : Int32) (d0 : Int32) (s1 : Nat) (k1 : Nat) (f1 : Nat → Int32) (a1 : Int32) (b1 : Int32) (c1 : Int32) (d1 : Int32) (s2 : Nat) (k2 : Nat) (f2 : Nat → Int32) (a2 : Int32) (b2 : Int32) (c2 : Int32) (d2 : Int32) (s3 : Nat) (k3 : Nat) (f3 : Nat → Int32) (a3 : Int32) (b3 : Int32) (c3 : Int32) (d3 : Int32) (a : Int32) (b : Int32) (v : Int32)  (hl9 : l.stackTraces = false) : fs_MX l X yX4_stage cX4_stage 4 none ({ frames := 6, cells := 1, slots := 6, locals := 81 }) [.ref h0, .int a, .int b, .int v] [(h0, .inr (4, [.ref nt, .ref ns, .ref nb, .ref nu])), (ns, fs_aq X 4 (fs_sts s0 s1 s2 s3)), (s0, .inr (1, [.ref k0, .int a0, .int b0, .int c0, .int d0])), (k0, fs_ai X 5 f0), (s1, .inr (1, [.ref k1, .int a1, .int b1, .int c1, .int d1])), (k1, fs_ai X 5 f1), (s2, .inr (1, [.ref k2, .int a2, .int b2, .int c2, .int d2])), (k2, fs_ai X 5 f2), (s3, .inr (1, [.ref k3, .int a3, .int b3, .int c3, .int d3])), (k3, fs_ai X 5 f3)] sz (fs_Qv X (fun (_ : Unit) => ((¬ a < 0 ∧ ¬ 4 ≤ a) ∧ (¬ b < 0 ∧ ¬ 5 ≤ b) ∧ fs_short v)) (fun _ => [(h0, .inr (4, [.ref nt, .ref ns, .ref nb, .ref nu])), (ns, fs_aq X 4 (fs_sts s0 s1 s2 s3)), (s0, .inr (1, [.ref k0, .int a0, .int b0, .int c0, .int d0])), (k0, fs_ai X 5 (fs_cu f0 0 a b v)), (s1, .inr (1, [.ref k1, .int a1, .int b1, .int c1, .int d1])), (k1, fs_ai X 5 (fs_cu f1 1 a b v)), (s2, .inr (1, [.ref k2, .int a2, .int b2, .int c2, .int d2])), (k2, fs_ai X 5 (fs_cu f2 2 a b v)), (s3, .inr (1, [.ref k3, .int a3, .int b3, .int c3, .int d3])), (k3, fs_ai X 5 (fs_cu f3 3 a b v))])) (¬ ((¬ a < 0 ∧ ¬ 4 ≤ a) ∧ (¬ b < 0 ∧ ¬ 5 ≤ b) ∧ fs_short v)) 1 6 := by
  refine fs_ofX (by decide) (Nat.le_of_ble_eq_true rfl) ?_
  intro p e s m args below meth c A ls C hH hl ht9
  have C : fs_At X A p s m args meth c cX4_stage 4 none RX4 "stage" := C
  have hx := C.1
  have hb := C.2.1
  have hown := C.2.2.2.2.1
  have hts := C.2.2.2.2.2.1
  have hl : lv_has ls 4 [(0, .ref h0), (1, .int a), (2, .int b), (3, .int v)] := hl
  have hH : fs_H X A s [(h0, .inr (4, [.ref nt, .ref ns, .ref nb, .ref nu])), (ns, fs_aq X 4 (fs_sts s0 s1 s2 s3)), (s0, .inr (1, [.ref k0, .int a0, .int b0, .int c0, .int d0])), (k0, fs_ai X 5 f0), (s1, .inr (1, [.ref k1, .int a1, .int b1, .int c1, .int d1])), (k1, fs_ai X 5 f1), (s2, .inr (1, [.ref k2, .int a2, .int b2, .int c2, .int d2])), (k2, fs_ai X 5 f2), (s3, .inr (1, [.ref k3, .int a3, .int b3, .int c3, .int d3])), (k3, fs_ai X 5 f3)] s.heap [] := hH
  refine lv_iload_n hx hb dX4_stage_0 rfl (lv_at hl 1 rfl) ?_
  refine lv_iconst (v := 4) hx hb dX4_stage_1 (by decide) ?_
  refine fs_ci C hH (wr := [(h0, .inr (4, [.ref nt, .ref ns, .ref nb, .ref nu])), (ns, fs_aq X 4 (fs_sts s0 s1 s2 s3)), (s0, .inr (1, [.ref k0, .int a0, .int b0, .int c0, .int d0])), (k0, fs_ai X 5 f0), (s1, .inr (1, [.ref k1, .int a1, .int b1, .int c1, .int d1])), (k1, fs_ai X 5 f1), (s2, .inr (1, [.ref k2, .int a2, .int b2, .int c2, .int d2])), (k2, fs_ai X 5 f2), (s3, .inr (1, [.ref k3, .int a3, .int b3, .int c3, .int d3])), (k3, fs_ai X 5 f3)]) [] [0, 1, 2, 3, 4, 5, 6, 7, 8, 9] rfl rfl (by decide) (by decide) (fs_rS (rest := []) (As := [.int a, .int 4]) (n := 2) C hH (wc := []) [] (by decide) rfl (c_X4_isWithin l X _ a 4 ) rfl rfl mw_197 mw_195 mw_196 mw_1 (by decide +kernel) ⟨Nat.le_of_ble_eq_true rfl, Nat.le_of_ble_eq_true rfl⟩ rfl hl.1 rfl (Nat.le_of_ble_eq_true rfl) dX4_stage_2 ⟨Nat.le_of_ble_eq_true rfl, Nat.le_of_ble_eq_true rfl⟩) (fun r_1 u_2 H locs hr_3 hH => ?_)
  subst hr_3
  have hH : fs_H X A s [(h0, .inr (4, [.ref nt, .ref ns, .ref nb, .ref nu])), (ns, fs_aq X 4 (fs_sts s0 s1 s2 s3)), (s0, .inr (1, [.ref k0, .int a0, .int b0, .int c0, .int d0])), (k0, fs_ai X 5 f0), (s1, .inr (1, [.ref k1, .int a1, .int b1, .int c1, .int d1])), (k1, fs_ai X 5 f1), (s2, .inr (1, [.ref k2, .int a2, .int b2, .int c2, .int d2])), (k2, fs_ai X 5 f2), (s3, .inr (1, [.ref k3, .int a3, .int b3, .int c3, .int d3])), (k3, fs_ai X 5 f3)] _ _ := hH
  refine lv_if_eq (tgt := 23) hx hb dX4_stage_5 (by decide) (fun c_4 => ?_) (fun c_4 => ?_)
  · exact fs_throw C hl9 ht9 hH hl.1 (fun h => (fs_bi_0.mp c_4) h.1) mw_127 mw_10 dX4_stage_23 dX4_stage_26 dX4_stage_27 dX4_stage_30 (by decide) (Nat.le_of_ble_eq_true rfl) (by decide) (by decide) (by decide) (by decide)
  · refine lv_iload_n hx hb dX4_stage_8 rfl (lv_at hl 2 rfl) ?_
    refine lv_iconst (v := 5) hx hb dX4_stage_9 (by decide) ?_
    refine fs_ci C hH (wr := [(h0, .inr (4, [.ref nt, .ref ns, .ref nb, .ref nu])), (ns, fs_aq X 4 (fs_sts s0 s1 s2 s3)), (s0, .inr (1, [.ref k0, .int a0, .int b0, .int c0, .int d0])), (k0, fs_ai X 5 f0), (s1, .inr (1, [.ref k1, .int a1, .int b1, .int c1, .int d1])), (k1, fs_ai X 5 f1), (s2, .inr (1, [.ref k2, .int a2, .int b2, .int c2, .int d2])), (k2, fs_ai X 5 f2), (s3, .inr (1, [.ref k3, .int a3, .int b3, .int c3, .int d3])), (k3, fs_ai X 5 f3)]) [] [0, 1, 2, 3, 4, 5, 6, 7, 8, 9] rfl rfl (by decide) (by decide) (fs_rS (rest := []) (As := [.int b, .int 5]) (n := 2) C hH (wc := []) [] (by decide) rfl (c_X4_isWithin l X _ b 5 ) rfl rfl mw_197 mw_195 mw_196 mw_1 (by decide +kernel) ⟨Nat.le_of_ble_eq_true rfl, Nat.le_of_ble_eq_true rfl⟩ rfl hl.1 rfl (Nat.le_of_ble_eq_true rfl) dX4_stage_10 ⟨Nat.le_of_ble_eq_true rfl, Nat.le_of_ble_eq_true rfl⟩) (fun r_5 u_6 H locs hr_7 hH => ?_)
    subst hr_7
    have hH : fs_H X A s [(h0, .inr (4, [.ref nt, .ref ns, .ref nb, .ref nu])), (ns, fs_aq X 4 (fs_sts s0 s1 s2 s3)), (s0, .inr (1, [.ref k0, .int a0, .int b0, .int c0, .int d0])), (k0, fs_ai X 5 f0), (s1, .inr (1, [.ref k1, .int a1, .int b1, .int c1, .int d1])), (k1, fs_ai X 5 f1), (s2, .inr (1, [.ref k2, .int a2, .int b2, .int c2, .int d2])), (k2, fs_ai X 5 f2), (s3, .inr (1, [.ref k3, .int a3, .int b3, .int c3, .int d3])), (k3, fs_ai X 5 f3)] _ _ := hH
    refine lv_if_eq (tgt := 23) hx hb dX4_stage_13 (by decide) (fun c_8 => ?_) (fun c_8 => ?_)
    · exact fs_throw C hl9 ht9 hH hl.1 (fun h => (fs_bi_0.mp c_8) h.2.1) mw_127 mw_10 dX4_stage_23 dX4_stage_26 dX4_stage_27 dX4_stage_30 (by decide) (Nat.le_of_ble_eq_true rfl) (by decide) (by decide) (by decide) (by decide)
    · refine lv_iload_n hx hb dX4_stage_16 rfl (lv_at hl 3 rfl) ?_
      refine fs_ci C hH (wr := [(h0, .inr (4, [.ref nt, .ref ns, .ref nb, .ref nu])), (ns, fs_aq X 4 (fs_sts s0 s1 s2 s3)), (s0, .inr (1, [.ref k0, .int a0, .int b0, .int c0, .int d0])), (k0, fs_ai X 5 f0), (s1, .inr (1, [.ref k1, .int a1, .int b1, .int c1, .int d1])), (k1, fs_ai X 5 f1), (s2, .inr (1, [.ref k2, .int a2, .int b2, .int c2, .int d2])), (k2, fs_ai X 5 f2), (s3, .inr (1, [.ref k3, .int a3, .int b3, .int c3, .int d3])), (k3, fs_ai X 5 f3)]) [] [0, 1, 2, 3, 4, 5, 6, 7, 8, 9] rfl rfl (by decide) (by decide) (fs_rS (rest := []) (As := [.int v]) (n := 1) C hH (wc := []) [] (by decide) rfl (c_X4_isShort l X _ v ) rfl rfl mw_187 mw_185 mw_186 mw_1 (by decide +kernel) ⟨Nat.le_of_ble_eq_true rfl, Nat.le_of_ble_eq_true rfl⟩ rfl hl.1 rfl (Nat.le_of_ble_eq_true rfl) dX4_stage_17 ⟨Nat.le_of_ble_eq_true rfl, Nat.le_of_ble_eq_true rfl⟩) (fun r_9 u_10 H locs hr_11 hH => ?_)
      subst hr_11
      have hH : fs_H X A s [(h0, .inr (4, [.ref nt, .ref ns, .ref nb, .ref nu])), (ns, fs_aq X 4 (fs_sts s0 s1 s2 s3)), (s0, .inr (1, [.ref k0, .int a0, .int b0, .int c0, .int d0])), (k0, fs_ai X 5 f0), (s1, .inr (1, [.ref k1, .int a1, .int b1, .int c1, .int d1])), (k1, fs_ai X 5 f1), (s2, .inr (1, [.ref k2, .int a2, .int b2, .int c2, .int d2])), (k2, fs_ai X 5 f2), (s3, .inr (1, [.ref k3, .int a3, .int b3, .int c3, .int d3])), (k3, fs_ai X 5 f3)] _ _ := hH
      refine lv_if_ne (tgt := 31) hx hb dX4_stage_20 (by decide) (fun c_12 => ?_) (fun c_12 => ?_)
      · obtain ⟨j, hj, rfl⟩ : ∃ j, j < 4 ∧ a = nI j := ⟨_, (fs_ixn (n := 4) (by decide) (fs_bi_nz.mp c_4)).2, (fs_ixn (n := 4) (by decide) (fs_bi_nz.mp c_4)).1⟩
        rcases (show j = 0 ∨ j = 1 ∨ j = 2 ∨ j = 3 by omega) with rfl | rfl | rfl | rfl
        · refine lv_aload_n hx hb dX4_stage_31 rfl (lv_at hl 0 rfl) ?_
          refine fs_get C in_4 hH 0 rfl rfl 1 (by decide) mw_68 (v := .ref ns) rfl dX4_stage_32 ?_
          refine lv_iload_n hx hb dX4_stage_35 rfl (lv_at hl 1 rfl) ?_
          refine fs_aald C hH 1 rfl (k := 0) (b := s0) rfl (by decide) (by decide) rfl dX4_stage_36 ?_
          refine fs_getN C in_1 hH 2 rfl rfl 0 (by decide) (List.mem_of_getElem? (i := 1) rfl) (v := .ref k0) rfl dX4_stage_37 ?_
          refine lv_iload_n hx hb dX4_stage_40 rfl (lv_at hl 2 rfl) ?_
          refine lv_iload_n hx hb dX4_stage_41 rfl (lv_at hl 3 rfl) ?_
          refine fs_iast C hH 3 rfl (k := (Int32.toNatClampNeg b)) (fs_ixn (n := 5) (by decide) (fs_bi_nz.mp c_8)).1 (fs_ixn (n := 5) (by decide) (fs_bi_nz.mp c_8)).2 (by decide) (ws' := [(h0, .inr (4, [.ref nt, .ref ns, .ref nb, .ref nu])), (ns, fs_aq X 4 (fs_sts s0 s1 s2 s3)), (s0, .inr (1, [.ref k0, .int a0, .int b0, .int c0, .int d0])), (k0, fs_ai X 5 (upd f0 (Int32.toNatClampNeg b) v)), (s1, .inr (1, [.ref k1, .int a1, .int b1, .int c1, .int d1])), (k1, fs_ai X 5 f1), (s2, .inr (1, [.ref k2, .int a2, .int b2, .int c2, .int d2])), (k2, fs_ai X 5 f2), (s3, .inr (1, [.ref k3, .int a3, .int b3, .int c3, .int d3])), (k3, fs_ai X 5 f3)]) rfl dX4_stage_42 (fun H locs hH => ?_)
          have hH : fs_H X A s [(h0, .inr (4, [.ref nt, .ref ns, .ref nb, .ref nu])), (ns, fs_aq X 4 (fs_sts s0 s1 s2 s3)), (s0, .inr (1, [.ref k0, .int a0, .int b0, .int c0, .int d0])), (k0, fs_ai X 5 (fs_cu f0 0 (nI 0) b v)), (s1, .inr (1, [.ref k1, .int a1, .int b1, .int c1, .int d1])), (k1, fs_ai X 5 (fs_cu f1 1 (nI 0) b v)), (s2, .inr (1, [.ref k2, .int a2, .int b2, .int c2, .int d2])), (k2, fs_ai X 5 (fs_cu f2 2 (nI 0) b v)), (s3, .inr (1, [.ref k3, .int a3, .int b3, .int c3, .int d3])), (k3, fs_ai X 5 (fs_cu f3 3 (nI 0) b v))] _ _ := hH.to (by rw [fs_cuT f0 0 b v, fs_cuF f1 (j := 1) (i := 0) (by decide) (by decide) (by decide) b v, fs_cuF f2 (j := 2) (i := 0) (by decide) (by decide) (by decide) b v, fs_cuF f3 (j := 3) (i := 0) (by decide) (by decide) (by decide) b v])
          refine W.widen (k := 1) (n := 6) (by decide) (by decide) ?_
          exact vx_ret (fs_vret C hH () rfl (⟨fs_bi_nz.mp c_4, fs_bi_nz.mp c_8, fs_bi_nz.mp c_12⟩) dX4_stage_43)
        · refine lv_aload_n hx hb dX4_stage_31 rfl (lv_at hl 0 rfl) ?_
          refine fs_get C in_4 hH 0 rfl rfl 1 (by decide) mw_68 (v := .ref ns) rfl dX4_stage_32 ?_
          refine lv_iload_n hx hb dX4_stage_35 rfl (lv_at hl 1 rfl) ?_
          refine fs_aald C hH 1 rfl (k := 1) (b := s1) rfl (by decide) (by decide) rfl dX4_stage_36 ?_
          refine fs_getN C in_1 hH 4 rfl rfl 0 (by decide) (List.mem_of_getElem? (i := 1) rfl) (v := .ref k1) rfl dX4_stage_37 ?_
          refine lv_iload_n hx hb dX4_stage_40 rfl (lv_at hl 2 rfl) ?_
          refine lv_iload_n hx hb dX4_stage_41 rfl (lv_at hl 3 rfl) ?_
          refine fs_iast C hH 5 rfl (k := (Int32.toNatClampNeg b)) (fs_ixn (n := 5) (by decide) (fs_bi_nz.mp c_8)).1 (fs_ixn (n := 5) (by decide) (fs_bi_nz.mp c_8)).2 (by decide) (ws' := [(h0, .inr (4, [.ref nt, .ref ns, .ref nb, .ref nu])), (ns, fs_aq X 4 (fs_sts s0 s1 s2 s3)), (s0, .inr (1, [.ref k0, .int a0, .int b0, .int c0, .int d0])), (k0, fs_ai X 5 f0), (s1, .inr (1, [.ref k1, .int a1, .int b1, .int c1, .int d1])), (k1, fs_ai X 5 (upd f1 (Int32.toNatClampNeg b) v)), (s2, .inr (1, [.ref k2, .int a2, .int b2, .int c2, .int d2])), (k2, fs_ai X 5 f2), (s3, .inr (1, [.ref k3, .int a3, .int b3, .int c3, .int d3])), (k3, fs_ai X 5 f3)]) rfl dX4_stage_42 (fun H locs hH => ?_)
          have hH : fs_H X A s [(h0, .inr (4, [.ref nt, .ref ns, .ref nb, .ref nu])), (ns, fs_aq X 4 (fs_sts s0 s1 s2 s3)), (s0, .inr (1, [.ref k0, .int a0, .int b0, .int c0, .int d0])), (k0, fs_ai X 5 (fs_cu f0 0 (nI 1) b v)), (s1, .inr (1, [.ref k1, .int a1, .int b1, .int c1, .int d1])), (k1, fs_ai X 5 (fs_cu f1 1 (nI 1) b v)), (s2, .inr (1, [.ref k2, .int a2, .int b2, .int c2, .int d2])), (k2, fs_ai X 5 (fs_cu f2 2 (nI 1) b v)), (s3, .inr (1, [.ref k3, .int a3, .int b3, .int c3, .int d3])), (k3, fs_ai X 5 (fs_cu f3 3 (nI 1) b v))] _ _ := hH.to (by rw [fs_cuF f0 (j := 0) (i := 1) (by decide) (by decide) (by decide) b v, fs_cuT f1 1 b v, fs_cuF f2 (j := 2) (i := 1) (by decide) (by decide) (by decide) b v, fs_cuF f3 (j := 3) (i := 1) (by decide) (by decide) (by decide) b v])
          refine W.widen (k := 1) (n := 6) (by decide) (by decide) ?_
          exact vx_ret (fs_vret C hH () rfl (⟨fs_bi_nz.mp c_4, fs_bi_nz.mp c_8, fs_bi_nz.mp c_12⟩) dX4_stage_43)
        · refine lv_aload_n hx hb dX4_stage_31 rfl (lv_at hl 0 rfl) ?_
          refine fs_get C in_4 hH 0 rfl rfl 1 (by decide) mw_68 (v := .ref ns) rfl dX4_stage_32 ?_
          refine lv_iload_n hx hb dX4_stage_35 rfl (lv_at hl 1 rfl) ?_
          refine fs_aald C hH 1 rfl (k := 2) (b := s2) rfl (by decide) (by decide) rfl dX4_stage_36 ?_
          refine fs_getN C in_1 hH 6 rfl rfl 0 (by decide) (List.mem_of_getElem? (i := 1) rfl) (v := .ref k2) rfl dX4_stage_37 ?_
          refine lv_iload_n hx hb dX4_stage_40 rfl (lv_at hl 2 rfl) ?_
          refine lv_iload_n hx hb dX4_stage_41 rfl (lv_at hl 3 rfl) ?_
          refine fs_iast C hH 7 rfl (k := (Int32.toNatClampNeg b)) (fs_ixn (n := 5) (by decide) (fs_bi_nz.mp c_8)).1 (fs_ixn (n := 5) (by decide) (fs_bi_nz.mp c_8)).2 (by decide) (ws' := [(h0, .inr (4, [.ref nt, .ref ns, .ref nb, .ref nu])), (ns, fs_aq X 4 (fs_sts s0 s1 s2 s3)), (s0, .inr (1, [.ref k0, .int a0, .int b0, .int c0, .int d0])), (k0, fs_ai X 5 f0), (s1, .inr (1, [.ref k1, .int a1, .int b1, .int c1, .int d1])), (k1, fs_ai X 5 f1), (s2, .inr (1, [.ref k2, .int a2, .int b2, .int c2, .int d2])), (k2, fs_ai X 5 (upd f2 (Int32.toNatClampNeg b) v)), (s3, .inr (1, [.ref k3, .int a3, .int b3, .int c3, .int d3])), (k3, fs_ai X 5 f3)]) rfl dX4_stage_42 (fun H locs hH => ?_)
          have hH : fs_H X A s [(h0, .inr (4, [.ref nt, .ref ns, .ref nb, .ref nu])), (ns, fs_aq X 4 (fs_sts s0 s1 s2 s3)), (s0, .inr (1, [.ref k0, .int a0, .int b0, .int c0, .int d0])), (k0, fs_ai X 5 (fs_cu f0 0 (nI 2) b v)), (s1, .inr (1, [.ref k1, .int a1, .int b1, .int c1, .int d1])), (k1, fs_ai X 5 (fs_cu f1 1 (nI 2) b v)), (s2, .inr (1, [.ref k2, .int a2, .int b2, .int c2, .int d2])), (k2, fs_ai X 5 (fs_cu f2 2 (nI 2) b v)), (s3, .inr (1, [.ref k3, .int a3, .int b3, .int c3, .int d3])), (k3, fs_ai X 5 (fs_cu f3 3 (nI 2) b v))] _ _ := hH.to (by rw [fs_cuF f0 (j := 0) (i := 2) (by decide) (by decide) (by decide) b v, fs_cuF f1 (j := 1) (i := 2) (by decide) (by decide) (by decide) b v, fs_cuT f2 2 b v, fs_cuF f3 (j := 3) (i := 2) (by decide) (by decide) (by decide) b v])
          refine W.widen (k := 1) (n := 6) (by decide) (by decide) ?_
          exact vx_ret (fs_vret C hH () rfl (⟨fs_bi_nz.mp c_4, fs_bi_nz.mp c_8, fs_bi_nz.mp c_12⟩) dX4_stage_43)
        · refine lv_aload_n hx hb dX4_stage_31 rfl (lv_at hl 0 rfl) ?_
          refine fs_get C in_4 hH 0 rfl rfl 1 (by decide) mw_68 (v := .ref ns) rfl dX4_stage_32 ?_
          refine lv_iload_n hx hb dX4_stage_35 rfl (lv_at hl 1 rfl) ?_
          refine fs_aald C hH 1 rfl (k := 3) (b := s3) rfl (by decide) (by decide) rfl dX4_stage_36 ?_
          refine fs_getN C in_1 hH 8 rfl rfl 0 (by decide) (List.mem_of_getElem? (i := 1) rfl) (v := .ref k3) rfl dX4_stage_37 ?_
          refine lv_iload_n hx hb dX4_stage_40 rfl (lv_at hl 2 rfl) ?_
          refine lv_iload_n hx hb dX4_stage_41 rfl (lv_at hl 3 rfl) ?_
          refine fs_iast C hH 9 rfl (k := (Int32.toNatClampNeg b)) (fs_ixn (n := 5) (by decide) (fs_bi_nz.mp c_8)).1 (fs_ixn (n := 5) (by decide) (fs_bi_nz.mp c_8)).2 (by decide) (ws' := [(h0, .inr (4, [.ref nt, .ref ns, .ref nb, .ref nu])), (ns, fs_aq X 4 (fs_sts s0 s1 s2 s3)), (s0, .inr (1, [.ref k0, .int a0, .int b0, .int c0, .int d0])), (k0, fs_ai X 5 f0), (s1, .inr (1, [.ref k1, .int a1, .int b1, .int c1, .int d1])), (k1, fs_ai X 5 f1), (s2, .inr (1, [.ref k2, .int a2, .int b2, .int c2, .int d2])), (k2, fs_ai X 5 f2), (s3, .inr (1, [.ref k3, .int a3, .int b3, .int c3, .int d3])), (k3, fs_ai X 5 (upd f3 (Int32.toNatClampNeg b) v))]) rfl dX4_stage_42 (fun H locs hH => ?_)
          have hH : fs_H X A s [(h0, .inr (4, [.ref nt, .ref ns, .ref nb, .ref nu])), (ns, fs_aq X 4 (fs_sts s0 s1 s2 s3)), (s0, .inr (1, [.ref k0, .int a0, .int b0, .int c0, .int d0])), (k0, fs_ai X 5 (fs_cu f0 0 (nI 3) b v)), (s1, .inr (1, [.ref k1, .int a1, .int b1, .int c1, .int d1])), (k1, fs_ai X 5 (fs_cu f1 1 (nI 3) b v)), (s2, .inr (1, [.ref k2, .int a2, .int b2, .int c2, .int d2])), (k2, fs_ai X 5 (fs_cu f2 2 (nI 3) b v)), (s3, .inr (1, [.ref k3, .int a3, .int b3, .int c3, .int d3])), (k3, fs_ai X 5 (fs_cu f3 3 (nI 3) b v))] _ _ := hH.to (by rw [fs_cuF f0 (j := 0) (i := 3) (by decide) (by decide) (by decide) b v, fs_cuF f1 (j := 1) (i := 3) (by decide) (by decide) (by decide) b v, fs_cuF f2 (j := 2) (i := 3) (by decide) (by decide) (by decide) b v, fs_cuT f3 3 b v])
          refine W.widen (k := 1) (n := 6) (by decide) (by decide) ?_
          exact vx_ret (fs_vret C hH () rfl (⟨fs_bi_nz.mp c_4, fs_bi_nz.mp c_8, fs_bi_nz.mp c_12⟩) dX4_stage_43)
      · exact fs_throw C hl9 ht9 hH hl.1 (fun h => (fs_bi_0.mp c_12) h.2.2) mw_127 mw_10 dX4_stage_23 dX4_stage_26 dX4_stage_27 dX4_stage_30 (by decide) (Nat.le_of_ble_eq_true rfl) (by decide) (by decide) (by decide) (by decide)
set_option maxHeartbeats 4000000 in
set_option maxRecDepth 100000 in
theorem c_X4_chain (l : Launch) (X : fs_X) (sz : Nat) (h0 : Nat) (nt : Nat) (ns : Nat) (nb : Nat) (nu : Nat) (s0 : Nat) (k0 : Nat) (f0 : Nat → Int32) (a0 : Int32) (b0 : Int32) (c0 : Int32) (d0 : Int32) (s1 : Nat) (k1 : Nat) (f1 : Nat → Int32) (a1 : Int32) (b1 : Int32) (c1 : Int32) (d1 : Int32) (s2 : Nat) (k2 : Nat) (f2 : Nat → Int32) (a2 : Int32) (b2 : Int32) (c2 : Int32) (d2 : Int32) (s3 : Nat) (k3 : Nat) (f3 : Nat → Int32) (a3 : Int32) (b3 : Int32) (c3 : Int32) (d3 : Int32) (x : Int32)  (hl9 : l.stackTraces = false) : fs_MX l X yX4_chain cX4_chain 4 (some .int) ({ frames := 6, cells := 1, slots := 6, locals := 81 }) [.ref h0, .int x] [(h0, .inr (4, [.ref nt, .ref ns, .ref nb, .ref nu])), (ns, fs_aq X 4 (fs_sts s0 s1 s2 s3)), (s0, .inr (1, [.ref k0, .int a0, .int b0, .int c0, .int d0])), (k0, fs_ai X 5 f0), (s1, .inr (1, [.ref k1, .int a1, .int b1, .int c1, .int d1])), (k1, fs_ai X 5 f1), (s2, .inr (1, [.ref k2, .int a2, .int b2, .int c2, .int d2])), (k2, fs_ai X 5 f2), (s3, .inr (1, [.ref k3, .int a3, .int b3, .int c3, .int d3])), (k3, fs_ai X 5 f3)] sz (fs_Qi X (fun r (_ : Unit) => r = (fs_st f3 a3 b3 c3 d3 (fs_st f2 a2 b2 c2 d2 (fs_st f1 a1 b1 c1 d1 (fs_st f0 a0 b0 c0 d0 x)))) ∧ (fs_short x)) (fun _ => [(h0, .inr (4, [.ref nt, .ref ns, .ref nb, .ref nu])), (ns, fs_aq X 4 (fs_sts s0 s1 s2 s3)), (s0, .inr (1, [.ref k0, .int x, .int a0, .int (fs_st f0 a0 b0 c0 d0 x), .int c0])), (k0, fs_ai X 5 f0), (s1, .inr (1, [.ref k1, .int (fs_st f0 a0 b0 c0 d0 x), .int a1, .int (fs_st f1 a1 b1 c1 d1 (fs_st f0 a0 b0 c0 d0 x)), .int c1])), (k1, fs_ai X 5 f1), (s2, .inr (1, [.ref k2, .int (fs_st f1 a1 b1 c1 d1 (fs_st f0 a0 b0 c0 d0 x)), .int a2, .int (fs_st f2 a2 b2 c2 d2 (fs_st f1 a1 b1 c1 d1 (fs_st f0 a0 b0 c0 d0 x))), .int c2])), (k2, fs_ai X 5 f2), (s3, .inr (1, [.ref k3, .int (fs_st f2 a2 b2 c2 d2 (fs_st f1 a1 b1 c1 d1 (fs_st f0 a0 b0 c0 d0 x))), .int a3, .int (fs_st f3 a3 b3 c3 d3 (fs_st f2 a2 b2 c2 d2 (fs_st f1 a1 b1 c1 d1 (fs_st f0 a0 b0 c0 d0 x)))), .int c3])), (k3, fs_ai X 5 f3)])) (¬ (fs_short x)) 1 6 := by
  refine fs_ofX (by decide) (Nat.le_of_ble_eq_true rfl) ?_
  intro p e s m args below meth c A ls C hH hl ht9
  have C : fs_At X A p s m args meth c cX4_chain 4 (some .int) RX4 "chain" := C
  have hx := C.1
  have hb := C.2.1
  have hown := C.2.2.2.2.1
  have hts := C.2.2.2.2.2.1
  have hl : lv_has ls 4 [(0, .ref h0), (1, .int x)] := hl
  have hH : fs_H X A s [(h0, .inr (4, [.ref nt, .ref ns, .ref nb, .ref nu])), (ns, fs_aq X 4 (fs_sts s0 s1 s2 s3)), (s0, .inr (1, [.ref k0, .int a0, .int b0, .int c0, .int d0])), (k0, fs_ai X 5 f0), (s1, .inr (1, [.ref k1, .int a1, .int b1, .int c1, .int d1])), (k1, fs_ai X 5 f1), (s2, .inr (1, [.ref k2, .int a2, .int b2, .int c2, .int d2])), (k2, fs_ai X 5 f2), (s3, .inr (1, [.ref k3, .int a3, .int b3, .int c3, .int d3])), (k3, fs_ai X 5 f3)] s.heap [] := hH
  refine lv_iload_n hx hb dX4_chain_0 rfl (lv_at hl 1 rfl) ?_
  refine fs_ci C hH (wr := [(h0, .inr (4, [.ref nt, .ref ns, .ref nb, .ref nu])), (ns, fs_aq X 4 (fs_sts s0 s1 s2 s3)), (s0, .inr (1, [.ref k0, .int a0, .int b0, .int c0, .int d0])), (k0, fs_ai X 5 f0), (s1, .inr (1, [.ref k1, .int a1, .int b1, .int c1, .int d1])), (k1, fs_ai X 5 f1), (s2, .inr (1, [.ref k2, .int a2, .int b2, .int c2, .int d2])), (k2, fs_ai X 5 f2), (s3, .inr (1, [.ref k3, .int a3, .int b3, .int c3, .int d3])), (k3, fs_ai X 5 f3)]) [] [0, 1, 2, 3, 4, 5, 6, 7, 8, 9] rfl rfl (by decide) (by decide) (fs_rS (rest := []) (As := [.int x]) (n := 1) C hH (wc := []) [] (by decide) rfl (c_X4_isShort l X _ x ) rfl rfl mw_187 mw_185 mw_186 mw_1 (by decide +kernel) ⟨Nat.le_of_ble_eq_true rfl, Nat.le_of_ble_eq_true rfl⟩ rfl hl.1 rfl (Nat.le_of_ble_eq_true rfl) dX4_chain_1 ⟨Nat.le_of_ble_eq_true rfl, Nat.le_of_ble_eq_true rfl⟩) (fun r_1 u_2 H locs hr_3 hH => ?_)
  subst hr_3
  have hH : fs_H X A s [(h0, .inr (4, [.ref nt, .ref ns, .ref nb, .ref nu])), (ns, fs_aq X 4 (fs_sts s0 s1 s2 s3)), (s0, .inr (1, [.ref k0, .int a0, .int b0, .int c0, .int d0])), (k0, fs_ai X 5 f0), (s1, .inr (1, [.ref k1, .int a1, .int b1, .int c1, .int d1])), (k1, fs_ai X 5 f1), (s2, .inr (1, [.ref k2, .int a2, .int b2, .int c2, .int d2])), (k2, fs_ai X 5 f2), (s3, .inr (1, [.ref k3, .int a3, .int b3, .int c3, .int d3])), (k3, fs_ai X 5 f3)] _ _ := hH
  refine lv_if_ne (tgt := 15) hx hb dX4_chain_4 (by decide) (fun c_4 => ?_) (fun c_4 => ?_)
  · refine lv_iload_n hx hb dX4_chain_15 rfl (lv_at hl 1 rfl) ?_
    refine lv_istore_n (lv' := [(2, .int x), (0, .ref h0), (1, .int x)]) hx hb dX4_chain_16 rfl hl (by decide) rfl (fun ls hl => ?_)
    refine lv_iconst (v := 0) hx hb dX4_chain_17 (by decide) ?_
    refine lv_istore_n (lv' := [(3, .int 0), (2, .int x), (0, .ref h0), (1, .int x)]) hx hb dX4_chain_18 rfl hl (by decide) rfl (fun ls hl => ?_)
    refine lv_iload_n hx hb dX4_chain_19 rfl (lv_at hl 0 rfl) ?_
    refine lv_iconst (v := 4) hx hb dX4_chain_20 (by decide) ?_
    refine lv_icmp_ge (tgt := 41) hx hb dX4_chain_21 (by decide) (fun c_5 => ?_) (fun c_5 => ?_)
    · exact absurd c_5 (by decide)
    · refine lv_aload_n hx hb dX4_chain_24 rfl (lv_at hl 2 rfl) ?_
      refine fs_get C in_4 hH 0 rfl rfl 1 (by decide) mw_68 (v := .ref ns) rfl dX4_chain_25 ?_
      refine lv_iload_n hx hb dX4_chain_28 rfl (lv_at hl 0 rfl) ?_
      refine fs_aald C hH 1 rfl (k := 0) (b := s0) rfl (by decide) (by decide) rfl dX4_chain_29 ?_
      refine lv_iload_n hx hb dX4_chain_30 rfl (lv_at hl 1 rfl) ?_
      refine fs_ci C hH (wr := [(h0, .inr (4, [.ref nt, .ref ns, .ref nb, .ref nu])), (ns, fs_aq X 4 (fs_sts s0 s1 s2 s3)), (s1, .inr (1, [.ref k1, .int a1, .int b1, .int c1, .int d1])), (k1, fs_ai X 5 f1), (s2, .inr (1, [.ref k2, .int a2, .int b2, .int c2, .int d2])), (k2, fs_ai X 5 f2), (s3, .inr (1, [.ref k3, .int a3, .int b3, .int c3, .int d3])), (k3, fs_ai X 5 f3)]) [2, 3] [0, 1, 4, 5, 6, 7, 8, 9] rfl rfl (by decide) (by decide) (fs_rVN (rest := []) (As := [.int x]) (n := 1) (q0 := 2) (ci := 1) C hH (wc := [(s0, .inr (1, [.ref k0, .int a0, .int b0, .int c0, .int d0])), (k0, fs_ai X 5 f0)]) [2, 3] (by decide) rfl (c_X1_answerTo l X _ s0 k0 f0 a0 b0 c0 d0 x ) rfl rfl rfl rfl mw_225 (List.mem_of_getElem? (i := 11) rfl) mw_224 mw_486 mw_3 (by decide +kernel) ⟨Nat.le_of_ble_eq_true rfl, Nat.le_of_ble_eq_true rfl⟩ rfl hl.1 rfl (Nat.le_of_ble_eq_true rfl) dX4_chain_31 ⟨Nat.le_of_ble_eq_true rfl, Nat.le_of_ble_eq_true rfl⟩) (fun r_6 u_7 H locs hr_8 hH => ?_)
      subst hr_8
      have hH : fs_H X A s [(h0, .inr (4, [.ref nt, .ref ns, .ref nb, .ref nu])), (ns, fs_aq X 4 (fs_sts s0 s1 s2 s3)), (s0, .inr (1, [.ref k0, .int x, .int a0, .int (fs_st f0 a0 b0 c0 d0 x), .int c0])), (k0, fs_ai X 5 f0), (s1, .inr (1, [.ref k1, .int a1, .int b1, .int c1, .int d1])), (k1, fs_ai X 5 f1), (s2, .inr (1, [.ref k2, .int a2, .int b2, .int c2, .int d2])), (k2, fs_ai X 5 f2), (s3, .inr (1, [.ref k3, .int a3, .int b3, .int c3, .int d3])), (k3, fs_ai X 5 f3)] _ _ := hH.sub [0, 1, 8, 9, 2, 3, 4, 5, 6, 7] (by decide) rfl
      refine lv_istore_n (lv' := [(2, .int (fs_st f0 a0 b0 c0 d0 x)), (3, .int 0), (0, .ref h0), (1, .int x)]) hx hb dX4_chain_34 rfl hl (by decide) rfl (fun ls hl => ?_)
      refine lv_iinc (v := 1) (lv' := [(3, .int 1), (2, .int (fs_st f0 a0 b0 c0 d0 x)), (0, .ref h0), (1, .int x)]) hx hb dX4_chain_35 hl (k := 1) rfl (by decide) (by decide) rfl (fun ls hl => ?_)
      refine lv_goto (tgt := 19) hx hb dX4_chain_38 (by decide) ?_
      refine lv_iload_n hx hb dX4_chain_19 rfl (lv_at hl 0 rfl) ?_
      refine lv_iconst (v := 4) hx hb dX4_chain_20 (by decide) ?_
      refine lv_icmp_ge (tgt := 41) hx hb dX4_chain_21 (by decide) (fun c_9 => ?_) (fun c_9 => ?_)
      · exact absurd c_9 (by decide)
      · refine lv_aload_n hx hb dX4_chain_24 rfl (lv_at hl 2 rfl) ?_
        refine fs_get C in_4 hH 0 rfl rfl 1 (by decide) mw_68 (v := .ref ns) rfl dX4_chain_25 ?_
        refine lv_iload_n hx hb dX4_chain_28 rfl (lv_at hl 0 rfl) ?_
        refine fs_aald C hH 1 rfl (k := 1) (b := s1) rfl (by decide) (by decide) rfl dX4_chain_29 ?_
        refine lv_iload_n hx hb dX4_chain_30 rfl (lv_at hl 1 rfl) ?_
        refine fs_ci C hH (wr := [(h0, .inr (4, [.ref nt, .ref ns, .ref nb, .ref nu])), (ns, fs_aq X 4 (fs_sts s0 s1 s2 s3)), (s0, .inr (1, [.ref k0, .int x, .int a0, .int (fs_st f0 a0 b0 c0 d0 x), .int c0])), (k0, fs_ai X 5 f0), (s2, .inr (1, [.ref k2, .int a2, .int b2, .int c2, .int d2])), (k2, fs_ai X 5 f2), (s3, .inr (1, [.ref k3, .int a3, .int b3, .int c3, .int d3])), (k3, fs_ai X 5 f3)]) [4, 5] [0, 1, 2, 3, 6, 7, 8, 9] rfl rfl (by decide) (by decide) (fs_rVN (rest := []) (As := [.int (fs_st f0 a0 b0 c0 d0 x)]) (n := 1) (q0 := 4) (ci := 1) C hH (wc := [(s1, .inr (1, [.ref k1, .int a1, .int b1, .int c1, .int d1])), (k1, fs_ai X 5 f1)]) [4, 5] (by decide) rfl (c_X1_answerTo l X _ s1 k1 f1 a1 b1 c1 d1 (fs_st f0 a0 b0 c0 d0 x) ) rfl rfl rfl rfl mw_225 (List.mem_of_getElem? (i := 11) rfl) mw_224 mw_486 mw_3 (by decide +kernel) ⟨Nat.le_of_ble_eq_true rfl, Nat.le_of_ble_eq_true rfl⟩ rfl hl.1 rfl (Nat.le_of_ble_eq_true rfl) dX4_chain_31 ⟨Nat.le_of_ble_eq_true rfl, Nat.le_of_ble_eq_true rfl⟩) (fun r_10 u_11 H locs hr_12 hH => ?_)
        subst hr_12
        have hH : fs_H X A s [(h0, .inr (4, [.ref nt, .ref ns, .ref nb, .ref nu])), (ns, fs_aq X 4 (fs_sts s0 s1 s2 s3)), (s0, .inr (1, [.ref k0, .int x, .int a0, .int (fs_st f0 a0 b0 c0 d0 x), .int c0])), (k0, fs_ai X 5 f0), (s1, .inr (1, [.ref k1, .int (fs_st f0 a0 b0 c0 d0 x), .int a1, .int (fs_st f1 a1 b1 c1 d1 (fs_st f0 a0 b0 c0 d0 x)), .int c1])), (k1, fs_ai X 5 f1), (s2, .inr (1, [.ref k2, .int a2, .int b2, .int c2, .int d2])), (k2, fs_ai X 5 f2), (s3, .inr (1, [.ref k3, .int a3, .int b3, .int c3, .int d3])), (k3, fs_ai X 5 f3)] _ _ := hH.sub [0, 1, 2, 3, 8, 9, 4, 5, 6, 7] (by decide) rfl
        refine lv_istore_n (lv' := [(2, .int (fs_st f1 a1 b1 c1 d1 (fs_st f0 a0 b0 c0 d0 x))), (3, .int 1), (0, .ref h0), (1, .int x)]) hx hb dX4_chain_34 rfl hl (by decide) rfl (fun ls hl => ?_)
        refine lv_iinc (v := 2) (lv' := [(3, .int 2), (2, .int (fs_st f1 a1 b1 c1 d1 (fs_st f0 a0 b0 c0 d0 x))), (0, .ref h0), (1, .int x)]) hx hb dX4_chain_35 hl (k := 1) rfl (by decide) (by decide) rfl (fun ls hl => ?_)
        refine lv_goto (tgt := 19) hx hb dX4_chain_38 (by decide) ?_
        refine lv_iload_n hx hb dX4_chain_19 rfl (lv_at hl 0 rfl) ?_
        refine lv_iconst (v := 4) hx hb dX4_chain_20 (by decide) ?_
        refine lv_icmp_ge (tgt := 41) hx hb dX4_chain_21 (by decide) (fun c_13 => ?_) (fun c_13 => ?_)
        · exact absurd c_13 (by decide)
        · refine lv_aload_n hx hb dX4_chain_24 rfl (lv_at hl 2 rfl) ?_
          refine fs_get C in_4 hH 0 rfl rfl 1 (by decide) mw_68 (v := .ref ns) rfl dX4_chain_25 ?_
          refine lv_iload_n hx hb dX4_chain_28 rfl (lv_at hl 0 rfl) ?_
          refine fs_aald C hH 1 rfl (k := 2) (b := s2) rfl (by decide) (by decide) rfl dX4_chain_29 ?_
          refine lv_iload_n hx hb dX4_chain_30 rfl (lv_at hl 1 rfl) ?_
          refine fs_ci C hH (wr := [(h0, .inr (4, [.ref nt, .ref ns, .ref nb, .ref nu])), (ns, fs_aq X 4 (fs_sts s0 s1 s2 s3)), (s0, .inr (1, [.ref k0, .int x, .int a0, .int (fs_st f0 a0 b0 c0 d0 x), .int c0])), (k0, fs_ai X 5 f0), (s1, .inr (1, [.ref k1, .int (fs_st f0 a0 b0 c0 d0 x), .int a1, .int (fs_st f1 a1 b1 c1 d1 (fs_st f0 a0 b0 c0 d0 x)), .int c1])), (k1, fs_ai X 5 f1), (s3, .inr (1, [.ref k3, .int a3, .int b3, .int c3, .int d3])), (k3, fs_ai X 5 f3)]) [6, 7] [0, 1, 2, 3, 4, 5, 8, 9] rfl rfl (by decide) (by decide) (fs_rVN (rest := []) (As := [.int (fs_st f1 a1 b1 c1 d1 (fs_st f0 a0 b0 c0 d0 x))]) (n := 1) (q0 := 6) (ci := 1) C hH (wc := [(s2, .inr (1, [.ref k2, .int a2, .int b2, .int c2, .int d2])), (k2, fs_ai X 5 f2)]) [6, 7] (by decide) rfl (c_X1_answerTo l X _ s2 k2 f2 a2 b2 c2 d2 (fs_st f1 a1 b1 c1 d1 (fs_st f0 a0 b0 c0 d0 x)) ) rfl rfl rfl rfl mw_225 (List.mem_of_getElem? (i := 11) rfl) mw_224 mw_486 mw_3 (by decide +kernel) ⟨Nat.le_of_ble_eq_true rfl, Nat.le_of_ble_eq_true rfl⟩ rfl hl.1 rfl (Nat.le_of_ble_eq_true rfl) dX4_chain_31 ⟨Nat.le_of_ble_eq_true rfl, Nat.le_of_ble_eq_true rfl⟩) (fun r_14 u_15 H locs hr_16 hH => ?_)
          subst hr_16
          have hH : fs_H X A s [(h0, .inr (4, [.ref nt, .ref ns, .ref nb, .ref nu])), (ns, fs_aq X 4 (fs_sts s0 s1 s2 s3)), (s0, .inr (1, [.ref k0, .int x, .int a0, .int (fs_st f0 a0 b0 c0 d0 x), .int c0])), (k0, fs_ai X 5 f0), (s1, .inr (1, [.ref k1, .int (fs_st f0 a0 b0 c0 d0 x), .int a1, .int (fs_st f1 a1 b1 c1 d1 (fs_st f0 a0 b0 c0 d0 x)), .int c1])), (k1, fs_ai X 5 f1), (s2, .inr (1, [.ref k2, .int (fs_st f1 a1 b1 c1 d1 (fs_st f0 a0 b0 c0 d0 x)), .int a2, .int (fs_st f2 a2 b2 c2 d2 (fs_st f1 a1 b1 c1 d1 (fs_st f0 a0 b0 c0 d0 x))), .int c2])), (k2, fs_ai X 5 f2), (s3, .inr (1, [.ref k3, .int a3, .int b3, .int c3, .int d3])), (k3, fs_ai X 5 f3)] _ _ := hH.sub [0, 1, 2, 3, 4, 5, 8, 9, 6, 7] (by decide) rfl
          refine lv_istore_n (lv' := [(2, .int (fs_st f2 a2 b2 c2 d2 (fs_st f1 a1 b1 c1 d1 (fs_st f0 a0 b0 c0 d0 x)))), (3, .int 2), (0, .ref h0), (1, .int x)]) hx hb dX4_chain_34 rfl hl (by decide) rfl (fun ls hl => ?_)
          refine lv_iinc (v := 3) (lv' := [(3, .int 3), (2, .int (fs_st f2 a2 b2 c2 d2 (fs_st f1 a1 b1 c1 d1 (fs_st f0 a0 b0 c0 d0 x)))), (0, .ref h0), (1, .int x)]) hx hb dX4_chain_35 hl (k := 1) rfl (by decide) (by decide) rfl (fun ls hl => ?_)
          refine lv_goto (tgt := 19) hx hb dX4_chain_38 (by decide) ?_
          refine lv_iload_n hx hb dX4_chain_19 rfl (lv_at hl 0 rfl) ?_
          refine lv_iconst (v := 4) hx hb dX4_chain_20 (by decide) ?_
          refine lv_icmp_ge (tgt := 41) hx hb dX4_chain_21 (by decide) (fun c_17 => ?_) (fun c_17 => ?_)
          · exact absurd c_17 (by decide)
          · refine lv_aload_n hx hb dX4_chain_24 rfl (lv_at hl 2 rfl) ?_
            refine fs_get C in_4 hH 0 rfl rfl 1 (by decide) mw_68 (v := .ref ns) rfl dX4_chain_25 ?_
            refine lv_iload_n hx hb dX4_chain_28 rfl (lv_at hl 0 rfl) ?_
            refine fs_aald C hH 1 rfl (k := 3) (b := s3) rfl (by decide) (by decide) rfl dX4_chain_29 ?_
            refine lv_iload_n hx hb dX4_chain_30 rfl (lv_at hl 1 rfl) ?_
            refine fs_ci C hH (wr := [(h0, .inr (4, [.ref nt, .ref ns, .ref nb, .ref nu])), (ns, fs_aq X 4 (fs_sts s0 s1 s2 s3)), (s0, .inr (1, [.ref k0, .int x, .int a0, .int (fs_st f0 a0 b0 c0 d0 x), .int c0])), (k0, fs_ai X 5 f0), (s1, .inr (1, [.ref k1, .int (fs_st f0 a0 b0 c0 d0 x), .int a1, .int (fs_st f1 a1 b1 c1 d1 (fs_st f0 a0 b0 c0 d0 x)), .int c1])), (k1, fs_ai X 5 f1), (s2, .inr (1, [.ref k2, .int (fs_st f1 a1 b1 c1 d1 (fs_st f0 a0 b0 c0 d0 x)), .int a2, .int (fs_st f2 a2 b2 c2 d2 (fs_st f1 a1 b1 c1 d1 (fs_st f0 a0 b0 c0 d0 x))), .int c2])), (k2, fs_ai X 5 f2)]) [8, 9] [0, 1, 2, 3, 4, 5, 6, 7] rfl rfl (by decide) (by decide) (fs_rVN (rest := []) (As := [.int (fs_st f2 a2 b2 c2 d2 (fs_st f1 a1 b1 c1 d1 (fs_st f0 a0 b0 c0 d0 x)))]) (n := 1) (q0 := 8) (ci := 1) C hH (wc := [(s3, .inr (1, [.ref k3, .int a3, .int b3, .int c3, .int d3])), (k3, fs_ai X 5 f3)]) [8, 9] (by decide) rfl (c_X1_answerTo l X _ s3 k3 f3 a3 b3 c3 d3 (fs_st f2 a2 b2 c2 d2 (fs_st f1 a1 b1 c1 d1 (fs_st f0 a0 b0 c0 d0 x))) ) rfl rfl rfl rfl mw_225 (List.mem_of_getElem? (i := 11) rfl) mw_224 mw_486 mw_3 (by decide +kernel) ⟨Nat.le_of_ble_eq_true rfl, Nat.le_of_ble_eq_true rfl⟩ rfl hl.1 rfl (Nat.le_of_ble_eq_true rfl) dX4_chain_31 ⟨Nat.le_of_ble_eq_true rfl, Nat.le_of_ble_eq_true rfl⟩) (fun r_18 u_19 H locs hr_20 hH => ?_)
            subst hr_20
            have hH : fs_H X A s [(h0, .inr (4, [.ref nt, .ref ns, .ref nb, .ref nu])), (ns, fs_aq X 4 (fs_sts s0 s1 s2 s3)), (s0, .inr (1, [.ref k0, .int x, .int a0, .int (fs_st f0 a0 b0 c0 d0 x), .int c0])), (k0, fs_ai X 5 f0), (s1, .inr (1, [.ref k1, .int (fs_st f0 a0 b0 c0 d0 x), .int a1, .int (fs_st f1 a1 b1 c1 d1 (fs_st f0 a0 b0 c0 d0 x)), .int c1])), (k1, fs_ai X 5 f1), (s2, .inr (1, [.ref k2, .int (fs_st f1 a1 b1 c1 d1 (fs_st f0 a0 b0 c0 d0 x)), .int a2, .int (fs_st f2 a2 b2 c2 d2 (fs_st f1 a1 b1 c1 d1 (fs_st f0 a0 b0 c0 d0 x))), .int c2])), (k2, fs_ai X 5 f2), (s3, .inr (1, [.ref k3, .int (fs_st f2 a2 b2 c2 d2 (fs_st f1 a1 b1 c1 d1 (fs_st f0 a0 b0 c0 d0 x))), .int a3, .int (fs_st f3 a3 b3 c3 d3 (fs_st f2 a2 b2 c2 d2 (fs_st f1 a1 b1 c1 d1 (fs_st f0 a0 b0 c0 d0 x)))), .int c3])), (k3, fs_ai X 5 f3)] _ _ := hH
            refine lv_istore_n (lv' := [(2, .int (fs_st f3 a3 b3 c3 d3 (fs_st f2 a2 b2 c2 d2 (fs_st f1 a1 b1 c1 d1 (fs_st f0 a0 b0 c0 d0 x))))), (3, .int 3), (0, .ref h0), (1, .int x)]) hx hb dX4_chain_34 rfl hl (by decide) rfl (fun ls hl => ?_)
            refine lv_iinc (v := 4) (lv' := [(3, .int 4), (2, .int (fs_st f3 a3 b3 c3 d3 (fs_st f2 a2 b2 c2 d2 (fs_st f1 a1 b1 c1 d1 (fs_st f0 a0 b0 c0 d0 x))))), (0, .ref h0), (1, .int x)]) hx hb dX4_chain_35 hl (k := 1) rfl (by decide) (by decide) rfl (fun ls hl => ?_)
            refine lv_goto (tgt := 19) hx hb dX4_chain_38 (by decide) ?_
            refine lv_iload_n hx hb dX4_chain_19 rfl (lv_at hl 0 rfl) ?_
            refine lv_iconst (v := 4) hx hb dX4_chain_20 (by decide) ?_
            refine lv_icmp_ge (tgt := 41) hx hb dX4_chain_21 (by decide) (fun c_21 => ?_) (fun c_21 => ?_)
            · refine lv_iload_n hx hb dX4_chain_41 rfl (lv_at hl 1 rfl) ?_
              refine W.widen (k := 1) (n := 6) (by decide) (by decide) ?_
              exact vx_ret (fs_iret C hH () rfl (⟨rfl, fs_bi_nz.mp c_4⟩) dX4_chain_42)
            · exact absurd c_21 (by decide)
  · exact fs_throw C hl9 ht9 hH hl.1 (fs_bi_0.mp c_4) mw_127 mw_10 dX4_chain_7 dX4_chain_10 dX4_chain_11 dX4_chain_14 (by decide) (Nat.le_of_ble_eq_true rfl) (by decide) (by decide) (by decide) (by decide)
set_option maxHeartbeats 4000000 in
set_option maxRecDepth 100000 in
theorem c_X4_calm (l : Launch) (X : fs_X) (sz : Nat) (h0 : Nat) (nt : Nat) (ns : Nat) (nb : Nat) (nu : Nat) (q1 : Nat) (q2 : Nat) (gg : Nat → Int32) (s0 : Nat) (k0 : Nat) (a0 : Int32) (b0 : Int32) (c0 : Int32) (d0 : Int32) (s1 : Nat) (k1 : Nat) (a1 : Int32) (b1 : Int32) (c1 : Int32) (d1 : Int32) (s2 : Nat) (k2 : Nat) (a2 : Int32) (b2 : Int32) (c2 : Int32) (d2 : Int32) (s3 : Nat) (k3 : Nat) (a3 : Int32) (b3 : Int32) (c3 : Int32) (d3 : Int32)  : fs_M l X yX4_calm cX4_calm 2 none ({ frames := 1, cells := 0, slots := 0, locals := 21 }) [.ref h0] [(h0, .inr (4, [.ref nt, .ref ns, .ref nb, .ref nu])), (nt, .inr (2, [.ref q1, .ref q2])), (q2, fs_ai X 16 gg), (ns, fs_aq X 4 (fs_sts s0 s1 s2 s3)), (s0, .inr (1, [.ref k0, .int a0, .int b0, .int c0, .int d0])), (s1, .inr (1, [.ref k1, .int a1, .int b1, .int c1, .int d1])), (s2, .inr (1, [.ref k2, .int a2, .int b2, .int c2, .int d2])), (s3, .inr (1, [.ref k3, .int a3, .int b3, .int c3, .int d3]))] sz (fs_Qv X (fun (_ : Unit) => True) (fun _ => [(h0, .inr (4, [.ref nt, .ref ns, .ref nb, .ref nu])), (nt, .inr (2, [.ref q1, .ref q2])), (q2, fs_ai X 16 (fs_zero gg 16)), (ns, fs_aq X 4 (fs_sts s0 s1 s2 s3)), (s0, .inr (1, [.ref k0, .int 0, .int 0, .int 0, .int 0])), (s1, .inr (1, [.ref k1, .int 0, .int 0, .int 0, .int 0])), (s2, .inr (1, [.ref k2, .int 0, .int 0, .int 0, .int 0])), (s3, .inr (1, [.ref k3, .int 0, .int 0, .int 0, .int 0]))])) 0 0 := by
  refine fs_ofW (by decide) (Nat.le_of_ble_eq_true rfl) ?_
  intro p e s m args below meth c A ls C hH hl
  have C : fs_At X A p s m args meth c cX4_calm 2 none RX4 "calm" := C
  have hx := C.1
  have hb := C.2.1
  have hown := C.2.2.2.2.1
  have hts := C.2.2.2.2.2.1
  have hl : lv_has ls 2 [(0, .ref h0)] := hl
  have hH : fs_H X A s [(h0, .inr (4, [.ref nt, .ref ns, .ref nb, .ref nu])), (nt, .inr (2, [.ref q1, .ref q2])), (q2, fs_ai X 16 gg), (ns, fs_aq X 4 (fs_sts s0 s1 s2 s3)), (s0, .inr (1, [.ref k0, .int a0, .int b0, .int c0, .int d0])), (s1, .inr (1, [.ref k1, .int a1, .int b1, .int c1, .int d1])), (s2, .inr (1, [.ref k2, .int a2, .int b2, .int c2, .int d2])), (s3, .inr (1, [.ref k3, .int a3, .int b3, .int c3, .int d3]))] s.heap [] := hH
  refine lv_aload_n hx hb dX4_calm_0 rfl (lv_at hl 0 rfl) ?_
  refine fs_get C in_4 hH 0 rfl rfl 0 (by decide) mw_67 (v := .ref nt) rfl dX4_calm_1 ?_
  refine fs_cv C hH (wr := [(h0, .inr (4, [.ref nt, .ref ns, .ref nb, .ref nu])), (ns, fs_aq X 4 (fs_sts s0 s1 s2 s3)), (s0, .inr (1, [.ref k0, .int a0, .int b0, .int c0, .int d0])), (s1, .inr (1, [.ref k1, .int a1, .int b1, .int c1, .int d1])), (s2, .inr (1, [.ref k2, .int a2, .int b2, .int c2, .int d2])), (s3, .inr (1, [.ref k3, .int a3, .int b3, .int c3, .int d3]))]) [1, 2] [0, 3, 4, 5, 6, 7] rfl rfl (by decide) (by decide) (fs_rVN (rest := []) (As := []) (n := 0) (q0 := 1) (ci := 2) C hH (wc := [(nt, .inr (2, [.ref q1, .ref q2])), (q2, fs_ai X 16 gg)]) [1, 2] (by decide) rfl (c_X2_forget l X _ nt q1 q2 gg ) rfl rfl rfl rfl mw_98 (List.mem_of_getElem? (i := 4) rfl) mw_97 mw_480 mw_2 (by decide +kernel) ⟨Nat.le_of_ble_eq_true rfl, Nat.le_of_ble_eq_true rfl⟩ rfl hl.1 rfl (Nat.le_of_ble_eq_true rfl) dX4_calm_4 ⟨Nat.le_of_ble_eq_true rfl, Nat.le_of_ble_eq_true rfl⟩) (fun u_2 H locs hr_3 hH => ?_)
  have hH : fs_H X A s [(h0, .inr (4, [.ref nt, .ref ns, .ref nb, .ref nu])), (nt, .inr (2, [.ref q1, .ref q2])), (q2, fs_ai X 16 (fs_zero gg 16)), (ns, fs_aq X 4 (fs_sts s0 s1 s2 s3)), (s0, .inr (1, [.ref k0, .int a0, .int b0, .int c0, .int d0])), (s1, .inr (1, [.ref k1, .int a1, .int b1, .int c1, .int d1])), (s2, .inr (1, [.ref k2, .int a2, .int b2, .int c2, .int d2])), (s3, .inr (1, [.ref k3, .int a3, .int b3, .int c3, .int d3]))] _ _ := hH.sub [0, 6, 7, 1, 2, 3, 4, 5] (by decide) rfl
  refine lv_iconst (v := 0) hx hb dX4_calm_7 (by decide) ?_
  refine lv_istore_n (lv' := [(1, .int 0), (0, .ref h0)]) hx hb dX4_calm_8 rfl hl (by decide) rfl (fun ls hl => ?_)
  refine lv_iload_n hx hb dX4_calm_9 rfl (lv_at hl 0 rfl) ?_
  refine lv_iconst (v := 4) hx hb dX4_calm_10 (by decide) ?_
  refine lv_icmp_ge (tgt := 29) hx hb dX4_calm_11 (by decide) (fun c_4 => ?_) (fun c_4 => ?_)
  · exact absurd c_4 (by decide)
  · refine lv_aload_n hx hb dX4_calm_14 rfl (lv_at hl 1 rfl) ?_
    refine fs_get C in_4 hH 0 rfl rfl 1 (by decide) mw_68 (v := .ref ns) rfl dX4_calm_15 ?_
    refine lv_iload_n hx hb dX4_calm_18 rfl (lv_at hl 0 rfl) ?_
    refine fs_aald C hH 3 rfl (k := 0) (b := s0) rfl (by decide) (by decide) rfl dX4_calm_19 ?_
    refine fs_cv C hH (wr := [(h0, .inr (4, [.ref nt, .ref ns, .ref nb, .ref nu])), (nt, .inr (2, [.ref q1, .ref q2])), (q2, fs_ai X 16 (fs_zero gg 16)), (ns, fs_aq X 4 (fs_sts s0 s1 s2 s3)), (s1, .inr (1, [.ref k1, .int a1, .int b1, .int c1, .int d1])), (s2, .inr (1, [.ref k2, .int a2, .int b2, .int c2, .int d2])), (s3, .inr (1, [.ref k3, .int a3, .int b3, .int c3, .int d3]))]) [4] [0, 1, 2, 3, 5, 6, 7] rfl rfl (by decide) (by decide) (fs_rVN (rest := []) (As := []) (n := 0) (q0 := 4) (ci := 1) C hH (wc := [(s0, .inr (1, [.ref k0, .int a0, .int b0, .int c0, .int d0]))]) [4] (by decide) rfl (c_X1_forget l X _ s0 k0 a0 b0 c0 d0 ) rfl rfl rfl rfl mw_100 (List.mem_of_getElem? (i := 5) rfl) mw_99 mw_481 mw_3 (by decide +kernel) ⟨Nat.le_of_ble_eq_true rfl, Nat.le_of_ble_eq_true rfl⟩ rfl hl.1 rfl (Nat.le_of_ble_eq_true rfl) dX4_calm_20 ⟨Nat.le_of_ble_eq_true rfl, Nat.le_of_ble_eq_true rfl⟩) (fun u_6 H locs hr_7 hH => ?_)
    have hH : fs_H X A s [(h0, .inr (4, [.ref nt, .ref ns, .ref nb, .ref nu])), (nt, .inr (2, [.ref q1, .ref q2])), (q2, fs_ai X 16 (fs_zero gg 16)), (ns, fs_aq X 4 (fs_sts s0 s1 s2 s3)), (s0, .inr (1, [.ref k0, .int 0, .int 0, .int 0, .int 0])), (s1, .inr (1, [.ref k1, .int a1, .int b1, .int c1, .int d1])), (s2, .inr (1, [.ref k2, .int a2, .int b2, .int c2, .int d2])), (s3, .inr (1, [.ref k3, .int a3, .int b3, .int c3, .int d3]))] _ _ := hH.sub [0, 1, 2, 3, 7, 4, 5, 6] (by decide) rfl
    refine lv_iinc (v := 1) (lv' := [(1, .int 1), (0, .ref h0)]) hx hb dX4_calm_23 hl (k := 0) rfl (by decide) (by decide) rfl (fun ls hl => ?_)
    refine lv_goto (tgt := 9) hx hb dX4_calm_26 (by decide) ?_
    refine lv_iload_n hx hb dX4_calm_9 rfl (lv_at hl 0 rfl) ?_
    refine lv_iconst (v := 4) hx hb dX4_calm_10 (by decide) ?_
    refine lv_icmp_ge (tgt := 29) hx hb dX4_calm_11 (by decide) (fun c_8 => ?_) (fun c_8 => ?_)
    · exact absurd c_8 (by decide)
    · refine lv_aload_n hx hb dX4_calm_14 rfl (lv_at hl 1 rfl) ?_
      refine fs_get C in_4 hH 0 rfl rfl 1 (by decide) mw_68 (v := .ref ns) rfl dX4_calm_15 ?_
      refine lv_iload_n hx hb dX4_calm_18 rfl (lv_at hl 0 rfl) ?_
      refine fs_aald C hH 3 rfl (k := 1) (b := s1) rfl (by decide) (by decide) rfl dX4_calm_19 ?_
      refine fs_cv C hH (wr := [(h0, .inr (4, [.ref nt, .ref ns, .ref nb, .ref nu])), (nt, .inr (2, [.ref q1, .ref q2])), (q2, fs_ai X 16 (fs_zero gg 16)), (ns, fs_aq X 4 (fs_sts s0 s1 s2 s3)), (s0, .inr (1, [.ref k0, .int 0, .int 0, .int 0, .int 0])), (s2, .inr (1, [.ref k2, .int a2, .int b2, .int c2, .int d2])), (s3, .inr (1, [.ref k3, .int a3, .int b3, .int c3, .int d3]))]) [5] [0, 1, 2, 3, 4, 6, 7] rfl rfl (by decide) (by decide) (fs_rVN (rest := []) (As := []) (n := 0) (q0 := 5) (ci := 1) C hH (wc := [(s1, .inr (1, [.ref k1, .int a1, .int b1, .int c1, .int d1]))]) [5] (by decide) rfl (c_X1_forget l X _ s1 k1 a1 b1 c1 d1 ) rfl rfl rfl rfl mw_100 (List.mem_of_getElem? (i := 5) rfl) mw_99 mw_481 mw_3 (by decide +kernel) ⟨Nat.le_of_ble_eq_true rfl, Nat.le_of_ble_eq_true rfl⟩ rfl hl.1 rfl (Nat.le_of_ble_eq_true rfl) dX4_calm_20 ⟨Nat.le_of_ble_eq_true rfl, Nat.le_of_ble_eq_true rfl⟩) (fun u_10 H locs hr_11 hH => ?_)
      have hH : fs_H X A s [(h0, .inr (4, [.ref nt, .ref ns, .ref nb, .ref nu])), (nt, .inr (2, [.ref q1, .ref q2])), (q2, fs_ai X 16 (fs_zero gg 16)), (ns, fs_aq X 4 (fs_sts s0 s1 s2 s3)), (s0, .inr (1, [.ref k0, .int 0, .int 0, .int 0, .int 0])), (s1, .inr (1, [.ref k1, .int 0, .int 0, .int 0, .int 0])), (s2, .inr (1, [.ref k2, .int a2, .int b2, .int c2, .int d2])), (s3, .inr (1, [.ref k3, .int a3, .int b3, .int c3, .int d3]))] _ _ := hH.sub [0, 1, 2, 3, 4, 7, 5, 6] (by decide) rfl
      refine lv_iinc (v := 2) (lv' := [(1, .int 2), (0, .ref h0)]) hx hb dX4_calm_23 hl (k := 0) rfl (by decide) (by decide) rfl (fun ls hl => ?_)
      refine lv_goto (tgt := 9) hx hb dX4_calm_26 (by decide) ?_
      refine lv_iload_n hx hb dX4_calm_9 rfl (lv_at hl 0 rfl) ?_
      refine lv_iconst (v := 4) hx hb dX4_calm_10 (by decide) ?_
      refine lv_icmp_ge (tgt := 29) hx hb dX4_calm_11 (by decide) (fun c_12 => ?_) (fun c_12 => ?_)
      · exact absurd c_12 (by decide)
      · refine lv_aload_n hx hb dX4_calm_14 rfl (lv_at hl 1 rfl) ?_
        refine fs_get C in_4 hH 0 rfl rfl 1 (by decide) mw_68 (v := .ref ns) rfl dX4_calm_15 ?_
        refine lv_iload_n hx hb dX4_calm_18 rfl (lv_at hl 0 rfl) ?_
        refine fs_aald C hH 3 rfl (k := 2) (b := s2) rfl (by decide) (by decide) rfl dX4_calm_19 ?_
        refine fs_cv C hH (wr := [(h0, .inr (4, [.ref nt, .ref ns, .ref nb, .ref nu])), (nt, .inr (2, [.ref q1, .ref q2])), (q2, fs_ai X 16 (fs_zero gg 16)), (ns, fs_aq X 4 (fs_sts s0 s1 s2 s3)), (s0, .inr (1, [.ref k0, .int 0, .int 0, .int 0, .int 0])), (s1, .inr (1, [.ref k1, .int 0, .int 0, .int 0, .int 0])), (s3, .inr (1, [.ref k3, .int a3, .int b3, .int c3, .int d3]))]) [6] [0, 1, 2, 3, 4, 5, 7] rfl rfl (by decide) (by decide) (fs_rVN (rest := []) (As := []) (n := 0) (q0 := 6) (ci := 1) C hH (wc := [(s2, .inr (1, [.ref k2, .int a2, .int b2, .int c2, .int d2]))]) [6] (by decide) rfl (c_X1_forget l X _ s2 k2 a2 b2 c2 d2 ) rfl rfl rfl rfl mw_100 (List.mem_of_getElem? (i := 5) rfl) mw_99 mw_481 mw_3 (by decide +kernel) ⟨Nat.le_of_ble_eq_true rfl, Nat.le_of_ble_eq_true rfl⟩ rfl hl.1 rfl (Nat.le_of_ble_eq_true rfl) dX4_calm_20 ⟨Nat.le_of_ble_eq_true rfl, Nat.le_of_ble_eq_true rfl⟩) (fun u_14 H locs hr_15 hH => ?_)
        have hH : fs_H X A s [(h0, .inr (4, [.ref nt, .ref ns, .ref nb, .ref nu])), (nt, .inr (2, [.ref q1, .ref q2])), (q2, fs_ai X 16 (fs_zero gg 16)), (ns, fs_aq X 4 (fs_sts s0 s1 s2 s3)), (s0, .inr (1, [.ref k0, .int 0, .int 0, .int 0, .int 0])), (s1, .inr (1, [.ref k1, .int 0, .int 0, .int 0, .int 0])), (s2, .inr (1, [.ref k2, .int 0, .int 0, .int 0, .int 0])), (s3, .inr (1, [.ref k3, .int a3, .int b3, .int c3, .int d3]))] _ _ := hH.sub [0, 1, 2, 3, 4, 5, 7, 6] (by decide) rfl
        refine lv_iinc (v := 3) (lv' := [(1, .int 3), (0, .ref h0)]) hx hb dX4_calm_23 hl (k := 0) rfl (by decide) (by decide) rfl (fun ls hl => ?_)
        refine lv_goto (tgt := 9) hx hb dX4_calm_26 (by decide) ?_
        refine lv_iload_n hx hb dX4_calm_9 rfl (lv_at hl 0 rfl) ?_
        refine lv_iconst (v := 4) hx hb dX4_calm_10 (by decide) ?_
        refine lv_icmp_ge (tgt := 29) hx hb dX4_calm_11 (by decide) (fun c_16 => ?_) (fun c_16 => ?_)
        · exact absurd c_16 (by decide)
        · refine lv_aload_n hx hb dX4_calm_14 rfl (lv_at hl 1 rfl) ?_
          refine fs_get C in_4 hH 0 rfl rfl 1 (by decide) mw_68 (v := .ref ns) rfl dX4_calm_15 ?_
          refine lv_iload_n hx hb dX4_calm_18 rfl (lv_at hl 0 rfl) ?_
          refine fs_aald C hH 3 rfl (k := 3) (b := s3) rfl (by decide) (by decide) rfl dX4_calm_19 ?_
          refine fs_cv C hH (wr := [(h0, .inr (4, [.ref nt, .ref ns, .ref nb, .ref nu])), (nt, .inr (2, [.ref q1, .ref q2])), (q2, fs_ai X 16 (fs_zero gg 16)), (ns, fs_aq X 4 (fs_sts s0 s1 s2 s3)), (s0, .inr (1, [.ref k0, .int 0, .int 0, .int 0, .int 0])), (s1, .inr (1, [.ref k1, .int 0, .int 0, .int 0, .int 0])), (s2, .inr (1, [.ref k2, .int 0, .int 0, .int 0, .int 0]))]) [7] [0, 1, 2, 3, 4, 5, 6] rfl rfl (by decide) (by decide) (fs_rVN (rest := []) (As := []) (n := 0) (q0 := 7) (ci := 1) C hH (wc := [(s3, .inr (1, [.ref k3, .int a3, .int b3, .int c3, .int d3]))]) [7] (by decide) rfl (c_X1_forget l X _ s3 k3 a3 b3 c3 d3 ) rfl rfl rfl rfl mw_100 (List.mem_of_getElem? (i := 5) rfl) mw_99 mw_481 mw_3 (by decide +kernel) ⟨Nat.le_of_ble_eq_true rfl, Nat.le_of_ble_eq_true rfl⟩ rfl hl.1 rfl (Nat.le_of_ble_eq_true rfl) dX4_calm_20 ⟨Nat.le_of_ble_eq_true rfl, Nat.le_of_ble_eq_true rfl⟩) (fun u_18 H locs hr_19 hH => ?_)
          have hH : fs_H X A s [(h0, .inr (4, [.ref nt, .ref ns, .ref nb, .ref nu])), (nt, .inr (2, [.ref q1, .ref q2])), (q2, fs_ai X 16 (fs_zero gg 16)), (ns, fs_aq X 4 (fs_sts s0 s1 s2 s3)), (s0, .inr (1, [.ref k0, .int 0, .int 0, .int 0, .int 0])), (s1, .inr (1, [.ref k1, .int 0, .int 0, .int 0, .int 0])), (s2, .inr (1, [.ref k2, .int 0, .int 0, .int 0, .int 0])), (s3, .inr (1, [.ref k3, .int 0, .int 0, .int 0, .int 0]))] _ _ := hH
          refine lv_iinc (v := 4) (lv' := [(1, .int 4), (0, .ref h0)]) hx hb dX4_calm_23 hl (k := 0) rfl (by decide) (by decide) rfl (fun ls hl => ?_)
          refine lv_goto (tgt := 9) hx hb dX4_calm_26 (by decide) ?_
          refine lv_iload_n hx hb dX4_calm_9 rfl (lv_at hl 0 rfl) ?_
          refine lv_iconst (v := 4) hx hb dX4_calm_10 (by decide) ?_
          refine lv_icmp_ge (tgt := 29) hx hb dX4_calm_11 (by decide) (fun c_20 => ?_) (fun c_20 => ?_)
          · exact fs_vret C hH () rfl trivial dX4_calm_29
          · exact absurd c_20 (by decide)
set_option maxHeartbeats 4000000 in
set_option maxRecDepth 100000 in
theorem c_X4_put (l : Launch) (X : fs_X) (sz : Nat) (h0 : Nat) (nt : Nat) (ns : Nat) (nb : Nat) (nu : Nat) (qr : Nat) (qi : Nat) (S : fs_K) (p0 : Int32) (rv : Int32) (iv : Int32)  (hl9 : l.stackTraces = false) : fs_MX l X yX4_put cX4_put 4 none ({ frames := 6, cells := 1, slots := 6, locals := 81 }) [.ref h0, .int p0, .int rv, .int iv] [(h0, .inr (4, [.ref nt, .ref ns, .ref nb, .ref nu])), (nb, .inr (0, [.ref qr, .ref qi, .int S.2.2])), (qr, fs_ai X 32 S.1), (qi, fs_ai X 32 S.2.1)] sz (fs_Qv X (fun (_ : Unit) => (¬ p0 < 0 ∧ ¬ 32 ≤ p0)) (fun _ => [(h0, .inr (4, [.ref nt, .ref ns, .ref nb, .ref nu])), (nb, .inr (0, [.ref qr, .ref qi, .int 0])), (qr, fs_ai X 32 (upd S.1 (Int32.toNatClampNeg p0) rv)), (qi, fs_ai X 32 (upd S.2.1 (Int32.toNatClampNeg p0) iv))])) (¬ (¬ p0 < 0 ∧ ¬ 32 ≤ p0)) 1 6 := by
  refine fs_ofX (by decide) (Nat.le_of_ble_eq_true rfl) ?_
  intro p e s m args below meth c A ls C hH hl ht9
  have C : fs_At X A p s m args meth c cX4_put 4 none RX4 "put" := C
  have hx := C.1
  have hb := C.2.1
  have hown := C.2.2.2.2.1
  have hts := C.2.2.2.2.2.1
  have hl : lv_has ls 4 [(0, .ref h0), (1, .int p0), (2, .int rv), (3, .int iv)] := hl
  have hH : fs_H X A s [(h0, .inr (4, [.ref nt, .ref ns, .ref nb, .ref nu])), (nb, .inr (0, [.ref qr, .ref qi, .int S.2.2])), (qr, fs_ai X 32 S.1), (qi, fs_ai X 32 S.2.1)] s.heap [] := hH
  refine lv_iload_n hx hb dX4_put_0 rfl (lv_at hl 1 rfl) ?_
  refine lv_bipush (v := 32) hx hb dX4_put_1 (by decide) ?_
  refine fs_ci C hH (wr := [(h0, .inr (4, [.ref nt, .ref ns, .ref nb, .ref nu])), (nb, .inr (0, [.ref qr, .ref qi, .int S.2.2])), (qr, fs_ai X 32 S.1), (qi, fs_ai X 32 S.2.1)]) [] [0, 1, 2, 3] rfl rfl (by decide) (by decide) (fs_rS (rest := []) (As := [.int p0, .int 32]) (n := 2) C hH (wc := []) [] (by decide) rfl (c_X4_isWithin l X _ p0 32 ) rfl rfl mw_197 mw_195 mw_196 mw_1 (by decide +kernel) ⟨Nat.le_of_ble_eq_true rfl, Nat.le_of_ble_eq_true rfl⟩ rfl hl.1 rfl (Nat.le_of_ble_eq_true rfl) dX4_put_3 ⟨Nat.le_of_ble_eq_true rfl, Nat.le_of_ble_eq_true rfl⟩) (fun r_1 u_2 H locs hr_3 hH => ?_)
  subst hr_3
  have hH : fs_H X A s [(h0, .inr (4, [.ref nt, .ref ns, .ref nb, .ref nu])), (nb, .inr (0, [.ref qr, .ref qi, .int S.2.2])), (qr, fs_ai X 32 S.1), (qi, fs_ai X 32 S.2.1)] _ _ := hH
  refine lv_if_ne (tgt := 17) hx hb dX4_put_6 (by decide) (fun c_4 => ?_) (fun c_4 => ?_)
  · refine lv_aload_n hx hb dX4_put_17 rfl (lv_at hl 0 rfl) ?_
    refine fs_get C in_4 hH 0 rfl rfl 2 (by decide) mw_69 (v := .ref nb) rfl dX4_put_18 ?_
    refine fs_getN C in_0 hH 1 rfl rfl 0 (by decide) (List.mem_of_getElem? (i := 2) rfl) (v := .ref qr) rfl dX4_put_21 ?_
    refine lv_iload_n hx hb dX4_put_24 rfl (lv_at hl 1 rfl) ?_
    refine lv_iload_n hx hb dX4_put_25 rfl (lv_at hl 2 rfl) ?_
    refine fs_iast C hH 2 rfl (k := (Int32.toNatClampNeg p0)) (fs_ixn (n := 32) (by decide) (fs_bi_nz.mp c_4)).1 (fs_ixn (n := 32) (by decide) (fs_bi_nz.mp c_4)).2 (by decide) (ws' := [(h0, .inr (4, [.ref nt, .ref ns, .ref nb, .ref nu])), (nb, .inr (0, [.ref qr, .ref qi, .int S.2.2])), (qr, fs_ai X 32 (upd S.1 (Int32.toNatClampNeg p0) rv)), (qi, fs_ai X 32 S.2.1)]) rfl dX4_put_26 (fun H locs hH => ?_)
    refine lv_aload_n hx hb dX4_put_27 rfl (lv_at hl 0 rfl) ?_
    refine fs_get C in_4 hH 0 rfl rfl 2 (by decide) mw_69 (v := .ref nb) rfl dX4_put_28 ?_
    refine fs_getN C in_0 hH 1 rfl rfl 1 (by decide) (List.mem_of_getElem? (i := 3) rfl) (v := .ref qi) rfl dX4_put_31 ?_
    refine lv_iload_n hx hb dX4_put_34 rfl (lv_at hl 1 rfl) ?_
    refine lv_iload_n hx hb dX4_put_35 rfl (lv_at hl 3 rfl) ?_
    refine fs_iast C hH 3 rfl (k := (Int32.toNatClampNeg p0)) (fs_ixn (n := 32) (by decide) (fs_bi_nz.mp c_4)).1 (fs_ixn (n := 32) (by decide) (fs_bi_nz.mp c_4)).2 (by decide) (ws' := [(h0, .inr (4, [.ref nt, .ref ns, .ref nb, .ref nu])), (nb, .inr (0, [.ref qr, .ref qi, .int S.2.2])), (qr, fs_ai X 32 (upd S.1 (Int32.toNatClampNeg p0) rv)), (qi, fs_ai X 32 (upd S.2.1 (Int32.toNatClampNeg p0) iv))]) rfl dX4_put_36 (fun H locs hH => ?_)
    refine lv_aload_n hx hb dX4_put_37 rfl (lv_at hl 0 rfl) ?_
    refine fs_get C in_4 hH 0 rfl rfl 2 (by decide) mw_69 (v := .ref nb) rfl dX4_put_38 ?_
    refine lv_iconst (v := 0) hx hb dX4_put_41 (by decide) ?_
    refine fs_putN C in_0 tyX0 tyX0_ok nmX0 hH 1 rfl rfl 2 (by decide) (List.mem_of_getElem? (i := 4) rfl) rfl rfl rfl (Nat.le_of_ble_eq_true rfl) (ws' := [(h0, .inr (4, [.ref nt, .ref ns, .ref nb, .ref nu])), (nb, .inr (0, [.ref qr, .ref qi, .int 0])), (qr, fs_ai X 32 (upd S.1 (Int32.toNatClampNeg p0) rv)), (qi, fs_ai X 32 (upd S.2.1 (Int32.toNatClampNeg p0) iv))]) rfl dX4_put_42 (fun H locs hH => ?_)
    refine W.widen (k := 1) (n := 6) (by decide) (by decide) ?_
    exact vx_ret (fs_vret C hH () rfl (fs_bi_nz.mp c_4) dX4_put_45)
  · exact fs_throw C hl9 ht9 hH hl.1 (fs_bi_0.mp c_4) mw_127 mw_10 dX4_put_9 dX4_put_12 dX4_put_13 dX4_put_16 (by decide) (Nat.le_of_ble_eq_true rfl) (by decide) (by decide) (by decide) (by decide)
set_option maxHeartbeats 4000000 in
set_option maxRecDepth 100000 in
theorem c_X4_get (l : Launch) (X : fs_X) (sz : Nat) (h0 : Nat) (nt : Nat) (ns : Nat) (nb : Nat) (nu : Nat) (qr : Nat) (qi : Nat) (S : fs_K) (p0 : Int32) (sec : Int32)  (hl9 : l.stackTraces = false) : fs_MX l X yX4_get cX4_get 3 (some .int) ({ frames := 6, cells := 1, slots := 6, locals := 81 }) [.ref h0, .int p0, .int sec] [(h0, .inr (4, [.ref nt, .ref ns, .ref nb, .ref nu])), (nb, .inr (0, [.ref qr, .ref qi, .int S.2.2])), (qr, fs_ai X 32 S.1), (qi, fs_ai X 32 S.2.1)] sz (fs_Qi X (fun r (_ : Unit) => r = (if sec = 0 then S.1 (Int32.toNatClampNeg p0) else S.2.1 (Int32.toNatClampNeg p0)) ∧ (¬ p0 < 0 ∧ ¬ 32 ≤ p0)) (fun _ => [(h0, .inr (4, [.ref nt, .ref ns, .ref nb, .ref nu])), (nb, .inr (0, [.ref qr, .ref qi, .int S.2.2])), (qr, fs_ai X 32 S.1), (qi, fs_ai X 32 S.2.1)])) (¬ (¬ p0 < 0 ∧ ¬ 32 ≤ p0)) 1 6 := by
  refine fs_ofX (by decide) (Nat.le_of_ble_eq_true rfl) ?_
  intro p e s m args below meth c A ls C hH hl ht9
  have C : fs_At X A p s m args meth c cX4_get 3 (some .int) RX4 "get" := C
  have hx := C.1
  have hb := C.2.1
  have hown := C.2.2.2.2.1
  have hts := C.2.2.2.2.2.1
  have hl : lv_has ls 3 [(0, .ref h0), (1, .int p0), (2, .int sec)] := hl
  have hH : fs_H X A s [(h0, .inr (4, [.ref nt, .ref ns, .ref nb, .ref nu])), (nb, .inr (0, [.ref qr, .ref qi, .int S.2.2])), (qr, fs_ai X 32 S.1), (qi, fs_ai X 32 S.2.1)] s.heap [] := hH
  refine lv_iload_n hx hb dX4_get_0 rfl (lv_at hl 1 rfl) ?_
  refine lv_bipush (v := 32) hx hb dX4_get_1 (by decide) ?_
  refine fs_ci C hH (wr := [(h0, .inr (4, [.ref nt, .ref ns, .ref nb, .ref nu])), (nb, .inr (0, [.ref qr, .ref qi, .int S.2.2])), (qr, fs_ai X 32 S.1), (qi, fs_ai X 32 S.2.1)]) [] [0, 1, 2, 3] rfl rfl (by decide) (by decide) (fs_rS (rest := []) (As := [.int p0, .int 32]) (n := 2) C hH (wc := []) [] (by decide) rfl (c_X4_isWithin l X _ p0 32 ) rfl rfl mw_197 mw_195 mw_196 mw_1 (by decide +kernel) ⟨Nat.le_of_ble_eq_true rfl, Nat.le_of_ble_eq_true rfl⟩ rfl hl.1 rfl (Nat.le_of_ble_eq_true rfl) dX4_get_3 ⟨Nat.le_of_ble_eq_true rfl, Nat.le_of_ble_eq_true rfl⟩) (fun r_1 u_2 H locs hr_3 hH => ?_)
  subst hr_3
  have hH : fs_H X A s [(h0, .inr (4, [.ref nt, .ref ns, .ref nb, .ref nu])), (nb, .inr (0, [.ref qr, .ref qi, .int S.2.2])), (qr, fs_ai X 32 S.1), (qi, fs_ai X 32 S.2.1)] _ _ := hH
  refine lv_if_ne (tgt := 17) hx hb dX4_get_6 (by decide) (fun c_4 => ?_) (fun c_4 => ?_)
  · refine lv_iload_n hx hb dX4_get_17 rfl (lv_at hl 2 rfl) ?_
    refine lv_if_eq (tgt := 33) hx hb dX4_get_18 (by decide) (fun c_5 => ?_) (fun c_5 => ?_)
    · refine lv_aload_n hx hb dX4_get_33 rfl (lv_at hl 0 rfl) ?_
      refine fs_get C in_4 hH 0 rfl rfl 2 (by decide) mw_69 (v := .ref nb) rfl dX4_get_34 ?_
      refine fs_getN C in_0 hH 1 rfl rfl 0 (by decide) (List.mem_of_getElem? (i := 2) rfl) (v := .ref qr) rfl dX4_get_37 ?_
      refine lv_iload_n hx hb dX4_get_40 rfl (lv_at hl 1 rfl) ?_
      refine fs_iald C hH 2 rfl (k := (Int32.toNatClampNeg p0)) (fs_ixn (n := 32) (by decide) (fs_bi_nz.mp c_4)).1 (fs_ixn (n := 32) (by decide) (fs_bi_nz.mp c_4)).2 (by decide) dX4_get_41 ?_
      refine W.widen (k := 1) (n := 6) (by decide) (by decide) ?_
      exact vx_ret (fs_iret C hH () rfl (⟨by simp [c_5], fs_bi_nz.mp c_4⟩) dX4_get_42)
    · refine lv_aload_n hx hb dX4_get_21 rfl (lv_at hl 0 rfl) ?_
      refine fs_get C in_4 hH 0 rfl rfl 2 (by decide) mw_69 (v := .ref nb) rfl dX4_get_22 ?_
      refine fs_getN C in_0 hH 1 rfl rfl 1 (by decide) (List.mem_of_getElem? (i := 3) rfl) (v := .ref qi) rfl dX4_get_25 ?_
      refine lv_iload_n hx hb dX4_get_28 rfl (lv_at hl 1 rfl) ?_
      refine fs_iald C hH 3 rfl (k := (Int32.toNatClampNeg p0)) (fs_ixn (n := 32) (by decide) (fs_bi_nz.mp c_4)).1 (fs_ixn (n := 32) (by decide) (fs_bi_nz.mp c_4)).2 (by decide) dX4_get_29 ?_
      refine lv_goto (tgt := 42) hx hb dX4_get_30 (by decide) ?_
      refine W.widen (k := 1) (n := 6) (by decide) (by decide) ?_
      exact vx_ret (fs_iret C hH () rfl (⟨by simp [c_5], fs_bi_nz.mp c_4⟩) dX4_get_42)
  · exact fs_throw C hl9 ht9 hH hl.1 (fs_bi_0.mp c_4) mw_127 mw_10 dX4_get_9 dX4_get_12 dX4_get_13 dX4_get_16 (by decide) (Nat.le_of_ble_eq_true rfl) (by decide) (by decide) (by decide) (by decide)
set_option maxHeartbeats 4000000 in
set_option maxRecDepth 100000 in
theorem c_X4_transform (l : Launch) (X : fs_X) (sz : Nat) (h0 : Nat) (nt : Nat) (ns : Nat) (nb : Nat) (nu : Nat) (qr : Nat) (qi : Nat) (S : fs_K) (m0 : Int32) (back : Int32)  (hl9 : l.stackTraces = false) : fs_MX l X yX4_transform cX4_transform 3 (some .int) ({ frames := 6, cells := 1, slots := 6, locals := 100 }) [.ref h0, .int m0, .int back] [(h0, .inr (4, [.ref nt, .ref ns, .ref nb, .ref nu])), (nb, .inr (0, [.ref qr, .ref qi, .int S.2.2])), (qr, fs_ai X 32 S.1), (qi, fs_ai X 32 S.2.1)] sz (fs_Qi X (fun r (_ : Unit) => r = ((fs_tr (Int32.toNatClampNeg m0) back S (Int32.toNatClampNeg m0)).2.2) ∧ (¬ m0 < 0 ∧ m0 ≤ 5)) (fun _ => [(h0, .inr (4, [.ref nt, .ref ns, .ref nb, .ref nu])), (nb, .inr (0, [.ref qr, .ref qi, .int ((fs_tr (Int32.toNatClampNeg m0) back S (Int32.toNatClampNeg m0)).2.2)])), (qr, fs_ai X 32 ((fs_tr (Int32.toNatClampNeg m0) back S (Int32.toNatClampNeg m0)).1)), (qi, fs_ai X 32 ((fs_tr (Int32.toNatClampNeg m0) back S (Int32.toNatClampNeg m0)).2.1))])) (¬ (¬ m0 < 0 ∧ m0 ≤ 5)) 1 6 := by
  refine fs_ofX (by decide) (Nat.le_of_ble_eq_true rfl) ?_
  intro p e s m args below meth c A ls C hH hl ht9
  have C : fs_At X A p s m args meth c cX4_transform 3 (some .int) RX4 "transform" := C
  have hx := C.1
  have hb := C.2.1
  have hown := C.2.2.2.2.1
  have hts := C.2.2.2.2.2.1
  have hl : lv_has ls 3 [(0, .ref h0), (1, .int m0), (2, .int back)] := hl
  have hH : fs_H X A s [(h0, .inr (4, [.ref nt, .ref ns, .ref nb, .ref nu])), (nb, .inr (0, [.ref qr, .ref qi, .int S.2.2])), (qr, fs_ai X 32 S.1), (qi, fs_ai X 32 S.2.1)] s.heap [] := hH
  refine lv_iload_n hx hb dX4_transform_0 rfl (lv_at hl 1 rfl) ?_
  refine lv_if_lt (tgt := 9) hx hb dX4_transform_1 (by decide) (fun c_1 => ?_) (fun c_1 => ?_)
  · exact fs_throw C hl9 ht9 hH hl.1 (fun h => h.1 c_1) mw_127 mw_10 dX4_transform_9 dX4_transform_12 dX4_transform_13 dX4_transform_16 (by decide) (Nat.le_of_ble_eq_true rfl) (by decide) (by decide) (by decide) (by decide)
  · refine lv_iload_n hx hb dX4_transform_4 rfl (lv_at hl 1 rfl) ?_
    refine lv_iconst (v := 5) hx hb dX4_transform_5 (by decide) ?_
    refine lv_icmp_le (tgt := 17) hx hb dX4_transform_6 (by decide) (fun c_2 => ?_) (fun c_2 => ?_)
    · obtain ⟨mm, hmm, rfl⟩ := fs_ix6 c_1 c_2
      refine lv_aload_n hx hb dX4_transform_17 rfl (lv_at hl 0 rfl) ?_
      refine fs_get C in_4 hH 0 rfl rfl 2 (by decide) mw_69 (v := .ref nb) rfl dX4_transform_18 ?_
      refine lv_iload_n hx hb dX4_transform_21 rfl (lv_at hl 1 rfl) ?_
      refine lv_iload_n hx hb dX4_transform_22 rfl (lv_at hl 2 rfl) ?_
      refine fs_cv C hH (wr := [(h0, .inr (4, [.ref nt, .ref ns, .ref nb, .ref nu]))]) [1, 2, 3] [0] rfl rfl (by decide) (by decide) (fs_rVN (rest := []) (As := [.int (nI mm), .int back]) (n := 2) (q0 := 1) (ci := 0) C hH (wc := [(nb, .inr (0, [.ref qr, .ref qi, .int S.2.2])), (qr, fs_ai X 32 S.1), (qi, fs_ai X 32 S.2.1)]) [1, 2, 3] (by decide) rfl (c_X0_intoWaves l X _ nb qr qi S mm back (by omega)) rfl rfl rfl rfl mw_241 (List.mem_of_getElem? (i := 14) rfl) mw_240 mw_487 mw_4 (by decide +kernel) ⟨Nat.le_of_ble_eq_true rfl, Nat.le_of_ble_eq_true rfl⟩ rfl hl.1 rfl (Nat.le_of_ble_eq_true rfl) dX4_transform_23 ⟨Nat.le_of_ble_eq_true rfl, Nat.le_of_ble_eq_true rfl⟩) (fun u_4 H locs hr_5 hH => ?_)
      have hH : fs_H X A s [(h0, .inr (4, [.ref nt, .ref ns, .ref nb, .ref nu])), (nb, .inr (0, [.ref qr, .ref qi, .int ((fs_tr mm back S mm).2.2)])), (qr, fs_ai X 32 ((fs_tr mm back S mm).1)), (qi, fs_ai X 32 ((fs_tr mm back S mm).2.1))] _ _ := hH
      refine lv_aload_n hx hb dX4_transform_26 rfl (lv_at hl 0 rfl) ?_
      refine fs_get C in_4 hH 0 rfl rfl 2 (by decide) mw_69 (v := .ref nb) rfl dX4_transform_27 ?_
      refine fs_getN C in_0 hH 1 rfl rfl 2 (by decide) (List.mem_of_getElem? (i := 4) rfl) (v := .int ((fs_tr mm back S mm).2.2)) rfl dX4_transform_30 ?_
      have hH : fs_H X A s [(h0, .inr (4, [.ref nt, .ref ns, .ref nb, .ref nu])), (nb, .inr (0, [.ref qr, .ref qi, .int ((fs_tr (Int32.toNatClampNeg (nI mm)) back S (Int32.toNatClampNeg (nI mm))).2.2)])), (qr, fs_ai X 32 ((fs_tr (Int32.toNatClampNeg (nI mm)) back S (Int32.toNatClampNeg (nI mm))).1)), (qi, fs_ai X 32 ((fs_tr (Int32.toNatClampNeg (nI mm)) back S (Int32.toNatClampNeg (nI mm))).2.1))] _ _ := hH.to (by rw [nI_clamp (by omega)])
      refine fs_topi (y := (fs_tr (Int32.toNatClampNeg (nI mm)) back S (Int32.toNatClampNeg (nI mm))).2.2) (by rw [nI_clamp (by omega)]) ?_
      refine W.widen (k := 1) (n := 6) (by decide) (by decide) ?_
      exact vx_ret (fs_iret C hH () rfl (⟨rfl, c_1, c_2⟩) dX4_transform_33)
    · exact fs_throw C hl9 ht9 hH hl.1 (fun h => c_2 h.2) mw_127 mw_10 dX4_transform_9 dX4_transform_12 dX4_transform_13 dX4_transform_16 (by decide) (Nat.le_of_ble_eq_true rfl) (by decide) (by decide) (by decide) (by decide)
set_option maxHeartbeats 4000000 in
set_option maxRecDepth 100000 in
theorem c_X4_wave (l : Launch) (X : fs_X) (sz : Nat) (h0 : Nat) (nt : Nat) (ns : Nat) (nb : Nat) (nu : Nat) (t : fs_T) (a : Int32) (cs : Int32)  : fs_M l X yX4_wave cX4_wave 3 (some .int) ({ frames := 2, cells := 0, slots := 0, locals := 50 }) [.ref h0, .int a, .int cs] [(h0, .inr (4, [.ref nt, .ref ns, .ref nb, .ref nu])), (nu, .inr (3, [.long t.1, .long t.2.1, .long t.2.2]))] sz (fs_Qi X (fun r (_ : fs_T) => r = fs_wvi a cs) (fun u => [(h0, .inr (4, [.ref nt, .ref ns, .ref nb, .ref nu])), (nu, .inr (3, [.long u.1, .long u.2.1, .long u.2.2]))])) 0 0 := by
  refine fs_ofW (by decide) (Nat.le_of_ble_eq_true rfl) ?_
  intro p e s m args below meth c A ls C hH hl
  have C : fs_At X A p s m args meth c cX4_wave 3 (some .int) RX4 "wave" := C
  have hx := C.1
  have hb := C.2.1
  have hown := C.2.2.2.2.1
  have hts := C.2.2.2.2.2.1
  have hl : lv_has ls 3 [(0, .ref h0), (1, .int a), (2, .int cs)] := hl
  have hH : fs_H X A s [(h0, .inr (4, [.ref nt, .ref ns, .ref nb, .ref nu])), (nu, .inr (3, [.long t.1, .long t.2.1, .long t.2.2]))] s.heap [] := hH
  refine lv_aload_n hx hb dX4_wave_0 rfl (lv_at hl 0 rfl) ?_
  refine fs_get C in_4 hH 0 rfl rfl 3 (by decide) mw_70 (v := .ref nu) rfl dX4_wave_1 ?_
  refine lv_iload_n hx hb dX4_wave_4 rfl (lv_at hl 1 rfl) ?_
  refine lv_i2l hx hb dX4_wave_5 rfl ?_
  refine fs_cv C hH (wr := [(h0, .inr (4, [.ref nt, .ref ns, .ref nb, .ref nu]))]) [1] [0] rfl rfl (by decide) (by decide) (fs_rVN (rest := []) (As := [.long (Int32.toInt64 a)]) (n := 1) (q0 := 1) (ci := 3) C hH (wc := [(nu, .inr (3, [.long t.1, .long t.2.1, .long t.2.2]))]) [1] (by decide) rfl (c_X3_turnByAngle l X _ nu t (Int32.toInt64 a) ) rfl rfl rfl rfl mw_106 (List.mem_of_getElem? (i := 6) rfl) mw_105 mw_482 mw_5 (by decide +kernel) ⟨Nat.le_of_ble_eq_true rfl, Nat.le_of_ble_eq_true rfl⟩ rfl hl.1 rfl (Nat.le_of_ble_eq_true rfl) dX4_wave_6 ⟨Nat.le_of_ble_eq_true rfl, Nat.le_of_ble_eq_true rfl⟩) (fun u_2 H locs hr_3 hH => ?_)
  have hH : fs_H X A s [(h0, .inr (4, [.ref nt, .ref ns, .ref nb, .ref nu])), (nu, .inr (3, [.long ((fs_wave (Int32.toInt64 a)).1), .long ((fs_wave (Int32.toInt64 a)).2.1), .long ((fs_wave (Int32.toInt64 a)).2.2)]))] _ _ := hH
  refine lv_iload_n hx hb dX4_wave_9 rfl (lv_at hl 2 rfl) ?_
  refine lv_if_eq (tgt := 23) hx hb dX4_wave_10 (by decide) (fun c_4 => ?_) (fun c_4 => ?_)
  · refine lv_aload_n hx hb dX4_wave_23 rfl (lv_at hl 0 rfl) ?_
    refine fs_get C in_4 hH 0 rfl rfl 3 (by decide) mw_70 (v := .ref nu) rfl dX4_wave_24 ?_
    refine fs_getN C in_3 hH 1 rfl rfl 1 (by decide) (List.mem_of_getElem? (i := 6) rfl) (v := .long ((fs_wave (Int32.toInt64 a)).2.1)) rfl dX4_wave_27 ?_
    refine lv_l2i hx hb dX4_wave_30 rfl ?_
    exact fs_iret C hH (fs_wave (Int32.toInt64 a)) rfl (by simp [fs_wvi, c_4]) dX4_wave_31
  · refine lv_aload_n hx hb dX4_wave_13 rfl (lv_at hl 0 rfl) ?_
    refine fs_get C in_4 hH 0 rfl rfl 3 (by decide) mw_70 (v := .ref nu) rfl dX4_wave_14 ?_
    refine fs_getN C in_3 hH 1 rfl rfl 0 (by decide) (List.mem_of_getElem? (i := 5) rfl) (v := .long ((fs_wave (Int32.toInt64 a)).1)) rfl dX4_wave_17 ?_
    refine lv_goto (tgt := 30) hx hb dX4_wave_20 (by decide) ?_
    refine lv_l2i hx hb dX4_wave_30 rfl ?_
    exact fs_iret C hH (fs_wave (Int32.toInt64 a)) rfl (by simp [fs_wvi, c_4]) dX4_wave_31
set_option maxHeartbeats 4000000 in
set_option maxRecDepth 100000 in
theorem c_X4_angle (l : Launch) (X : fs_X) (sz : Nat) (h0 : Nat) (nt : Nat) (ns : Nat) (nb : Nat) (nu : Nat) (t : fs_T) (x : Int32) (y : Int32)  (hl9 : l.stackTraces = false) : fs_MX l X yX4_angle cX4_angle 3 (some .int) ({ frames := 6, cells := 1, slots := 6, locals := 81 }) [.ref h0, .int x, .int y] [(h0, .inr (4, [.ref nt, .ref ns, .ref nb, .ref nu])), (nu, .inr (3, [.long t.1, .long t.2.1, .long t.2.2]))] sz (fs_Qi X (fun r (_ : fs_T) => r = fs_ang x y ∧ (fs_near x ∧ fs_near y)) (fun u => [(h0, .inr (4, [.ref nt, .ref ns, .ref nb, .ref nu])), (nu, .inr (3, [.long u.1, .long u.2.1, .long u.2.2]))])) (¬ (fs_near x ∧ fs_near y)) 1 6 := by
  refine fs_ofX (by decide) (Nat.le_of_ble_eq_true rfl) ?_
  intro p e s m args below meth c A ls C hH hl ht9
  have C : fs_At X A p s m args meth c cX4_angle 3 (some .int) RX4 "angle" := C
  have hx := C.1
  have hb := C.2.1
  have hown := C.2.2.2.2.1
  have hts := C.2.2.2.2.2.1
  have hl : lv_has ls 3 [(0, .ref h0), (1, .int x), (2, .int y)] := hl
  have hH : fs_H X A s [(h0, .inr (4, [.ref nt, .ref ns, .ref nb, .ref nu])), (nu, .inr (3, [.long t.1, .long t.2.1, .long t.2.2]))] s.heap [] := hH
  refine lv_iload_n hx hb dX4_angle_0 rfl (lv_at hl 1 rfl) ?_
  refine lv_iload_n hx hb dX4_angle_1 rfl (lv_at hl 2 rfl) ?_
  refine fs_ci C hH (wr := [(h0, .inr (4, [.ref nt, .ref ns, .ref nb, .ref nu])), (nu, .inr (3, [.long t.1, .long t.2.1, .long t.2.2]))]) [] [0, 1] rfl rfl (by decide) (by decide) (fs_rS (rest := []) (As := [.int x, .int y]) (n := 2) C hH (wc := []) [] (by decide) rfl (c_X4_isPoint l X _ x y ) rfl rfl mw_284 mw_282 mw_283 mw_1 (by decide +kernel) ⟨Nat.le_of_ble_eq_true rfl, Nat.le_of_ble_eq_true rfl⟩ rfl hl.1 rfl (Nat.le_of_ble_eq_true rfl) dX4_angle_2 ⟨Nat.le_of_ble_eq_true rfl, Nat.le_of_ble_eq_true rfl⟩) (fun r_1 u_2 H locs hr_3 hH => ?_)
  subst hr_3
  have hH : fs_H X A s [(h0, .inr (4, [.ref nt, .ref ns, .ref nb, .ref nu])), (nu, .inr (3, [.long t.1, .long t.2.1, .long t.2.2]))] _ _ := hH
  refine lv_if_ne (tgt := 16) hx hb dX4_angle_5 (by decide) (fun c_4 => ?_) (fun c_4 => ?_)
  · refine lv_iload_n hx hb dX4_angle_16 rfl (lv_at hl 1 rfl) ?_
    refine lv_if_ne (tgt := 26) hx hb dX4_angle_17 (by decide) (fun c_5 => ?_) (fun c_5 => ?_)
    · refine lv_aload_n hx hb dX4_angle_26 rfl (lv_at hl 0 rfl) ?_
      refine fs_get C in_4 hH 0 rfl rfl 3 (by decide) mw_70 (v := .ref nu) rfl dX4_angle_27 ?_
      refine lv_iload_n hx hb dX4_angle_30 rfl (lv_at hl 1 rfl) ?_
      refine lv_i2l hx hb dX4_angle_31 rfl ?_
      refine lv_iload_n hx hb dX4_angle_32 rfl (lv_at hl 2 rfl) ?_
      refine lv_i2l hx hb dX4_angle_33 rfl ?_
      refine fs_cv C hH (wr := [(h0, .inr (4, [.ref nt, .ref ns, .ref nb, .ref nu]))]) [1] [0] rfl rfl (by decide) (by decide) (fs_rVN (rest := []) (As := [.long (Int32.toInt64 x), .long (Int32.toInt64 y)]) (n := 2) (q0 := 1) (ci := 3) C hH (wc := [(nu, .inr (3, [.long t.1, .long t.2.1, .long t.2.2]))]) [1] (by decide) rfl (c_X3_turnToAxis l X _ nu t (Int32.toInt64 x) (Int32.toInt64 y) ) rfl rfl rfl rfl mw_291 (List.mem_of_getElem? (i := 18) rfl) mw_290 mw_492 mw_5 (by decide +kernel) ⟨Nat.le_of_ble_eq_true rfl, Nat.le_of_ble_eq_true rfl⟩ rfl hl.1 rfl (Nat.le_of_ble_eq_true rfl) dX4_angle_34 ⟨Nat.le_of_ble_eq_true rfl, Nat.le_of_ble_eq_true rfl⟩) (fun u_7 H locs hr_8 hH => ?_)
      have hH : fs_H X A s [(h0, .inr (4, [.ref nt, .ref ns, .ref nb, .ref nu])), (nu, .inr (3, [.long ((fs_axis (Int32.toInt64 x) (Int32.toInt64 y)).1), .long ((fs_axis (Int32.toInt64 x) (Int32.toInt64 y)).2.1), .long ((fs_axis (Int32.toInt64 x) (Int32.toInt64 y)).2.2)]))] _ _ := hH
      refine lv_aload_n hx hb dX4_angle_37 rfl (lv_at hl 0 rfl) ?_
      refine fs_get C in_4 hH 0 rfl rfl 3 (by decide) mw_70 (v := .ref nu) rfl dX4_angle_38 ?_
      refine fs_getN C in_3 hH 1 rfl rfl 2 (by decide) (List.mem_of_getElem? (i := 7) rfl) (v := .long ((fs_axis (Int32.toInt64 x) (Int32.toInt64 y)).2.2)) rfl dX4_angle_41 ?_
      refine lv_l2i hx hb dX4_angle_44 rfl ?_
      refine W.widen (k := 1) (n := 6) (by decide) (by decide) ?_
      exact vx_ret (fs_iret C hH (fs_axis (Int32.toInt64 x) (Int32.toInt64 y)) rfl (⟨by simp [fs_ang, c_5], fs_bi_nz.mp c_4⟩) dX4_angle_45)
    · refine lv_iload_n hx hb dX4_angle_20 rfl (lv_at hl 2 rfl) ?_
      refine lv_if_ne (tgt := 26) hx hb dX4_angle_21 (by decide) (fun c_9 => ?_) (fun c_9 => ?_)
      · refine lv_aload_n hx hb dX4_angle_26 rfl (lv_at hl 0 rfl) ?_
        refine fs_get C in_4 hH 0 rfl rfl 3 (by decide) mw_70 (v := .ref nu) rfl dX4_angle_27 ?_
        refine lv_iload_n hx hb dX4_angle_30 rfl (lv_at hl 1 rfl) ?_
        refine lv_i2l hx hb dX4_angle_31 rfl ?_
        refine lv_iload_n hx hb dX4_angle_32 rfl (lv_at hl 2 rfl) ?_
        refine lv_i2l hx hb dX4_angle_33 rfl ?_
        refine fs_cv C hH (wr := [(h0, .inr (4, [.ref nt, .ref ns, .ref nb, .ref nu]))]) [1] [0] rfl rfl (by decide) (by decide) (fs_rVN (rest := []) (As := [.long (Int32.toInt64 x), .long (Int32.toInt64 y)]) (n := 2) (q0 := 1) (ci := 3) C hH (wc := [(nu, .inr (3, [.long t.1, .long t.2.1, .long t.2.2]))]) [1] (by decide) rfl (c_X3_turnToAxis l X _ nu t (Int32.toInt64 x) (Int32.toInt64 y) ) rfl rfl rfl rfl mw_291 (List.mem_of_getElem? (i := 18) rfl) mw_290 mw_492 mw_5 (by decide +kernel) ⟨Nat.le_of_ble_eq_true rfl, Nat.le_of_ble_eq_true rfl⟩ rfl hl.1 rfl (Nat.le_of_ble_eq_true rfl) dX4_angle_34 ⟨Nat.le_of_ble_eq_true rfl, Nat.le_of_ble_eq_true rfl⟩) (fun u_11 H locs hr_12 hH => ?_)
        have hH : fs_H X A s [(h0, .inr (4, [.ref nt, .ref ns, .ref nb, .ref nu])), (nu, .inr (3, [.long ((fs_axis (Int32.toInt64 x) (Int32.toInt64 y)).1), .long ((fs_axis (Int32.toInt64 x) (Int32.toInt64 y)).2.1), .long ((fs_axis (Int32.toInt64 x) (Int32.toInt64 y)).2.2)]))] _ _ := hH
        refine lv_aload_n hx hb dX4_angle_37 rfl (lv_at hl 0 rfl) ?_
        refine fs_get C in_4 hH 0 rfl rfl 3 (by decide) mw_70 (v := .ref nu) rfl dX4_angle_38 ?_
        refine fs_getN C in_3 hH 1 rfl rfl 2 (by decide) (List.mem_of_getElem? (i := 7) rfl) (v := .long ((fs_axis (Int32.toInt64 x) (Int32.toInt64 y)).2.2)) rfl dX4_angle_41 ?_
        refine lv_l2i hx hb dX4_angle_44 rfl ?_
        refine W.widen (k := 1) (n := 6) (by decide) (by decide) ?_
        exact vx_ret (fs_iret C hH (fs_axis (Int32.toInt64 x) (Int32.toInt64 y)) rfl (⟨by simp [fs_ang, c_5, c_9], fs_bi_nz.mp c_4⟩) dX4_angle_45)
      · refine lv_iconst (v := 0) hx hb dX4_angle_24 (by decide) ?_
        refine W.widen (k := 1) (n := 6) (by decide) (by decide) ?_
        exact vx_ret (fs_iret C hH t rfl (⟨by simp [fs_ang, c_5, c_9], fs_bi_nz.mp c_4⟩) dX4_angle_25)
  · exact fs_throw C hl9 ht9 hH hl.1 (fs_bi_0.mp c_4) mw_127 mw_10 dX4_angle_8 dX4_angle_11 dX4_angle_12 dX4_angle_15 (by decide) (Nat.le_of_ble_eq_true rfl) (by decide) (by decide) (by decide) (by decide)
set_option maxHeartbeats 4000000 in
set_option maxRecDepth 100000 in
theorem c_X4_length (l : Launch) (X : fs_X) (sz : Nat) (h0 : Nat) (nt : Nat) (ns : Nat) (nb : Nat) (nu : Nat) (t : fs_T) (x : Int32) (y : Int32)  (hl9 : l.stackTraces = false) : fs_MX l X yX4_length cX4_length 3 (some .int) ({ frames := 6, cells := 1, slots := 6, locals := 81 }) [.ref h0, .int x, .int y] [(h0, .inr (4, [.ref nt, .ref ns, .ref nb, .ref nu])), (nu, .inr (3, [.long t.1, .long t.2.1, .long t.2.2]))] sz (fs_Qi X (fun r (_ : fs_T) => r = fs_len x y ∧ (fs_near x ∧ fs_near y)) (fun u => [(h0, .inr (4, [.ref nt, .ref ns, .ref nb, .ref nu])), (nu, .inr (3, [.long u.1, .long u.2.1, .long u.2.2]))])) (¬ (fs_near x ∧ fs_near y)) 1 6 := by
  refine fs_ofX (by decide) (Nat.le_of_ble_eq_true rfl) ?_
  intro p e s m args below meth c A ls C hH hl ht9
  have C : fs_At X A p s m args meth c cX4_length 3 (some .int) RX4 "length" := C
  have hx := C.1
  have hb := C.2.1
  have hown := C.2.2.2.2.1
  have hts := C.2.2.2.2.2.1
  have hl : lv_has ls 3 [(0, .ref h0), (1, .int x), (2, .int y)] := hl
  have hH : fs_H X A s [(h0, .inr (4, [.ref nt, .ref ns, .ref nb, .ref nu])), (nu, .inr (3, [.long t.1, .long t.2.1, .long t.2.2]))] s.heap [] := hH
  refine lv_iload_n hx hb dX4_length_0 rfl (lv_at hl 1 rfl) ?_
  refine lv_iload_n hx hb dX4_length_1 rfl (lv_at hl 2 rfl) ?_
  refine fs_ci C hH (wr := [(h0, .inr (4, [.ref nt, .ref ns, .ref nb, .ref nu])), (nu, .inr (3, [.long t.1, .long t.2.1, .long t.2.2]))]) [] [0, 1] rfl rfl (by decide) (by decide) (fs_rS (rest := []) (As := [.int x, .int y]) (n := 2) C hH (wc := []) [] (by decide) rfl (c_X4_isPoint l X _ x y ) rfl rfl mw_284 mw_282 mw_283 mw_1 (by decide +kernel) ⟨Nat.le_of_ble_eq_true rfl, Nat.le_of_ble_eq_true rfl⟩ rfl hl.1 rfl (Nat.le_of_ble_eq_true rfl) dX4_length_2 ⟨Nat.le_of_ble_eq_true rfl, Nat.le_of_ble_eq_true rfl⟩) (fun r_1 u_2 H locs hr_3 hH => ?_)
  subst hr_3
  have hH : fs_H X A s [(h0, .inr (4, [.ref nt, .ref ns, .ref nb, .ref nu])), (nu, .inr (3, [.long t.1, .long t.2.1, .long t.2.2]))] _ _ := hH
  refine lv_if_ne (tgt := 16) hx hb dX4_length_5 (by decide) (fun c_4 => ?_) (fun c_4 => ?_)
  · refine lv_aload_n hx hb dX4_length_16 rfl (lv_at hl 0 rfl) ?_
    refine fs_get C in_4 hH 0 rfl rfl 3 (by decide) mw_70 (v := .ref nu) rfl dX4_length_17 ?_
    refine lv_iload_n hx hb dX4_length_20 rfl (lv_at hl 1 rfl) ?_
    refine lv_i2l hx hb dX4_length_21 rfl ?_
    refine lv_iload_n hx hb dX4_length_22 rfl (lv_at hl 2 rfl) ?_
    refine lv_i2l hx hb dX4_length_23 rfl ?_
    refine fs_cv C hH (wr := [(h0, .inr (4, [.ref nt, .ref ns, .ref nb, .ref nu]))]) [1] [0] rfl rfl (by decide) (by decide) (fs_rVN (rest := []) (As := [.long (Int32.toInt64 x), .long (Int32.toInt64 y)]) (n := 2) (q0 := 1) (ci := 3) C hH (wc := [(nu, .inr (3, [.long t.1, .long t.2.1, .long t.2.2]))]) [1] (by decide) rfl (c_X3_turnToAxis l X _ nu t (Int32.toInt64 x) (Int32.toInt64 y) ) rfl rfl rfl rfl mw_291 (List.mem_of_getElem? (i := 18) rfl) mw_290 mw_492 mw_5 (by decide +kernel) ⟨Nat.le_of_ble_eq_true rfl, Nat.le_of_ble_eq_true rfl⟩ rfl hl.1 rfl (Nat.le_of_ble_eq_true rfl) dX4_length_24 ⟨Nat.le_of_ble_eq_true rfl, Nat.le_of_ble_eq_true rfl⟩) (fun u_6 H locs hr_7 hH => ?_)
    have hH : fs_H X A s [(h0, .inr (4, [.ref nt, .ref ns, .ref nb, .ref nu])), (nu, .inr (3, [.long ((fs_axis (Int32.toInt64 x) (Int32.toInt64 y)).1), .long ((fs_axis (Int32.toInt64 x) (Int32.toInt64 y)).2.1), .long ((fs_axis (Int32.toInt64 x) (Int32.toInt64 y)).2.2)]))] _ _ := hH
    refine lv_aload_n hx hb dX4_length_27 rfl (lv_at hl 0 rfl) ?_
    refine fs_get C in_4 hH 0 rfl rfl 3 (by decide) mw_70 (v := .ref nu) rfl dX4_length_28 ?_
    refine fs_getN C in_3 hH 1 rfl rfl 0 (by decide) (List.mem_of_getElem? (i := 5) rfl) (v := .long ((fs_axis (Int32.toInt64 x) (Int32.toInt64 y)).1)) rfl dX4_length_31 ?_
    refine lv_ldc2 (v := 652032874) hx hb hown (hts _ mw_300) dX4_length_34 ?_
    refine lv_lmul hx hb dX4_length_37 ?_
    refine lv_bipush (v := 30) hx hb dX4_length_38 (by decide) ?_
    refine fs_cl C hH (wr := [(h0, .inr (4, [.ref nt, .ref ns, .ref nb, .ref nu])), (nu, .inr (3, [.long ((fs_axis (Int32.toInt64 x) (Int32.toInt64 y)).1), .long ((fs_axis (Int32.toInt64 x) (Int32.toInt64 y)).2.1), .long ((fs_axis (Int32.toInt64 x) (Int32.toInt64 y)).2.2)]))]) [] [0, 1] rfl rfl (by decide) (by decide) (fs_rS (rest := []) (As := [.long (((fs_axis (Int32.toInt64 x) (Int32.toInt64 y)).1) * 652032874), .int 30]) (n := 2) C hH (wc := []) [] (by decide) rfl (c_X4_rounded l X _ (((fs_axis (Int32.toInt64 x) (Int32.toInt64 y)).1) * 652032874) 30 ) rfl rfl mw_81 mw_79 mw_80 mw_1 (by decide +kernel) ⟨Nat.le_of_ble_eq_true rfl, Nat.le_of_ble_eq_true rfl⟩ rfl hl.1 rfl (Nat.le_of_ble_eq_true rfl) dX4_length_40 ⟨Nat.le_of_ble_eq_true rfl, Nat.le_of_ble_eq_true rfl⟩) (fun r_8 u_9 H locs hr_10 hH => ?_)
    subst hr_10
    have hH : fs_H X A s [(h0, .inr (4, [.ref nt, .ref ns, .ref nb, .ref nu])), (nu, .inr (3, [.long ((fs_axis (Int32.toInt64 x) (Int32.toInt64 y)).1), .long ((fs_axis (Int32.toInt64 x) (Int32.toInt64 y)).2.1), .long ((fs_axis (Int32.toInt64 x) (Int32.toInt64 y)).2.2)]))] _ _ := hH
    refine lv_l2i hx hb dX4_length_43 rfl ?_
    refine W.widen (k := 1) (n := 6) (by decide) (by decide) ?_
    exact vx_ret (fs_iret C hH (fs_axis (Int32.toInt64 x) (Int32.toInt64 y)) rfl (⟨rfl, fs_bi_nz.mp c_4⟩) dX4_length_44)
  · exact fs_throw C hl9 ht9 hH hl.1 (fs_bi_0.mp c_4) mw_127 mw_10 dX4_length_8 dX4_length_11 dX4_length_12 dX4_length_15 (by decide) (Nat.le_of_ble_eq_true rfl) (by decide) (by decide) (by decide) (by decide)
set_option maxHeartbeats 4000000 in
set_option maxRecDepth 100000 in
theorem c_X4_init (l : Launch) (X : fs_X) (sz : Nat) (h0 : Nat)  : fs_M l X yX4_init cX4_init 2 none ({ frames := 2, cells := 16, slots := 148, locals := 32 }) [.ref h0] [(h0, .inr (4, [.null, .null, .null, .null]))] sz (fs_Qv X (fun (_ : Nat × Nat × Nat × Nat × Nat × Nat × Nat × Nat × Nat × Nat × Nat × Nat × Nat × Nat × Nat × Nat) => True) (fun u => [(h0, .inr (4, [.ref u.1, .ref u.2.2.2.1, .ref u.2.2.2.2.2.2.2.2.2.2.2.2.1, .ref u.2.2.2.2.2.2.2.2.2.2.2.2.2.2.2])), (u.1, .inr (2, [.ref u.2.1, .ref u.2.2.1])), (u.2.1, fs_ai X 16 (fun _ => 0)), (u.2.2.1, fs_ai X 16 (fun _ => 0)), (u.2.2.2.1, fs_aq X 4 (fs_sts (u.2.2.2.2.1) (u.2.2.2.2.2.2.1) (u.2.2.2.2.2.2.2.2.1) (u.2.2.2.2.2.2.2.2.2.2.1))), (u.2.2.2.2.1, .inr (1, [.ref u.2.2.2.2.2.1, .int 0, .int 0, .int 0, .int 0])), (u.2.2.2.2.2.1, fs_ai X 5 (upd (fun _ => 0) 0 16384)), (u.2.2.2.2.2.2.1, .inr (1, [.ref u.2.2.2.2.2.2.2.1, .int 0, .int 0, .int 0, .int 0])), (u.2.2.2.2.2.2.2.1, fs_ai X 5 (upd (fun _ => 0) 0 16384)), (u.2.2.2.2.2.2.2.2.1, .inr (1, [.ref u.2.2.2.2.2.2.2.2.2.1, .int 0, .int 0, .int 0, .int 0])), (u.2.2.2.2.2.2.2.2.2.1, fs_ai X 5 (upd (fun _ => 0) 0 16384)), (u.2.2.2.2.2.2.2.2.2.2.1, .inr (1, [.ref u.2.2.2.2.2.2.2.2.2.2.2.1, .int 0, .int 0, .int 0, .int 0])), (u.2.2.2.2.2.2.2.2.2.2.2.1, fs_ai X 5 (upd (fun _ => 0) 0 16384)), (u.2.2.2.2.2.2.2.2.2.2.2.2.1, .inr (0, [.ref u.2.2.2.2.2.2.2.2.2.2.2.2.2.1, .ref u.2.2.2.2.2.2.2.2.2.2.2.2.2.2.1, .int 0])), (u.2.2.2.2.2.2.2.2.2.2.2.2.2.1, fs_ai X 32 (fun _ => 0)), (u.2.2.2.2.2.2.2.2.2.2.2.2.2.2.1, fs_ai X 32 (fun _ => 0)), (u.2.2.2.2.2.2.2.2.2.2.2.2.2.2.2, .inr (3, [.long 0, .long 0, .long 0]))])) 16 148 := by
  refine fs_ofW (by decide) (Nat.le_of_ble_eq_true rfl) ?_
  intro p e s m args below meth c A ls C hH hl
  have C : fs_At X A p s m args meth c cX4_init 2 none RX4 "<init>" := C
  have hx := C.1
  have hb := C.2.1
  have hown := C.2.2.2.2.1
  have hts := C.2.2.2.2.2.1
  have hl : lv_has ls 2 [(0, .ref h0)] := hl
  have hH : fs_H X A s [(h0, .inr (4, [.null, .null, .null, .null]))] s.heap [] := hH
  refine lv_aload_n hx hb dX4_init_0 rfl (lv_at hl 0 rfl) ?_
  refine W.objInit hx hb hown (hts _ mw_17) (hts _ mw_18) (hts _ mw_19) rfl (by rw [C.2.2.2.1]; exact hl.1) rfl dX4_init_1 (Nat.le_of_ble_eq_true rfl) (Nat.le_of_ble_eq_true rfl) ?_
  refine W.eq (g2 := F0 m 4 ls []) rfl ?_
  refine lv_aload_n hx hb dX4_init_4 rfl (lv_at hl 0 rfl) ?_
  refine fs_new (ci := 2) C hH in_2 tyX2 tyX2_ok mw_20 mw_21 mw_2 rfl [.null, .null] (by decide) (Nat.le_of_ble_eq_true rfl) (Nat.le_of_ble_eq_true rfl) dX4_init_5 (fun q_1 H hH => ?_)
  have hH : fs_H X A s [(h0, .inr (4, [.null, .null, .null, .null])), (q_1, .inr (2, [.null, .null]))] _ _ := hH
  refine lv_dup hx hb dX4_init_8 rfl ?_
  refine fs_cv C hH (wr := [(h0, .inr (4, [.null, .null, .null, .null]))]) [1] [0] rfl rfl (by decide) (by decide) (fs_rIN (rest := [.ref q_1, .ref h0]) (As := []) (n := 0) C hH (wc := [(q_1, .inr (2, [.null, .null]))]) [1] (by decide) rfl (c_X2_init l X _ q_1 ) rfl rfl mw_23 (List.mem_of_getElem? (i := 0) rfl) mw_22 rfl mw_2 (by decide +kernel) ⟨Nat.le_of_ble_eq_true rfl, Nat.le_of_ble_eq_true rfl⟩ rfl hl.1 rfl (Nat.le_of_ble_eq_true rfl) dX4_init_9 ⟨Nat.le_of_ble_eq_true rfl, Nat.le_of_ble_eq_true rfl⟩) (fun u_3 H locs hr_4 hH => ?_)
  obtain ⟨u_3_1, u_3_2⟩ := u_3
  have hH : fs_H X A s [(h0, .inr (4, [.null, .null, .null, .null])), (q_1, .inr (2, [.ref u_3_1, .ref u_3_2])), (u_3_1, fs_ai X 16 (fun _ => 0)), (u_3_2, fs_ai X 16 (fun _ => 0))] _ _ := hH
  refine fs_putF C in_4 tyX4 tyX4_ok nmX4 hH 0 rfl rfl 0 (by decide) mw_67 rfl rfl rfl rfl (Nat.le_of_ble_eq_true rfl) (ws' := [(h0, .inr (4, [.ref q_1, .null, .null, .null])), (q_1, .inr (2, [.ref u_3_1, .ref u_3_2])), (u_3_1, fs_ai X 16 (fun _ => 0)), (u_3_2, fs_ai X 16 (fun _ => 0))]) rfl dX4_init_12 (fun H locs hH => ?_)
  refine lv_aload_n hx hb dX4_init_15 rfl (lv_at hl 0 rfl) ?_
  refine lv_iconst (v := 4) hx hb dX4_init_16 (by decide) ?_
  refine fs_newq C hH (N := 4) rfl (by decide) (Nat.le_of_ble_eq_true rfl) (Nat.le_of_ble_eq_true rfl) mw_30 dX4_init_17 (fun q_5 H hH => ?_)
  have hH : fs_H X A s [(h0, .inr (4, [.ref q_1, .null, .null, .null])), (q_1, .inr (2, [.ref u_3_1, .ref u_3_2])), (u_3_1, fs_ai X 16 (fun _ => 0)), (u_3_2, fs_ai X 16 (fun _ => 0)), (q_5, fs_aq X 4 (fun _ => none))] _ _ := hH
  refine fs_putF C in_4 tyX4 tyX4_ok nmX4 hH 0 rfl rfl 1 (by decide) mw_68 rfl rfl rfl rfl (Nat.le_of_ble_eq_true rfl) (ws' := [(h0, .inr (4, [.ref q_1, .ref q_5, .null, .null])), (q_1, .inr (2, [.ref u_3_1, .ref u_3_2])), (u_3_1, fs_ai X 16 (fun _ => 0)), (u_3_2, fs_ai X 16 (fun _ => 0)), (q_5, fs_aq X 4 (fun _ => none))]) rfl dX4_init_20 (fun H locs hH => ?_)
  refine lv_iconst (v := 0) hx hb dX4_init_23 (by decide) ?_
  refine lv_istore_n (lv' := [(1, .int 0), (0, .ref h0)]) hx hb dX4_init_24 rfl hl (by decide) rfl (fun ls hl => ?_)
  refine lv_iload_n hx hb dX4_init_25 rfl (lv_at hl 0 rfl) ?_
  refine lv_iconst (v := 4) hx hb dX4_init_26 (by decide) ?_
  refine lv_icmp_ge (tgt := 49) hx hb dX4_init_27 (by decide) (fun c_6 => ?_) (fun c_6 => ?_)
  · exact absurd c_6 (by decide)
  · refine lv_aload_n hx hb dX4_init_30 rfl (lv_at hl 1 rfl) ?_
    refine fs_get C in_4 hH 0 rfl rfl 1 (by decide) mw_68 (v := .ref q_5) rfl dX4_init_31 ?_
    refine lv_iload_n hx hb dX4_init_34 rfl (lv_at hl 0 rfl) ?_
    refine fs_new (ci := 1) C hH in_1 tyX1 tyX1_ok mw_30 mw_31 mw_3 rfl [.null, .int 0, .int 0, .int 0, .int 0] (by decide) (Nat.le_of_ble_eq_true rfl) (Nat.le_of_ble_eq_true rfl) dX4_init_35 (fun q_7 H hH => ?_)
    have hH : fs_H X A s [(h0, .inr (4, [.ref q_1, .ref q_5, .null, .null])), (q_1, .inr (2, [.ref u_3_1, .ref u_3_2])), (u_3_1, fs_ai X 16 (fun _ => 0)), (u_3_2, fs_ai X 16 (fun _ => 0)), (q_5, fs_aq X 4 (fun _ => none)), (q_7, .inr (1, [.null, .int 0, .int 0, .int 0, .int 0]))] _ _ := hH
    refine lv_dup hx hb dX4_init_38 rfl ?_
    refine fs_cv C hH (wr := [(h0, .inr (4, [.ref q_1, .ref q_5, .null, .null])), (q_1, .inr (2, [.ref u_3_1, .ref u_3_2])), (u_3_1, fs_ai X 16 (fun _ => 0)), (u_3_2, fs_ai X 16 (fun _ => 0)), (q_5, fs_aq X 4 (fun _ => none))]) [5] [0, 1, 2, 3, 4] rfl rfl (by decide) (by decide) (fs_rIN (rest := [.ref q_7, .int 0, .ref q_5]) (As := []) (n := 0) C hH (wc := [(q_7, .inr (1, [.null, .int 0, .int 0, .int 0, .int 0]))]) [5] (by decide) rfl (c_X1_init l X _ q_7 ) rfl rfl mw_33 (List.mem_of_getElem? (i := 1) rfl) mw_32 rfl mw_3 (by decide +kernel) ⟨Nat.le_of_ble_eq_true rfl, Nat.le_of_ble_eq_true rfl⟩ rfl hl.1 rfl (Nat.le_of_ble_eq_true rfl) dX4_init_39 ⟨Nat.le_of_ble_eq_true rfl, Nat.le_of_ble_eq_true rfl⟩) (fun u_9 H locs hr_10 hH => ?_)
    have hH : fs_H X A s [(h0, .inr (4, [.ref q_1, .ref q_5, .null, .null])), (q_1, .inr (2, [.ref u_3_1, .ref u_3_2])), (u_3_1, fs_ai X 16 (fun _ => 0)), (u_3_2, fs_ai X 16 (fun _ => 0)), (q_5, fs_aq X 4 (fun _ => none)), (q_7, .inr (1, [.ref u_9, .int 0, .int 0, .int 0, .int 0])), (u_9, fs_ai X 5 (upd (fun _ => 0) 0 16384))] _ _ := hH
    refine fs_aast C hH 4 5 rfl rfl (k := 0) rfl (by decide) (by decide) (ws' := [(h0, .inr (4, [.ref q_1, .ref q_5, .null, .null])), (q_1, .inr (2, [.ref u_3_1, .ref u_3_2])), (u_3_1, fs_ai X 16 (fun _ => 0)), (u_3_2, fs_ai X 16 (fun _ => 0)), (q_5, fs_aq X 4 (va_up (fun _ => none) 0 (some q_7))), (q_7, .inr (1, [.ref u_9, .int 0, .int 0, .int 0, .int 0])), (u_9, fs_ai X 5 (upd (fun _ => 0) 0 16384))]) rfl dX4_init_42 (fun H locs hH => ?_)
    refine lv_iinc (v := 1) (lv' := [(1, .int 1), (0, .ref h0)]) hx hb dX4_init_43 hl (k := 0) rfl (by decide) (by decide) rfl (fun ls hl => ?_)
    refine lv_goto (tgt := 25) hx hb dX4_init_46 (by decide) ?_
    refine lv_iload_n hx hb dX4_init_25 rfl (lv_at hl 0 rfl) ?_
    refine lv_iconst (v := 4) hx hb dX4_init_26 (by decide) ?_
    refine lv_icmp_ge (tgt := 49) hx hb dX4_init_27 (by decide) (fun c_11 => ?_) (fun c_11 => ?_)
    · exact absurd c_11 (by decide)
    · refine lv_aload_n hx hb dX4_init_30 rfl (lv_at hl 1 rfl) ?_
      refine fs_get C in_4 hH 0 rfl rfl 1 (by decide) mw_68 (v := .ref q_5) rfl dX4_init_31 ?_
      refine lv_iload_n hx hb dX4_init_34 rfl (lv_at hl 0 rfl) ?_
      refine fs_new (ci := 1) C hH in_1 tyX1 tyX1_ok mw_30 mw_31 mw_3 rfl [.null, .int 0, .int 0, .int 0, .int 0] (by decide) (Nat.le_of_ble_eq_true rfl) (Nat.le_of_ble_eq_true rfl) dX4_init_35 (fun q_12 H hH => ?_)
      have hH : fs_H X A s [(h0, .inr (4, [.ref q_1, .ref q_5, .null, .null])), (q_1, .inr (2, [.ref u_3_1, .ref u_3_2])), (u_3_1, fs_ai X 16 (fun _ => 0)), (u_3_2, fs_ai X 16 (fun _ => 0)), (q_5, fs_aq X 4 (va_up (fun _ => none) 0 (some q_7))), (q_7, .inr (1, [.ref u_9, .int 0, .int 0, .int 0, .int 0])), (u_9, fs_ai X 5 (upd (fun _ => 0) 0 16384)), (q_12, .inr (1, [.null, .int 0, .int 0, .int 0, .int 0]))] _ _ := hH
      refine lv_dup hx hb dX4_init_38 rfl ?_
      refine fs_cv C hH (wr := [(h0, .inr (4, [.ref q_1, .ref q_5, .null, .null])), (q_1, .inr (2, [.ref u_3_1, .ref u_3_2])), (u_3_1, fs_ai X 16 (fun _ => 0)), (u_3_2, fs_ai X 16 (fun _ => 0)), (q_5, fs_aq X 4 (va_up (fun _ => none) 0 (some q_7))), (q_7, .inr (1, [.ref u_9, .int 0, .int 0, .int 0, .int 0])), (u_9, fs_ai X 5 (upd (fun _ => 0) 0 16384))]) [7] [0, 1, 2, 3, 4, 5, 6] rfl rfl (by decide) (by decide) (fs_rIN (rest := [.ref q_12, .int 1, .ref q_5]) (As := []) (n := 0) C hH (wc := [(q_12, .inr (1, [.null, .int 0, .int 0, .int 0, .int 0]))]) [7] (by decide) rfl (c_X1_init l X _ q_12 ) rfl rfl mw_33 (List.mem_of_getElem? (i := 1) rfl) mw_32 rfl mw_3 (by decide +kernel) ⟨Nat.le_of_ble_eq_true rfl, Nat.le_of_ble_eq_true rfl⟩ rfl hl.1 rfl (Nat.le_of_ble_eq_true rfl) dX4_init_39 ⟨Nat.le_of_ble_eq_true rfl, Nat.le_of_ble_eq_true rfl⟩) (fun u_14 H locs hr_15 hH => ?_)
      have hH : fs_H X A s [(h0, .inr (4, [.ref q_1, .ref q_5, .null, .null])), (q_1, .inr (2, [.ref u_3_1, .ref u_3_2])), (u_3_1, fs_ai X 16 (fun _ => 0)), (u_3_2, fs_ai X 16 (fun _ => 0)), (q_5, fs_aq X 4 (va_up (fun _ => none) 0 (some q_7))), (q_7, .inr (1, [.ref u_9, .int 0, .int 0, .int 0, .int 0])), (u_9, fs_ai X 5 (upd (fun _ => 0) 0 16384)), (q_12, .inr (1, [.ref u_14, .int 0, .int 0, .int 0, .int 0])), (u_14, fs_ai X 5 (upd (fun _ => 0) 0 16384))] _ _ := hH
      refine fs_aast C hH 4 7 rfl rfl (k := 1) rfl (by decide) (by decide) (ws' := [(h0, .inr (4, [.ref q_1, .ref q_5, .null, .null])), (q_1, .inr (2, [.ref u_3_1, .ref u_3_2])), (u_3_1, fs_ai X 16 (fun _ => 0)), (u_3_2, fs_ai X 16 (fun _ => 0)), (q_5, fs_aq X 4 (va_up (va_up (fun _ => none) 0 (some q_7)) 1 (some q_12))), (q_7, .inr (1, [.ref u_9, .int 0, .int 0, .int 0, .int 0])), (u_9, fs_ai X 5 (upd (fun _ => 0) 0 16384)), (q_12, .inr (1, [.ref u_14, .int 0, .int 0, .int 0, .int 0])), (u_14, fs_ai X 5 (upd (fun _ => 0) 0 16384))]) rfl dX4_init_42 (fun H locs hH => ?_)
      refine lv_iinc (v := 2) (lv' := [(1, .int 2), (0, .ref h0)]) hx hb dX4_init_43 hl (k := 0) rfl (by decide) (by decide) rfl (fun ls hl => ?_)
      refine lv_goto (tgt := 25) hx hb dX4_init_46 (by decide) ?_
      refine lv_iload_n hx hb dX4_init_25 rfl (lv_at hl 0 rfl) ?_
      refine lv_iconst (v := 4) hx hb dX4_init_26 (by decide) ?_
      refine lv_icmp_ge (tgt := 49) hx hb dX4_init_27 (by decide) (fun c_16 => ?_) (fun c_16 => ?_)
      · exact absurd c_16 (by decide)
      · refine lv_aload_n hx hb dX4_init_30 rfl (lv_at hl 1 rfl) ?_
        refine fs_get C in_4 hH 0 rfl rfl 1 (by decide) mw_68 (v := .ref q_5) rfl dX4_init_31 ?_
        refine lv_iload_n hx hb dX4_init_34 rfl (lv_at hl 0 rfl) ?_
        refine fs_new (ci := 1) C hH in_1 tyX1 tyX1_ok mw_30 mw_31 mw_3 rfl [.null, .int 0, .int 0, .int 0, .int 0] (by decide) (Nat.le_of_ble_eq_true rfl) (Nat.le_of_ble_eq_true rfl) dX4_init_35 (fun q_17 H hH => ?_)
        have hH : fs_H X A s [(h0, .inr (4, [.ref q_1, .ref q_5, .null, .null])), (q_1, .inr (2, [.ref u_3_1, .ref u_3_2])), (u_3_1, fs_ai X 16 (fun _ => 0)), (u_3_2, fs_ai X 16 (fun _ => 0)), (q_5, fs_aq X 4 (va_up (va_up (fun _ => none) 0 (some q_7)) 1 (some q_12))), (q_7, .inr (1, [.ref u_9, .int 0, .int 0, .int 0, .int 0])), (u_9, fs_ai X 5 (upd (fun _ => 0) 0 16384)), (q_12, .inr (1, [.ref u_14, .int 0, .int 0, .int 0, .int 0])), (u_14, fs_ai X 5 (upd (fun _ => 0) 0 16384)), (q_17, .inr (1, [.null, .int 0, .int 0, .int 0, .int 0]))] _ _ := hH
        refine lv_dup hx hb dX4_init_38 rfl ?_
        refine fs_cv C hH (wr := [(h0, .inr (4, [.ref q_1, .ref q_5, .null, .null])), (q_1, .inr (2, [.ref u_3_1, .ref u_3_2])), (u_3_1, fs_ai X 16 (fun _ => 0)), (u_3_2, fs_ai X 16 (fun _ => 0)), (q_5, fs_aq X 4 (va_up (va_up (fun _ => none) 0 (some q_7)) 1 (some q_12))), (q_7, .inr (1, [.ref u_9, .int 0, .int 0, .int 0, .int 0])), (u_9, fs_ai X 5 (upd (fun _ => 0) 0 16384)), (q_12, .inr (1, [.ref u_14, .int 0, .int 0, .int 0, .int 0])), (u_14, fs_ai X 5 (upd (fun _ => 0) 0 16384))]) [9] [0, 1, 2, 3, 4, 5, 6, 7, 8] rfl rfl (by decide) (by decide) (fs_rIN (rest := [.ref q_17, .int 2, .ref q_5]) (As := []) (n := 0) C hH (wc := [(q_17, .inr (1, [.null, .int 0, .int 0, .int 0, .int 0]))]) [9] (by decide) rfl (c_X1_init l X _ q_17 ) rfl rfl mw_33 (List.mem_of_getElem? (i := 1) rfl) mw_32 rfl mw_3 (by decide +kernel) ⟨Nat.le_of_ble_eq_true rfl, Nat.le_of_ble_eq_true rfl⟩ rfl hl.1 rfl (Nat.le_of_ble_eq_true rfl) dX4_init_39 ⟨Nat.le_of_ble_eq_true rfl, Nat.le_of_ble_eq_true rfl⟩) (fun u_19 H locs hr_20 hH => ?_)
        have hH : fs_H X A s [(h0, .inr (4, [.ref q_1, .ref q_5, .null, .null])), (q_1, .inr (2, [.ref u_3_1, .ref u_3_2])), (u_3_1, fs_ai X 16 (fun _ => 0)), (u_3_2, fs_ai X 16 (fun _ => 0)), (q_5, fs_aq X 4 (va_up (va_up (fun _ => none) 0 (some q_7)) 1 (some q_12))), (q_7, .inr (1, [.ref u_9, .int 0, .int 0, .int 0, .int 0])), (u_9, fs_ai X 5 (upd (fun _ => 0) 0 16384)), (q_12, .inr (1, [.ref u_14, .int 0, .int 0, .int 0, .int 0])), (u_14, fs_ai X 5 (upd (fun _ => 0) 0 16384)), (q_17, .inr (1, [.ref u_19, .int 0, .int 0, .int 0, .int 0])), (u_19, fs_ai X 5 (upd (fun _ => 0) 0 16384))] _ _ := hH
        refine fs_aast C hH 4 9 rfl rfl (k := 2) rfl (by decide) (by decide) (ws' := [(h0, .inr (4, [.ref q_1, .ref q_5, .null, .null])), (q_1, .inr (2, [.ref u_3_1, .ref u_3_2])), (u_3_1, fs_ai X 16 (fun _ => 0)), (u_3_2, fs_ai X 16 (fun _ => 0)), (q_5, fs_aq X 4 (va_up (va_up (va_up (fun _ => none) 0 (some q_7)) 1 (some q_12)) 2 (some q_17))), (q_7, .inr (1, [.ref u_9, .int 0, .int 0, .int 0, .int 0])), (u_9, fs_ai X 5 (upd (fun _ => 0) 0 16384)), (q_12, .inr (1, [.ref u_14, .int 0, .int 0, .int 0, .int 0])), (u_14, fs_ai X 5 (upd (fun _ => 0) 0 16384)), (q_17, .inr (1, [.ref u_19, .int 0, .int 0, .int 0, .int 0])), (u_19, fs_ai X 5 (upd (fun _ => 0) 0 16384))]) rfl dX4_init_42 (fun H locs hH => ?_)
        refine lv_iinc (v := 3) (lv' := [(1, .int 3), (0, .ref h0)]) hx hb dX4_init_43 hl (k := 0) rfl (by decide) (by decide) rfl (fun ls hl => ?_)
        refine lv_goto (tgt := 25) hx hb dX4_init_46 (by decide) ?_
        refine lv_iload_n hx hb dX4_init_25 rfl (lv_at hl 0 rfl) ?_
        refine lv_iconst (v := 4) hx hb dX4_init_26 (by decide) ?_
        refine lv_icmp_ge (tgt := 49) hx hb dX4_init_27 (by decide) (fun c_21 => ?_) (fun c_21 => ?_)
        · exact absurd c_21 (by decide)
        · refine lv_aload_n hx hb dX4_init_30 rfl (lv_at hl 1 rfl) ?_
          refine fs_get C in_4 hH 0 rfl rfl 1 (by decide) mw_68 (v := .ref q_5) rfl dX4_init_31 ?_
          refine lv_iload_n hx hb dX4_init_34 rfl (lv_at hl 0 rfl) ?_
          refine fs_new (ci := 1) C hH in_1 tyX1 tyX1_ok mw_30 mw_31 mw_3 rfl [.null, .int 0, .int 0, .int 0, .int 0] (by decide) (Nat.le_of_ble_eq_true rfl) (Nat.le_of_ble_eq_true rfl) dX4_init_35 (fun q_22 H hH => ?_)
          have hH : fs_H X A s [(h0, .inr (4, [.ref q_1, .ref q_5, .null, .null])), (q_1, .inr (2, [.ref u_3_1, .ref u_3_2])), (u_3_1, fs_ai X 16 (fun _ => 0)), (u_3_2, fs_ai X 16 (fun _ => 0)), (q_5, fs_aq X 4 (va_up (va_up (va_up (fun _ => none) 0 (some q_7)) 1 (some q_12)) 2 (some q_17))), (q_7, .inr (1, [.ref u_9, .int 0, .int 0, .int 0, .int 0])), (u_9, fs_ai X 5 (upd (fun _ => 0) 0 16384)), (q_12, .inr (1, [.ref u_14, .int 0, .int 0, .int 0, .int 0])), (u_14, fs_ai X 5 (upd (fun _ => 0) 0 16384)), (q_17, .inr (1, [.ref u_19, .int 0, .int 0, .int 0, .int 0])), (u_19, fs_ai X 5 (upd (fun _ => 0) 0 16384)), (q_22, .inr (1, [.null, .int 0, .int 0, .int 0, .int 0]))] _ _ := hH
          refine lv_dup hx hb dX4_init_38 rfl ?_
          refine fs_cv C hH (wr := [(h0, .inr (4, [.ref q_1, .ref q_5, .null, .null])), (q_1, .inr (2, [.ref u_3_1, .ref u_3_2])), (u_3_1, fs_ai X 16 (fun _ => 0)), (u_3_2, fs_ai X 16 (fun _ => 0)), (q_5, fs_aq X 4 (va_up (va_up (va_up (fun _ => none) 0 (some q_7)) 1 (some q_12)) 2 (some q_17))), (q_7, .inr (1, [.ref u_9, .int 0, .int 0, .int 0, .int 0])), (u_9, fs_ai X 5 (upd (fun _ => 0) 0 16384)), (q_12, .inr (1, [.ref u_14, .int 0, .int 0, .int 0, .int 0])), (u_14, fs_ai X 5 (upd (fun _ => 0) 0 16384)), (q_17, .inr (1, [.ref u_19, .int 0, .int 0, .int 0, .int 0])), (u_19, fs_ai X 5 (upd (fun _ => 0) 0 16384))]) [11] [0, 1, 2, 3, 4, 5, 6, 7, 8, 9, 10] rfl rfl (by decide) (by decide) (fs_rIN (rest := [.ref q_22, .int 3, .ref q_5]) (As := []) (n := 0) C hH (wc := [(q_22, .inr (1, [.null, .int 0, .int 0, .int 0, .int 0]))]) [11] (by decide) rfl (c_X1_init l X _ q_22 ) rfl rfl mw_33 (List.mem_of_getElem? (i := 1) rfl) mw_32 rfl mw_3 (by decide +kernel) ⟨Nat.le_of_ble_eq_true rfl, Nat.le_of_ble_eq_true rfl⟩ rfl hl.1 rfl (Nat.le_of_ble_eq_true rfl) dX4_init_39 ⟨Nat.le_of_ble_eq_true rfl, Nat.le_of_ble_eq_true rfl⟩) (fun u_24 H locs hr_25 hH => ?_)
          have hH : fs_H X A s [(h0, .inr (4, [.ref q_1, .ref q_5, .null, .null])), (q_1, .inr (2, [.ref u_3_1, .ref u_3_2])), (u_3_1, fs_ai X 16 (fun _ => 0)), (u_3_2, fs_ai X 16 (fun _ => 0)), (q_5, fs_aq X 4 (va_up (va_up (va_up (fun _ => none) 0 (some q_7)) 1 (some q_12)) 2 (some q_17))), (q_7, .inr (1, [.ref u_9, .int 0, .int 0, .int 0, .int 0])), (u_9, fs_ai X 5 (upd (fun _ => 0) 0 16384)), (q_12, .inr (1, [.ref u_14, .int 0, .int 0, .int 0, .int 0])), (u_14, fs_ai X 5 (upd (fun _ => 0) 0 16384)), (q_17, .inr (1, [.ref u_19, .int 0, .int 0, .int 0, .int 0])), (u_19, fs_ai X 5 (upd (fun _ => 0) 0 16384)), (q_22, .inr (1, [.ref u_24, .int 0, .int 0, .int 0, .int 0])), (u_24, fs_ai X 5 (upd (fun _ => 0) 0 16384))] _ _ := hH
          refine fs_aast C hH 4 11 rfl rfl (k := 3) rfl (by decide) (by decide) (ws' := [(h0, .inr (4, [.ref q_1, .ref q_5, .null, .null])), (q_1, .inr (2, [.ref u_3_1, .ref u_3_2])), (u_3_1, fs_ai X 16 (fun _ => 0)), (u_3_2, fs_ai X 16 (fun _ => 0)), (q_5, fs_aq X 4 (va_up (va_up (va_up (va_up (fun _ => none) 0 (some q_7)) 1 (some q_12)) 2 (some q_17)) 3 (some q_22))), (q_7, .inr (1, [.ref u_9, .int 0, .int 0, .int 0, .int 0])), (u_9, fs_ai X 5 (upd (fun _ => 0) 0 16384)), (q_12, .inr (1, [.ref u_14, .int 0, .int 0, .int 0, .int 0])), (u_14, fs_ai X 5 (upd (fun _ => 0) 0 16384)), (q_17, .inr (1, [.ref u_19, .int 0, .int 0, .int 0, .int 0])), (u_19, fs_ai X 5 (upd (fun _ => 0) 0 16384)), (q_22, .inr (1, [.ref u_24, .int 0, .int 0, .int 0, .int 0])), (u_24, fs_ai X 5 (upd (fun _ => 0) 0 16384))]) rfl dX4_init_42 (fun H locs hH => ?_)
          refine lv_iinc (v := 4) (lv' := [(1, .int 4), (0, .ref h0)]) hx hb dX4_init_43 hl (k := 0) rfl (by decide) (by decide) rfl (fun ls hl => ?_)
          refine lv_goto (tgt := 25) hx hb dX4_init_46 (by decide) ?_
          refine lv_iload_n hx hb dX4_init_25 rfl (lv_at hl 0 rfl) ?_
          refine lv_iconst (v := 4) hx hb dX4_init_26 (by decide) ?_
          refine lv_icmp_ge (tgt := 49) hx hb dX4_init_27 (by decide) (fun c_26 => ?_) (fun c_26 => ?_)
          · refine lv_aload_n hx hb dX4_init_49 rfl (lv_at hl 1 rfl) ?_
            refine fs_new (ci := 0) C hH in_0 tyX0 tyX0_ok mw_45 mw_46 mw_4 rfl [.null, .null, .int 0] (by decide) (Nat.le_of_ble_eq_true rfl) (Nat.le_of_ble_eq_true rfl) dX4_init_50 (fun q_27 H hH => ?_)
            have hH : fs_H X A s [(h0, .inr (4, [.ref q_1, .ref q_5, .null, .null])), (q_1, .inr (2, [.ref u_3_1, .ref u_3_2])), (u_3_1, fs_ai X 16 (fun _ => 0)), (u_3_2, fs_ai X 16 (fun _ => 0)), (q_5, fs_aq X 4 (va_up (va_up (va_up (va_up (fun _ => none) 0 (some q_7)) 1 (some q_12)) 2 (some q_17)) 3 (some q_22))), (q_7, .inr (1, [.ref u_9, .int 0, .int 0, .int 0, .int 0])), (u_9, fs_ai X 5 (upd (fun _ => 0) 0 16384)), (q_12, .inr (1, [.ref u_14, .int 0, .int 0, .int 0, .int 0])), (u_14, fs_ai X 5 (upd (fun _ => 0) 0 16384)), (q_17, .inr (1, [.ref u_19, .int 0, .int 0, .int 0, .int 0])), (u_19, fs_ai X 5 (upd (fun _ => 0) 0 16384)), (q_22, .inr (1, [.ref u_24, .int 0, .int 0, .int 0, .int 0])), (u_24, fs_ai X 5 (upd (fun _ => 0) 0 16384)), (q_27, .inr (0, [.null, .null, .int 0]))] _ _ := hH
            refine lv_dup hx hb dX4_init_53 rfl ?_
            refine fs_cv C hH (wr := [(h0, .inr (4, [.ref q_1, .ref q_5, .null, .null])), (q_1, .inr (2, [.ref u_3_1, .ref u_3_2])), (u_3_1, fs_ai X 16 (fun _ => 0)), (u_3_2, fs_ai X 16 (fun _ => 0)), (q_5, fs_aq X 4 (va_up (va_up (va_up (va_up (fun _ => none) 0 (some q_7)) 1 (some q_12)) 2 (some q_17)) 3 (some q_22))), (q_7, .inr (1, [.ref u_9, .int 0, .int 0, .int 0, .int 0])), (u_9, fs_ai X 5 (upd (fun _ => 0) 0 16384)), (q_12, .inr (1, [.ref u_14, .int 0, .int 0, .int 0, .int 0])), (u_14, fs_ai X 5 (upd (fun _ => 0) 0 16384)), (q_17, .inr (1, [.ref u_19, .int 0, .int 0, .int 0, .int 0])), (u_19, fs_ai X 5 (upd (fun _ => 0) 0 16384)), (q_22, .inr (1, [.ref u_24, .int 0, .int 0, .int 0, .int 0])), (u_24, fs_ai X 5 (upd (fun _ => 0) 0 16384))]) [13] [0, 1, 2, 3, 4, 5, 6, 7, 8, 9, 10, 11, 12] rfl rfl (by decide) (by decide) (fs_rIN (rest := [.ref q_27, .ref h0]) (As := []) (n := 0) C hH (wc := [(q_27, .inr (0, [.null, .null, .int 0]))]) [13] (by decide) rfl (c_X0_init l X _ q_27 ) rfl rfl mw_48 (List.mem_of_getElem? (i := 2) rfl) mw_47 rfl mw_4 (by decide +kernel) ⟨Nat.le_of_ble_eq_true rfl, Nat.le_of_ble_eq_true rfl⟩ rfl hl.1 rfl (Nat.le_of_ble_eq_true rfl) dX4_init_54 ⟨Nat.le_of_ble_eq_true rfl, Nat.le_of_ble_eq_true rfl⟩) (fun u_29 H locs hr_30 hH => ?_)
            obtain ⟨u_29_1, u_29_2⟩ := u_29
            have hH : fs_H X A s [(h0, .inr (4, [.ref q_1, .ref q_5, .null, .null])), (q_1, .inr (2, [.ref u_3_1, .ref u_3_2])), (u_3_1, fs_ai X 16 (fun _ => 0)), (u_3_2, fs_ai X 16 (fun _ => 0)), (q_5, fs_aq X 4 (va_up (va_up (va_up (va_up (fun _ => none) 0 (some q_7)) 1 (some q_12)) 2 (some q_17)) 3 (some q_22))), (q_7, .inr (1, [.ref u_9, .int 0, .int 0, .int 0, .int 0])), (u_9, fs_ai X 5 (upd (fun _ => 0) 0 16384)), (q_12, .inr (1, [.ref u_14, .int 0, .int 0, .int 0, .int 0])), (u_14, fs_ai X 5 (upd (fun _ => 0) 0 16384)), (q_17, .inr (1, [.ref u_19, .int 0, .int 0, .int 0, .int 0])), (u_19, fs_ai X 5 (upd (fun _ => 0) 0 16384)), (q_22, .inr (1, [.ref u_24, .int 0, .int 0, .int 0, .int 0])), (u_24, fs_ai X 5 (upd (fun _ => 0) 0 16384)), (q_27, .inr (0, [.ref u_29_1, .ref u_29_2, .int 0])), (u_29_1, fs_ai X 32 (fun _ => 0)), (u_29_2, fs_ai X 32 (fun _ => 0))] _ _ := hH
            refine fs_putF C in_4 tyX4 tyX4_ok nmX4 hH 0 rfl rfl 2 (by decide) mw_69 rfl rfl rfl rfl (Nat.le_of_ble_eq_true rfl) (ws' := [(h0, .inr (4, [.ref q_1, .ref q_5, .ref q_27, .null])), (q_1, .inr (2, [.ref u_3_1, .ref u_3_2])), (u_3_1, fs_ai X 16 (fun _ => 0)), (u_3_2, fs_ai X 16 (fun _ => 0)), (q_5, fs_aq X 4 (va_up (va_up (va_up (va_up (fun _ => none) 0 (some q_7)) 1 (some q_12)) 2 (some q_17)) 3 (some q_22))), (q_7, .inr (1, [.ref u_9, .int 0, .int 0, .int 0, .int 0])), (u_9, fs_ai X 5 (upd (fun _ => 0) 0 16384)), (q_12, .inr (1, [.ref u_14, .int 0, .int 0, .int 0, .int 0])), (u_14, fs_ai X 5 (upd (fun _ => 0) 0 16384)), (q_17, .inr (1, [.ref u_19, .int 0, .int 0, .int 0, .int 0])), (u_19, fs_ai X 5 (upd (fun _ => 0) 0 16384)), (q_22, .inr (1, [.ref u_24, .int 0, .int 0, .int 0, .int 0])), (u_24, fs_ai X 5 (upd (fun _ => 0) 0 16384)), (q_27, .inr (0, [.ref u_29_1, .ref u_29_2, .int 0])), (u_29_1, fs_ai X 32 (fun _ => 0)), (u_29_2, fs_ai X 32 (fun _ => 0))]) rfl dX4_init_57 (fun H locs hH => ?_)
            refine lv_aload_n hx hb dX4_init_60 rfl (lv_at hl 1 rfl) ?_
            refine fs_new (ci := 3) C hH in_3 tyX3 tyX3_ok mw_56 mw_57 mw_5 rfl [.long 0, .long 0, .long 0] (by decide) (Nat.le_of_ble_eq_true rfl) (Nat.le_of_ble_eq_true rfl) dX4_init_61 (fun q_31 H hH => ?_)
            have hH : fs_H X A s [(h0, .inr (4, [.ref q_1, .ref q_5, .ref q_27, .null])), (q_1, .inr (2, [.ref u_3_1, .ref u_3_2])), (u_3_1, fs_ai X 16 (fun _ => 0)), (u_3_2, fs_ai X 16 (fun _ => 0)), (q_5, fs_aq X 4 (va_up (va_up (va_up (va_up (fun _ => none) 0 (some q_7)) 1 (some q_12)) 2 (some q_17)) 3 (some q_22))), (q_7, .inr (1, [.ref u_9, .int 0, .int 0, .int 0, .int 0])), (u_9, fs_ai X 5 (upd (fun _ => 0) 0 16384)), (q_12, .inr (1, [.ref u_14, .int 0, .int 0, .int 0, .int 0])), (u_14, fs_ai X 5 (upd (fun _ => 0) 0 16384)), (q_17, .inr (1, [.ref u_19, .int 0, .int 0, .int 0, .int 0])), (u_19, fs_ai X 5 (upd (fun _ => 0) 0 16384)), (q_22, .inr (1, [.ref u_24, .int 0, .int 0, .int 0, .int 0])), (u_24, fs_ai X 5 (upd (fun _ => 0) 0 16384)), (q_27, .inr (0, [.ref u_29_1, .ref u_29_2, .int 0])), (u_29_1, fs_ai X 32 (fun _ => 0)), (u_29_2, fs_ai X 32 (fun _ => 0)), (q_31, .inr (3, [.long 0, .long 0, .long 0]))] _ _ := hH
            refine lv_dup hx hb dX4_init_64 rfl ?_
            refine fs_cv C hH (wr := [(h0, .inr (4, [.ref q_1, .ref q_5, .ref q_27, .null])), (q_1, .inr (2, [.ref u_3_1, .ref u_3_2])), (u_3_1, fs_ai X 16 (fun _ => 0)), (u_3_2, fs_ai X 16 (fun _ => 0)), (q_5, fs_aq X 4 (va_up (va_up (va_up (va_up (fun _ => none) 0 (some q_7)) 1 (some q_12)) 2 (some q_17)) 3 (some q_22))), (q_7, .inr (1, [.ref u_9, .int 0, .int 0, .int 0, .int 0])), (u_9, fs_ai X 5 (upd (fun _ => 0) 0 16384)), (q_12, .inr (1, [.ref u_14, .int 0, .int 0, .int 0, .int 0])), (u_14, fs_ai X 5 (upd (fun _ => 0) 0 16384)), (q_17, .inr (1, [.ref u_19, .int 0, .int 0, .int 0, .int 0])), (u_19, fs_ai X 5 (upd (fun _ => 0) 0 16384)), (q_22, .inr (1, [.ref u_24, .int 0, .int 0, .int 0, .int 0])), (u_24, fs_ai X 5 (upd (fun _ => 0) 0 16384)), (q_27, .inr (0, [.ref u_29_1, .ref u_29_2, .int 0])), (u_29_1, fs_ai X 32 (fun _ => 0)), (u_29_2, fs_ai X 32 (fun _ => 0))]) [16] [0, 1, 2, 3, 4, 5, 6, 7, 8, 9, 10, 11, 12, 13, 14, 15] rfl rfl (by decide) (by decide) (fs_rIN (rest := [.ref q_31, .ref h0]) (As := []) (n := 0) C hH (wc := [(q_31, .inr (3, [.long 0, .long 0, .long 0]))]) [16] (by decide) rfl (c_X3_init l X _ q_31 (0, 0, 0) ) rfl rfl mw_59 (List.mem_of_getElem? (i := 3) rfl) mw_58 rfl mw_5 (by decide +kernel) ⟨Nat.le_of_ble_eq_true rfl, Nat.le_of_ble_eq_true rfl⟩ rfl hl.1 rfl (Nat.le_of_ble_eq_true rfl) dX4_init_65 ⟨Nat.le_of_ble_eq_true rfl, Nat.le_of_ble_eq_true rfl⟩) (fun u_33 H locs hr_34 hH => ?_)
            have hH : fs_H X A s [(h0, .inr (4, [.ref q_1, .ref q_5, .ref q_27, .null])), (q_1, .inr (2, [.ref u_3_1, .ref u_3_2])), (u_3_1, fs_ai X 16 (fun _ => 0)), (u_3_2, fs_ai X 16 (fun _ => 0)), (q_5, fs_aq X 4 (va_up (va_up (va_up (va_up (fun _ => none) 0 (some q_7)) 1 (some q_12)) 2 (some q_17)) 3 (some q_22))), (q_7, .inr (1, [.ref u_9, .int 0, .int 0, .int 0, .int 0])), (u_9, fs_ai X 5 (upd (fun _ => 0) 0 16384)), (q_12, .inr (1, [.ref u_14, .int 0, .int 0, .int 0, .int 0])), (u_14, fs_ai X 5 (upd (fun _ => 0) 0 16384)), (q_17, .inr (1, [.ref u_19, .int 0, .int 0, .int 0, .int 0])), (u_19, fs_ai X 5 (upd (fun _ => 0) 0 16384)), (q_22, .inr (1, [.ref u_24, .int 0, .int 0, .int 0, .int 0])), (u_24, fs_ai X 5 (upd (fun _ => 0) 0 16384)), (q_27, .inr (0, [.ref u_29_1, .ref u_29_2, .int 0])), (u_29_1, fs_ai X 32 (fun _ => 0)), (u_29_2, fs_ai X 32 (fun _ => 0)), (q_31, .inr (3, [.long 0, .long 0, .long 0]))] _ _ := hH
            refine fs_putF C in_4 tyX4 tyX4_ok nmX4 hH 0 rfl rfl 3 (by decide) mw_70 rfl rfl rfl rfl (Nat.le_of_ble_eq_true rfl) (ws' := [(h0, .inr (4, [.ref q_1, .ref q_5, .ref q_27, .ref q_31])), (q_1, .inr (2, [.ref u_3_1, .ref u_3_2])), (u_3_1, fs_ai X 16 (fun _ => 0)), (u_3_2, fs_ai X 16 (fun _ => 0)), (q_5, fs_aq X 4 (va_up (va_up (va_up (va_up (fun _ => none) 0 (some q_7)) 1 (some q_12)) 2 (some q_17)) 3 (some q_22))), (q_7, .inr (1, [.ref u_9, .int 0, .int 0, .int 0, .int 0])), (u_9, fs_ai X 5 (upd (fun _ => 0) 0 16384)), (q_12, .inr (1, [.ref u_14, .int 0, .int 0, .int 0, .int 0])), (u_14, fs_ai X 5 (upd (fun _ => 0) 0 16384)), (q_17, .inr (1, [.ref u_19, .int 0, .int 0, .int 0, .int 0])), (u_19, fs_ai X 5 (upd (fun _ => 0) 0 16384)), (q_22, .inr (1, [.ref u_24, .int 0, .int 0, .int 0, .int 0])), (u_24, fs_ai X 5 (upd (fun _ => 0) 0 16384)), (q_27, .inr (0, [.ref u_29_1, .ref u_29_2, .int 0])), (u_29_1, fs_ai X 32 (fun _ => 0)), (u_29_2, fs_ai X 32 (fun _ => 0)), (q_31, .inr (3, [.long 0, .long 0, .long 0]))]) rfl dX4_init_68 (fun H locs hH => ?_)
            exact fs_vret C (hH.sub [0, 1, 2, 3, 4, 5, 6, 7, 8, 9, 10, 11, 12, 13, 14, 15, 16] (by decide) rfl) (q_1, u_3_1, u_3_2, q_5, q_7, u_9, q_12, u_14, q_17, u_19, q_22, u_24, q_27, u_29_1, u_29_2, q_31) rfl trivial dX4_init_71
          · exact absurd c_26 (by decide)
end
section
set_option maxHeartbeats 4000000 in
set_option maxRecDepth 100000 in
theorem c_L_work (l : Launch) (X : fs_X) (sz : Nat) (h0 : Nat) (nt : Nat) (ns : Nat) (nb : Nat) (nu : Nat) (way : Int32) (a : Int32) (b : Int32) (qo : Nat) (fo : Nat → Int64)  (hl9 : l.stackTraces = false) : fs_ML l X yL_work cL_work 6 (some .int) [(0, 12, 15, 13)] ({ frames := 7, cells := 1, slots := 6, locals := 104 }) [.ref h0, .int way, .int a, .int b, .ref qo] [(h0, .inr (4, [.ref nt, .ref ns, .ref nb, .ref nu])), (qo, fs_al X 1 fo)] sz (fs_Qi X (fun r (u : Bool) => (u = true → r = 0 ∧ ((fs_way way b 31))) ∧ (u = false → r = 1 ∧ ¬ ((fs_way way b 31)))) (fun u => match u with | true => [(h0, .inr (4, [.ref nt, .ref ns, .ref nb, .ref nu])), (qo, fs_al X 1 (vp_updL fo 0 (Int32.toInt64 (fs_sat (fs_reck way (Int32.toInt64 a) (Int32.toInt64 b) 31) 2147483647))))] | false => [(h0, .inr (4, [.ref nt, .ref ns, .ref nb, .ref nu])), (qo, fs_al X 1 fo)])) 1 6 := by
  refine fs_ofL (by decide) (Nat.le_of_ble_eq_true rfl) ?_
  intro p e s m args below meth c A ls C hH hl ht9
  have C : fs_At X A p s m args meth c cL_work 6 (some .int) RL "work" := C
  have hx := C.1
  have hb := C.2.1
  have hown := C.2.2.2.2.1
  have hts := C.2.2.2.2.2.1
  have hl : lv_has ls 6 [(0, .ref h0), (1, .int way), (2, .int a), (3, .int b), (4, .ref qo)] := hl
  have hH : fs_H X A s [(h0, .inr (4, [.ref nt, .ref ns, .ref nb, .ref nu])), (qo, fs_al X 1 fo)] s.heap [] := hH
  refine lv_aload hx hb dL_work_0 (lv_at hl 4 rfl) ?_
  refine lv_iconst (v := 0) hx hb dL_work_2 (by decide) ?_
  refine lv_aload_n hx hb dL_work_3 rfl (lv_at hl 0 rfl) ?_
  refine lv_iload_n hx hb dL_work_4 rfl (lv_at hl 1 rfl) ?_
  refine lv_iload_n hx hb dL_work_5 rfl (lv_at hl 2 rfl) ?_
  refine lv_iload_n hx hb dL_work_6 rfl (lv_at hl 3 rfl) ?_
  refine fs_xci C hH (wr := [(qo, fs_al X 1 fo)]) [0] [1] rfl rfl (by decide) (by decide) (by decide) ⟨0, 12, 15, 13⟩ ht9 (by decide) (by decide) mw_119 (fs_rVX (rest := [.int 0, .ref qo]) (As := [.int way, .int a, .int b]) (n := 3) (q0 := 0) (ci := 4) C hH (wc := [(h0, .inr (4, [.ref nt, .ref ns, .ref nb, .ref nu]))]) [0] (by decide) rfl (c_X4_work l X _ h0 nt ns nb nu way a b  hl9) rfl rfl rfl rfl mw_123 mw_120 mw_121 mw_122 mw_1 (by decide +kernel) ⟨Nat.le_of_ble_eq_true rfl, Nat.le_of_ble_eq_true rfl⟩ rfl hl.1 rfl (Nat.le_of_ble_eq_true rfl) dL_work_7 ⟨Nat.le_of_ble_eq_true rfl, Nat.le_of_ble_eq_true rfl⟩) (fun q9_5 H locs hbad_4 hH => ?_) (fun r_1 u_2 H locs hr_3 hH => ?_)
  · have hH : fs_H X A s [(h0, .inr (4, [.ref nt, .ref ns, .ref nb, .ref nu])), (qo, fs_al X 1 fo)] _ _ := hH.sub [1, 0] (by decide) rfl
    refine lv_astore (lv' := [(5, .ref q9_5), (0, .ref h0), (1, .int way), (2, .int a), (3, .int b), (4, .ref qo)]) hx hb dL_work_15 hl (by decide) rfl (fun ls hl => ?_)
    refine lv_iconst (v := 1) hx hb dL_work_17 (by decide) ?_
    exact fs_iret C hH false rfl (⟨fun h => (by cases h), fun _ => ⟨rfl, hbad_4⟩⟩) dL_work_18
  obtain ⟨hr_3, hok_6⟩ := hr_3
  subst hr_3
  have hH : fs_H X A s [(h0, .inr (4, [.ref nt, .ref ns, .ref nb, .ref nu])), (qo, fs_al X 1 fo)] _ _ := hH.sub [1, 0] (by decide) rfl
  refine lv_i2l hx hb dL_work_10 rfl ?_
  refine fs_last C hH 1 rfl (k := 0) rfl (by decide) (by decide) (ws' := [(h0, .inr (4, [.ref nt, .ref ns, .ref nb, .ref nu])), (qo, fs_al X 1 (vp_updL fo 0 (Int32.toInt64 (fs_sat (fs_reck way (Int32.toInt64 a) (Int32.toInt64 b) 31) 2147483647))))]) rfl dL_work_11 (fun H locs hH => ?_)
  refine lv_goto (tgt := 19) hx hb dL_work_12 (by decide) ?_
  refine lv_iconst (v := 0) hx hb dL_work_19 (by decide) ?_
  exact fs_iret C hH true rfl (⟨fun _ => ⟨rfl, hok_6⟩, fun h => (by cases h)⟩) dL_work_20
set_option maxHeartbeats 4000000 in
set_option maxRecDepth 100000 in
theorem c_L_small (l : Launch) (X : fs_X) (sz : Nat) (h0 : Nat) (nt : Nat) (ns : Nat) (nb : Nat) (nu : Nat) (way : Int32) (a : Int32) (b : Int32) (qo : Nat) (fo : Nat → Int64)  (hl9 : l.stackTraces = false) : fs_ML l X yL_small cL_small 6 (some .int) [(0, 12, 15, 13)] ({ frames := 7, cells := 1, slots := 6, locals := 104 }) [.ref h0, .int way, .int a, .int b, .ref qo] [(h0, .inr (4, [.ref nt, .ref ns, .ref nb, .ref nu])), (qo, fs_al X 1 fo)] sz (fs_Qi X (fun r (u : Bool) => (u = true → r = 0 ∧ ((fs_way way b 15 ∧ fs_short a ∧ (¬ 2 < way → fs_short b)))) ∧ (u = false → r = 1 ∧ ¬ ((fs_way way b 15 ∧ fs_short a ∧ (¬ 2 < way → fs_short b))))) (fun u => match u with | true => [(h0, .inr (4, [.ref nt, .ref ns, .ref nb, .ref nu])), (qo, fs_al X 1 (vp_updL fo 0 (Int32.toInt64 (fs_sat (fs_reck way (Int32.toInt64 a) (Int32.toInt64 b) 15) 32767))))] | false => [(h0, .inr (4, [.ref nt, .ref ns, .ref nb, .ref nu])), (qo, fs_al X 1 fo)])) 1 6 := by
  refine fs_ofL (by decide) (Nat.le_of_ble_eq_true rfl) ?_
  intro p e s m args below meth c A ls C hH hl ht9
  have C : fs_At X A p s m args meth c cL_small 6 (some .int) RL "small" := C
  have hx := C.1
  have hb := C.2.1
  have hown := C.2.2.2.2.1
  have hts := C.2.2.2.2.2.1
  have hl : lv_has ls 6 [(0, .ref h0), (1, .int way), (2, .int a), (3, .int b), (4, .ref qo)] := hl
  have hH : fs_H X A s [(h0, .inr (4, [.ref nt, .ref ns, .ref nb, .ref nu])), (qo, fs_al X 1 fo)] s.heap [] := hH
  refine lv_aload hx hb dL_small_0 (lv_at hl 4 rfl) ?_
  refine lv_iconst (v := 0) hx hb dL_small_2 (by decide) ?_
  refine lv_aload_n hx hb dL_small_3 rfl (lv_at hl 0 rfl) ?_
  refine lv_iload_n hx hb dL_small_4 rfl (lv_at hl 1 rfl) ?_
  refine lv_iload_n hx hb dL_small_5 rfl (lv_at hl 2 rfl) ?_
  refine lv_iload_n hx hb dL_small_6 rfl (lv_at hl 3 rfl) ?_
  refine fs_xci C hH (wr := [(qo, fs_al X 1 fo)]) [0] [1] rfl rfl (by decide) (by decide) (by decide) ⟨0, 12, 15, 13⟩ ht9 (by decide) (by decide) mw_119 (fs_rVX (rest := [.int 0, .ref qo]) (As := [.int way, .int a, .int b]) (n := 3) (q0 := 0) (ci := 4) C hH (wc := [(h0, .inr (4, [.ref nt, .ref ns, .ref nb, .ref nu]))]) [0] (by decide) rfl (c_X4_small l X _ h0 nt ns nb nu way a b  hl9) rfl rfl rfl rfl mw_184 mw_181 mw_182 mw_183 mw_1 (by decide +kernel) ⟨Nat.le_of_ble_eq_true rfl, Nat.le_of_ble_eq_true rfl⟩ rfl hl.1 rfl (Nat.le_of_ble_eq_true rfl) dL_small_7 ⟨Nat.le_of_ble_eq_true rfl, Nat.le_of_ble_eq_true rfl⟩) (fun q9_5 H locs hbad_4 hH => ?_) (fun r_1 u_2 H locs hr_3 hH => ?_)
  · have hH : fs_H X A s [(h0, .inr (4, [.ref nt, .ref ns, .ref nb, .ref nu])), (qo, fs_al X 1 fo)] _ _ := hH.sub [1, 0] (by decide) rfl
    refine lv_astore (lv' := [(5, .ref q9_5), (0, .ref h0), (1, .int way), (2, .int a), (3, .int b), (4, .ref qo)]) hx hb dL_small_15 hl (by decide) rfl (fun ls hl => ?_)
    refine lv_iconst (v := 1) hx hb dL_small_17 (by decide) ?_
    exact fs_iret C hH false rfl (⟨fun h => (by cases h), fun _ => ⟨rfl, hbad_4⟩⟩) dL_small_18
  obtain ⟨hr_3, hok_6⟩ := hr_3
  subst hr_3
  have hH : fs_H X A s [(h0, .inr (4, [.ref nt, .ref ns, .ref nb, .ref nu])), (qo, fs_al X 1 fo)] _ _ := hH.sub [1, 0] (by decide) rfl
  refine lv_i2l hx hb dL_small_10 rfl ?_
  refine fs_last C hH 1 rfl (k := 0) rfl (by decide) (by decide) (ws' := [(h0, .inr (4, [.ref nt, .ref ns, .ref nb, .ref nu])), (qo, fs_al X 1 (vp_updL fo 0 (Int32.toInt64 (fs_sat (fs_reck way (Int32.toInt64 a) (Int32.toInt64 b) 15) 32767))))]) rfl dL_small_11 (fun H locs hH => ?_)
  refine lv_goto (tgt := 19) hx hb dL_small_12 (by decide) ?_
  refine lv_iconst (v := 0) hx hb dL_small_19 (by decide) ?_
  exact fs_iret C hH true rfl (⟨fun _ => ⟨rfl, hok_6⟩, fun h => (by cases h)⟩) dL_small_20
set_option maxHeartbeats 4000000 in
set_option maxRecDepth 100000 in
theorem c_L_filter (l : Launch) (X : fs_X) (sz : Nat) (h0 : Nat) (nt : Nat) (ns : Nat) (nb : Nat) (nu : Nat) (q1 : Nat) (q2 : Nat) (ff : Nat → Int32) (gg : Nat → Int32) (x : Int32) (qo : Nat) (fo : Nat → Int64)  (hl9 : l.stackTraces = false) : fs_ML l X yL_filter cL_filter 4 (some .int) [(0, 9, 12, 13)] ({ frames := 7, cells := 1, slots := 6, locals := 102 }) [.ref h0, .int x, .ref qo] [(h0, .inr (4, [.ref nt, .ref ns, .ref nb, .ref nu])), (nt, .inr (2, [.ref q1, .ref q2])), (q1, fs_ai X 16 ff), (q2, fs_ai X 16 gg), (qo, fs_al X 1 fo)] sz (fs_Qi X (fun r (u : Bool) => (u = true → r = 0 ∧ ((fs_short x))) ∧ (u = false → r = 1 ∧ ¬ ((fs_short x)))) (fun u => match u with | true => [(h0, .inr (4, [.ref nt, .ref ns, .ref nb, .ref nu])), (nt, .inr (2, [.ref q1, .ref q2])), (q1, fs_ai X 16 ff), (q2, fs_ai X 16 (fs_shift gg x)), (qo, fs_al X 1 (vp_updL fo 0 (Int32.toInt64 (fs_sat (fs_rd (fs_dot ff (fs_shift gg x) 16) 15) 32767))))] | false => [(h0, .inr (4, [.ref nt, .ref ns, .ref nb, .ref nu])), (nt, .inr (2, [.ref q1, .ref q2])), (q1, fs_ai X 16 ff), (q2, fs_ai X 16 gg), (qo, fs_al X 1 fo)])) 1 6 := by
  refine fs_ofL (by decide) (Nat.le_of_ble_eq_true rfl) ?_
  intro p e s m args below meth c A ls C hH hl ht9
  have C : fs_At X A p s m args meth c cL_filter 4 (some .int) RL "filter" := C
  have hx := C.1
  have hb := C.2.1
  have hown := C.2.2.2.2.1
  have hts := C.2.2.2.2.2.1
  have hl : lv_has ls 4 [(0, .ref h0), (1, .int x), (2, .ref qo)] := hl
  have hH : fs_H X A s [(h0, .inr (4, [.ref nt, .ref ns, .ref nb, .ref nu])), (nt, .inr (2, [.ref q1, .ref q2])), (q1, fs_ai X 16 ff), (q2, fs_ai X 16 gg), (qo, fs_al X 1 fo)] s.heap [] := hH
  refine lv_aload_n hx hb dL_filter_0 rfl (lv_at hl 2 rfl) ?_
  refine lv_iconst (v := 0) hx hb dL_filter_1 (by decide) ?_
  refine lv_aload_n hx hb dL_filter_2 rfl (lv_at hl 0 rfl) ?_
  refine lv_iload_n hx hb dL_filter_3 rfl (lv_at hl 1 rfl) ?_
  refine fs_xci C hH (wr := [(qo, fs_al X 1 fo)]) [0, 1, 2, 3] [4] rfl rfl (by decide) (by decide) (by decide) ⟨0, 9, 12, 13⟩ ht9 (by decide) (by decide) mw_119 (fs_rVX (rest := [.int 0, .ref qo]) (As := [.int x]) (n := 1) (q0 := 0) (ci := 4) C hH (wc := [(h0, .inr (4, [.ref nt, .ref ns, .ref nb, .ref nu])), (nt, .inr (2, [.ref q1, .ref q2])), (q1, fs_ai X 16 ff), (q2, fs_ai X 16 gg)]) [0, 1, 2, 3] (by decide) rfl (c_X4_filter l X _ h0 nt ns nb nu q1 q2 ff gg x  hl9) rfl rfl rfl rfl mw_204 mw_201 mw_202 mw_203 mw_1 (by decide +kernel) ⟨Nat.le_of_ble_eq_true rfl, Nat.le_of_ble_eq_true rfl⟩ rfl hl.1 rfl (Nat.le_of_ble_eq_true rfl) dL_filter_4 ⟨Nat.le_of_ble_eq_true rfl, Nat.le_of_ble_eq_true rfl⟩) (fun q9_5 H locs hbad_4 hH => ?_) (fun r_1 u_2 H locs hr_3 hH => ?_)
  · have hH : fs_H X A s [(h0, .inr (4, [.ref nt, .ref ns, .ref nb, .ref nu])), (nt, .inr (2, [.ref q1, .ref q2])), (q1, fs_ai X 16 ff), (q2, fs_ai X 16 gg), (qo, fs_al X 1 fo)] _ _ := hH.sub [1, 2, 3, 4, 0] (by decide) rfl
    refine lv_astore_n (lv' := [(3, .ref q9_5), (0, .ref h0), (1, .int x), (2, .ref qo)]) hx hb dL_filter_12 rfl hl (by decide) rfl (fun ls hl => ?_)
    refine lv_iconst (v := 1) hx hb dL_filter_13 (by decide) ?_
    exact fs_iret C hH false rfl (⟨fun h => (by cases h), fun _ => ⟨rfl, hbad_4⟩⟩) dL_filter_14
  obtain ⟨hr_3, hok_6⟩ := hr_3
  subst hr_3
  have hH : fs_H X A s [(h0, .inr (4, [.ref nt, .ref ns, .ref nb, .ref nu])), (nt, .inr (2, [.ref q1, .ref q2])), (q1, fs_ai X 16 ff), (q2, fs_ai X 16 (fs_shift gg x)), (qo, fs_al X 1 fo)] _ _ := hH.sub [1, 2, 3, 4, 0] (by decide) rfl
  refine lv_i2l hx hb dL_filter_7 rfl ?_
  refine fs_last C hH 4 rfl (k := 0) rfl (by decide) (by decide) (ws' := [(h0, .inr (4, [.ref nt, .ref ns, .ref nb, .ref nu])), (nt, .inr (2, [.ref q1, .ref q2])), (q1, fs_ai X 16 ff), (q2, fs_ai X 16 (fs_shift gg x)), (qo, fs_al X 1 (vp_updL fo 0 (Int32.toInt64 (fs_sat (fs_rd (fs_dot ff (fs_shift gg x) 16) 15) 32767))))]) rfl dL_filter_8 (fun H locs hH => ?_)
  refine lv_goto (tgt := 15) hx hb dL_filter_9 (by decide) ?_
  refine lv_iconst (v := 0) hx hb dL_filter_15 (by decide) ?_
  exact fs_iret C hH true rfl (⟨fun _ => ⟨rfl, hok_6⟩, fun h => (by cases h)⟩) dL_filter_16
set_option maxHeartbeats 4000000 in
set_option maxRecDepth 100000 in
theorem c_L_chain (l : Launch) (X : fs_X) (sz : Nat) (h0 : Nat) (nt : Nat) (ns : Nat) (nb : Nat) (nu : Nat) (s0 : Nat) (k0 : Nat) (f0 : Nat → Int32) (a0 : Int32) (b0 : Int32) (c0 : Int32) (d0 : Int32) (s1 : Nat) (k1 : Nat) (f1 : Nat → Int32) (a1 : Int32) (b1 : Int32) (c1 : Int32) (d1 : Int32) (s2 : Nat) (k2 : Nat) (f2 : Nat → Int32) (a2 : Int32) (b2 : Int32) (c2 : Int32) (d2 : Int32) (s3 : Nat) (k3 : Nat) (f3 : Nat → Int32) (a3 : Int32) (b3 : Int32) (c3 : Int32) (d3 : Int32) (x : Int32) (qo : Nat) (fo : Nat → Int64)  (hl9 : l.stackTraces = false) : fs_ML l X yL_chain cL_chain 4 (some .int) [(0, 9, 12, 13)] ({ frames := 7, cells := 1, slots := 6, locals := 104 }) [.ref h0, .int x, .ref qo] [(h0, .inr (4, [.ref nt, .ref ns, .ref nb, .ref nu])), (ns, fs_aq X 4 (fs_sts s0 s1 s2 s3)), (s0, .inr (1, [.ref k0, .int a0, .int b0, .int c0, .int d0])), (k0, fs_ai X 5 f0), (s1, .inr (1, [.ref k1, .int a1, .int b1, .int c1, .int d1])), (k1, fs_ai X 5 f1), (s2, .inr (1, [.ref k2, .int a2, .int b2, .int c2, .int d2])), (k2, fs_ai X 5 f2), (s3, .inr (1, [.ref k3, .int a3, .int b3, .int c3, .int d3])), (k3, fs_ai X 5 f3), (qo, fs_al X 1 fo)] sz (fs_Qi X (fun r (u : Bool) => (u = true → r = 0 ∧ ((fs_short x))) ∧ (u = false → r = 1 ∧ ¬ ((fs_short x)))) (fun u => match u with | true => [(h0, .inr (4, [.ref nt, .ref ns, .ref nb, .ref nu])), (ns, fs_aq X 4 (fs_sts s0 s1 s2 s3)), (s0, .inr (1, [.ref k0, .int x, .int a0, .int (fs_st f0 a0 b0 c0 d0 x), .int c0])), (k0, fs_ai X 5 f0), (s1, .inr (1, [.ref k1, .int (fs_st f0 a0 b0 c0 d0 x), .int a1, .int (fs_st f1 a1 b1 c1 d1 (fs_st f0 a0 b0 c0 d0 x)), .int c1])), (k1, fs_ai X 5 f1), (s2, .inr (1, [.ref k2, .int (fs_st f1 a1 b1 c1 d1 (fs_st f0 a0 b0 c0 d0 x)), .int a2, .int (fs_st f2 a2 b2 c2 d2 (fs_st f1 a1 b1 c1 d1 (fs_st f0 a0 b0 c0 d0 x))), .int c2])), (k2, fs_ai X 5 f2), (s3, .inr (1, [.ref k3, .int (fs_st f2 a2 b2 c2 d2 (fs_st f1 a1 b1 c1 d1 (fs_st f0 a0 b0 c0 d0 x))), .int a3, .int (fs_st f3 a3 b3 c3 d3 (fs_st f2 a2 b2 c2 d2 (fs_st f1 a1 b1 c1 d1 (fs_st f0 a0 b0 c0 d0 x)))), .int c3])), (k3, fs_ai X 5 f3), (qo, fs_al X 1 (vp_updL fo 0 (Int32.toInt64 (fs_st f3 a3 b3 c3 d3 (fs_st f2 a2 b2 c2 d2 (fs_st f1 a1 b1 c1 d1 (fs_st f0 a0 b0 c0 d0 x)))))))] | false => [(h0, .inr (4, [.ref nt, .ref ns, .ref nb, .ref nu])), (ns, fs_aq X 4 (fs_sts s0 s1 s2 s3)), (s0, .inr (1, [.ref k0, .int a0, .int b0, .int c0, .int d0])), (k0, fs_ai X 5 f0), (s1, .inr (1, [.ref k1, .int a1, .int b1, .int c1, .int d1])), (k1, fs_ai X 5 f1), (s2, .inr (1, [.ref k2, .int a2, .int b2, .int c2, .int d2])), (k2, fs_ai X 5 f2), (s3, .inr (1, [.ref k3, .int a3, .int b3, .int c3, .int d3])), (k3, fs_ai X 5 f3), (qo, fs_al X 1 fo)])) 1 6 := by
  refine fs_ofL (by decide) (Nat.le_of_ble_eq_true rfl) ?_
  intro p e s m args below meth c A ls C hH hl ht9
  have C : fs_At X A p s m args meth c cL_chain 4 (some .int) RL "chain" := C
  have hx := C.1
  have hb := C.2.1
  have hown := C.2.2.2.2.1
  have hts := C.2.2.2.2.2.1
  have hl : lv_has ls 4 [(0, .ref h0), (1, .int x), (2, .ref qo)] := hl
  have hH : fs_H X A s [(h0, .inr (4, [.ref nt, .ref ns, .ref nb, .ref nu])), (ns, fs_aq X 4 (fs_sts s0 s1 s2 s3)), (s0, .inr (1, [.ref k0, .int a0, .int b0, .int c0, .int d0])), (k0, fs_ai X 5 f0), (s1, .inr (1, [.ref k1, .int a1, .int b1, .int c1, .int d1])), (k1, fs_ai X 5 f1), (s2, .inr (1, [.ref k2, .int a2, .int b2, .int c2, .int d2])), (k2, fs_ai X 5 f2), (s3, .inr (1, [.ref k3, .int a3, .int b3, .int c3, .int d3])), (k3, fs_ai X 5 f3), (qo, fs_al X 1 fo)] s.heap [] := hH
  refine lv_aload_n hx hb dL_chain_0 rfl (lv_at hl 2 rfl) ?_
  refine lv_iconst (v := 0) hx hb dL_chain_1 (by decide) ?_
  refine lv_aload_n hx hb dL_chain_2 rfl (lv_at hl 0 rfl) ?_
  refine lv_iload_n hx hb dL_chain_3 rfl (lv_at hl 1 rfl) ?_
  refine fs_xci C hH (wr := [(qo, fs_al X 1 fo)]) [0, 1, 2, 3, 4, 5, 6, 7, 8, 9] [10] rfl rfl (by decide) (by decide) (by decide) ⟨0, 9, 12, 13⟩ ht9 (by decide) (by decide) mw_119 (fs_rVX (rest := [.int 0, .ref qo]) (As := [.int x]) (n := 1) (q0 := 0) (ci := 4) C hH (wc := [(h0, .inr (4, [.ref nt, .ref ns, .ref nb, .ref nu])), (ns, fs_aq X 4 (fs_sts s0 s1 s2 s3)), (s0, .inr (1, [.ref k0, .int a0, .int b0, .int c0, .int d0])), (k0, fs_ai X 5 f0), (s1, .inr (1, [.ref k1, .int a1, .int b1, .int c1, .int d1])), (k1, fs_ai X 5 f1), (s2, .inr (1, [.ref k2, .int a2, .int b2, .int c2, .int d2])), (k2, fs_ai X 5 f2), (s3, .inr (1, [.ref k3, .int a3, .int b3, .int c3, .int d3])), (k3, fs_ai X 5 f3)]) [0, 1, 2, 3, 4, 5, 6, 7, 8, 9] (by decide) rfl (c_X4_chain l X _ h0 nt ns nb nu s0 k0 f0 a0 b0 c0 d0 s1 k1 f1 a1 b1 c1 d1 s2 k2 f2 a2 b2 c2 d2 s3 k3 f3 a3 b3 c3 d3 x  hl9) rfl rfl rfl rfl mw_223 mw_220 mw_221 mw_222 mw_1 (by decide +kernel) ⟨Nat.le_of_ble_eq_true rfl, Nat.le_of_ble_eq_true rfl⟩ rfl hl.1 rfl (Nat.le_of_ble_eq_true rfl) dL_chain_4 ⟨Nat.le_of_ble_eq_true rfl, Nat.le_of_ble_eq_true rfl⟩) (fun q9_5 H locs hbad_4 hH => ?_) (fun r_1 u_2 H locs hr_3 hH => ?_)
  · have hH : fs_H X A s [(h0, .inr (4, [.ref nt, .ref ns, .ref nb, .ref nu])), (ns, fs_aq X 4 (fs_sts s0 s1 s2 s3)), (s0, .inr (1, [.ref k0, .int a0, .int b0, .int c0, .int d0])), (k0, fs_ai X 5 f0), (s1, .inr (1, [.ref k1, .int a1, .int b1, .int c1, .int d1])), (k1, fs_ai X 5 f1), (s2, .inr (1, [.ref k2, .int a2, .int b2, .int c2, .int d2])), (k2, fs_ai X 5 f2), (s3, .inr (1, [.ref k3, .int a3, .int b3, .int c3, .int d3])), (k3, fs_ai X 5 f3), (qo, fs_al X 1 fo)] _ _ := hH.sub [1, 2, 3, 4, 5, 6, 7, 8, 9, 10, 0] (by decide) rfl
    refine lv_astore_n (lv' := [(3, .ref q9_5), (0, .ref h0), (1, .int x), (2, .ref qo)]) hx hb dL_chain_12 rfl hl (by decide) rfl (fun ls hl => ?_)
    refine lv_iconst (v := 1) hx hb dL_chain_13 (by decide) ?_
    exact fs_iret C hH false rfl (⟨fun h => (by cases h), fun _ => ⟨rfl, hbad_4⟩⟩) dL_chain_14
  obtain ⟨hr_3, hok_6⟩ := hr_3
  subst hr_3
  have hH : fs_H X A s [(h0, .inr (4, [.ref nt, .ref ns, .ref nb, .ref nu])), (ns, fs_aq X 4 (fs_sts s0 s1 s2 s3)), (s0, .inr (1, [.ref k0, .int x, .int a0, .int (fs_st f0 a0 b0 c0 d0 x), .int c0])), (k0, fs_ai X 5 f0), (s1, .inr (1, [.ref k1, .int (fs_st f0 a0 b0 c0 d0 x), .int a1, .int (fs_st f1 a1 b1 c1 d1 (fs_st f0 a0 b0 c0 d0 x)), .int c1])), (k1, fs_ai X 5 f1), (s2, .inr (1, [.ref k2, .int (fs_st f1 a1 b1 c1 d1 (fs_st f0 a0 b0 c0 d0 x)), .int a2, .int (fs_st f2 a2 b2 c2 d2 (fs_st f1 a1 b1 c1 d1 (fs_st f0 a0 b0 c0 d0 x))), .int c2])), (k2, fs_ai X 5 f2), (s3, .inr (1, [.ref k3, .int (fs_st f2 a2 b2 c2 d2 (fs_st f1 a1 b1 c1 d1 (fs_st f0 a0 b0 c0 d0 x))), .int a3, .int (fs_st f3 a3 b3 c3 d3 (fs_st f2 a2 b2 c2 d2 (fs_st f1 a1 b1 c1 d1 (fs_st f0 a0 b0 c0 d0 x)))), .int c3])), (k3, fs_ai X 5 f3), (qo, fs_al X 1 fo)] _ _ := hH.sub [1, 2, 3, 4, 5, 6, 7, 8, 9, 10, 0] (by decide) rfl
  refine lv_i2l hx hb dL_chain_7 rfl ?_
  refine fs_last C hH 10 rfl (k := 0) rfl (by decide) (by decide) (ws' := [(h0, .inr (4, [.ref nt, .ref ns, .ref nb, .ref nu])), (ns, fs_aq X 4 (fs_sts s0 s1 s2 s3)), (s0, .inr (1, [.ref k0, .int x, .int a0, .int (fs_st f0 a0 b0 c0 d0 x), .int c0])), (k0, fs_ai X 5 f0), (s1, .inr (1, [.ref k1, .int (fs_st f0 a0 b0 c0 d0 x), .int a1, .int (fs_st f1 a1 b1 c1 d1 (fs_st f0 a0 b0 c0 d0 x)), .int c1])), (k1, fs_ai X 5 f1), (s2, .inr (1, [.ref k2, .int (fs_st f1 a1 b1 c1 d1 (fs_st f0 a0 b0 c0 d0 x)), .int a2, .int (fs_st f2 a2 b2 c2 d2 (fs_st f1 a1 b1 c1 d1 (fs_st f0 a0 b0 c0 d0 x))), .int c2])), (k2, fs_ai X 5 f2), (s3, .inr (1, [.ref k3, .int (fs_st f2 a2 b2 c2 d2 (fs_st f1 a1 b1 c1 d1 (fs_st f0 a0 b0 c0 d0 x))), .int a3, .int (fs_st f3 a3 b3 c3 d3 (fs_st f2 a2 b2 c2 d2 (fs_st f1 a1 b1 c1 d1 (fs_st f0 a0 b0 c0 d0 x)))), .int c3])), (k3, fs_ai X 5 f3), (qo, fs_al X 1 (vp_updL fo 0 (Int32.toInt64 (fs_st f3 a3 b3 c3 d3 (fs_st f2 a2 b2 c2 d2 (fs_st f1 a1 b1 c1 d1 (fs_st f0 a0 b0 c0 d0 x)))))))]) rfl dL_chain_8 (fun H locs hH => ?_)
  refine lv_goto (tgt := 15) hx hb dL_chain_9 (by decide) ?_
  refine lv_iconst (v := 0) hx hb dL_chain_15 (by decide) ?_
  exact fs_iret C hH true rfl (⟨fun _ => ⟨rfl, hok_6⟩, fun h => (by cases h)⟩) dL_chain_16
set_option maxHeartbeats 4000000 in
set_option maxRecDepth 100000 in
theorem c_L_transform (l : Launch) (X : fs_X) (sz : Nat) (h0 : Nat) (nt : Nat) (ns : Nat) (nb : Nat) (nu : Nat) (qr : Nat) (qi : Nat) (S : fs_K) (m0 : Int32) (back : Int32) (qo : Nat) (fo : Nat → Int64)  (hl9 : l.stackTraces = false) : fs_ML l X yL_transform cL_transform 5 (some .int) [(0, 10, 13, 13)] ({ frames := 7, cells := 1, slots := 6, locals := 122 }) [.ref h0, .int m0, .int back, .ref qo] [(h0, .inr (4, [.ref nt, .ref ns, .ref nb, .ref nu])), (nb, .inr (0, [.ref qr, .ref qi, .int S.2.2])), (qr, fs_ai X 32 S.1), (qi, fs_ai X 32 S.2.1), (qo, fs_al X 1 fo)] sz (fs_Qi X (fun r (u : Bool) => (u = true → r = 0 ∧ ((¬ m0 < 0 ∧ m0 ≤ 5))) ∧ (u = false → r = 1 ∧ ¬ ((¬ m0 < 0 ∧ m0 ≤ 5)))) (fun u => match u with | true => [(h0, .inr (4, [.ref nt, .ref ns, .ref nb, .ref nu])), (nb, .inr (0, [.ref qr, .ref qi, .int ((fs_tr (Int32.toNatClampNeg m0) back S (Int32.toNatClampNeg m0)).2.2)])), (qr, fs_ai X 32 ((fs_tr (Int32.toNatClampNeg m0) back S (Int32.toNatClampNeg m0)).1)), (qi, fs_ai X 32 ((fs_tr (Int32.toNatClampNeg m0) back S (Int32.toNatClampNeg m0)).2.1)), (qo, fs_al X 1 (vp_updL fo 0 (Int32.toInt64 ((fs_tr (Int32.toNatClampNeg m0) back S (Int32.toNatClampNeg m0)).2.2))))] | false => [(h0, .inr (4, [.ref nt, .ref ns, .ref nb, .ref nu])), (nb, .inr (0, [.ref qr, .ref qi, .int S.2.2])), (qr, fs_ai X 32 S.1), (qi, fs_ai X 32 S.2.1), (qo, fs_al X 1 fo)])) 1 6 := by
  refine fs_ofL (by decide) (Nat.le_of_ble_eq_true rfl) ?_
  intro p e s m args below meth c A ls C hH hl ht9
  have C : fs_At X A p s m args meth c cL_transform 5 (some .int) RL "transform" := C
  have hx := C.1
  have hb := C.2.1
  have hown := C.2.2.2.2.1
  have hts := C.2.2.2.2.2.1
  have hl : lv_has ls 5 [(0, .ref h0), (1, .int m0), (2, .int back), (3, .ref qo)] := hl
  have hH : fs_H X A s [(h0, .inr (4, [.ref nt, .ref ns, .ref nb, .ref nu])), (nb, .inr (0, [.ref qr, .ref qi, .int S.2.2])), (qr, fs_ai X 32 S.1), (qi, fs_ai X 32 S.2.1), (qo, fs_al X 1 fo)] s.heap [] := hH
  refine lv_aload_n hx hb dL_transform_0 rfl (lv_at hl 3 rfl) ?_
  refine lv_iconst (v := 0) hx hb dL_transform_1 (by decide) ?_
  refine lv_aload_n hx hb dL_transform_2 rfl (lv_at hl 0 rfl) ?_
  refine lv_iload_n hx hb dL_transform_3 rfl (lv_at hl 1 rfl) ?_
  refine lv_iload_n hx hb dL_transform_4 rfl (lv_at hl 2 rfl) ?_
  refine fs_xci C hH (wr := [(qo, fs_al X 1 fo)]) [0, 1, 2, 3] [4] rfl rfl (by decide) (by decide) (by decide) ⟨0, 10, 13, 13⟩ ht9 (by decide) (by decide) mw_119 (fs_rVX (rest := [.int 0, .ref qo]) (As := [.int m0, .int back]) (n := 2) (q0 := 0) (ci := 4) C hH (wc := [(h0, .inr (4, [.ref nt, .ref ns, .ref nb, .ref nu])), (nb, .inr (0, [.ref qr, .ref qi, .int S.2.2])), (qr, fs_ai X 32 S.1), (qi, fs_ai X 32 S.2.1)]) [0, 1, 2, 3] (by decide) rfl (c_X4_transform l X _ h0 nt ns nb nu qr qi S m0 back  hl9) rfl rfl rfl rfl mw_239 mw_236 mw_237 mw_238 mw_1 (by decide +kernel) ⟨Nat.le_of_ble_eq_true rfl, Nat.le_of_ble_eq_true rfl⟩ rfl hl.1 rfl (Nat.le_of_ble_eq_true rfl) dL_transform_5 ⟨Nat.le_of_ble_eq_true rfl, Nat.le_of_ble_eq_true rfl⟩) (fun q9_5 H locs hbad_4 hH => ?_) (fun r_1 u_2 H locs hr_3 hH => ?_)
  · have hH : fs_H X A s [(h0, .inr (4, [.ref nt, .ref ns, .ref nb, .ref nu])), (nb, .inr (0, [.ref qr, .ref qi, .int S.2.2])), (qr, fs_ai X 32 S.1), (qi, fs_ai X 32 S.2.1), (qo, fs_al X 1 fo)] _ _ := hH.sub [1, 2, 3, 4, 0] (by decide) rfl
    refine lv_astore (lv' := [(4, .ref q9_5), (0, .ref h0), (1, .int m0), (2, .int back), (3, .ref qo)]) hx hb dL_transform_13 hl (by decide) rfl (fun ls hl => ?_)
    refine lv_iconst (v := 1) hx hb dL_transform_15 (by decide) ?_
    exact fs_iret C hH false rfl (⟨fun h => (by cases h), fun _ => ⟨rfl, hbad_4⟩⟩) dL_transform_16
  obtain ⟨hr_3, hok_6⟩ := hr_3
  subst hr_3
  have hH : fs_H X A s [(h0, .inr (4, [.ref nt, .ref ns, .ref nb, .ref nu])), (nb, .inr (0, [.ref qr, .ref qi, .int ((fs_tr (Int32.toNatClampNeg m0) back S (Int32.toNatClampNeg m0)).2.2)])), (qr, fs_ai X 32 ((fs_tr (Int32.toNatClampNeg m0) back S (Int32.toNatClampNeg m0)).1)), (qi, fs_ai X 32 ((fs_tr (Int32.toNatClampNeg m0) back S (Int32.toNatClampNeg m0)).2.1)), (qo, fs_al X 1 fo)] _ _ := hH.sub [1, 2, 3, 4, 0] (by decide) rfl
  refine lv_i2l hx hb dL_transform_8 rfl ?_
  refine fs_last C hH 4 rfl (k := 0) rfl (by decide) (by decide) (ws' := [(h0, .inr (4, [.ref nt, .ref ns, .ref nb, .ref nu])), (nb, .inr (0, [.ref qr, .ref qi, .int ((fs_tr (Int32.toNatClampNeg m0) back S (Int32.toNatClampNeg m0)).2.2)])), (qr, fs_ai X 32 ((fs_tr (Int32.toNatClampNeg m0) back S (Int32.toNatClampNeg m0)).1)), (qi, fs_ai X 32 ((fs_tr (Int32.toNatClampNeg m0) back S (Int32.toNatClampNeg m0)).2.1)), (qo, fs_al X 1 (vp_updL fo 0 (Int32.toInt64 ((fs_tr (Int32.toNatClampNeg m0) back S (Int32.toNatClampNeg m0)).2.2))))]) rfl dL_transform_9 (fun H locs hH => ?_)
  refine lv_goto (tgt := 17) hx hb dL_transform_10 (by decide) ?_
  refine lv_iconst (v := 0) hx hb dL_transform_17 (by decide) ?_
  exact fs_iret C hH true rfl (⟨fun _ => ⟨rfl, hok_6⟩, fun h => (by cases h)⟩) dL_transform_18
set_option maxHeartbeats 4000000 in
set_option maxRecDepth 100000 in
theorem c_L_get (l : Launch) (X : fs_X) (sz : Nat) (h0 : Nat) (nt : Nat) (ns : Nat) (nb : Nat) (nu : Nat) (qr : Nat) (qi : Nat) (S : fs_K) (p0 : Int32) (sec : Int32) (qo : Nat) (fo : Nat → Int64)  (hl9 : l.stackTraces = false) : fs_ML l X yL_get cL_get 5 (some .int) [(0, 10, 13, 13)] ({ frames := 7, cells := 1, slots := 6, locals := 103 }) [.ref h0, .int p0, .int sec, .ref qo] [(h0, .inr (4, [.ref nt, .ref ns, .ref nb, .ref nu])), (nb, .inr (0, [.ref qr, .ref qi, .int S.2.2])), (qr, fs_ai X 32 S.1), (qi, fs_ai X 32 S.2.1), (qo, fs_al X 1 fo)] sz (fs_Qi X (fun r (u : Bool) => (u = true → r = 0 ∧ ((¬ p0 < 0 ∧ ¬ 32 ≤ p0))) ∧ (u = false → r = 1 ∧ ¬ ((¬ p0 < 0 ∧ ¬ 32 ≤ p0)))) (fun u => match u with | true => [(h0, .inr (4, [.ref nt, .ref ns, .ref nb, .ref nu])), (nb, .inr (0, [.ref qr, .ref qi, .int S.2.2])), (qr, fs_ai X 32 S.1), (qi, fs_ai X 32 S.2.1), (qo, fs_al X 1 (vp_updL fo 0 (Int32.toInt64 (if sec = 0 then S.1 (Int32.toNatClampNeg p0) else S.2.1 (Int32.toNatClampNeg p0)))))] | false => [(h0, .inr (4, [.ref nt, .ref ns, .ref nb, .ref nu])), (nb, .inr (0, [.ref qr, .ref qi, .int S.2.2])), (qr, fs_ai X 32 S.1), (qi, fs_ai X 32 S.2.1), (qo, fs_al X 1 fo)])) 1 6 := by
  refine fs_ofL (by decide) (Nat.le_of_ble_eq_true rfl) ?_
  intro p e s m args below meth c A ls C hH hl ht9
  have C : fs_At X A p s m args meth c cL_get 5 (some .int) RL "get" := C
  have hx := C.1
  have hb := C.2.1
  have hown := C.2.2.2.2.1
  have hts := C.2.2.2.2.2.1
  have hl : lv_has ls 5 [(0, .ref h0), (1, .int p0), (2, .int sec), (3, .ref qo)] := hl
  have hH : fs_H X A s [(h0, .inr (4, [.ref nt, .ref ns, .ref nb, .ref nu])), (nb, .inr (0, [.ref qr, .ref qi, .int S.2.2])), (qr, fs_ai X 32 S.1), (qi, fs_ai X 32 S.2.1), (qo, fs_al X 1 fo)] s.heap [] := hH
  refine lv_aload_n hx hb dL_get_0 rfl (lv_at hl 3 rfl) ?_
  refine lv_iconst (v := 0) hx hb dL_get_1 (by decide) ?_
  refine lv_aload_n hx hb dL_get_2 rfl (lv_at hl 0 rfl) ?_
  refine lv_iload_n hx hb dL_get_3 rfl (lv_at hl 1 rfl) ?_
  refine lv_iload_n hx hb dL_get_4 rfl (lv_at hl 2 rfl) ?_
  refine fs_xci C hH (wr := [(qo, fs_al X 1 fo)]) [0, 1, 2, 3] [4] rfl rfl (by decide) (by decide) (by decide) ⟨0, 10, 13, 13⟩ ht9 (by decide) (by decide) mw_119 (fs_rVX (rest := [.int 0, .ref qo]) (As := [.int p0, .int sec]) (n := 2) (q0 := 0) (ci := 4) C hH (wc := [(h0, .inr (4, [.ref nt, .ref ns, .ref nb, .ref nu])), (nb, .inr (0, [.ref qr, .ref qi, .int S.2.2])), (qr, fs_ai X 32 S.1), (qi, fs_ai X 32 S.2.1)]) [0, 1, 2, 3] (by decide) rfl (c_X4_get l X _ h0 nt ns nb nu qr qi S p0 sec  hl9) rfl rfl rfl rfl mw_274 mw_271 mw_272 mw_273 mw_1 (by decide +kernel) ⟨Nat.le_of_ble_eq_true rfl, Nat.le_of_ble_eq_true rfl⟩ rfl hl.1 rfl (Nat.le_of_ble_eq_true rfl) dL_get_5 ⟨Nat.le_of_ble_eq_true rfl, Nat.le_of_ble_eq_true rfl⟩) (fun q9_5 H locs hbad_4 hH => ?_) (fun r_1 u_2 H locs hr_3 hH => ?_)
  · have hH : fs_H X A s [(h0, .inr (4, [.ref nt, .ref ns, .ref nb, .ref nu])), (nb, .inr (0, [.ref qr, .ref qi, .int S.2.2])), (qr, fs_ai X 32 S.1), (qi, fs_ai X 32 S.2.1), (qo, fs_al X 1 fo)] _ _ := hH.sub [1, 2, 3, 4, 0] (by decide) rfl
    refine lv_astore (lv' := [(4, .ref q9_5), (0, .ref h0), (1, .int p0), (2, .int sec), (3, .ref qo)]) hx hb dL_get_13 hl (by decide) rfl (fun ls hl => ?_)
    refine lv_iconst (v := 1) hx hb dL_get_15 (by decide) ?_
    exact fs_iret C hH false rfl (⟨fun h => (by cases h), fun _ => ⟨rfl, hbad_4⟩⟩) dL_get_16
  obtain ⟨hr_3, hok_6⟩ := hr_3
  subst hr_3
  have hH : fs_H X A s [(h0, .inr (4, [.ref nt, .ref ns, .ref nb, .ref nu])), (nb, .inr (0, [.ref qr, .ref qi, .int S.2.2])), (qr, fs_ai X 32 S.1), (qi, fs_ai X 32 S.2.1), (qo, fs_al X 1 fo)] _ _ := hH.sub [1, 2, 3, 4, 0] (by decide) rfl
  refine lv_i2l hx hb dL_get_8 rfl ?_
  refine fs_last C hH 4 rfl (k := 0) rfl (by decide) (by decide) (ws' := [(h0, .inr (4, [.ref nt, .ref ns, .ref nb, .ref nu])), (nb, .inr (0, [.ref qr, .ref qi, .int S.2.2])), (qr, fs_ai X 32 S.1), (qi, fs_ai X 32 S.2.1), (qo, fs_al X 1 (vp_updL fo 0 (Int32.toInt64 (if sec = 0 then S.1 (Int32.toNatClampNeg p0) else S.2.1 (Int32.toNatClampNeg p0)))))]) rfl dL_get_9 (fun H locs hH => ?_)
  refine lv_goto (tgt := 17) hx hb dL_get_10 (by decide) ?_
  refine lv_iconst (v := 0) hx hb dL_get_17 (by decide) ?_
  exact fs_iret C hH true rfl (⟨fun _ => ⟨rfl, hok_6⟩, fun h => (by cases h)⟩) dL_get_18
set_option maxHeartbeats 4000000 in
set_option maxRecDepth 100000 in
theorem c_L_angle (l : Launch) (X : fs_X) (sz : Nat) (h0 : Nat) (nt : Nat) (ns : Nat) (nb : Nat) (nu : Nat) (t : fs_T) (x : Int32) (y : Int32) (qo : Nat) (fo : Nat → Int64)  (hl9 : l.stackTraces = false) : fs_ML l X yL_angle cL_angle 5 (some .int) [(0, 10, 13, 13)] ({ frames := 7, cells := 1, slots := 6, locals := 103 }) [.ref h0, .int x, .int y, .ref qo] [(h0, .inr (4, [.ref nt, .ref ns, .ref nb, .ref nu])), (nu, .inr (3, [.long t.1, .long t.2.1, .long t.2.2])), (qo, fs_al X 1 fo)] sz (fs_Qi X (fun r (u : Option fs_T) => (∀ w9, u = some w9 → r = 0 ∧ ((fs_near x ∧ fs_near y))) ∧ (u = none → r = 1 ∧ ¬ ((fs_near x ∧ fs_near y)))) (fun u => match u with | some w9 => [(h0, .inr (4, [.ref nt, .ref ns, .ref nb, .ref nu])), (nu, .inr (3, [.long w9.1, .long w9.2.1, .long w9.2.2])), (qo, fs_al X 1 (vp_updL fo 0 (Int32.toInt64 (fs_ang x y))))] | none => [(h0, .inr (4, [.ref nt, .ref ns, .ref nb, .ref nu])), (nu, .inr (3, [.long t.1, .long t.2.1, .long t.2.2])), (qo, fs_al X 1 fo)])) 1 6 := by
  refine fs_ofL (by decide) (Nat.le_of_ble_eq_true rfl) ?_
  intro p e s m args below meth c A ls C hH hl ht9
  have C : fs_At X A p s m args meth c cL_angle 5 (some .int) RL "angle" := C
  have hx := C.1
  have hb := C.2.1
  have hown := C.2.2.2.2.1
  have hts := C.2.2.2.2.2.1
  have hl : lv_has ls 5 [(0, .ref h0), (1, .int x), (2, .int y), (3, .ref qo)] := hl
  have hH : fs_H X A s [(h0, .inr (4, [.ref nt, .ref ns, .ref nb, .ref nu])), (nu, .inr (3, [.long t.1, .long t.2.1, .long t.2.2])), (qo, fs_al X 1 fo)] s.heap [] := hH
  refine lv_aload_n hx hb dL_angle_0 rfl (lv_at hl 3 rfl) ?_
  refine lv_iconst (v := 0) hx hb dL_angle_1 (by decide) ?_
  refine lv_aload_n hx hb dL_angle_2 rfl (lv_at hl 0 rfl) ?_
  refine lv_iload_n hx hb dL_angle_3 rfl (lv_at hl 1 rfl) ?_
  refine lv_iload_n hx hb dL_angle_4 rfl (lv_at hl 2 rfl) ?_
  refine fs_xci C hH (wr := [(qo, fs_al X 1 fo)]) [0, 1] [2] rfl rfl (by decide) (by decide) (by decide) ⟨0, 10, 13, 13⟩ ht9 (by decide) (by decide) mw_119 (fs_rVX (rest := [.int 0, .ref qo]) (As := [.int x, .int y]) (n := 2) (q0 := 0) (ci := 4) C hH (wc := [(h0, .inr (4, [.ref nt, .ref ns, .ref nb, .ref nu])), (nu, .inr (3, [.long t.1, .long t.2.1, .long t.2.2]))]) [0, 1] (by decide) rfl (c_X4_angle l X _ h0 nt ns nb nu t x y  hl9) rfl rfl rfl rfl mw_281 mw_278 mw_279 mw_280 mw_1 (by decide +kernel) ⟨Nat.le_of_ble_eq_true rfl, Nat.le_of_ble_eq_true rfl⟩ rfl hl.1 rfl (Nat.le_of_ble_eq_true rfl) dL_angle_5 ⟨Nat.le_of_ble_eq_true rfl, Nat.le_of_ble_eq_true rfl⟩) (fun q9_5 H locs hbad_4 hH => ?_) (fun r_1 u_2 H locs hr_3 hH => ?_)
  · have hH : fs_H X A s [(h0, .inr (4, [.ref nt, .ref ns, .ref nb, .ref nu])), (nu, .inr (3, [.long t.1, .long t.2.1, .long t.2.2])), (qo, fs_al X 1 fo)] _ _ := hH.sub [1, 2, 0] (by decide) rfl
    refine lv_astore (lv' := [(4, .ref q9_5), (0, .ref h0), (1, .int x), (2, .int y), (3, .ref qo)]) hx hb dL_angle_13 hl (by decide) rfl (fun ls hl => ?_)
    refine lv_iconst (v := 1) hx hb dL_angle_15 (by decide) ?_
    exact fs_iret C hH none rfl (⟨fun _ h => (by cases h), fun _ => ⟨rfl, hbad_4⟩⟩) dL_angle_16
  obtain ⟨hr_3, hok_6⟩ := hr_3
  subst hr_3
  have hH : fs_H X A s [(h0, .inr (4, [.ref nt, .ref ns, .ref nb, .ref nu])), (nu, .inr (3, [.long u_2.1, .long u_2.2.1, .long u_2.2.2])), (qo, fs_al X 1 fo)] _ _ := hH.sub [1, 2, 0] (by decide) rfl
  refine lv_i2l hx hb dL_angle_8 rfl ?_
  refine fs_last C hH 2 rfl (k := 0) rfl (by decide) (by decide) (ws' := [(h0, .inr (4, [.ref nt, .ref ns, .ref nb, .ref nu])), (nu, .inr (3, [.long u_2.1, .long u_2.2.1, .long u_2.2.2])), (qo, fs_al X 1 (vp_updL fo 0 (Int32.toInt64 (fs_ang x y))))]) rfl dL_angle_9 (fun H locs hH => ?_)
  refine lv_goto (tgt := 17) hx hb dL_angle_10 (by decide) ?_
  refine lv_iconst (v := 0) hx hb dL_angle_17 (by decide) ?_
  exact fs_iret C hH (some u_2) rfl (⟨fun _ _ => ⟨rfl, hok_6⟩, fun h => (by cases h)⟩) dL_angle_18
set_option maxHeartbeats 4000000 in
set_option maxRecDepth 100000 in
theorem c_L_length (l : Launch) (X : fs_X) (sz : Nat) (h0 : Nat) (nt : Nat) (ns : Nat) (nb : Nat) (nu : Nat) (t : fs_T) (x : Int32) (y : Int32) (qo : Nat) (fo : Nat → Int64)  (hl9 : l.stackTraces = false) : fs_ML l X yL_length cL_length 5 (some .int) [(0, 10, 13, 13)] ({ frames := 7, cells := 1, slots := 6, locals := 103 }) [.ref h0, .int x, .int y, .ref qo] [(h0, .inr (4, [.ref nt, .ref ns, .ref nb, .ref nu])), (nu, .inr (3, [.long t.1, .long t.2.1, .long t.2.2])), (qo, fs_al X 1 fo)] sz (fs_Qi X (fun r (u : Option fs_T) => (∀ w9, u = some w9 → r = 0 ∧ ((fs_near x ∧ fs_near y))) ∧ (u = none → r = 1 ∧ ¬ ((fs_near x ∧ fs_near y)))) (fun u => match u with | some w9 => [(h0, .inr (4, [.ref nt, .ref ns, .ref nb, .ref nu])), (nu, .inr (3, [.long w9.1, .long w9.2.1, .long w9.2.2])), (qo, fs_al X 1 (vp_updL fo 0 (Int32.toInt64 (fs_len x y))))] | none => [(h0, .inr (4, [.ref nt, .ref ns, .ref nb, .ref nu])), (nu, .inr (3, [.long t.1, .long t.2.1, .long t.2.2])), (qo, fs_al X 1 fo)])) 1 6 := by
  refine fs_ofL (by decide) (Nat.le_of_ble_eq_true rfl) ?_
  intro p e s m args below meth c A ls C hH hl ht9
  have C : fs_At X A p s m args meth c cL_length 5 (some .int) RL "length" := C
  have hx := C.1
  have hb := C.2.1
  have hown := C.2.2.2.2.1
  have hts := C.2.2.2.2.2.1
  have hl : lv_has ls 5 [(0, .ref h0), (1, .int x), (2, .int y), (3, .ref qo)] := hl
  have hH : fs_H X A s [(h0, .inr (4, [.ref nt, .ref ns, .ref nb, .ref nu])), (nu, .inr (3, [.long t.1, .long t.2.1, .long t.2.2])), (qo, fs_al X 1 fo)] s.heap [] := hH
  refine lv_aload_n hx hb dL_length_0 rfl (lv_at hl 3 rfl) ?_
  refine lv_iconst (v := 0) hx hb dL_length_1 (by decide) ?_
  refine lv_aload_n hx hb dL_length_2 rfl (lv_at hl 0 rfl) ?_
  refine lv_iload_n hx hb dL_length_3 rfl (lv_at hl 1 rfl) ?_
  refine lv_iload_n hx hb dL_length_4 rfl (lv_at hl 2 rfl) ?_
  refine fs_xci C hH (wr := [(qo, fs_al X 1 fo)]) [0, 1] [2] rfl rfl (by decide) (by decide) (by decide) ⟨0, 10, 13, 13⟩ ht9 (by decide) (by decide) mw_119 (fs_rVX (rest := [.int 0, .ref qo]) (As := [.int x, .int y]) (n := 2) (q0 := 0) (ci := 4) C hH (wc := [(h0, .inr (4, [.ref nt, .ref ns, .ref nb, .ref nu])), (nu, .inr (3, [.long t.1, .long t.2.1, .long t.2.2]))]) [0, 1] (by decide) rfl (c_X4_length l X _ h0 nt ns nb nu t x y  hl9) rfl rfl rfl rfl mw_299 mw_296 mw_297 mw_298 mw_1 (by decide +kernel) ⟨Nat.le_of_ble_eq_true rfl, Nat.le_of_ble_eq_true rfl⟩ rfl hl.1 rfl (Nat.le_of_ble_eq_true rfl) dL_length_5 ⟨Nat.le_of_ble_eq_true rfl, Nat.le_of_ble_eq_true rfl⟩) (fun q9_5 H locs hbad_4 hH => ?_) (fun r_1 u_2 H locs hr_3 hH => ?_)
  · have hH : fs_H X A s [(h0, .inr (4, [.ref nt, .ref ns, .ref nb, .ref nu])), (nu, .inr (3, [.long t.1, .long t.2.1, .long t.2.2])), (qo, fs_al X 1 fo)] _ _ := hH.sub [1, 2, 0] (by decide) rfl
    refine lv_astore (lv' := [(4, .ref q9_5), (0, .ref h0), (1, .int x), (2, .int y), (3, .ref qo)]) hx hb dL_length_13 hl (by decide) rfl (fun ls hl => ?_)
    refine lv_iconst (v := 1) hx hb dL_length_15 (by decide) ?_
    exact fs_iret C hH none rfl (⟨fun _ h => (by cases h), fun _ => ⟨rfl, hbad_4⟩⟩) dL_length_16
  obtain ⟨hr_3, hok_6⟩ := hr_3
  subst hr_3
  have hH : fs_H X A s [(h0, .inr (4, [.ref nt, .ref ns, .ref nb, .ref nu])), (nu, .inr (3, [.long u_2.1, .long u_2.2.1, .long u_2.2.2])), (qo, fs_al X 1 fo)] _ _ := hH.sub [1, 2, 0] (by decide) rfl
  refine lv_i2l hx hb dL_length_8 rfl ?_
  refine fs_last C hH 2 rfl (k := 0) rfl (by decide) (by decide) (ws' := [(h0, .inr (4, [.ref nt, .ref ns, .ref nb, .ref nu])), (nu, .inr (3, [.long u_2.1, .long u_2.2.1, .long u_2.2.2])), (qo, fs_al X 1 (vp_updL fo 0 (Int32.toInt64 (fs_len x y))))]) rfl dL_length_9 (fun H locs hH => ?_)
  refine lv_goto (tgt := 17) hx hb dL_length_10 (by decide) ?_
  refine lv_iconst (v := 0) hx hb dL_length_17 (by decide) ?_
  exact fs_iret C hH (some u_2) rfl (⟨fun _ _ => ⟨rfl, hok_6⟩, fun h => (by cases h)⟩) dL_length_18
set_option maxHeartbeats 4000000 in
set_option maxRecDepth 100000 in
theorem c_L_tap (l : Launch) (X : fs_X) (sz : Nat) (h0 : Nat) (nt : Nat) (ns : Nat) (nb : Nat) (nu : Nat) (q1 : Nat) (q2 : Nat) (ff : Nat → Int32) (k : Int32) (v : Int32)  (hl9 : l.stackTraces = false) : fs_ML l X yL_tap cL_tap 4 (some .int) [(0, 6, 9, 13)] ({ frames := 7, cells := 1, slots := 6, locals := 103 }) [.ref h0, .int k, .int v] [(h0, .inr (4, [.ref nt, .ref ns, .ref nb, .ref nu])), (nt, .inr (2, [.ref q1, .ref q2])), (q1, fs_ai X 16 ff)] sz (fs_Qi X (fun r (u : Bool) => (u = true → r = 0 ∧ (((¬ k < 0 ∧ ¬ 16 ≤ k) ∧ fs_short v))) ∧ (u = false → r = 1 ∧ ¬ (((¬ k < 0 ∧ ¬ 16 ≤ k) ∧ fs_short v)))) (fun u => match u with | true => [(h0, .inr (4, [.ref nt, .ref ns, .ref nb, .ref nu])), (nt, .inr (2, [.ref q1, .ref q2])), (q1, fs_ai X 16 (upd ff (Int32.toNatClampNeg k) v))] | false => [(h0, .inr (4, [.ref nt, .ref ns, .ref nb, .ref nu])), (nt, .inr (2, [.ref q1, .ref q2])), (q1, fs_ai X 16 ff)])) 1 6 := by
  refine fs_ofL (by decide) (Nat.le_of_ble_eq_true rfl) ?_
  intro p e s m args below meth c A ls C hH hl ht9
  have C : fs_At X A p s m args meth c cL_tap 4 (some .int) RL "tap" := C
  have hx := C.1
  have hb := C.2.1
  have hown := C.2.2.2.2.1
  have hts := C.2.2.2.2.2.1
  have hl : lv_has ls 4 [(0, .ref h0), (1, .int k), (2, .int v)] := hl
  have hH : fs_H X A s [(h0, .inr (4, [.ref nt, .ref ns, .ref nb, .ref nu])), (nt, .inr (2, [.ref q1, .ref q2])), (q1, fs_ai X 16 ff)] s.heap [] := hH
  refine lv_aload_n hx hb dL_tap_0 rfl (lv_at hl 0 rfl) ?_
  refine lv_iload_n hx hb dL_tap_1 rfl (lv_at hl 1 rfl) ?_
  refine lv_iload_n hx hb dL_tap_2 rfl (lv_at hl 2 rfl) ?_
  refine fs_xcv C hH (wr := []) [0, 1, 2] [] rfl rfl (by decide) (by decide) (by decide) ⟨0, 6, 9, 13⟩ ht9 (by decide) (by decide) mw_119 (fs_rVX (rest := []) (As := [.int k, .int v]) (n := 2) (q0 := 0) (ci := 4) C hH (wc := [(h0, .inr (4, [.ref nt, .ref ns, .ref nb, .ref nu])), (nt, .inr (2, [.ref q1, .ref q2])), (q1, fs_ai X 16 ff)]) [0, 1, 2] (by decide) rfl (c_X4_tap l X _ h0 nt ns nb nu q1 q2 ff k v  hl9) rfl rfl rfl rfl mw_194 mw_191 mw_192 mw_193 mw_1 (by decide +kernel) ⟨Nat.le_of_ble_eq_true rfl, Nat.le_of_ble_eq_true rfl⟩ rfl hl.1 rfl (Nat.le_of_ble_eq_true rfl) dL_tap_3 ⟨Nat.le_of_ble_eq_true rfl, Nat.le_of_ble_eq_true rfl⟩) (fun q9_5 H locs hbad_4 hH => ?_) (fun u_2 H locs hr_3 hH => ?_)
  · have hH : fs_H X A s [(h0, .inr (4, [.ref nt, .ref ns, .ref nb, .ref nu])), (nt, .inr (2, [.ref q1, .ref q2])), (q1, fs_ai X 16 ff)] _ _ := hH.sub [0, 1, 2] (by decide) rfl
    refine lv_astore_n (lv' := [(3, .ref q9_5), (0, .ref h0), (1, .int k), (2, .int v)]) hx hb dL_tap_9 rfl hl (by decide) rfl (fun ls hl => ?_)
    refine lv_iconst (v := 1) hx hb dL_tap_10 (by decide) ?_
    exact fs_iret C hH false rfl (⟨fun h => (by cases h), fun _ => ⟨rfl, hbad_4⟩⟩) dL_tap_11
  have hH : fs_H X A s [(h0, .inr (4, [.ref nt, .ref ns, .ref nb, .ref nu])), (nt, .inr (2, [.ref q1, .ref q2])), (q1, fs_ai X 16 (upd ff (Int32.toNatClampNeg k) v))] _ _ := hH
  refine lv_goto (tgt := 12) hx hb dL_tap_6 (by decide) ?_
  refine lv_iconst (v := 0) hx hb dL_tap_12 (by decide) ?_
  exact fs_iret C hH true rfl (⟨fun _ => ⟨rfl, hr_3⟩, fun h => (by cases h)⟩) dL_tap_13
set_option maxHeartbeats 4000000 in
set_option maxRecDepth 100000 in
theorem c_L_stage (l : Launch) (X : fs_X) (sz : Nat) (h0 : Nat) (nt : Nat) (ns : Nat) (nb : Nat) (nu : Nat) (s0 : Nat) (k0 : Nat) (f0 : Nat → Int32) (a0 : Int32) (b0 : Int32) (c0 : Int32) (d0 : Int32) (s1 : Nat) (k1 : Nat) (f1 : Nat → Int32) (a1 : Int32) (b1 : Int32) (c1 : Int32) (d1 : Int32) (s2 : Nat) (k2 : Nat) (f2 : Nat → Int32) (a2 : Int32) (b2 : Int32) (c2 : Int32) (d2 : Int32) (s3 : Nat) (k3 : Nat) (f3 : Nat → Int32) (a3 : Int32) (b3 : Int32) (c3 : Int32) (d3 : Int32) (a : Int32) (b : Int32) (v : Int32)  (hl9 : l.stackTraces = false) : fs_ML l X yL_stage cL_stage 5 (some .int) [(0, 7, 10, 13)] ({ frames := 7, cells := 1, slots := 6, locals := 104 }) [.ref h0, .int a, .int b, .int v] [(h0, .inr (4, [.ref nt, .ref ns, .ref nb, .ref nu])), (ns, fs_aq X 4 (fs_sts s0 s1 s2 s3)), (s0, .inr (1, [.ref k0, .int a0, .int b0, .int c0, .int d0])), (k0, fs_ai X 5 f0), (s1, .inr (1, [.ref k1, .int a1, .int b1, .int c1, .int d1])), (k1, fs_ai X 5 f1), (s2, .inr (1, [.ref k2, .int a2, .int b2, .int c2, .int d2])), (k2, fs_ai X 5 f2), (s3, .inr (1, [.ref k3, .int a3, .int b3, .int c3, .int d3])), (k3, fs_ai X 5 f3)] sz (fs_Qi X (fun r (u : Bool) => (u = true → r = 0 ∧ (((¬ a < 0 ∧ ¬ 4 ≤ a) ∧ (¬ b < 0 ∧ ¬ 5 ≤ b) ∧ fs_short v))) ∧ (u = false → r = 1 ∧ ¬ (((¬ a < 0 ∧ ¬ 4 ≤ a) ∧ (¬ b < 0 ∧ ¬ 5 ≤ b) ∧ fs_short v)))) (fun u => match u with | true => [(h0, .inr (4, [.ref nt, .ref ns, .ref nb, .ref nu])), (ns, fs_aq X 4 (fs_sts s0 s1 s2 s3)), (s0, .inr (1, [.ref k0, .int a0, .int b0, .int c0, .int d0])), (k0, fs_ai X 5 (fs_cu f0 0 a b v)), (s1, .inr (1, [.ref k1, .int a1, .int b1, .int c1, .int d1])), (k1, fs_ai X 5 (fs_cu f1 1 a b v)), (s2, .inr (1, [.ref k2, .int a2, .int b2, .int c2, .int d2])), (k2, fs_ai X 5 (fs_cu f2 2 a b v)), (s3, .inr (1, [.ref k3, .int a3, .int b3, .int c3, .int d3])), (k3, fs_ai X 5 (fs_cu f3 3 a b v))] | false => [(h0, .inr (4, [.ref nt, .ref ns, .ref nb, .ref nu])), (ns, fs_aq X 4 (fs_sts s0 s1 s2 s3)), (s0, .inr (1, [.ref k0, .int a0, .int b0, .int c0, .int d0])), (k0, fs_ai X 5 f0), (s1, .inr (1, [.ref k1, .int a1, .int b1, .int c1, .int d1])), (k1, fs_ai X 5 f1), (s2, .inr (1, [.ref k2, .int a2, .int b2, .int c2, .int d2])), (k2, fs_ai X 5 f2), (s3, .inr (1, [.ref k3, .int a3, .int b3, .int c3, .int d3])), (k3, fs_ai X 5 f3)])) 1 6 := by
  refine fs_ofL (by decide) (Nat.le_of_ble_eq_true rfl) ?_
  intro p e s m args below meth c A ls C hH hl ht9
  have C : fs_At X A p s m args meth c cL_stage 5 (some .int) RL "stage" := C
  have hx := C.1
  have hb := C.2.1
  have hown := C.2.2.2.2.1
  have hts := C.2.2.2.2.2.1
  have hl : lv_has ls 5 [(0, .ref h0), (1, .int a), (2, .int b), (3, .int v)] := hl
  have hH : fs_H X A s [(h0, .inr (4, [.ref nt, .ref ns, .ref nb, .ref nu])), (ns, fs_aq X 4 (fs_sts s0 s1 s2 s3)), (s0, .inr (1, [.ref k0, .int a0, .int b0, .int c0, .int d0])), (k0, fs_ai X 5 f0), (s1, .inr (1, [.ref k1, .int a1, .int b1, .int c1, .int d1])), (k1, fs_ai X 5 f1), (s2, .inr (1, [.ref k2, .int a2, .int b2, .int c2, .int d2])), (k2, fs_ai X 5 f2), (s3, .inr (1, [.ref k3, .int a3, .int b3, .int c3, .int d3])), (k3, fs_ai X 5 f3)] s.heap [] := hH
  refine lv_aload_n hx hb dL_stage_0 rfl (lv_at hl 0 rfl) ?_
  refine lv_iload_n hx hb dL_stage_1 rfl (lv_at hl 1 rfl) ?_
  refine lv_iload_n hx hb dL_stage_2 rfl (lv_at hl 2 rfl) ?_
  refine lv_iload_n hx hb dL_stage_3 rfl (lv_at hl 3 rfl) ?_
  refine fs_xcv C hH (wr := []) [0, 1, 2, 3, 4, 5, 6, 7, 8, 9] [] rfl rfl (by decide) (by decide) (by decide) ⟨0, 7, 10, 13⟩ ht9 (by decide) (by decide) mw_119 (fs_rVX (rest := []) (As := [.int a, .int b, .int v]) (n := 3) (q0 := 0) (ci := 4) C hH (wc := [(h0, .inr (4, [.ref nt, .ref ns, .ref nb, .ref nu])), (ns, fs_aq X 4 (fs_sts s0 s1 s2 s3)), (s0, .inr (1, [.ref k0, .int a0, .int b0, .int c0, .int d0])), (k0, fs_ai X 5 f0), (s1, .inr (1, [.ref k1, .int a1, .int b1, .int c1, .int d1])), (k1, fs_ai X 5 f1), (s2, .inr (1, [.ref k2, .int a2, .int b2, .int c2, .int d2])), (k2, fs_ai X 5 f2), (s3, .inr (1, [.ref k3, .int a3, .int b3, .int c3, .int d3])), (k3, fs_ai X 5 f3)]) [0, 1, 2, 3, 4, 5, 6, 7, 8, 9] (by decide) rfl (c_X4_stage l X _ h0 nt ns nb nu s0 k0 f0 a0 b0 c0 d0 s1 k1 f1 a1 b1 c1 d1 s2 k2 f2 a2 b2 c2 d2 s3 k3 f3 a3 b3 c3 d3 a b v  hl9) rfl rfl rfl rfl mw_216 mw_213 mw_214 mw_215 mw_1 (by decide +kernel) ⟨Nat.le_of_ble_eq_true rfl, Nat.le_of_ble_eq_true rfl⟩ rfl hl.1 rfl (Nat.le_of_ble_eq_true rfl) dL_stage_4 ⟨Nat.le_of_ble_eq_true rfl, Nat.le_of_ble_eq_true rfl⟩) (fun q9_5 H locs hbad_4 hH => ?_) (fun u_2 H locs hr_3 hH => ?_)
  · have hH : fs_H X A s [(h0, .inr (4, [.ref nt, .ref ns, .ref nb, .ref nu])), (ns, fs_aq X 4 (fs_sts s0 s1 s2 s3)), (s0, .inr (1, [.ref k0, .int a0, .int b0, .int c0, .int d0])), (k0, fs_ai X 5 f0), (s1, .inr (1, [.ref k1, .int a1, .int b1, .int c1, .int d1])), (k1, fs_ai X 5 f1), (s2, .inr (1, [.ref k2, .int a2, .int b2, .int c2, .int d2])), (k2, fs_ai X 5 f2), (s3, .inr (1, [.ref k3, .int a3, .int b3, .int c3, .int d3])), (k3, fs_ai X 5 f3)] _ _ := hH.sub [0, 1, 2, 3, 4, 5, 6, 7, 8, 9] (by decide) rfl
    refine lv_astore (lv' := [(4, .ref q9_5), (0, .ref h0), (1, .int a), (2, .int b), (3, .int v)]) hx hb dL_stage_10 hl (by decide) rfl (fun ls hl => ?_)
    refine lv_iconst (v := 1) hx hb dL_stage_12 (by decide) ?_
    exact fs_iret C hH false rfl (⟨fun h => (by cases h), fun _ => ⟨rfl, hbad_4⟩⟩) dL_stage_13
  have hH : fs_H X A s [(h0, .inr (4, [.ref nt, .ref ns, .ref nb, .ref nu])), (ns, fs_aq X 4 (fs_sts s0 s1 s2 s3)), (s0, .inr (1, [.ref k0, .int a0, .int b0, .int c0, .int d0])), (k0, fs_ai X 5 (fs_cu f0 0 a b v)), (s1, .inr (1, [.ref k1, .int a1, .int b1, .int c1, .int d1])), (k1, fs_ai X 5 (fs_cu f1 1 a b v)), (s2, .inr (1, [.ref k2, .int a2, .int b2, .int c2, .int d2])), (k2, fs_ai X 5 (fs_cu f2 2 a b v)), (s3, .inr (1, [.ref k3, .int a3, .int b3, .int c3, .int d3])), (k3, fs_ai X 5 (fs_cu f3 3 a b v))] _ _ := hH
  refine lv_goto (tgt := 14) hx hb dL_stage_7 (by decide) ?_
  refine lv_iconst (v := 0) hx hb dL_stage_14 (by decide) ?_
  exact fs_iret C hH true rfl (⟨fun _ => ⟨rfl, hr_3⟩, fun h => (by cases h)⟩) dL_stage_15
set_option maxHeartbeats 4000000 in
set_option maxRecDepth 100000 in
theorem c_L_put (l : Launch) (X : fs_X) (sz : Nat) (h0 : Nat) (nt : Nat) (ns : Nat) (nb : Nat) (nu : Nat) (qr : Nat) (qi : Nat) (S : fs_K) (p0 : Int32) (rv : Int32) (iv : Int32)  (hl9 : l.stackTraces = false) : fs_ML l X yL_put cL_put 5 (some .int) [(0, 7, 10, 13)] ({ frames := 7, cells := 1, slots := 6, locals := 104 }) [.ref h0, .int p0, .int rv, .int iv] [(h0, .inr (4, [.ref nt, .ref ns, .ref nb, .ref nu])), (nb, .inr (0, [.ref qr, .ref qi, .int S.2.2])), (qr, fs_ai X 32 S.1), (qi, fs_ai X 32 S.2.1)] sz (fs_Qi X (fun r (u : Bool) => (u = true → r = 0 ∧ ((¬ p0 < 0 ∧ ¬ 32 ≤ p0))) ∧ (u = false → r = 1 ∧ ¬ ((¬ p0 < 0 ∧ ¬ 32 ≤ p0)))) (fun u => match u with | true => [(h0, .inr (4, [.ref nt, .ref ns, .ref nb, .ref nu])), (nb, .inr (0, [.ref qr, .ref qi, .int 0])), (qr, fs_ai X 32 (upd S.1 (Int32.toNatClampNeg p0) rv)), (qi, fs_ai X 32 (upd S.2.1 (Int32.toNatClampNeg p0) iv))] | false => [(h0, .inr (4, [.ref nt, .ref ns, .ref nb, .ref nu])), (nb, .inr (0, [.ref qr, .ref qi, .int S.2.2])), (qr, fs_ai X 32 S.1), (qi, fs_ai X 32 S.2.1)])) 1 6 := by
  refine fs_ofL (by decide) (Nat.le_of_ble_eq_true rfl) ?_
  intro p e s m args below meth c A ls C hH hl ht9
  have C : fs_At X A p s m args meth c cL_put 5 (some .int) RL "put" := C
  have hx := C.1
  have hb := C.2.1
  have hown := C.2.2.2.2.1
  have hts := C.2.2.2.2.2.1
  have hl : lv_has ls 5 [(0, .ref h0), (1, .int p0), (2, .int rv), (3, .int iv)] := hl
  have hH : fs_H X A s [(h0, .inr (4, [.ref nt, .ref ns, .ref nb, .ref nu])), (nb, .inr (0, [.ref qr, .ref qi, .int S.2.2])), (qr, fs_ai X 32 S.1), (qi, fs_ai X 32 S.2.1)] s.heap [] := hH
  refine lv_aload_n hx hb dL_put_0 rfl (lv_at hl 0 rfl) ?_
  refine lv_iload_n hx hb dL_put_1 rfl (lv_at hl 1 rfl) ?_
  refine lv_iload_n hx hb dL_put_2 rfl (lv_at hl 2 rfl) ?_
  refine lv_iload_n hx hb dL_put_3 rfl (lv_at hl 3 rfl) ?_
  refine fs_xcv C hH (wr := []) [0, 1, 2, 3] [] rfl rfl (by decide) (by decide) (by decide) ⟨0, 7, 10, 13⟩ ht9 (by decide) (by decide) mw_119 (fs_rVX (rest := []) (As := [.int p0, .int rv, .int iv]) (n := 3) (q0 := 0) (ci := 4) C hH (wc := [(h0, .inr (4, [.ref nt, .ref ns, .ref nb, .ref nu])), (nb, .inr (0, [.ref qr, .ref qi, .int S.2.2])), (qr, fs_ai X 32 S.1), (qi, fs_ai X 32 S.2.1)]) [0, 1, 2, 3] (by decide) rfl (c_X4_put l X _ h0 nt ns nb nu qr qi S p0 rv iv  hl9) rfl rfl rfl rfl mw_232 mw_229 mw_230 mw_231 mw_1 (by decide +kernel) ⟨Nat.le_of_ble_eq_true rfl, Nat.le_of_ble_eq_true rfl⟩ rfl hl.1 rfl (Nat.le_of_ble_eq_true rfl) dL_put_4 ⟨Nat.le_of_ble_eq_true rfl, Nat.le_of_ble_eq_true rfl⟩) (fun q9_5 H locs hbad_4 hH => ?_) (fun u_2 H locs hr_3 hH => ?_)
  · have hH : fs_H X A s [(h0, .inr (4, [.ref nt, .ref ns, .ref nb, .ref nu])), (nb, .inr (0, [.ref qr, .ref qi, .int S.2.2])), (qr, fs_ai X 32 S.1), (qi, fs_ai X 32 S.2.1)] _ _ := hH.sub [0, 1, 2, 3] (by decide) rfl
    refine lv_astore (lv' := [(4, .ref q9_5), (0, .ref h0), (1, .int p0), (2, .int rv), (3, .int iv)]) hx hb dL_put_10 hl (by decide) rfl (fun ls hl => ?_)
    refine lv_iconst (v := 1) hx hb dL_put_12 (by decide) ?_
    exact fs_iret C hH false rfl (⟨fun h => (by cases h), fun _ => ⟨rfl, hbad_4⟩⟩) dL_put_13
  have hH : fs_H X A s [(h0, .inr (4, [.ref nt, .ref ns, .ref nb, .ref nu])), (nb, .inr (0, [.ref qr, .ref qi, .int 0])), (qr, fs_ai X 32 (upd S.1 (Int32.toNatClampNeg p0) rv)), (qi, fs_ai X 32 (upd S.2.1 (Int32.toNatClampNeg p0) iv))] _ _ := hH
  refine lv_goto (tgt := 14) hx hb dL_put_7 (by decide) ?_
  refine lv_iconst (v := 0) hx hb dL_put_14 (by decide) ?_
  exact fs_iret C hH true rfl (⟨fun _ => ⟨rfl, hr_3⟩, fun h => (by cases h)⟩) dL_put_15
end
