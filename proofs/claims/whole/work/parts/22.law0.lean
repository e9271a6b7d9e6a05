-- the law: calls of its helpers, the stages on both sides, the loop's bound
section FSW
variable {p : Program} {l : Launch} {e : Env} {R : Room} {s : State} {m : MethodId} {args : Array Value} {below : List Frame} {meth : Method} {c : Code} {H : Heap} {locs : List Loc} {cells slots : Nat} {Q : State → Prop}
variable {cc : ByteArray} {pc : Nat} {ls : Array Slot} {rest : List Value} {A : Nat → Prop} {a : Nat} {ws : va_W} {X : fs_X} {maxL : Nat} {ret : Option FieldType} {own nm : String}
theorem fs_goodL {y : MethodName} {b9 : ByteArray} {n9 : Nat} {r9 : Option FieldType} {hh : List (Nat × Nat × Nat × Nat)} (h : Cond.codeWith y b9 n9 r9 hh ∈ fs_G) : GoodIn fs_G (Cond.codeWith y b9 n9 r9 hh :: fs_G) := by
  intro w hw
  have h2 : w ∈ fs_G := by
    rcases List.mem_cons.mp hw with e9 | e9
    · rw [e9]; exact h
    · exact e9
  exact ⟨h2, good_of_word (List.mem_filter.mp h2).2⟩
theorem fs_rSW (C : fs_At X A p s m args meth c cc maxL ret own nm) (hH : fs_H X A s ws H locs) {wc : va_W} (isC : List Nat) (hn : va_nd isC = true) (hC : isC.map (fun i => ws[i]?) = wc.map some) {y : MethodName} {b9 : ByteArray} {n9 n index mc ms : Nat} {r9 : Option FieldType} {hh : List (Nat × Nat × Nat × Nat)} {rm : Room} {As : List Value} {Qc : (Nat → Prop) → Array Value → State → Outcome → State → Prop} (hM : fs_ML l X y b9 n9 r9 hh rm As wc H.size Qc mc ms)
    (hrc : rm.cells = mc) (hrs : rm.slots = ms) (hcode : Cond.codeWith y b9 n9 r9 hh ∈ fs_G) (hlink : Cond.methodLink own index y ∈ fs_G) (hstat : Cond.static y ∈ fs_G) (hini : Cond.initialized y.cls ∈ fs_G) (hd : fs_des y n) (hR : rm.frames + 1 ≤ R.frames ∧ 8 + (n9 + 11) + rm.locals ≤ R.locals) (hlen : As.length = n) (hsz : ls.size = maxL) {st0 : List Value} (hst : st0 = As.reverse ++ rest) (hrm : (rest.map fun v => v.category).sum ≤ 8) (hdg : decode cc pc = .ok (.invokestatic index, 3)) (hf : cells + mc ≤ R.cells ∧ slots + ms ≤ R.slots) :
    va_Run p l e R s m args below meth c H locs cells slots mc ms (F0 m pc ls st0) rest (Qc (va_A wc H.size) As.toArray) (va_A wc H.size) := by
  obtain ⟨hx, hb, -, hml, hown, hts, -, -, -, -, -⟩ := id C
  exact vx_runSW (Ts := fs_G) ⟨hx, hb, hml, hown, hts⟩ hM ⟨⟨hrc, hrs, hR.1, hR.2, pay_in hts (fs_goodL hcode), List.mem_cons_self⟩, hts _ hcode, hts _ hini, ⟨hd.1, hd.2.1⟩, fun sig h => by have h2 := hd.2.2; rw [h] at h2; exact (Option.some.inj h2).symm, hts _ hlink, hts _ hstat⟩ ⟨fs_blind, fun U hU hW => fs_pre C hH isC hn hC U hU hW⟩ rfl hlen hsz hst (lv_room hrm) hdg hf
end FSW
/-- the five factors of the stage j, out of the reference's twenty -/
def fs_fj (fa : Nat → Int32) (j : Nat) : Nat → Int32 := fun i => if i < 5 then fa (5 * j + i) else 0
theorem fs_fj0 {j : Nat} (hj : j < 4) : upd (fun _ => 0) 0 16384 = fs_fj fs_f0 j := by
  funext i
  unfold fs_fj
  by_cases hi : i < 5
  · rw [if_pos hi]
    rcases (show j = 0 ∨ j = 1 ∨ j = 2 ∨ j = 3 by omega) with rfl | rfl | rfl | rfl <;> rcases (show i = 0 ∨ i = 1 ∨ i = 2 ∨ i = 3 ∨ i = 4 by omega) with rfl | rfl | rfl | rfl | rfl <;> rfl
  · rw [if_neg hi]; unfold upd; rw [if_neg (by omega)]
theorem fs_fjU {fa : Nat → Int32} {j : Nat} (hj : j < 4) {a b v : Int32} (ha : ¬ a < 0 ∧ ¬ 4 ≤ a) (hb : ¬ b < 0 ∧ ¬ 5 ≤ b) : fs_cu (fs_fj fa j) j a b v = fs_fj (upd fa (5 * a.toNatClampNeg + b.toNatClampNeg) v) j := by
  obtain ⟨ea, la⟩ := fs_ixn (n := 4) (by decide) ha
  obtain ⟨eb, lb⟩ := fs_ixn (n := 5) (by decide) hb
  generalize a.toNatClampNeg = a' at ea la ⊢
  generalize hb' : b.toNatClampNeg = b' at eb lb ⊢
  subst ea
  by_cases h : j = a'
  · subst h
    rw [fs_cuT, hb']
    funext i
    unfold fs_fj upd
    by_cases hi : i < 5
    · by_cases h2 : i = b'
      · rw [if_pos h2, if_pos hi, if_pos (by omega)]
      · rw [if_neg h2, if_pos hi, if_neg (by omega)]; exact if_pos hi
    · rw [if_neg (by omega), if_neg hi]; exact if_neg hi
  · rw [fs_cuF _ hj la h]
    funext i
    unfold fs_fj upd
    by_cases hi : i < 5
    · rw [if_pos hi, if_pos hi, if_neg (by omega)]
    · rw [if_neg hi, if_neg hi]
theorem fs_stj (fa : Nat → Int32) (j : Nat) (x1 x2 y1 y2 x : Int32) : fs_st (fun i => fa (5 * j + i)) x1 x2 y1 y2 x = fs_st (fs_fj fa j) x1 x2 y1 y2 x := by
  have h : ∀ i, i < 5 → fs_fj fa j i = fa (5 * j + i) := fun i hi => if_pos hi
  unfold fs_st
  rw [h 0 (by decide), h 1 (by decide), h 2 (by decide), h 3 (by decide), h 4 (by decide)]
theorem fs_cs_hi (fa bb : Nat → Int32) (x : Int32) : ∀ s j, 4 * s ≤ j → (fs_cs fa bb x s).1 j = bb j
  | 0, _, _ => rfl
  | s + 1, j, h => by
    rw [fs_cs]; unfold upd; dsimp only
    rw [if_neg (by omega), if_neg (by omega), if_neg (by omega), if_neg (by omega)]
    exact fs_cs_hi fa bb x s j (by omega)
theorem fs_cs_lo (fa bb : Nat → Int32) (x : Int32) (s j : Nat) (h : j < 4 * s) : (fs_cs fa bb x (s + 1)).1 j = (fs_cs fa bb x s).1 j := by
  rw [fs_cs]; unfold upd; dsimp only
  rw [if_neg (by omega), if_neg (by omega), if_neg (by omega), if_neg (by omega)]
theorem fs_cs_r (fa bb : Nat → Int32) (x : Int32) (s : Nat) : (fs_cs fa bb x (s + 1)).2 = fs_st (fs_fj fa s) (bb (4 * s)) (bb (4 * s + 1)) (bb (4 * s + 2)) (bb (4 * s + 3)) (fs_cs fa bb x s).2 := by
  rw [fs_cs, ← fs_stj, fs_cs_hi _ _ _ s _ (by omega), fs_cs_hi _ _ _ s _ (by omega), fs_cs_hi _ _ _ s _ (by omega), fs_cs_hi _ _ _ s _ (by omega)]
theorem fs_cs_v (fa bb : Nat → Int32) (x : Int32) (s : Nat) : (fs_cs fa bb x s).2 = (fs_cs fa bb x (s + 1)).1 (4 * s) ∧ bb (4 * s) = (fs_cs fa bb x (s + 1)).1 (4 * s + 1) ∧ (fs_cs fa bb x (s + 1)).2 = (fs_cs fa bb x (s + 1)).1 (4 * s + 2) ∧ bb (4 * s + 2) = (fs_cs fa bb x (s + 1)).1 (4 * s + 3) := by
  refine ⟨?_, ?_, ?_, ?_⟩
  · rw [fs_cs]; unfold upd; dsimp only; rw [if_neg (by omega), if_neg (by omega), if_pos rfl]
  · rw [fs_cs]; unfold upd; dsimp only; rw [if_neg (by omega), if_neg (by omega), if_neg (by omega), if_pos rfl, fs_cs_hi _ _ _ s _ (by omega)]
  · rw [fs_cs]; unfold upd; dsimp only; rw [if_pos rfl]
  · rw [fs_cs]; unfold upd; dsimp only; rw [if_neg (by omega), if_pos rfl, fs_cs_hi _ _ _ s _ (by omega)]
def fs_r1 (fa bb : Nat → Int32) (x : Int32) : Int32 := fs_st (fs_fj fa 0) (bb 0) (bb 1) (bb 2) (bb 3) x
def fs_r2 (fa bb : Nat → Int32) (x : Int32) : Int32 := fs_st (fs_fj fa 1) (bb 4) (bb 5) (bb 6) (bb 7) (fs_r1 fa bb x)
def fs_r3 (fa bb : Nat → Int32) (x : Int32) : Int32 := fs_st (fs_fj fa 2) (bb 8) (bb 9) (bb 10) (bb 11) (fs_r2 fa bb x)
def fs_r4 (fa bb : Nat → Int32) (x : Int32) : Int32 := fs_st (fs_fj fa 3) (bb 12) (bb 13) (bb 14) (bb 15) (fs_r3 fa bb x)
theorem fs_ch (fa bb : Nat → Int32) (x : Int32) : fs_r4 fa bb x = (fs_cs fa bb x 4).2 ∧ (x = (fs_cs fa bb x 4).1 0 ∧ bb 0 = (fs_cs fa bb x 4).1 1 ∧ fs_r1 fa bb x = (fs_cs fa bb x 4).1 2 ∧ bb 2 = (fs_cs fa bb x 4).1 3) ∧ (fs_r1 fa bb x = (fs_cs fa bb x 4).1 4 ∧ bb 4 = (fs_cs fa bb x 4).1 5 ∧ fs_r2 fa bb x = (fs_cs fa bb x 4).1 6 ∧ bb 6 = (fs_cs fa bb x 4).1 7) ∧ (fs_r2 fa bb x = (fs_cs fa bb x 4).1 8 ∧ bb 8 = (fs_cs fa bb x 4).1 9 ∧ fs_r3 fa bb x = (fs_cs fa bb x 4).1 10 ∧ bb 10 = (fs_cs fa bb x 4).1 11) ∧ (fs_r3 fa bb x = (fs_cs fa bb x 4).1 12 ∧ bb 12 = (fs_cs fa bb x 4).1 13 ∧ fs_r4 fa bb x = (fs_cs fa bb x 4).1 14 ∧ bb 14 = (fs_cs fa bb x 4).1 15) := by
  have e0 : (fs_cs fa bb x 0).2 = x := rfl
  have e1 : (fs_cs fa bb x 1).2 = fs_r1 fa bb x := by rw [fs_cs_r, e0]; rfl
  have e2 : (fs_cs fa bb x 2).2 = fs_r2 fa bb x := by rw [fs_cs_r, e1]; rfl
  have e3 : (fs_cs fa bb x 3).2 = fs_r3 fa bb x := by rw [fs_cs_r, e2]; rfl
  have e4 : (fs_cs fa bb x 4).2 = fs_r4 fa bb x := by rw [fs_cs_r, e3]; rfl
  have v0 := fs_cs_v fa bb x 0
  have v1 := fs_cs_v fa bb x 1
  have v2 := fs_cs_v fa bb x 2
  have v3 := fs_cs_v fa bb x 3
  rw [e0, e1] at v0
  rw [e1, e2] at v1
  rw [e2, e3] at v2
  rw [e3, e4] at v3
  have g3 : ∀ j, j < 12 → (fs_cs fa bb x 4).1 j = (fs_cs fa bb x 3).1 j := fun j h => fs_cs_lo fa bb x 3 j (by omega)
  have g2 : ∀ j, j < 8 → (fs_cs fa bb x 4).1 j = (fs_cs fa bb x 2).1 j := fun j h => (g3 j (by omega)).trans (fs_cs_lo fa bb x 2 j (by omega))
  have g1 : ∀ j, j < 4 → (fs_cs fa bb x 4).1 j = (fs_cs fa bb x 1).1 j := fun j h => (g2 j (by omega)).trans (fs_cs_lo fa bb x 1 j (by omega))
  refine ⟨e4.symm, ⟨?_, ?_, ?_, ?_⟩, ⟨?_, ?_, ?_, ?_⟩, ⟨?_, ?_, ?_, ?_⟩, v3⟩
  · rw [g1 0 (by decide)]; exact v0.1
  · rw [g1 1 (by decide)]; exact v0.2.1
  · rw [g1 2 (by decide)]; exact v0.2.2.1
  · rw [g1 3 (by decide)]; exact v0.2.2.2
  · rw [g2 4 (by decide)]; exact v1.1
  · rw [g2 5 (by decide)]; exact v1.2.1
  · rw [g2 6 (by decide)]; exact v1.2.2.1
  · rw [g2 7 (by decide)]; exact v1.2.2.2
  · rw [g3 8 (by decide)]; exact v2.1
  · rw [g3 9 (by decide)]; exact v2.2.1
  · rw [g3 10 (by decide)]; exact v2.2.2.1
  · rw [g3 11 (by decide)]; exact v2.2.2.2
-- short values stay short
theorem fs_sh0 : fs_short 0 := by unfold fs_short; decide
theorem fs_shU {f : Nat → Int32} (h : ∀ j, j < 16 → fs_short (f j)) {k : Nat} {v : Int32} (hv : fs_short v) : ∀ j, j < 16 → fs_short (upd f k v j) := by
  intro j hj
  unfold upd
  by_cases e : j = k
  · rw [if_pos e]; exact hv
  · rw [if_neg e]; exact h j hj
theorem fs_shS {g : Nat → Int32} (h : ∀ j, j < 16 → fs_short (g j)) {x : Int32} (hx : fs_short x) : ∀ j, j < 16 → fs_short (fs_shift g x j) := by
  intro j hj
  unfold fs_shift
  by_cases e : j = 0
  · rw [if_pos e]; exact hx
  · rw [if_neg e, if_pos hj]; exact h (j - 1) (by omega)
theorem fs_shZ (g : Nat → Int32) : ∀ j, j < 16 → fs_short (fs_zero g 16 j) := by
  intro j hj
  unfold fs_zero
  rw [if_pos hj]; exact fs_sh0
theorem fs_zz (g : Nat → Int32) {j : Nat} (hj : j < 16) : fs_zero g 16 j = 0 := if_pos hj
theorem fs_uL (f : Nat → Int64) (v : Int64) : vp_updL f 0 v 0 = v := if_pos rfl
-- the loop's bound
theorem fs_lim {i L : Nat} (hi : i ≤ 2048) (hL : L ≤ 2048) : (Int32.ofNat L - 4 < nI i) ↔ L < i + 4 := by
  have h1 : (Int32.ofNat L - 4).toInt = (L : Int) - 4 := pk_sub_toInt (a := L) (b := 4) (by omega) (by omega)
  have h2 : (nI i).toInt = (i : Int) := by
    have := pk_sub_toInt (a := i) (b := 0) (by omega) (by omega)
    rw [pk_sub (Nat.zero_le i), Nat.sub_zero] at this
    rw [this]; simp
  rw [Int32.lt_iff_toInt_lt, h1, h2]
  omega
