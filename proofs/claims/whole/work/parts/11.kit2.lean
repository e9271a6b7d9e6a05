section FSN
variable {p : Program} {l : Launch} {e : Env} {R : Room} {s : State} {m : MethodId} {args : Array Value} {below : List Frame} {meth : Method} {c : Code} {H : Heap} {locs : List Loc} {cells slots : Nat} {Q : State → Prop}
variable {cc : ByteArray} {pc : Nat} {ls : Array Slot} {rest : List Value} {A : Nat → Prop} {a : Nat} {ws : va_W} {X : fs_X} {maxL : Nat} {ret : Option FieldType} {own nm : String}
theorem fs_topi {x y : Int32} (h : x = y) (k : W p l e R s m args below meth c H locs cells slots Q (F0 m pc ls (.int y :: rest))) : W p l e R s m args below meth c H locs cells slots Q (F0 m pc ls (.int x :: rest)) := h ▸ k
theorem fs_topl {x y : Int64} (h : x = y) (k : W p l e R s m args below meth c H locs cells slots Q (F0 m pc ls (.long y :: rest))) : W p l e R s m args below meth c H locs cells slots Q (F0 m pc ls (.long x :: rest)) := h ▸ k
theorem fs_newI (C : fs_At X A p s m args meth c cc maxL ret own nm) (hH : fs_H X A s ws H locs) {n : Int32} {N : Nat} (hN : n = nI N) (hlt : N < 65536) (hcells : cells + 1 ≤ R.cells) (hslots : slots + N ≤ R.slots) (harr : Cond.arrayClass .int ∈ fs_G) (hdg : decode cc pc = .ok (.newarray .int, 2))
    (kk : ∀ (q : Nat) (H1 : Heap), fs_H X A s (ws ++ [(q, fs_ai X N (fun _ => 0))]) H1 locs → W p l e R s m args below meth c H1 locs (cells + 1) (slots + N) Q (F0 m (pc + 2) ls (.ref q :: rest))) : W p l e R s m args below meth c H locs cells slots Q (F0 m pc ls (.int n :: rest)) := by
  obtain ⟨hx, hb, -, -, hown, hts, -, -, hE, hA, -⟩ := C
  subst hN
  refine va_newa (atype := .int) (ty := .int) (a0 := (N, .inl (fun _ => 0))) hx hb (hts _ harr) rfl hE.1 hH.1 hH.2.1 hH.2.2 hA (fun cA => rfl) (nI_pos (by omega)) (nI_clamp (by omega)) (by show N * 4 ≤ _; omega) hcells hslots hdg (fun q cA H1 hK hP hD hS => ?_)
  have e1 : s.vm.findClass "[I" = some (fs_cI X) := va_nm_int (hE.1.2 0 _ rfl).2
  have e2 : s.vm.findClass "[I" = some cA := va_nm_int (hK.2 3 (cA, .int) rfl).2
  cases Option.some.inj (e1.symm.trans e2)
  exact kk q H1 ⟨hP, hD, hS⟩
theorem fs_newL (C : fs_At X A p s m args meth c cc maxL ret own nm) (hH : fs_H X A s ws H locs) {n : Int32} {N : Nat} (hN : n = nI N) (hlt : N < 65536) (hcells : cells + 1 ≤ R.cells) (hslots : slots + N ≤ R.slots) (harr : Cond.arrayClass .long ∈ fs_G) (hdg : decode cc pc = .ok (.newarray .long, 2))
    (kk : ∀ (q : Nat) (H1 : Heap), fs_H X A s (ws ++ [(q, fs_al X N (fun _ => 0))]) H1 locs → W p l e R s m args below meth c H1 locs (cells + 1) (slots + N) Q (F0 m (pc + 2) ls (.ref q :: rest))) : W p l e R s m args below meth c H locs cells slots Q (F0 m pc ls (.int n :: rest)) := by
  obtain ⟨hx, hb, -, -, hown, hts, -, -, hE, hA, -⟩ := C
  subst hN
  refine va_newa (atype := .long) (ty := .long) (a0 := (N, .inr (.inl (fun _ => 0)))) hx hb (hts _ harr) rfl hE.1 hH.1 hH.2.1 hH.2.2 hA (fun cA => rfl) (nI_pos (by omega)) (nI_clamp (by omega)) (by show N * 8 ≤ _; omega) hcells hslots hdg (fun q cA H1 hK hP hD hS => ?_)
  have e1 : s.vm.findClass "[J" = some (fs_cJ X) := va_nm_long (hE.1.2 1 _ rfl).2
  have e2 : s.vm.findClass "[J" = some cA := va_nm_long (hK.2 3 (cA, .long) rfl).2
  cases Option.some.inj (e1.symm.trans e2)
  exact kk q H1 ⟨hP, hD, hS⟩
theorem fs_newq (C : fs_At X A p s m args meth c cc maxL ret own nm) (hH : fs_H X A s ws H locs) {n : Int32} {N index : Nat} (hN : n = nI N) (hlt : N < 65536) (hcells : cells + 1 ≤ R.cells) (hslots : slots + N ≤ R.slots) (hlink : Cond.classLink own index "FixedSignals$Stage" ∈ fs_G) (hdg : decode cc pc = .ok (.anewarray index, 3))
    (kk : ∀ (q : Nat) (H1 : Heap), fs_H X A s (ws ++ [(q, fs_aq X N (fun _ => none))]) H1 locs → W p l e R s m args below meth c H1 locs (cells + 1) (slots + N) Q (F0 m (pc + 3) ls (.ref q :: rest))) : W p l e R s m args below meth c H locs cells slots Q (F0 m pc ls (.int n :: rest)) := by
  obtain ⟨hx, hb, -, -, hown, hts, -, -, hE, hA, -⟩ := C
  subst hN
  refine va_newq hx hb hown (hts _ hlink) hE.2.1.2.2.2 hE.1 hH.1 hH.2.1 hH.2.2 hA (nI_pos (by omega)) (nI_clamp (by omega)) (by omega) hcells hslots hdg (fun q cA H1 hK hP hD hS => ?_)
  obtain ⟨kA, comp, -, -, -, e1⟩ := (hE.1.2 2 _ rfl).2
  obtain ⟨kB, comp2, -, -, -, e2⟩ := (hK.2 3 (cA, .object "FixedSignals$Stage") rfl).2
  cases Option.some.inj (e1.symm.trans e2)
  exact kk q H1 ⟨hP, hD, hS⟩
theorem fs_new (C : fs_At X A p s m args meth c cc maxL ret own nm) (hH : fs_H X A s ws H locs) {C9 : String} {T : u_T} {N ci index : Nat} (hin : ∀ w ∈ u_ws C9 T N, w ∈ fs_G) (ty : Nat → FieldType) (hty : ∀ k, k < N → parseFieldDescriptor (T k).2.2.1 = some (ty k)) (hcl : Cond.classLink own index C9 ∈ fs_G) (hinst : Cond.instantiable C9 N ∈ fs_G) (hini : Cond.initialized C9 ∈ fs_G) (hc : vwCl[ci]? = some (C9, T, N)) (fs : List Value) (hfs : ∀ j, j < N → defaultValue (ty j) = vp_V fs j) (hcells : cells + 1 ≤ R.cells) (hslots : slots + N ≤ R.slots) (hdg : decode cc pc = .ok (.new index, 3))
    (kk : ∀ (q : Nat) (H1 : Heap), fs_H X A s (ws ++ [(q, .inr (ci, fs))]) H1 locs → W p l e R s m args below meth c H1 locs (cells + 1) (slots + N) Q (F0 m (pc + 3) ls (.ref q :: rest))) : W p l e R s m args below meth c H locs cells slots Q (F0 m pc ls rest) := by
  obtain ⟨hx, hb, -, -, hown, hts, -, -, hE, hA, -⟩ := C
  exact va_new hx hb hts hin ty hty hown (hts _ hcl) (hts _ hinst) (hts _ hini) hE.1 hH.1 hH.2.1 hH.2.2 hA hc hfs hcells hslots hdg (fun q H1 hP hD hS => kk q H1 ⟨hP, hD, hS⟩)
theorem fs_aast (C : fs_At X A p s m args meth c cc maxL ret own nm) (hH : fs_H X A s ws H locs) (q0 qk : Nat) {n v : Nat} {vs : List Value} {f : Nat → Option Nat} (ha : ws[q0]? = some (a, fs_aq X n f)) (hv : ws[qk]? = some (v, .inr (1, vs))) {i : Int32} {k : Nat} (hi : i = nI k) (hk : k < n) (hn : n < 2 ^ 31) {ws' : va_W} (hw : ws.set q0 (a, fs_aq X n (va_up f k (some v))) = ws') (hdg : decode cc pc = .ok (.aastore, 1))
    (kk : ∀ (H1 : Heap) (locs1 : List Loc), fs_H X A s ws' H1 locs1 → W p l e R s m args below meth c H1 locs1 cells slots Q (F0 m (pc + 1) ls rest)) : W p l e R s m args below meth c H locs cells slots Q (F0 m pc ls (.ref v :: .int i :: .ref a :: rest)) := by
  obtain ⟨hx, hb, -, -, hown, hts, -, -, hE, -, -⟩ := C
  subst hi; subst hw
  exact va_astq (r := (RX1, TX1, 5)) hx hb hE.1 hH.1 hH.2.1 hH.2.2 q0 2 qk 1 ha rfl hv rfl (vp_in_nI hk hn) hdg (by rw [nI_clamp (Nat.lt_trans hk hn)]; exact fun H1 locs1 h1 h2 h3 => kk H1 locs1 ⟨h1, h2, h3⟩)
end FSN
theorem fs_geT {a b : Nat} (ha : a < 2 ^ 31) (hb : b < 2 ^ 31) (h : nI b ≤ nI a) : b ≤ a := (nI_leI hb ha).mp h
theorem fs_geF {a b : Nat} (ha : a < 2 ^ 31) (hb : b < 2 ^ 31) (h : ¬ nI b ≤ nI a) : a < b := Nat.lt_of_not_le fun q => h ((nI_leI hb ha).mpr q)
-- the functions of the states
def fs_rev (v : Int32) : Nat → Int32
  | 0 => 0
  | k + 1 => 2 * fs_rev v k + (v >>> (nI k &&& 31) &&& 1)
def fs_cos (k : Nat) : Int64 := if k ≤ 8 then Int32.toInt64 (fs_C (8 - k)) else -(Int32.toInt64 (fs_C (k - 8)))
def fs_sin (k : Nat) : Int64 := if k ≤ 8 then Int32.toInt64 (fs_C k) else Int32.toInt64 (fs_C (16 - k))
def fs_shift (g : Nat → Int32) (x : Int32) : Nat → Int32 := fun j => if j = 0 then x else if j < 16 then g (j - 1) else g j
def fs_shk (g : Nat → Int32) (k : Nat) : Nat → Int32 := fun j => if k < j ∧ j < 16 then g (j - 1) else g j
theorem fs_shk_15 (g : Nat → Int32) : fs_shk g 15 = g := by
  funext j; unfold fs_shk; rw [if_neg (by omega)]
theorem fs_shk_s (g : Nat → Int32) (k : Nat) (h : k < 15) : upd (fs_shk g (k + 1)) (k + 1) (fs_shk g (k + 1) k) = fs_shk g k := by
  funext j; unfold upd fs_shk
  by_cases h1 : j = k + 1
  · subst h1; rw [if_pos rfl, if_neg (by omega), if_pos (by omega)]; rfl
  · rw [if_neg h1]
    by_cases h2 : k + 1 < j ∧ j < 16
    · rw [if_pos h2, if_pos (by omega)]
    · rw [if_neg h2, if_neg (by omega)]
theorem fs_shk_0 (g : Nat → Int32) (x : Int32) : upd (fs_shk g 0) 0 x = fs_shift g x := by
  funext j; unfold upd fs_shk fs_shift
  by_cases h1 : j = 0
  · rw [if_pos h1, if_pos h1]
  · rw [if_neg h1, if_neg h1]
    by_cases h2 : j < 16
    · rw [if_pos (by omega), if_pos h2]
    · rw [if_neg (by omega), if_neg h2]
def fs_dot (f g : Nat → Int32) : Nat → Int64
  | 0 => 0
  | k + 1 => fs_dot f g k + Int32.toInt64 (f k) * Int32.toInt64 (g k)
def fs_zero (g : Nat → Int32) (k : Nat) : Nat → Int32 := fun j => if j < k then 0 else g j
theorem fs_zero_s (g : Nat → Int32) (k : Nat) : upd (fs_zero g k) k 0 = fs_zero g (k + 1) := by
  funext j; unfold upd fs_zero
  by_cases h1 : j = k
  · rw [if_pos h1, if_pos (by omega)]
  · rw [if_neg h1]
    by_cases h2 : j < k
    · rw [if_pos h2, if_pos (by omega)]
    · rw [if_neg h2, if_neg (by omega)]
theorem fs_zero_0 (g : Nat → Int32) : fs_zero g 0 = g := by funext j; unfold fs_zero; rw [if_neg (by omega)]
def fs_st (c : Nat → Int32) (x1 x2 y1 y2 x : Int32) : Int32 :=
  fs_sat (fs_rd (Int32.toInt64 (c 0) * Int32.toInt64 x + Int32.toInt64 (c 1) * Int32.toInt64 x1 + Int32.toInt64 (c 2) * Int32.toInt64 x2 - Int32.toInt64 (c 3) * Int32.toInt64 y1 - Int32.toInt64 (c 4) * Int32.toInt64 y2) 14) 32767
abbrev fs_T : Type := Int64 × Int64 × Int64
def fs_tn (k : Nat) (up : Int32) (t : fs_T) : fs_T := if up = 0 then (t.1 + t.2.1 >>> (Int32.toInt64 (nI k) &&& 63), t.2.1 - t.1 >>> (Int32.toInt64 (nI k) &&& 63), t.2.2 + Int32.toInt64 (fs_arc k)) else (t.1 - t.2.1 >>> (Int32.toInt64 (nI k) &&& 63), t.2.1 + t.1 >>> (Int32.toInt64 (nI k) &&& 63), t.2.2 - Int32.toInt64 (fs_arc k))
def fs_w (z0 : Int64) : Nat → fs_T
  | 0 => (652032874, 0, z0)
  | k + 1 => fs_tn k (if (fs_w z0 k).2.2 < 0 then 0 else 1) (fs_w z0 k)
theorem fs_wS0 {z0 : Int64} {k : Nat} (h : (fs_w z0 k).2.2 < 0) : fs_w z0 (k + 1) = fs_tn k 0 (fs_w z0 k) := by rw [fs_w, if_pos h]
theorem fs_wS1 {z0 : Int64} {k : Nat} (h : ¬ (fs_w z0 k).2.2 < 0) : fs_w z0 (k + 1) = fs_tn k 1 (fs_w z0 k) := by rw [fs_w, if_neg h]
def fs_a (t0 : fs_T) : Nat → fs_T
  | 0 => t0
  | k + 1 => fs_tn k (if 0 ≤ (fs_a t0 k).2.1 then 0 else 1) (fs_a t0 k)
theorem fs_aS0 {t0 : fs_T} {k : Nat} (h : 0 ≤ (fs_a t0 k).2.1) : fs_a t0 (k + 1) = fs_tn k 0 (fs_a t0 k) := by rw [fs_a, if_pos h]
theorem fs_aS1 {t0 : fs_T} {k : Nat} (h : ¬ 0 ≤ (fs_a t0 k).2.1) : fs_a t0 (k + 1) = fs_tn k 1 (fs_a t0 k) := by rw [fs_a, if_neg h]
def fs_neg (t : fs_T) : fs_T := (-t.1, -t.2.1, t.2.2)
def fs_wave (a : Int64) : fs_T := if fs_sz a ≤ 1073741824 then fs_w a 30 else fs_neg (fs_w (if 0 ≤ a then a - 2147483648 else a + 2147483648) 30)
def fs_axis (x y : Int64) : fs_T := fs_a (if 0 ≤ x then (x, y, 0) else (-x, -y, -2147483648)) 30
theorem fs_negz {b : Int32} (h : b < 0) : ¬ -b = 0 := by
  intro h2
  have h3 : b = 0 := by
    have := congrArg (fun z : Int32 => -z) h2
    simpa using this
  rw [h3] at h
  exact absurd h (by decide)
