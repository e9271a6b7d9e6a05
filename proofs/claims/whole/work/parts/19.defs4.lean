-- the reference's own functions
theorem fs_ia {x y : Int32} {a b : Nat} (hx : x = nI a) (hy : y = nI b) : x + y = nI (a + b) := by rw [hx, hy, nI_add]
theorem fs_im {x y : Int32} {a b : Nat} (hx : x = nI a) (hy : y = nI b) : x * y = nI (a * b) := by rw [hx, hy, pk_mul]
theorem fs_way5 {way b m : Int32} : fs_way way b m ↔ ((¬ way < 0 ∧ ¬ 5 < way) ∧ (way = 3 → (¬ b < (-m) ∧ ¬ m < b))) := by
  unfold fs_way
  by_cases h : way = 3
  · rw [if_pos h]; subst h
    exact ⟨fun q => ⟨by decide, fun _ => q⟩, fun q => q.2 rfl⟩
  · rw [if_neg h]
    exact ⟨fun q => ⟨q, fun z => absurd z h⟩, fun q => q.1⟩
abbrev fs_sec (way b : Int32) : Prop := if 3 < way then True else if way = 3 then (¬ b < (-15) ∧ ¬ 15 < b) else fs_short b
theorem fs_l32 {a b : Int32} : (a < b) = (a.toInt < b.toInt) := propext Int32.lt_iff_toInt_lt
theorem fs_e32 {a b : Int32} : (a ≤ b) = (a.toInt ≤ b.toInt) := propext Int32.le_iff_toInt_le
theorem fs_small5 {way a b : Int32} : (fs_way way b 15 ∧ fs_short a ∧ (¬ 2 < way → fs_short b)) ↔ ((¬ way < 0 ∧ ¬ 5 < way) ∧ fs_short a ∧ fs_sec way b) := by
  rw [fs_way5]
  unfold fs_sec
  have h2 : (2 : Int32).toInt = 2 := by decide
  have h3 : (3 : Int32).toInt = 3 := by decide
  by_cases g : 3 < way
  · rw [if_pos g]
    have n3 : ¬ way = 3 := fun e => by subst e; exact absurd g (by decide)
    have n2 : 2 < way := by rw [fs_l32, h2]; rw [fs_l32, h3] at g; omega
    exact ⟨fun q => ⟨q.1.1, q.2.1, trivial⟩, fun q => ⟨⟨q.1, fun z => absurd z n3⟩, q.2.1, fun z => absurd n2 z⟩⟩
  · rw [if_neg g]
    by_cases e : way = 3
    · rw [if_pos e]
      have n2 : 2 < way := by subst e; decide
      exact ⟨fun q => ⟨q.1.1, q.2.1, q.1.2 e⟩, fun q => ⟨⟨q.1, fun _ => q.2.2⟩, q.2.1, fun z => absurd n2 z⟩⟩
    · rw [if_neg e]
      have n2 : ¬ 2 < way := by
        intro z
        rw [fs_l32, h2] at z; rw [fs_l32, h3] at g
        exact e (Int32.toInt_inj.mp (by rw [h3]; omega))
      exact ⟨fun q => ⟨q.1.1, q.2.1, q.2.2 n2⟩, fun q => ⟨⟨q.1, fun z => absurd z e⟩, q.2.1, fun _ => q.2.2⟩⟩
theorem fs_c15 {k : Int32} : (¬ 15 < k) ↔ ¬ 16 ≤ k := by
  have h1 : (15 : Int32).toInt = 15 := by decide
  have h2 : (16 : Int32).toInt = 16 := by decide
  rw [fs_l32, fs_e32, h1, h2]; omega
theorem fs_c3 {k : Int32} : (¬ 3 < k) ↔ ¬ 4 ≤ k := by
  have h1 : (3 : Int32).toInt = 3 := by decide
  have h2 : (4 : Int32).toInt = 4 := by decide
  rw [fs_l32, fs_e32, h1, h2]; omega
theorem fs_c4 {k : Int32} : (¬ 4 < k) ↔ ¬ 5 ≤ k := by
  have h1 : (4 : Int32).toInt = 4 := by decide
  have h2 : (5 : Int32).toInt = 5 := by decide
  rw [fs_l32, fs_e32, h1, h2]; omega
theorem fs_c31 {k : Int32} : (¬ 31 < k) ↔ ¬ 32 ≤ k := by
  have h1 : (31 : Int32).toInt = 31 := by decide
  have h2 : (32 : Int32).toInt = 32 := by decide
  rw [fs_l32, fs_e32, h1, h2]; omega
theorem fs_c5 {k : Int32} : (¬ 5 < k) ↔ k ≤ 5 := by
  have h1 : (5 : Int32).toInt = 5 := by decide
  rw [fs_l32, fs_e32, h1]; omega
-- short times short
theorem fs_shr {a : Int32} (h : fs_short a) : -32768 ≤ a.toInt ∧ a.toInt ≤ 32767 := by
  have h1 : (-32768 : Int32).toInt = -32768 := by decide
  have h2 : (32767 : Int32).toInt = 32767 := by decide
  obtain ⟨p, q⟩ := h
  rw [fs_l32, h1] at p; rw [fs_l32, h2] at q
  omega
theorem fs_smul {a b : Int32} (ha : fs_short a) (hb : fs_short b) : Int32.toInt64 (a * b) = Int32.toInt64 a * Int32.toInt64 b := by
  have h1 := fs_shr ha
  have h2 := fs_shr hb
  have hx : -1073741824 ≤ a.toInt * b.toInt ∧ a.toInt * b.toInt ≤ 1073741824 := by
    have e1 : a.toInt * b.toInt ≤ 32768 * 32768 := by
      have : (a.toInt * b.toInt).natAbs ≤ 32768 * 32768 := by
        rw [Int.natAbs_mul]
        exact Nat.mul_le_mul (by omega) (by omega)
      omega
    have e2 : -(32768 * 32768) ≤ a.toInt * b.toInt := by
      have : (a.toInt * b.toInt).natAbs ≤ 32768 * 32768 := by
        rw [Int.natAbs_mul]
        exact Nat.mul_le_mul (by omega) (by omega)
      omega
    omega
  apply Int64.toInt_inj.mp
  rw [fs_i64, Int32.toInt_mul, Int64.toInt_mul, fs_i64, fs_i64]
  rw [Int.bmod_eq_of_le (by omega) (by omega), Int.bmod_eq_of_le (by omega) (by omega)]
theorem fs_shk_at (g : Nat → Int32) {j : Nat} (h : j < 15) : fs_shk g j (j + 1) = g j := by unfold fs_shk; rw [if_pos (by omega)]; rfl
theorem fs_shift_s (g : Nat → Int32) (x : Int32) {j : Nat} (h : j < 15) : fs_shift g x (j + 1) = g j := by unfold fs_shift; rw [if_neg (by omega), if_pos (by omega)]; rfl
theorem fs_dstep {f g : Nat → Int32} {x : Int32} {j : Nat} {sm : Int64} (hj : j < 15) (hf : fs_short (f (j + 1))) (hg : fs_short (g j)) (h : sm + fs_dot f (fs_shift g x) (j + 1 + 1) = fs_dot f (fs_shift g x) 16) : sm + Int32.toInt64 (f (j + 1) * g j) + fs_dot f (fs_shift g x) (j + 1) = fs_dot f (fs_shift g x) 16 := by
  have e : fs_dot f (fs_shift g x) (j + 1 + 1) = fs_dot f (fs_shift g x) (j + 1) + Int32.toInt64 (f (j + 1)) * Int32.toInt64 (fs_shift g x (j + 1)) := rfl
  rw [← h, e, fs_shift_s g x hj, fs_smul hf hg, Int64.add_assoc, Int64.add_comm (Int32.toInt64 (f (j + 1)) * Int32.toInt64 (g j))]
theorem fs_dlast {f g : Nat → Int32} {x : Int32} {sm : Int64} (hf : fs_short (f 0)) (hx : fs_short x) (h : sm + fs_dot f (fs_shift g x) (0 + 1) = fs_dot f (fs_shift g x) 16) : sm + Int32.toInt64 (f 0 * x) = fs_dot f (fs_shift g x) 16 := by
  rw [← h, fs_dot, fs_dot, fs_smul hf hx, Int64.zero_add]; rfl
-- the chain
def fs_cs (fa bb : Nat → Int32) (x : Int32) : Nat → (Nat → Int32) × Int32
  | 0 => (bb, x)
  | s + 1 => (upd (upd (upd (upd (fs_cs fa bb x s).1 (4 * s + 1) ((fs_cs fa bb x s).1 (4 * s))) (4 * s) (fs_cs fa bb x s).2) (4 * s + 3) ((fs_cs fa bb x s).1 (4 * s + 2))) (4 * s + 2) (fs_st (fun j => fa (5 * s + j)) ((fs_cs fa bb x s).1 (4 * s)) ((fs_cs fa bb x s).1 (4 * s + 1)) ((fs_cs fa bb x s).1 (4 * s + 2)) ((fs_cs fa bb x s).1 (4 * s + 3)) (fs_cs fa bb x s).2), fs_st (fun j => fa (5 * s + j)) ((fs_cs fa bb x s).1 (4 * s)) ((fs_cs fa bb x s).1 (4 * s + 1)) ((fs_cs fa bb x s).1 (4 * s + 2)) ((fs_cs fa bb x s).1 (4 * s + 3)) (fs_cs fa bb x s).2)
-- signs
theorem fs_sm1 (a b : Int64) : a - (-1) * b = a + b := by rw [← Int64.neg_eq_neg_one_mul, Int64.sub_neg]
theorem fs_am1 (a b : Int64) : a + (-1) * b = a - b := by rw [← Int64.neg_eq_neg_one_mul, ← Int64.sub_eq_add_neg]
theorem fs_s1 (a b : Int64) : a - 1 * b = a - b := by rw [Int64.one_mul]
theorem fs_a1 (a b : Int64) : a + 1 * b = a + b := by rw [Int64.one_mul]
theorem fs_tn0 (k : Nat) (t : fs_T) : fs_tn k 0 t = (t.1 + t.2.1 >>> (Int32.toInt64 (nI k) &&& 63), t.2.1 - t.1 >>> (Int32.toInt64 (nI k) &&& 63), t.2.2 + Int32.toInt64 (fs_arc k)) := if_pos rfl
theorem fs_tn1 (k : Nat) (t : fs_T) : fs_tn k 1 t = (t.1 - t.2.1 >>> (Int32.toInt64 (nI k) &&& 63), t.2.1 + t.1 >>> (Int32.toInt64 (nI k) &&& 63), t.2.2 - Int32.toInt64 (fs_arc k)) := if_neg (by decide)
theorem fs_sz_i (a : Int32) : (fs_sz (Int32.toInt64 a)).toInt = if 0 ≤ a.toInt then a.toInt else -a.toInt := by
  unfold fs_sz
  have h0 : (0 : Int64).toInt = 0 := by decide
  have hr := fs_i32r a
  by_cases h : (0 : Int64) ≤ Int32.toInt64 a
  · rw [if_pos h]; rw [fs_e64, h0, fs_i64] at h; rw [if_pos h, fs_i64]
  · rw [if_neg h]; rw [fs_e64, h0, fs_i64] at h; rw [if_neg h, Int64.toInt_neg, fs_i64]
    exact Int.bmod_eq_of_le (by omega) (by omega)
theorem fs_wv0 {a : Int32} (h1 : ¬ 1073741824 < Int32.toInt64 a) (h2 : (-1073741824) ≤ Int32.toInt64 a) : fs_wave (Int32.toInt64 a) = fs_w (Int32.toInt64 a) 30 := by
  unfold fs_wave
  have e1 : (1073741824 : Int64).toInt = 1073741824 := by decide
  have e2 : (-1073741824 : Int64).toInt = -1073741824 := by decide
  rw [fs_l64, e1, fs_i64] at h1; rw [fs_e64, e2, fs_i64] at h2
  rw [if_pos]
  rw [fs_e64, e1, fs_sz_i]
  split <;> omega
theorem fs_wvp {a : Int32} (h1 : 1073741824 < Int32.toInt64 a) : fs_wave (Int32.toInt64 a) = fs_neg (fs_w (Int32.toInt64 a - 2147483648) 30) := by
  unfold fs_wave
  have e1 : (1073741824 : Int64).toInt = 1073741824 := by decide
  have e0 : (0 : Int64).toInt = 0 := by decide
  rw [fs_l64, e1, fs_i64] at h1
  rw [if_neg, if_pos]
  · rw [fs_e64, e0, fs_i64]; omega
  · rw [fs_e64, e1, fs_sz_i]; split <;> omega
theorem fs_wvn {a : Int32} (h2 : ¬ (-1073741824) ≤ Int32.toInt64 a) : fs_wave (Int32.toInt64 a) = fs_neg (fs_w (Int32.toInt64 a + 2147483648) 30) := by
  unfold fs_wave
  have e1 : (1073741824 : Int64).toInt = 1073741824 := by decide
  have e2 : (-1073741824 : Int64).toInt = -1073741824 := by decide
  have e0 : (0 : Int64).toInt = 0 := by decide
  rw [fs_e64, e2, fs_i64] at h2
  rw [if_neg, if_neg]
  · rw [fs_e64, e0, fs_i64]; omega
  · rw [fs_e64, e1, fs_sz_i]; split <;> omega
theorem fs_gt0 {a : Int32} (h1 : 1073741824 < Int32.toInt64 a) : ¬ Int32.toInt64 a ≤ 0 := by
  have e1 : (1073741824 : Int64).toInt = 1073741824 := by decide
  have e0 : (0 : Int64).toInt = 0 := by decide
  rw [fs_l64, e1] at h1; rw [fs_e64, e0]; omega
theorem fs_lt0 {a : Int32} (h2 : ¬ (-1073741824) ≤ Int32.toInt64 a) : Int32.toInt64 a ≤ 0 := by
  have e2 : (-1073741824 : Int64).toInt = -1073741824 := by decide
  have e0 : (0 : Int64).toInt = 0 := by decide
  rw [fs_e64, e2] at h2; rw [fs_e64, e0]; omega
theorem fs_i0 (x : Int32) : (0 ≤ Int32.toInt64 x) ↔ 0 ≤ x := by
  have e0 : (0 : Int64).toInt = 0 := by decide
  have e1 : (0 : Int32).toInt = 0 := by decide
  rw [fs_e64, fs_e32, e0, e1, fs_i64]
theorem fs_axP {x y : Int32} (h : 0 ≤ x) : fs_axis (Int32.toInt64 x) (Int32.toInt64 y) = fs_a (Int32.toInt64 x, Int32.toInt64 y, 0) 30 := by unfold fs_axis; rw [if_pos ((fs_i0 x).mpr h)]
theorem fs_axN {x y : Int32} (h : ¬ 0 ≤ x) : fs_axis (Int32.toInt64 x) (Int32.toInt64 y) = fs_a (-Int32.toInt64 x, -Int32.toInt64 y, -2147483648) 30 := by unfold fs_axis; rw [if_neg (fun z => h ((fs_i0 x).mp z))]
def fs_cp (f g : Nat → Int64) (k : Nat) : Nat → Int64 := fun j => if j < k then g j else f j
theorem fs_cp_0 (f g : Nat → Int64) : fs_cp f g 0 = f := by funext j; unfold fs_cp; rw [if_neg (by omega)]
theorem fs_cp_s (f g : Nat → Int64) (k : Nat) : vp_updL (fs_cp f g k) k (g k) = fs_cp f g (k + 1) := by
  funext j; unfold vp_updL fs_cp
  by_cases h1 : j = k
  · subst h1; rw [if_pos rfl, if_pos (by omega)]
  · rw [if_neg h1]
    by_cases h2 : j < k
    · rw [if_pos h2, if_pos (by omega)]
    · rw [if_neg h2, if_neg (by omega)]
theorem fs_cp_n (m : Nat) (re im : Nat → Int32) : fs_cp (fs_il re im) (fs_il (fs_pm m re) (fs_pm m im)) (2 * 2 ^ m) = fs_il (fs_pm m re) (fs_pm m im) := by
  funext j; unfold fs_cp
  by_cases h : j < 2 * 2 ^ m
  · rw [if_pos h]
  · rw [if_neg h]; unfold fs_il fs_pm
    by_cases h2 : j % 2 = 0
    · rw [if_pos h2, if_pos h2, if_neg (by omega)]
    · rw [if_neg h2, if_neg h2, if_neg (by omega)]
theorem fs_tt0 {m k : Nat} {re im : Nat → Int32} {tt : Nat → Int64} (hk : k < 2 ^ m) (h : ∀ j, j < 2 * k → tt j = fs_il (fs_pm m re) (fs_pm m im) j) :
    ∀ j, j < 2 * (k + 1) → vp_updL (vp_updL tt (2 * k) (Int32.toInt64 (re (fs_rn m k)))) (2 * k + 1) (Int32.toInt64 (im (fs_rn m k))) j = fs_il (fs_pm m re) (fs_pm m im) j := by
  intro j hj
  unfold vp_updL
  by_cases h1 : j = 2 * k + 1
  · rw [if_pos h1, h1, fs_il_o]; unfold fs_pm; rw [if_pos hk]
  · rw [if_neg h1]
    by_cases h2 : j = 2 * k
    · rw [if_pos h2, h2, fs_il_e]; unfold fs_pm; rw [if_pos hk]
    · rw [if_neg h2]; exact h j (by omega)
