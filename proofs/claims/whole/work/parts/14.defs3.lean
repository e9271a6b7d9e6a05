-- the block: the functions of both sides
abbrev fs_M31 : Int64 := 2147483647
def fs_ss (k : Nat) (back : Int32) : Int64 := if back = 0 then fs_sin k else -(fs_sin k)
def fs_u (re im : Nat → Int32) (q k : Nat) (back : Int32) : Int64 := fs_rd (Int32.toInt64 (re q) * fs_cos k + Int32.toInt64 (im q) * fs_ss k back) 31
def fs_v (re im : Nat → Int32) (q k : Nat) (back : Int32) : Int64 := fs_rd (Int32.toInt64 (im q) * fs_cos k - Int32.toInt64 (re q) * fs_ss k back) 31
def fs_xr (re im : Nat → Int32) (i q k : Nat) (back : Int32) : Nat → Int32 := upd (upd re i (fs_sat (Int32.toInt64 (re i) + fs_u re im q k back) 2147483647)) q (fs_sat (Int32.toInt64 (re i) - fs_u re im q k back) 2147483647)
def fs_xi (re im : Nat → Int32) (i q k : Nat) (back : Int32) : Nat → Int32 := upd (upd im i (fs_sat (Int32.toInt64 (im i) + fs_v re im q k back) 2147483647)) q (fs_sat (Int32.toInt64 (im i) - fs_v re im q k back) 2147483647)
def fs_il (re im : Nat → Int32) : Nat → Int64 := fun j => if j % 2 = 0 then Int32.toInt64 (re (j / 2)) else Int32.toInt64 (im (j / 2))
theorem fs_il_e (re im : Nat → Int32) (i : Nat) : fs_il re im (2 * i) = Int32.toInt64 (re i) := by
  unfold fs_il; rw [if_pos (by omega), show 2 * i / 2 = i from by omega]
theorem fs_il_o (re im : Nat → Int32) (i : Nat) : fs_il re im (2 * i + 1) = Int32.toInt64 (im i) := by
  unfold fs_il; rw [if_neg (by omega), show (2 * i + 1) / 2 = i from by omega]
theorem fs_il_ue (re im : Nat → Int32) (i : Nat) (x : Int32) : vp_updL (fs_il re im) (2 * i) (Int32.toInt64 x) = fs_il (upd re i x) im := by
  funext j; unfold vp_updL fs_il upd
  by_cases h : j = 2 * i
  · rw [if_pos h, if_pos (by omega), if_pos (by omega)]
  · rw [if_neg h]
    by_cases h2 : j % 2 = 0
    · rw [if_pos h2, if_pos h2, if_neg (by omega)]
    · rw [if_neg h2, if_neg h2]
theorem fs_il_uo (re im : Nat → Int32) (i : Nat) (x : Int32) : vp_updL (fs_il re im) (2 * i + 1) (Int32.toInt64 x) = fs_il re (upd im i x) := by
  funext j; unfold vp_updL fs_il upd
  by_cases h : j = 2 * i + 1
  · rw [if_pos h, if_neg (by omega), if_pos (by omega)]
  · rw [if_neg h]
    by_cases h2 : j % 2 = 0
    · rw [if_pos h2, if_pos h2]
    · rw [if_neg h2, if_neg h2, if_neg (by omega)]
theorem fs_il_0 : (fun _ => 0 : Nat → Int64) = fs_il (fun _ => 0) (fun _ => 0) := by
  funext j; unfold fs_il; by_cases h : j % 2 = 0
  · rw [if_pos h]; rfl
  · rw [if_neg h]; rfl
theorem fs_updC (f : Nat → Int32) {a b : Nat} (h : a ≠ b) (x y : Int32) : upd (upd f a x) b y = upd (upd f b y) a x := by
  funext j; unfold upd
  by_cases h1 : j = a
  · subst h1; rw [if_neg h, if_pos rfl, if_pos rfl]
  · by_cases h2 : j = b
    · rw [if_pos h2, if_neg h1, if_pos h2]
    · rw [if_neg h2, if_neg h1, if_neg h1, if_neg h2]
theorem fs_updn (f : Nat → Int32) {a b : Nat} (h : b ≠ a) (x : Int32) : upd f a x b = f b := by unfold upd; rw [if_neg h]
-- too big
abbrev fs_big (x : Int32) : Prop := 536870912 ≤ fs_sz (Int32.toInt64 x)
def fs_tb (re im : Nat → Int32) : Nat → Bool
  | 0 => false
  | k + 1 => fs_tb re im k || decide (fs_big (re k)) || decide (fs_big (im k))
theorem fs_tb_of {re im : Nat → Int32} {k : Nat} (hb : fs_big (re k) ∨ fs_big (im k)) : ∀ n, k < n → fs_tb re im n = true := by
  intro n
  induction n with
  | zero => intro h; exact absurd h (by omega)
  | succ n ih =>
    intro h
    by_cases h1 : k = n
    · subst h1; rcases hb with hb | hb <;> simp [fs_tb, hb]
    · simp [fs_tb, ih (by omega)]
def fs_hb (f : Nat → Int64) : Nat → Bool
  | 0 => false
  | k + 1 => fs_hb f k || decide (536870912 ≤ f k) || decide (f k ≤ (-536870912))
theorem fs_i64 (x : Int32) : (Int32.toInt64 x).toInt = x.toInt := Int32.toInt_toInt64 x
theorem fs_i32r (x : Int32) : -2147483648 ≤ x.toInt ∧ x.toInt < 2147483648 := ⟨Int32.le_toInt x, Int32.toInt_lt x⟩
theorem fs_big_iff (x : Int32) : fs_big x ↔ (536870912 ≤ Int32.toInt64 x ∨ Int32.toInt64 x ≤ (-536870912)) := by
  unfold fs_big fs_sz
  have h1 : (536870912 : Int64).toInt = 536870912 := by decide
  have h2 : (-536870912 : Int64).toInt = -536870912 := by decide
  have h0 : (0 : Int64).toInt = 0 := by decide
  have hr := fs_i32r x
  by_cases h : (0 : Int64) ≤ Int32.toInt64 x
  · rw [if_pos h]
    rw [Int64.le_iff_toInt_le, h0, fs_i64] at h
    simp only [fs_e64, h1, h2, fs_i64]
    omega
  · rw [if_neg h]
    rw [Int64.le_iff_toInt_le, h0, fs_i64] at h
    have hn : (-(Int32.toInt64 x)).toInt = -x.toInt := by
      rw [Int64.toInt_neg, fs_i64]
      exact Int.bmod_eq_of_le (by omega) (by omega)
    simp only [fs_e64, h1, h2, fs_i64, hn]
    omega
theorem fs_hb_tb (re im : Nat → Int32) : ∀ n, fs_hb (fs_il re im) (2 * n) = fs_tb re im n := by
  intro n
  induction n with
  | zero => rfl
  | succ n ih =>
    rw [show 2 * (n + 1) = 2 * n + 1 + 1 from by omega, fs_hb, fs_hb, ih, fs_tb, fs_il_o, fs_il_e]
    rw [show decide (fs_big (re n)) = (decide (536870912 ≤ Int32.toInt64 (re n)) || decide (Int32.toInt64 (re n) ≤ (-536870912))) from by
      rw [← Bool.decide_or]; exact decide_eq_decide.mpr (fs_big_iff _)]
    rw [show decide (fs_big (im n)) = (decide (536870912 ≤ Int32.toInt64 (im n)) || decide (Int32.toInt64 (im n) ≤ (-536870912))) from by
      rw [← Bool.decide_or]; exact decide_eq_decide.mpr (fs_big_iff _)]
    simp only [Bool.or_assoc]
-- made smaller
def fs_lo (f : Nat → Int32) (n : Nat) : Nat → Int32 := fun j => if j < n then Int64.toInt32 (fs_rd (Int32.toInt64 (f j)) 1) else f j
theorem fs_lo_0 (f : Nat → Int32) : fs_lo f 0 = f := by funext j; unfold fs_lo; rw [if_neg (by omega)]
theorem fs_lo_k (f : Nat → Int32) (k : Nat) : fs_lo f k k = f k := by unfold fs_lo; rw [if_neg (by omega)]
theorem fs_lo_s (f : Nat → Int32) (k : Nat) : upd (fs_lo f k) k (Int64.toInt32 (fs_rd (Int32.toInt64 (f k)) 1)) = fs_lo f (k + 1) := by
  funext j; unfold upd fs_lo
  by_cases h1 : j = k
  · subst h1; rw [if_pos rfl, if_pos (by omega)]
  · rw [if_neg h1]
    by_cases h2 : j < k
    · rw [if_pos h2, if_pos (by omega)]
    · rw [if_neg h2, if_neg (by omega)]
def fs_lk (f : Nat → Int64) (n : Nat) : Nat → Int64 := fun j => if j < n then fs_rd (f j) 1 else f j
theorem fs_lk_0 (f : Nat → Int64) : fs_lk f 0 = f := by funext j; unfold fs_lk; rw [if_neg (by omega)]
theorem fs_lk_k (f : Nat → Int64) (k : Nat) : fs_lk f k k = f k := by unfold fs_lk; rw [if_neg (by omega)]
theorem fs_lk_s (f : Nat → Int64) (k : Nat) : vp_updL (fs_lk f k) k (fs_rd (f k) 1) = fs_lk f (k + 1) := by
  funext j; unfold vp_updL fs_lk
  by_cases h1 : j = k
  · subst h1; rw [if_pos rfl, if_pos (by omega)]
  · rw [if_neg h1]
    by_cases h2 : j < k
    · rw [if_pos h2, if_pos (by omega)]
    · rw [if_neg h2, if_neg (by omega)]
theorem fs_shr1 (y : Int64) : (y >>> (1 : Int64)).toInt = y.toInt / 2 := by
  show (y.toBitVec.sshiftRight' ((1 : Int64).toBitVec.smod 64)).toInt = _
  rw [show ((1 : Int64).toBitVec.smod 64) = 1#64 from by decide]
  rw [BitVec.toInt_sshiftRight']
  show y.toInt >>> 1 = _
  rw [Int.shiftRight_eq_div_pow]
  rfl
theorem fs_rd1 (x : Int32) : Int32.toInt64 (Int64.toInt32 (fs_rd (Int32.toInt64 x) 1)) = fs_rd (Int32.toInt64 x) 1 := by
  have hr := fs_i32r x
  have e1 : fs_rd (Int32.toInt64 x) 1 = (Int32.toInt64 x + 1) >>> (1 : Int64) := by
    unfold fs_rd
    rw [show (1 : Int64) <<< (Int32.toInt64 (1 - 1) &&& 63) = 1 from by decide, show (Int32.toInt64 1 &&& 63) = (1 : Int64) from by decide]
  have e2 : (Int32.toInt64 x + 1).toInt = x.toInt + 1 := by
    rw [Int64.toInt_add, fs_i64]
    exact Int.bmod_eq_of_le (by show _ ≤ x.toInt + 1; omega) (by show x.toInt + 1 < _; omega)
  have e3 : (fs_rd (Int32.toInt64 x) 1).toInt = (x.toInt + 1) / 2 := by
    rw [e1]
    have := fs_shr1 (Int32.toInt64 x + 1)
    rw [this, e2]
  apply Int64.toInt_inj.mp
  rw [fs_i64, Int64.toInt_toInt32, e3]
  exact Int.bmod_eq_of_le (by omega) (by omega)
theorem fs_lk_il (re im : Nat → Int32) (n : Nat) : fs_lk (fs_il re im) (2 * n) = fs_il (fs_lo re n) (fs_lo im n) := by
  funext j; unfold fs_lk fs_il fs_lo
  by_cases h : j % 2 = 0
  · rw [if_pos h, if_pos h]
    by_cases h2 : j < 2 * n
    · rw [if_pos h2, if_pos (by omega), fs_rd1]
    · rw [if_neg h2, if_neg (by omega)]
  · rw [if_neg h, if_neg h]
    by_cases h2 : j < 2 * n
    · rw [if_pos h2, if_pos (by omega), fs_rd1]
    · rw [if_neg h2, if_neg (by omega)]
abbrev fs_K : Type := (Nat → Int32) × (Nat → Int32) × Int32
def fs_low (n : Nat) (S : fs_K) : fs_K := if fs_tb S.1 S.2.1 n = true then (fs_lo S.1 n, fs_lo S.2.1 n, S.2.2 + 1) else S
theorem fs_low_t {n : Nat} {S : fs_K} (h : fs_tb S.1 S.2.1 n = true) : fs_low n S = (fs_lo S.1 n, fs_lo S.2.1 n, S.2.2 + 1) := if_pos h
theorem fs_low_f {n : Nat} {S : fs_K} (h : ¬ fs_tb S.1 S.2.1 n = true) : fs_low n S = S := if_neg h
-- the order turned round
def fs_rn (m i : Nat) : Nat := (fs_rev (nI i) m).toNatClampNeg
theorem fs_rn_all : ∀ m, m < 6 → ∀ i, i < 2 ^ m → fs_rev (nI i) m = nI (fs_rn m i) ∧ fs_rn m i < 2 ^ m ∧ fs_rn m (fs_rn m i) = i := by decide +kernel
def fs_pk (m k : Nat) (f : Nat → Int32) : Nat → Int32 := fun j => if j < 2 ^ m ∧ (j < k ∨ fs_rn m j < k) then f (fs_rn m j) else f j
def fs_pm (m : Nat) (f : Nat → Int32) : Nat → Int32 := fun j => if j < 2 ^ m then f (fs_rn m j) else f j
theorem fs_pk_0 (m : Nat) (f : Nat → Int32) : fs_pk m 0 f = f := by funext j; unfold fs_pk; rw [if_neg (by omega)]
theorem fs_pk_n {m : Nat} (f : Nat → Int32) : fs_pk m (2 ^ m) f = fs_pm m f := by
  funext j; unfold fs_pk fs_pm
  by_cases h : j < 2 ^ m
  · rw [if_pos ⟨h, Or.inl h⟩, if_pos h]
  · rw [if_neg (fun q => h q.1), if_neg h]
theorem fs_pk_s {m k : Nat} (hm : m < 6) (hk : k < 2 ^ m) (h : k < fs_rn m k) (f : Nat → Int32) : upd (upd (fs_pk m k f) k (fs_pk m k f (fs_rn m k))) (fs_rn m k) (fs_pk m k f k) = fs_pk m (k + 1) f := by
  obtain ⟨-, h1, h2⟩ := fs_rn_all m hm k hk
  generalize hq : fs_rn m k = q at h h1 h2 ⊢
  have vk : fs_pk m k f k = f k := by unfold fs_pk; rw [if_neg (by rw [hq]; omega)]
  have vq : fs_pk m k f q = f q := by unfold fs_pk; rw [if_neg (by rw [h2]; omega)]
  rw [vk, vq]
  funext j; unfold upd
  by_cases a : j = q
  · subst a; rw [if_pos rfl]; unfold fs_pk; rw [if_pos (by rw [h2]; omega), h2]
  · rw [if_neg a]
    by_cases b : j = k
    · subst b; rw [if_pos rfl]; unfold fs_pk; rw [if_pos (by omega), hq]
    · rw [if_neg b]; unfold fs_pk
      by_cases c : j < 2 ^ m
      · obtain ⟨-, g1, g2⟩ := fs_rn_all m hm j c
        have hne : fs_rn m j ≠ k := fun e => a (by rw [← g2, e, hq])
        by_cases d : j < k ∨ fs_rn m j < k
        · rw [if_pos ⟨c, d⟩, if_pos ⟨c, by omega⟩]
        · rw [if_neg (fun z => d z.2), if_neg (fun z => by have := z.2; omega)]
      · rw [if_neg (fun z => c z.1), if_neg (fun z => c z.1)]
theorem fs_pk_n2 {m k : Nat} (hm : m < 6) (hk : k < 2 ^ m) (h : ¬ k < fs_rn m k) (f : Nat → Int32) : fs_pk m k f = fs_pk m (k + 1) f := by
  obtain ⟨-, h1, h2⟩ := fs_rn_all m hm k hk
  funext j; unfold fs_pk
  by_cases c : j < 2 ^ m
  · obtain ⟨-, g1, g2⟩ := fs_rn_all m hm j c
    by_cases d : j < k ∨ fs_rn m j < k
    · rw [if_pos ⟨c, d⟩, if_pos ⟨c, by omega⟩]
    · rw [if_neg (fun z => d z.2)]
      by_cases e : j = k
      · subst e
        by_cases e2 : fs_rn m j = j
        · rw [if_pos ⟨c, by omega⟩, e2]
        · exact absurd (show fs_rn m j < j by omega) (fun z => d (Or.inr z))
      · by_cases e2 : fs_rn m j = k
        · have : fs_rn m k = j := by rw [← e2, g2]
          rw [this] at h
          exact absurd (show j < k by omega) (fun z => d (Or.inl z))
        · rw [if_neg (fun z => by have := z.2; omega)]
  · rw [if_neg (fun z => c z.1), if_neg (fun z => c z.1)]
-- the passes
def fs_cr (i : Nat) (back : Int32) (re im : Nat → Int32) : Nat → (Nat → Int32) × (Nat → Int32)
  | 0 => (re, im)
  | k + 1 => if k / 2 ^ i % 2 = 0 then (fs_xr (fs_cr i back re im k).1 (fs_cr i back re im k).2 k (k + 2 ^ i) (k % 2 ^ i * 16 / 2 ^ i) back, fs_xi (fs_cr i back re im k).1 (fs_cr i back re im k).2 k (k + 2 ^ i) (k % 2 ^ i * 16 / 2 ^ i) back) else fs_cr i back re im k
theorem fs_crT {i k : Nat} {back : Int32} {re im : Nat → Int32} (h : k / 2 ^ i % 2 = 0) : fs_cr i back re im (k + 1) = (fs_xr (fs_cr i back re im k).1 (fs_cr i back re im k).2 k (k + 2 ^ i) (k % 2 ^ i * 16 / 2 ^ i) back, fs_xi (fs_cr i back re im k).1 (fs_cr i back re im k).2 k (k + 2 ^ i) (k % 2 ^ i * 16 / 2 ^ i) back) := by rw [fs_cr, if_pos h]
theorem fs_crF {i k : Nat} {back : Int32} {re im : Nat → Int32} (h : ¬ k / 2 ^ i % 2 = 0) : fs_cr i back re im (k + 1) = fs_cr i back re im k := by rw [fs_cr, if_neg h]
def fs_pass (m : Nat) (back : Int32) (i : Nat) (S : fs_K) : fs_K :=
  ((fs_cr i back (fs_low (2 ^ m) (fs_low (2 ^ m) S)).1 (fs_low (2 ^ m) (fs_low (2 ^ m) S)).2.1 (2 ^ m)).1, (fs_cr i back (fs_low (2 ^ m) (fs_low (2 ^ m) S)).1 (fs_low (2 ^ m) (fs_low (2 ^ m) S)).2.1 (2 ^ m)).2, (fs_low (2 ^ m) (fs_low (2 ^ m) S)).2.2)
def fs_tr (m : Nat) (back : Int32) (S : fs_K) : Nat → fs_K
  | 0 => (fs_pm m S.1, fs_pm m S.2.1, S.2.2)
  | i + 1 => fs_pass m back i (fs_tr m back S i)
theorem fs_pw1 : ∀ m, m < 6 → (1 : Int32) <<< (nI m &&& 31) = nI (2 ^ m) := by decide +kernel
theorem fs_pw2 : ∀ i, i < 6 → nI (2 ^ i) * 2 = nI (2 ^ (i + 1)) ∧ 2 * nI (2 ^ i) = nI (2 ^ (i + 1)) := by decide +kernel
theorem fs_pw3 : ∀ m, m < 6 → ∀ i, i < 6 → (nI (2 ^ m) ≤ nI (2 ^ i) ↔ m ≤ i) := by decide +kernel
theorem fs_pw4 : ∀ i, i < 6 → 2 ^ i ≤ 32 ∧ 0 < 2 ^ i := by decide +kernel
theorem fs_pwm {i m : Nat} (h : i < m) (hm : m < 6) : 2 ^ i * 2 ≤ 2 ^ m := by
  have : 2 ^ (i + 1) ≤ 2 ^ m := Nat.pow_le_pow_right (by decide) h
  rw [Nat.pow_succ] at this; exact this
theorem fs_and1 : ∀ i, i < 5 → ∀ k, k < 32 → (nI k &&& nI (2 ^ i) = 0 ↔ k / 2 ^ i % 2 = 0) := by decide +kernel
theorem fs_and2 : ∀ i, i < 5 → ∀ k, k < 32 → (nI k &&& (nI (2 ^ i) - 1)) * 16 / nI (2 ^ i) = nI (k % 2 ^ i * 16 / 2 ^ i) := by decide +kernel
theorem fs_div1 : ∀ i, i < 5 → ∀ k, k < 32 → (nI k / nI (2 ^ i) - nI k / nI (2 ^ i) / 2 * 2 = 0 ↔ k / 2 ^ i % 2 = 0) := by decide +kernel
theorem fs_div2 : ∀ i, i < 5 → ∀ k, k < 32 → (nI k - nI k / nI (2 ^ i) * nI (2 ^ i)) * 16 / nI (2 ^ i) = nI (k % 2 ^ i * 16 / 2 ^ i) := by decide +kernel
theorem fs_wv : ∀ i, i < 5 → ∀ k, k < 32 → k % 2 ^ i * 16 / 2 ^ i < 16 := by decide +kernel
theorem fs_pwn : ∀ i, i < 6 → ¬ nI (2 ^ i) = 0 := by decide +kernel
theorem fs_top : ∀ m, m < 6 → ∀ i, i < m → ∀ k, k < 2 ^ m → k / 2 ^ i % 2 = 0 → k + 2 ^ i < 2 ^ m := by decide +kernel
def fs_mr (n : Nat) : Nat → fs_K → fs_K
  | 0, S => S
  | j + 1, S => fs_mr n j (fs_low n S)
