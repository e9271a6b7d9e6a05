-- the pure functions that both sides are tied to
def fs_bi (P : Prop) [Decidable P] : Int32 := if P then 1 else 0
theorem fs_bi_0 {P : Prop} [Decidable P] : fs_bi P = 0 ↔ ¬ P := by unfold fs_bi; by_cases h : P <;> simp [h]
theorem fs_bi_nz {P : Prop} [Decidable P] : ¬ fs_bi P = 0 ↔ P := by unfold fs_bi; by_cases h : P <;> simp [h]
theorem fs_bi_t {P : Prop} [Decidable P] (h : P) : fs_bi P = 1 := if_pos h
theorem fs_bi_f {P : Prop} [Decidable P] (h : ¬ P) : fs_bi P = 0 := if_neg h
def fs_rd (v : Int64) (k : Int32) : Int64 := (v + (1 : Int64) <<< (Int32.toInt64 (k - 1) &&& 63)) >>> (Int32.toInt64 k &&& 63)
def fs_sz (a : Int64) : Int64 := if 0 ≤ a then a else -a
def fs_sat (v m : Int64) : Int32 := Int64.toInt32 (if v ≤ m then (if (-m - 1) ≤ v then v else (-m - 1)) else m)
def fs_mv (v : Int64) (b : Int32) : Int64 := if b < 0 then fs_rd v (-b) else v <<< (Int32.toInt64 b &&& 63)
def fs_reck (way : Int32) (a b : Int64) (bits : Int32) : Int64 := if way = 0 then a + b else if way = 1 then a - b else if way = 2 then fs_rd (a * b) bits else if way = 3 then fs_mv a (Int64.toInt32 b) else if way = 4 then -a else fs_sz a
abbrev fs_short (v : Int32) : Prop := ¬ v < (-32768) ∧ ¬ 32767 < v
abbrev fs_way (way b most : Int32) : Prop := if way = 3 then (¬ b < (-most) ∧ ¬ most < b) else (¬ way < 0 ∧ ¬ 5 < way)
abbrev fs_near (v : Int32) : Prop := ¬ v < (-536870912) ∧ ¬ 536870912 < v
theorem fs_l64 {a b : Int64} : (a < b) = (a.toInt < b.toInt) := propext Int64.lt_iff_toInt_lt
theorem fs_e64 {a b : Int64} : (a ≤ b) = (a.toInt ≤ b.toInt) := propext Int64.le_iff_toInt_le
theorem fs_sat15 (v : Int64) : Int64.toInt32 (if (if v < 32767 then v else 32767) < (-32768) then (-32768) else (if v < 32767 then v else 32767)) = fs_sat v 32767 := by
  unfold fs_sat
  have e1 : ((-32767 - 1 : Int64)) = -32768 := by decide
  rw [e1]
  have h1 : (32767 : Int64).toInt = 32767 := by decide
  have h2 : (-32768 : Int64).toInt = -32768 := by decide
  simp only [fs_l64, fs_e64, h1, h2]
  by_cases a : v.toInt < 32767
  · rw [if_pos a]
    by_cases b : v.toInt < -32768
    · rw [if_pos b, if_pos (by omega), if_neg (by omega)]
    · rw [if_neg b, if_pos (by omega), if_pos (by omega)]
  · rw [if_neg a, h1, if_neg (by omega)]
    by_cases b : v.toInt ≤ 32767
    · have : v = 32767 := Int64.toInt_inj.mp (by rw [h1]; omega)
      rw [if_pos b, if_pos (by omega), this]
    · rw [if_neg b]
theorem fs_sat31 (v : Int64) : Int64.toInt32 (if (if v < 2147483647 then v else 2147483647) < (-2147483648) then (-2147483648) else (if v < 2147483647 then v else 2147483647)) = fs_sat v 2147483647 := by
  unfold fs_sat
  have e1 : ((-2147483647 - 1 : Int64)) = -2147483648 := by decide
  rw [e1]
  have h1 : (2147483647 : Int64).toInt = 2147483647 := by decide
  have h2 : (-2147483648 : Int64).toInt = -2147483648 := by decide
  simp only [fs_l64, fs_e64, h1, h2]
  by_cases a : v.toInt < 2147483647
  · rw [if_pos a]
    by_cases b : v.toInt < -2147483648
    · rw [if_pos b, if_pos (by omega), if_neg (by omega)]
    · rw [if_neg b, if_pos (by omega), if_pos (by omega)]
  · rw [if_neg a, h1, if_neg (by omega)]
    by_cases b : v.toInt ≤ 2147483647
    · have : v = 2147483647 := Int64.toInt_inj.mp (by rw [h1]; omega)
      rw [if_pos b, if_pos (by omega), this]
    · rw [if_neg b]
theorem fs_sw5 {x : Int32} (h0 : ¬ x = 0) (h1 : ¬ x = 1) (h2 : ¬ x = 2) (h3 : ¬ x = 3) (h4 : ¬ x = 4) : x.toInt < 0 ∨ 4 < x.toInt := by
  simp only [← Int32.toInt_inj] at h0 h1 h2 h3 h4
  have e0 : (0 : Int32).toInt = 0 := by decide
  have e1 : (1 : Int32).toInt = 1 := by decide
  have e2 : (2 : Int32).toInt = 2 := by decide
  have e3 : (3 : Int32).toInt = 3 := by decide
  have e4 : (4 : Int32).toInt = 4 := by decide
  omega
