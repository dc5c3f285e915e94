/-! ints and numbers -/
theorem iz_lt_r {z : Int32} {a : Nat} (h : a < 2 ^ 31) : z < nI a ↔ z.toInt < (a : Int) := by rw [Int32.lt_iff_toInt_lt, nI_toInt h]
theorem iz_lt_l {z : Int32} {a : Nat} (h : a < 2 ^ 31) : nI a < z ↔ (a : Int) < z.toInt := by rw [Int32.lt_iff_toInt_lt, nI_toInt h]
theorem iz_le_r {z : Int32} {a : Nat} (h : a < 2 ^ 31) : z ≤ nI a ↔ z.toInt ≤ (a : Int) := by rw [Int32.le_iff_toInt_le, nI_toInt h]
theorem iz_le_l {z : Int32} {a : Nat} (h : a < 2 ^ 31) : nI a ≤ z ↔ (a : Int) ≤ z.toInt := by rw [Int32.le_iff_toInt_le, nI_toInt h]
theorem iz_eq {z : Int32} {a : Nat} (h : a < 2 ^ 31) : nI a = z ↔ (a : Int) = z.toInt := by
  rw [← Int32.toInt_inj, nI_toInt h]
theorem iz_eq' {z : Int32} {a : Nat} (h : a < 2 ^ 31) : z = nI a ↔ z.toInt = (a : Int) := by
  rw [← Int32.toInt_inj, nI_toInt h]
theorem iz_0 : (0 : Int32).toInt = 0 := by decide
theorem iz_lt0 {z : Int32} : z < 0 ↔ z.toInt < 0 := by rw [Int32.lt_iff_toInt_lt, iz_0]
theorem iz_ge0 {z : Int32} : 0 ≤ z ↔ 0 ≤ z.toInt := by rw [Int32.le_iff_toInt_le, iz_0]
theorem iz_le0 {z : Int32} : z ≤ 0 ↔ z.toInt ≤ 0 := by rw [Int32.le_iff_toInt_le, iz_0]
theorem iz_gt0 {z : Int32} : 0 < z ↔ 0 < z.toInt := by rw [Int32.lt_iff_toInt_lt, iz_0]
theorem iz_nat {z : Int32} (h : 0 ≤ z.toInt) : ∃ a : Nat, a < 2 ^ 31 ∧ z = nI a ∧ z.toInt = (a : Int) := by
  obtain ⟨a, ha, e⟩ := nI_of (x := z) (by rw [iz_lt0]; omega)
  exact ⟨a, ha, e, by rw [e, nI_toInt ha]⟩
theorem iz_max (z : Int32) : z.toInt < 2147483648 ∧ -2147483648 ≤ z.toInt := by
  have h1 := Int32.toInt_lt z
  have h2 := Int32.le_toInt z
  constructor <;> omega
theorem iz_m1 {a : Nat} (h : a < 2 ^ 31) : ¬ nI a = -1 := by
  intro e
  have := (iz_eq h).mp e
  have h1 : (-1 : Int32).toInt = -1 := by decide
  omega
theorem lz_dec (i : Nat) : nI i + Int32.ofInt (-1) = nI i - 1 := by
  rw [Int32.sub_eq_add_neg]; rfl
theorem iz_ne0 {a : Nat} (h : a < 2 ^ 31) : nI a = 0 ↔ a = 0 := by
  rw [← nI_0, nI_eq h (by omega)]
theorem il_toInt (z : Int32) : z.toInt64.toInt = z.toInt := Int32.toInt_toInt64 z
theorem il_1 (z : Int32) : (z.toInt64 + lN 1).toInt = z.toInt + 1 := by
  have := iz_max z
  have e : (lN 1).toInt = 1 := by decide
  rw [Int64.toInt_add, il_toInt, e]
  apply Int.bmod_eq_of_le <;> omega
theorem il_ge (x y : Int64) : 0 ≤ lg_cmp x y ↔ ¬ x.toInt < y.toInt := by
  rw [← Int64.lt_iff_toInt_lt]
  unfold lg_cmp
  by_cases h1 : y < x
  · have h2 : ¬ x < y := lg_lt_not h1
    simp only [h1, h2, if_true]
    decide
  · by_cases h2 : x = y
    · subst h2
      simp only [h1, if_false]
      decide
    · have h3 : x < y := by
        rw [Int64.lt_iff_toInt_lt]
        rw [Int64.lt_iff_toInt_lt] at h1
        rw [← Int64.toInt_inj] at h2
        omega
      simp only [h1, h2, h3, if_false]
      decide
theorem il_lt (x y : Int64) : lg_cmp x y < 0 ↔ x.toInt < y.toInt := by
  have := il_ge x y
  rw [iz_ge0] at this
  rw [iz_lt0]
  omega
theorem il_ge0 (x : Int64) (y : Int64) : 0 ≤ lg_cmp x y ↔ y.toInt ≤ x.toInt := by
  rw [il_ge]
  omega
