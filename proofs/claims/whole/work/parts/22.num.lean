/-! numbers -/
theorem am_b2t {P : Prop} [Decidable P] (h : P) : (some (.int 1) : Option Value) = some (.int (am_b2 (decide P))) := by rw [decide_eq_true h]; rfl
theorem am_b2f {P : Prop} [Decidable P] (h : ¬ P) : (some (.int 0) : Option Value) = some (.int (am_b2 (decide P))) := by rw [decide_eq_false h]; rfl
theorem am_lcm {x y : Int64} : (lg_cmp x y < 0) ↔ ¬ y ≤ x := by
  rw [← lg_cmp_ge, Int32.lt_iff_toInt_lt, Int32.le_iff_toInt_le]
  omega
theorem am_lcg {x y : Int64} : (0 < lg_cmp x y) ↔ ¬ x ≤ y := by
  unfold lg_cmp
  simp only [gt_iff_lt, Int64.lt_iff_toInt_lt, Int64.le_iff_toInt_le, ← Int64.toInt_inj]
  split
  · rename_i h; exact ⟨fun _ => by omega, fun _ => by decide⟩
  · rename_i h
    split
    · exact ⟨fun q => absurd q (by decide), fun q => by omega⟩
    · exact ⟨fun q => absurd q (by decide), fun q => by omega⟩
theorem am_in_iff {x : Int32} {n : Nat} : am_in x n = true ↔ 0 ≤ x.toInt ∧ x.toInt < (n : Int) := decide_eq_true_iff
theorem am_in_not {x : Int32} {n : Nat} : am_in x n = false ↔ ¬ (0 ≤ x.toInt ∧ x.toInt < (n : Int)) := decide_eq_false_iff_not
theorem am_in_nI {x : Int32} {n : Nat} (h : am_in x n = true) : ∃ k, k < n ∧ x = nI k := by
  obtain ⟨h1, h2⟩ := am_in_iff.mp h
  have hlt : x.toInt < 2 ^ 31 := by have := Int32.toInt_lt x; omega
  refine ⟨x.toInt.toNat, by omega, ?_⟩
  exact Int32.toInt_inj.mp (by rw [nI_toInt (by omega)]; omega)
theorem am_in_of_nI {k n : Nat} (h : k < n) (hk : k < 2 ^ 31) : am_in (nI k) n = true := am_in_iff.mpr (by rw [nI_toInt hk]; omega)
theorem am_in64 {x : Int32} {n : Nat} (hn : n < 2 ^ 31) : decide ((0 : Int64) ≤ x.toInt64 ∧ x.toInt64 ≤ (nI n - 1).toInt64) = am_in x n := by
  unfold am_in
  congr 1
  rw [Int64.le_iff_toInt_le, Int64.le_iff_toInt_le, Int32.toInt_toInt64, Int32.toInt_toInt64]
  have h0 : (0 : Int64).toInt = 0 := by decide
  rw [h0]
  have e : (nI n - 1).toInt = (n : Int) - 1 := by
    cases n with
    | zero => decide
    | succ n => rw [nI_pred, nI_toInt (by omega)]; omega
  rw [e]
  exact propext ⟨fun h => ⟨h.1, by omega⟩, fun h => ⟨h.1, by omega⟩⟩
theorem am_in64c {x : Int32} {n : Nat} {c : Int64} (hc : c.toInt = (n : Int) - 1) : decide ((0 : Int64) ≤ x.toInt64 ∧ x.toInt64 ≤ c) = am_in x n := by
  unfold am_in
  congr 1
  rw [Int64.le_iff_toInt_le, Int64.le_iff_toInt_le, Int32.toInt_toInt64, hc]
  have h0 : (0 : Int64).toInt = 0 := by decide
  rw [h0]
  exact propext ⟨fun h => ⟨h.1, by omega⟩, fun h => ⟨h.1, by omega⟩⟩
/-- -1 or below n -/
def am_in1 (x : Int32) (n : Nat) : Bool := decide (-1 ≤ x.toInt ∧ x.toInt < (n : Int))
theorem am_in1c {x : Int32} {n : Nat} {c : Int64} (hc : c.toInt = (n : Int) - 1) : decide ((-1 : Int64) ≤ x.toInt64 ∧ x.toInt64 ≤ c) = am_in1 x n := by
  unfold am_in1
  congr 1
  rw [Int64.le_iff_toInt_le, Int64.le_iff_toInt_le, Int32.toInt_toInt64, hc]
  have h0 : (-1 : Int64).toInt = -1 := by decide
  rw [h0]
  exact propext ⟨fun h => ⟨h.1, by omega⟩, fun h => ⟨h.1, by omega⟩⟩
theorem am_wi {x : Int32} {n : Nat} {c : Int32} (hc : c.toInt = (n : Int) - 1) : decide ((0 : Int32) ≤ x ∧ x ≤ c) = am_in x n := by
  unfold am_in
  congr 1
  rw [Int32.le_iff_toInt_le, Int32.le_iff_toInt_le, hc]
  have h0 : (0 : Int32).toInt = 0 := by decide
  rw [h0]
  exact propext ⟨fun h => ⟨h.1, by omega⟩, fun h => ⟨h.1, by omega⟩⟩
theorem am_wi1 {x : Int32} {n : Nat} {c : Int32} (hc : c.toInt = (n : Int) - 1) : decide ((-1 : Int32) ≤ x ∧ x ≤ c) = am_in1 x n := by
  unfold am_in1
  congr 1
  rw [Int32.le_iff_toInt_le, Int32.le_iff_toInt_le, hc]
  have h0 : (-1 : Int32).toInt = -1 := by decide
  rw [h0]
  exact propext ⟨fun h => ⟨h.1, by omega⟩, fun h => ⟨h.1, by omega⟩⟩
theorem nI_mul2 (a b : Nat) : nI a * nI b = nI (a * b) := (Int32.ofNat_mul a b).symm
section DEC
variable {x y : Int32} {a b n : Nat}
theorem am_dlt (hx : x = nI a) (hy : y = nI b) (h : a < b) (ha : a < 2 ^ 31) (hb : b < 2 ^ 31) : x < y := by subst hx; subst hy; exact nI_lt h hb
theorem am_dnlt (hx : x = nI a) (hy : y = nI b) (h : b ≤ a) (ha : a < 2 ^ 31) (hb : b < 2 ^ 31) : ¬ x < y := by subst hx; subst hy; exact nI_nlt h ha
theorem am_dle (hx : x = nI a) (hy : y = nI b) (h : a ≤ b) (ha : a < 2 ^ 31) (hb : b < 2 ^ 31) : x ≤ y := by subst hx; subst hy; exact nI_le h hb
theorem am_dnle (hx : x = nI a) (hy : y = nI b) (h : b < a) (ha : a < 2 ^ 31) (hb : b < 2 ^ 31) : ¬ x ≤ y := by subst hx; subst hy; exact nI_ge h ha
theorem am_deq (hx : x = nI a) (hy : y = nI b) (h : a = b) (ha : a < 2 ^ 31) (hb : b < 2 ^ 31) : x = y := by subst hx; subst hy; subst h; rfl
theorem am_dne (hx : x = nI a) (hy : y = nI b) (h : a ≠ b) (ha : a < 2 ^ 31) (hb : b < 2 ^ 31) : ¬ x = y := by subst hx; subst hy; exact fun q => h ((nI_eq ha hb).mp q)
theorem am_inT (h0 : ¬ x < 0) (hy : y = nI n) (h1 : ¬ y ≤ x) (hn : n < 2 ^ 31) : am_in x n = true := by
  subst hy
  rw [Int32.lt_iff_toInt_lt, show (0 : Int32).toInt = 0 by decide] at h0
  rw [Int32.le_iff_toInt_le, nI_toInt hn] at h1
  exact am_in_iff.mpr (by omega)
theorem am_inF1 (h0 : x < 0) : am_in x n = false := by
  rw [Int32.lt_iff_toInt_lt, show (0 : Int32).toInt = 0 by decide] at h0
  exact am_in_not.mpr (by omega)
theorem am_inF2 (hy : y = nI n) (h1 : y ≤ x) (hn : n < 2 ^ 31) : am_in x n = false := by
  subst hy
  rw [Int32.le_iff_toInt_le, nI_toInt hn] at h1
  exact am_in_not.mpr (by omega)
end DEC
