/-! bits of an int (down to b_sshr pasted from the starting texts) -/
def bt (x : Int32) (i : Nat) : Bool := x.toBitVec.getLsbD i
theorem b_ext {x y : Int32} (h : ∀ i, i < 32 → bt x i = bt y i) : x = y := Int32.toBitVec_inj.mp (BitVec.eq_of_getLsbD_eq (fun i hi => h i hi))
theorem b_or (x y : Int32) (i : Nat) : bt (x ||| y) i = (bt x i || bt y i) := by unfold bt; rw [Int32.toBitVec_or, BitVec.getLsbD_or]
theorem b_and (x y : Int32) (i : Nat) : bt (x &&& y) i = (bt x i && bt y i) := by unfold bt; rw [Int32.toBitVec_and, BitVec.getLsbD_and]
theorem b_xor (x y : Int32) (i : Nat) : bt (x ^^^ y) i = (bt x i ^^ bt y i) := by unfold bt; rw [Int32.toBitVec_xor, BitVec.getLsbD_xor]
theorem b_big {x : Int32} {i : Nat} (h : 32 ≤ i) : bt x i = false := BitVec.getLsbD_of_ge _ _ h
theorem b_m1 : ∀ i, i < 32 → bt (-1) i = true := by decide +kernel
theorem b_0 (i : Nat) : bt 0 i = false := BitVec.getLsbD_zero
theorem s_l : ∀ n, n < 32 → ((nI n &&& 31).toBitVec.smod 32).toNat = n := by decide +kernel
theorem b_shl (n : Nat) (hn : n < 32) (x : Int32) {i : Nat} (hi : i < 32) : bt (x <<< (nI n &&& 31)) i = (decide (n ≤ i) && bt x (i - n)) := by
  unfold bt
  rw [Int32.toBitVec_shiftLeft]
  show (x.toBitVec <<< ((nI n &&& 31).toBitVec.smod 32).toNat).getLsbD i = _
  rw [s_l n hn, BitVec.getLsbD_shiftLeft]
  rcases Nat.lt_or_ge i n with h | h
  · simp [h, Nat.not_le.mpr h]
  · simp [hi, h, Nat.not_lt.mpr h]
theorem b_sshr (n : Nat) (hn : n < 32) (x : Int32) {i : Nat} (hi : i < 32) : bt (x >>> (nI n &&& 31)) i = if n + i < 32 then bt x (n + i) else bt x 31 := by
  unfold bt
  rw [Int32.toBitVec_shiftRight]
  show (x.toBitVec.sshiftRight ((nI n &&& 31).toBitVec.smod 32).toNat).getLsbD i = _
  rw [s_l n hn, BitVec.getLsbD_sshiftRight, BitVec.msb_eq_getLsbD_last]
  simp [hi]
theorem pu_hb {m : Int32} {p : Nat} (hp : p < 32) : am_hb m p = bt m p := by
  unfold am_hb
  have e : ∀ y : Int32, (y &&& 1 = 1) ↔ bt y 0 = true := by
    intro y
    constructor
    · intro h
      have h2 : bt (y &&& 1) 0 = bt 1 0 := congrArg (fun z => bt z 0) h
      rw [b_and, show bt 1 0 = true from by decide, Bool.and_true] at h2
      exact h2
    · intro h
      apply b_ext
      intro i hi
      rw [b_and]
      by_cases h0 : i = 0
      · subst h0; rw [h]; rfl
      · rw [(by decide : ∀ i, i < 32 → i ≠ 0 → bt 1 i = false) i hi h0, Bool.and_false]
  rw [Bool.eq_iff_iff, decide_eq_true_iff, e, b_sshr p hp m (by decide), if_pos (by omega)]
  rfl
theorem pu_one {p i : Nat} (hp : p < 32) (hi : i < 32) : bt (1 <<< (nI p &&& 31)) i = decide (i = p) := by
  rw [b_shl p hp 1 hi]
  by_cases h : i = p
  · subst h
    rw [decide_eq_true (Nat.le_refl _), decide_eq_true rfl, Nat.sub_self]
    decide
  · rw [decide_eq_false h]
    by_cases h2 : p ≤ i
    · rw [decide_eq_true h2, Bool.true_and]
      exact (by decide : ∀ i, i < 32 → i ≠ 0 → bt 1 i = false) (i - p) (by omega) (by omega)
    · rw [decide_eq_false h2, Bool.false_and]
theorem pu_or_zero (x : Int32) : x ||| 0 = x := by apply b_ext; intro i _; rw [b_or, b_0, Bool.or_false]
theorem pu_zero_or (x : Int32) : 0 ||| x = x := by apply b_ext; intro i _; rw [b_or, b_0, Bool.false_or]
theorem pu_or_assoc (x y z : Int32) : x ||| y ||| z = x ||| (y ||| z) := by apply b_ext; intro i _; rw [b_or, b_or, b_or, b_or, Bool.or_assoc]
theorem pu_or_self (x : Int32) : x ||| x = x := by apply b_ext; intro i _; rw [b_or, Bool.or_self]
theorem pu_or_comm (x y : Int32) : x ||| y = y ||| x := by apply b_ext; intro i _; rw [b_or, b_or, Bool.or_comm]
theorem pu_bfr (a h : Int32) {i : Nat} (hi : i < 32) : bt (a &&& (h ^^^ (-1))) i = (bt a i && !bt h i) := by
  rw [b_and, b_xor, b_m1 i hi, Bool.xor_true]
theorem pu_or_fr (a h : Int32) : h ||| (a &&& (h ^^^ (-1))) = h ||| a := by
  apply b_ext
  intro i hi
  rw [b_or, b_or, pu_bfr a h hi]
  cases bt h i <;> cases bt a i <;> rfl
theorem pu_fr0 (a h : Int32) : a &&& (h ^^^ (-1)) = 0 ↔ h ||| a = h := by
  constructor
  · intro e
    rw [← pu_or_fr, e, pu_or_zero]
  · intro e
    apply b_ext
    intro i hi
    have e2 : bt (h ||| a) i = bt h i := by rw [e]
    rw [b_or] at e2
    rw [pu_bfr a h hi, b_0]
    revert e2
    cases bt h i <;> cases bt a i <;> decide
/-- bits below M alone -/
def pu_bd (M : Nat) (v : Int32) : Prop := ∀ i, i < 32 → bt v i = true → i < M
theorem pu_bd0 (M : Nat) : pu_bd M 0 := fun i _ h => by rw [b_0] at h; cases h
theorem pu_bd_or {M : Nat} {a b : Int32} (ha : pu_bd M a) (hb : pu_bd M b) : pu_bd M (a ||| b) := by
  intro i hi h
  rw [b_or] at h
  cases e : bt a i with
  | true => exact ha i hi e
  | false => rw [e, Bool.false_or] at h; exact hb i hi h
theorem pu_bd_one {M p : Nat} (hp : p < M) (hp2 : p < 32) : pu_bd M (1 <<< (nI p &&& 31)) := by
  intro i hi h
  rw [pu_one hp2 hi] at h
  rw [of_decide_eq_true h]
  exact hp
/-- how many of the first n bits are set -/
def pu_cn (v : Int32) : Nat → Nat
  | 0 => 0
  | n + 1 => pu_cn v n + (bt v n).toNat
theorem pu_cn_le (v : Int32) : ∀ n, pu_cn v n ≤ n := by
  intro n
  induction n with
  | zero => exact Nat.le_refl _
  | succ n ih =>
    have : (bt v n).toNat ≤ 1 := Bool.toNat_le _
    show pu_cn v n + (bt v n).toNat ≤ n + 1
    omega
theorem pu_cn_mono {v w : Int32} : ∀ n, (∀ i, i < n → bt v i = true → bt w i = true) → pu_cn v n ≤ pu_cn w n := by
  intro n
  induction n with
  | zero => intro _; exact Nat.le_refl _
  | succ n ih =>
    intro h
    have h1 := ih (fun i hi => h i (by omega))
    have h2 : (bt v n).toNat ≤ (bt w n).toNat := by
      cases e : bt v n with
      | false => exact Nat.zero_le _
      | true => rw [h n (by omega) e]; exact Nat.le_refl _
    show pu_cn v n + _ ≤ pu_cn w n + _
    omega
theorem pu_cn_lt {v w : Int32} : ∀ n, (∀ i, i < n → bt v i = true → bt w i = true) → (∃ i, i < n ∧ bt v i = false ∧ bt w i = true) → pu_cn v n < pu_cn w n := by
  intro n
  induction n with
  | zero => intro _ h; obtain ⟨i, hi, _⟩ := h; omega
  | succ n ih =>
    intro h hx
    have h2 : (bt v n).toNat ≤ (bt w n).toNat := by
      cases e : bt v n with
      | false => exact Nat.zero_le _
      | true => rw [h n (by omega) e]; exact Nat.le_refl _
    show pu_cn v n + _ < pu_cn w n + _
    obtain ⟨i, hi, h3, h4⟩ := hx
    by_cases hin : i = n
    · subst hin
      have h1 := pu_cn_mono (v := v) (w := w) i (fun j hj => h j (by omega))
      rw [h3, h4]
      show _ + 0 < _ + 1
      omega
    · have h1 := ih (fun j hj => h j (by omega)) ⟨i, by omega, h3, h4⟩
      omega
def pu_ct (W : Nat → Int32) : Nat → Nat
  | 0 => 0
  | k + 1 => pu_ct W k + pu_cn (W k) 16
theorem pu_ct_le (W : Nat → Int32) : ∀ k, pu_ct W k ≤ 16 * k := by
  intro k
  induction k with
  | zero => exact Nat.le_refl _
  | succ k ih =>
    have := pu_cn_le (W k) 16
    show pu_ct W k + pu_cn (W k) 16 ≤ _
    omega
theorem pu_ct_mono {V W : Nat → Int32} : ∀ k, (∀ j, j < k → ∀ i, i < 16 → bt (V j) i = true → bt (W j) i = true) → pu_ct V k ≤ pu_ct W k := by
  intro k
  induction k with
  | zero => intro _; exact Nat.le_refl _
  | succ k ih =>
    intro h
    have h1 := ih (fun j hj => h j (by omega))
    have h2 := pu_cn_mono (v := V k) (w := W k) 16 (h k (by omega))
    show pu_ct V k + _ ≤ pu_ct W k + _
    omega
theorem pu_ct_lt {V W : Nat → Int32} : ∀ k, (∀ j, j < k → ∀ i, i < 16 → bt (V j) i = true → bt (W j) i = true) → (∃ j, j < k ∧ ∃ i, i < 16 ∧ bt (V j) i = false ∧ bt (W j) i = true) → pu_ct V k < pu_ct W k := by
  intro k
  induction k with
  | zero => intro _ h; obtain ⟨i, hi, _⟩ := h; omega
  | succ k ih =>
    intro h hx
    show pu_ct V k + _ < pu_ct W k + _
    have h2 := pu_cn_mono (v := V k) (w := W k) 16 (h k (by omega))
    obtain ⟨j, hj, h3⟩ := hx
    by_cases hjk : j = k
    · subst hjk
      have h1 := pu_ct_mono (V := V) (W := W) j (fun l hl => h l (by omega))
      have h4 := pu_cn_lt (v := V j) (w := W j) 16 (h j (by omega)) h3
      omega
    · have h1 := ih (fun l hl => h l (by omega)) ⟨j, by omega, h3⟩
      omega
/-- the first number below n where p fails, or p holds at all of them -/
theorem pu_first (p : Nat → Prop) (hp : ∀ r, p r ∨ ¬ p r) : ∀ n, (∀ r, r < n → p r) ∨ ∃ N, N < n ∧ ¬ p N ∧ ∀ r, r < N → p r := by
  intro n
  induction n with
  | zero => exact Or.inl (fun r h => absurd h (Nat.not_lt_zero _))
  | succ n ih =>
    rcases ih with h | ⟨N, h1, h2, h3⟩
    · rcases hp n with q | q
      · refine Or.inl (fun r hr => ?_)
        by_cases e : r = n
        · subst e; exact q
        · exact h r (by omega)
      · exact Or.inr ⟨n, by omega, q, h⟩
    · exact Or.inr ⟨N, by omega, h2, h3⟩
