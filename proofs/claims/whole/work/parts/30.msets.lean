/-! the reference: the rounds' sets -/
theorem am_up_id (m : Nat → Nat → Int32) (k : Nat) : am_up m k (m k) = m := by
  funext j
  unfold am_up
  cases e : Nat.beq j k with
  | false => rfl
  | true => rw [Nat.eq_of_beq_eq_true e]; rfl
theorem am_up_up (m : Nat → Nat → Int32) (k : Nat) (f g : Nat → Int32) : am_up (am_up m k f) k g = am_up m k g := by
  funext j
  unfold am_up
  cases Nat.beq j k <;> rfl
/-- the numbers from i up to n taken from g -/
def am_fill (g f : Nat → Int32) (n i : Nat) : Nat → Int32 := fun k => if i ≤ k ∧ k < n then g k else f k
theorem am_fill_end (g f : Nat → Int32) (n : Nat) : am_fill g f n n = f := by
  funext k
  exact if_neg (by omega)
theorem am_fill_up {g f : Nat → Int32} {n i : Nat} (h : i < n) : am_fill g (upd f i (g i)) n (i + 1) = am_fill g f n i := by
  funext k
  unfold am_fill upd
  by_cases h1 : k = i
  · subst h1
    rw [if_neg (by omega), if_pos rfl, if_pos (by omega)]
  · by_cases h2 : i + 1 ≤ k ∧ k < n
    · rw [if_pos h2, if_pos (by omega)]
    · rw [if_neg h2, if_neg h1, if_neg (by omega)]
section MS
variable {xs : Nat → Int32} {LL : Nat} {σ μ : Nat → Nat → Int32} {sr : Nat → Nat} {ln : Nat → Nat → Int32} {Lc : Nat}
theorem am_fill0_up {f : Nat → Int32} {n i : Nat} (h : i < n) : am_fill (fun _ => 0) (upd f i 0) n (i + 1) = am_fill (fun _ => 0) f n i := am_fill_up (g := fun _ => 0) h
theorem sp_X12_begin_0 (d : Nat) (t : Int32) : am_X xs LL (d + 1) 172 [.ref 47, .int 0, .int t] (hG σ sr ln Lc μ) none (hG σ sr ln Lc (am_up (am_us (am_us (am_us μ 27 0) 28 t) 26 0) 24 (am_fill (fun _ => 0) (μ 24) 68 0))) := by
  refine am_XR (d := d + 0) (C := cd_X12_begin) (L := [some (.ref 47), some (.int 0), some (.int t), none]) rfl rfl rfl rfl ?_
  refine am_g 11 17 [some (.ref 47), some (.int 0), some (.int t), some (.int 0)] [] (hG σ sr ln Lc (am_us (am_us (am_us μ 27 0) 28 t) 26 0)) rfl ?_
  have lp : ∀ (r i : Nat) (ν : Nat → Nat → Int32), i + r = 68 → am_R xs LL cd_X12_begin (am_X xs LL (d + 0)) 17 [some (.ref 47), some (.int 0), some (.int t), some (.int (nI i))] [] (hG σ sr ln Lc ν) none (hG σ sr ln Lc (am_up ν 24 (am_fill (fun _ => 0) (ν 24) 68 i))) := by
    intro r
    induction r with
    | zero =>
      intro i ν hi
      have hi2 : i = 68 := by omega
      refine am_g 3 (if 68 ≤ (nI i) then 36 else 23) [some (.ref 47), some (.int 0), some (.int t), some (.int (nI i))] [] (hG σ sr ln Lc ν) rfl ?_
      rw [if_pos (show 68 ≤ (nI i) from (am_dle (a := 68) (b := i) (rfl) (rfl) (by omega) (by omega) (by omega)))]
      exact am_ret2 rfl rfl rfl rfl (by rw [hi2, am_fill_end, am_up_id])
    | succ r ih =>
      intro i ν hi
      have hi2 : i < 68 := by omega
      refine am_g 3 (if 68 ≤ (nI i) then 36 else 23) [some (.ref 47), some (.int 0), some (.int t), some (.int (nI i))] [] (hG σ sr ln Lc ν) rfl ?_
      rw [if_neg (show ¬ 68 ≤ (nI i) from (am_dnle (a := 68) (b := i) (rfl) (rfl) (by omega) (by omega) (by omega)))]
      refine am_g 4 29 [some (.ref 47), some (.int 0), some (.int t), some (.int (nI i))] [.int 0, .int (nI i), .ref 65] (hG σ sr ln Lc ν) rfl ?_
      refine am_iastR (n := 68) (f := (ν 24)) (k := i) (h1 := (hG σ sr ln Lc (am_up ν 24 (upd (ν 24) i 0)))) rfl rfl (rfl) (by omega) (by decide) rfl ?_
      refine am_g 2 17 [some (.ref 47), some (.int 0), some (.int t), some (.int ((nI i) + 1))] [] (hG σ sr ln Lc (am_up ν 24 (upd (ν 24) i 0))) rfl ?_
      rw [nI_up]
      have e := ih (i + 1) (am_up ν 24 (upd (ν 24) i 0)) (by omega)
      rw [am_up_up, show am_up ν 24 (upd (ν 24) i 0) 24 = upd (ν 24) i 0 from rfl, am_fill0_up (by omega)] at e
      exact e
  exact lp 68 0 _ (by omega)
theorem sp_X12_begin_1 (d : Nat) (t : Int32) : am_X xs LL (d + 1) 172 [.ref 47, .int 1, .int t] (hG σ sr ln Lc μ) none (hG σ sr ln Lc (am_up (am_us (am_us (am_us μ 27 1) 28 t) 26 0) 24 (am_fill (fun _ => 0) (μ 24) 68 0))) := by
  refine am_XR (d := d + 0) (C := cd_X12_begin) (L := [some (.ref 47), some (.int 1), some (.int t), none]) rfl rfl rfl rfl ?_
  refine am_g 11 17 [some (.ref 47), some (.int 1), some (.int t), some (.int 0)] [] (hG σ sr ln Lc (am_us (am_us (am_us μ 27 1) 28 t) 26 0)) rfl ?_
  have lp : ∀ (r i : Nat) (ν : Nat → Nat → Int32), i + r = 68 → am_R xs LL cd_X12_begin (am_X xs LL (d + 0)) 17 [some (.ref 47), some (.int 1), some (.int t), some (.int (nI i))] [] (hG σ sr ln Lc ν) none (hG σ sr ln Lc (am_up ν 24 (am_fill (fun _ => 0) (ν 24) 68 i))) := by
    intro r
    induction r with
    | zero =>
      intro i ν hi
      have hi2 : i = 68 := by omega
      refine am_g 3 (if 68 ≤ (nI i) then 36 else 23) [some (.ref 47), some (.int 1), some (.int t), some (.int (nI i))] [] (hG σ sr ln Lc ν) rfl ?_
      rw [if_pos (show 68 ≤ (nI i) from (am_dle (a := 68) (b := i) (rfl) (rfl) (by omega) (by omega) (by omega)))]
      exact am_ret2 rfl rfl rfl rfl (by rw [hi2, am_fill_end, am_up_id])
    | succ r ih =>
      intro i ν hi
      have hi2 : i < 68 := by omega
      refine am_g 3 (if 68 ≤ (nI i) then 36 else 23) [some (.ref 47), some (.int 1), some (.int t), some (.int (nI i))] [] (hG σ sr ln Lc ν) rfl ?_
      rw [if_neg (show ¬ 68 ≤ (nI i) from (am_dnle (a := 68) (b := i) (rfl) (rfl) (by omega) (by omega) (by omega)))]
      refine am_g 4 29 [some (.ref 47), some (.int 1), some (.int t), some (.int (nI i))] [.int 0, .int (nI i), .ref 65] (hG σ sr ln Lc ν) rfl ?_
      refine am_iastR (n := 68) (f := (ν 24)) (k := i) (h1 := (hG σ sr ln Lc (am_up ν 24 (upd (ν 24) i 0)))) rfl rfl (rfl) (by omega) (by decide) rfl ?_
      refine am_g 2 17 [some (.ref 47), some (.int 1), some (.int t), some (.int ((nI i) + 1))] [] (hG σ sr ln Lc (am_up ν 24 (upd (ν 24) i 0))) rfl ?_
      rw [nI_up]
      have e := ih (i + 1) (am_up ν 24 (upd (ν 24) i 0)) (by omega)
      rw [am_up_up, show am_up ν 24 (upd (ν 24) i 0) 24 = upd (ν 24) i 0 from rfl, am_fill0_up (by omega)] at e
      exact e
  exact lp 68 0 _ (by omega)
end MS
