/-! the reference's reading of a line is the class's -/
def pr_by (x : Int32) : Prop := x = -1 ∨ ∃ c, c < 256 ∧ x = nI c
theorem pr_suA : ∀ c, c < 256 → (pr_L 97 20 (nI c) = pu_su 120 (nI c) ∧ pr_L 48 8 (nI c) = pu_su 55 (nI c) ∧ pr_L 48 3 (nI c) = pu_su 50 (nI c)) := by decide +kernel
theorem pr_suM : pr_L 97 20 (-1) = pu_su 120 (-1) ∧ pr_L 48 8 (-1) = pu_su 55 (-1) ∧ pr_L 48 3 (-1) = pu_su 50 (-1) := by decide +kernel
theorem pr_su {x : Int32} (h : pr_by x) : pr_L 97 20 x = pu_su 120 x ∧ pr_L 48 8 x = pu_su 55 x ∧ pr_L 48 3 x = pu_su 50 x := by
  rcases h with rfl | ⟨c, hc, rfl⟩
  · exact pr_suM
  · exact pr_suA c hc
theorem pr_numA : ∀ c, c < 256 → ((pr_L 97 20 (nI c) = true → 97 ≤ c ∧ c < 117 ∧ nI c - 97 = nI (c - 97)) ∧ (pr_L 48 8 (nI c) = true → 48 ≤ c ∧ c < 56 ∧ nI c - 48 = nI (c - 48)) ∧ (pr_L 48 3 (nI c) = true → 48 ≤ c ∧ c < 51 ∧ nI c - 48 = nI (c - 48))) := by decide +kernel
theorem pr_numM : pr_L 97 20 (-1) = false ∧ pr_L 48 8 (-1) = false ∧ pr_L 48 3 (-1) = false := by decide +kernel
theorem pr_let {x : Int32} (h : pr_by x) (e : pr_L 97 20 x = true) : ∃ a, a < 20 ∧ x - 97 = nI a := by
  rcases h with rfl | ⟨c, hc, rfl⟩
  · rw [pr_numM.1] at e; cases e
  · obtain ⟨h1, h2, h3⟩ := (pr_numA c hc).1 e
    exact ⟨c - 97, by omega, h3⟩
theorem pr_d8 {x : Int32} (h : pr_by x) (e : pr_L 48 8 x = true) : ∃ a, a < 8 ∧ x - 48 = nI a := by
  rcases h with rfl | ⟨c, hc, rfl⟩
  · rw [pr_numM.2.1] at e; cases e
  · obtain ⟨h1, h2, h3⟩ := (pr_numA c hc).2.1 e
    exact ⟨c - 48, by omega, h3⟩
theorem pr_d3 {x : Int32} (h : pr_by x) (e : pr_L 48 3 x = true) : ∃ a, a < 3 ∧ x - 48 = nI a := by
  rcases h with rfl | ⟨c, hc, rfl⟩
  · rw [pr_numM.2.2] at e; cases e
  · obtain ⟨h1, h2, h3⟩ := (pr_numA c hc).2.2 e
    exact ⟨c - 48, by omega, h3⟩
theorem pr_su0 {c : Nat} (hc : c ∈ [120, 121, 122, 55, 50, 61, 47, 46, 58, 40, 41, 33]) : pu_su c (-1) = false := by
  revert c
  decide +kernel
theorem pr_here_lt {f : Nat → Int32} {k T : Nat} (h : k < T) : am_hereF f k T = f k := if_pos h
theorem pr_here_ge {f : Nat → Int32} {k T : Nat} (h : ¬ k < T) : am_hereF f k T = -1 := if_neg h
theorem pr_in {f : Nat → Int32} {T i c : Nat} (hc : c ∈ [120, 121, 122, 55, 50, 61, 47, 46, 58, 40, 41, 33]) (h : pu_su c (am_hereF f i T) = true) : i < T := by
  rcases Nat.lt_or_ge i T with q | q
  · exact q
  · rw [pr_here_ge (by omega), pr_su0 hc] at h; cases h
theorem pr_mt_t {f : Nat → Int32} {T i c : Nat} {cs : List Nat} (hT : T ≤ 20) (hc : c ∈ [120, 121, 122, 55, 50, 61, 47, 46, 58, 40, 41, 33]) (h : pu_su c (am_hereF f i T) = true) : pu_mt f T (c :: cs) i = pu_mt f T cs (i + 1) := by
  have q := pr_in hc h
  rw [pr_here_lt q] at h
  show (if nI T ≤ nI i then i else bif pu_su c (f i) then pu_mt f T cs (i + 1) else i) = _
  rw [if_neg (nI_ge q (by omega)), h]
  rfl
theorem pr_mt_f {f : Nat → Int32} {T i c : Nat} {cs : List Nat} (hT : T ≤ 20) (hi : i < 20) (h : pu_su c (am_hereF f i T) = false) : pu_mt f T (c :: cs) i = i := by
  show (if nI T ≤ nI i then i else bif pu_su c (f i) then pu_mt f T cs (i + 1) else i) = _
  by_cases q : i < T
  · rw [pr_here_lt q] at h
    rw [if_neg (nI_ge q (by omega)), h]
    rfl
  · rw [if_pos (nI_le (by omega) (by omega))]
theorem pr_so_no {T len m : Nat} {k rest : Int32} (hT : T ≤ 20) (hl : len < 20) (hm : m < 20) (h : ¬ (T = len ∧ m = T)) : pu_so T len m k rest = rest := by
  unfold pu_so
  by_cases h1 : T = len
  · rw [if_pos (by rw [h1]), if_neg (nI_ne (fun q => h ⟨h1, q⟩) (by omega) (by omega))]
  · rw [if_neg (nI_ne h1 (by omega) (by omega))]
theorem pr_so_yes {T len m : Nat} {k rest : Int32} (h1 : T = len) (h2 : m = T) : pu_so T len m k rest = k := by
  unfold pu_so
  rw [if_pos (by rw [h1]), if_pos (by rw [h2])]
theorem pr_R_congr {f g : Nat → Int32} {T : Nat} (h : ∀ k, am_hereF f k T = am_hereF g k T) : pr_R f T = pr_R g T := by
  unfold pr_R
  simp only [h]
def pr_lt (x : Int32) : Prop := ∃ a, a < 20 ∧ x - 97 = nI a
def pr_n8 (x : Int32) : Prop := ∃ a, a < 8 ∧ x - 48 = nI a
def pr_n3 (x : Int32) : Prop := ∃ a, a < 3 ∧ x - 48 = nI a
def pr_D (f : Nat → Int32) (T : Nat) : Prop :=
  (pr_R f T).1 = pu_sort f T ∧ (((pr_R f T).1 = -1 ∧ (pr_R f T).2 = pu_flt f T ∧ pu_flt f T < 20) ∨
  ((pr_R f T).1 = 0 ∧ T = 3 ∧ pr_lt (f 0) ∧ pr_lt (f 2)) ∨
  ((pr_R f T).1 = 1 ∧ T = 5 ∧ pr_lt (f 0) ∧ pr_lt (f 2) ∧ pr_n8 (f 4)) ∨
  ((pr_R f T).1 = 2 ∧ T = 5 ∧ pr_lt (f 0) ∧ pr_lt (f 2) ∧ pr_n3 (f 4)) ∨
  ((pr_R f T).1 = 3 ∧ T = 5 ∧ pr_lt (f 0) ∧ pr_n3 (f 2) ∧ pr_lt (f 4)) ∨
  ((pr_R f T).1 = 4 ∧ T = 8 ∧ pr_lt (f 0) ∧ pr_lt (f 2) ∧ pr_n3 (f 4) ∧ pr_lt (f 6)) ∨
  ((pr_R f T).1 = 5 ∧ T = 4 ∧ pr_lt (f 0) ∧ pr_n8 (f 3)))
theorem pr_letI {f : Nat → Int32} {i T : Nat} (hi : i < T) (h : pr_by (am_hereF f i T)) (q : pr_L 97 20 (am_hereF f i T) = true) : pr_lt (f i) := by
  rw [pr_here_lt hi] at h q
  exact pr_let h q
theorem pr_d8I {f : Nat → Int32} {i T : Nat} (hi : i < T) (h : pr_by (am_hereF f i T)) (q : pr_L 48 8 (am_hereF f i T) = true) : pr_n8 (f i) := by
  rw [pr_here_lt hi] at h q
  exact pr_d8 h q
theorem pr_d3I {f : Nat → Int32} {i T : Nat} (hi : i < T) (h : pr_by (am_hereF f i T)) (q : pr_L 48 3 (am_hereF f i T) = true) : pr_n3 (f i) := by
  rw [pr_here_lt hi] at h q
  exact pr_d3 h q
theorem pr_ltof {f : Nat → Int32} {T k : Nat} (h : ¬ am_hereF f k T = -1) : k < T := by
  rcases Nat.lt_or_ge k T with q | q
  · exact q
  · exact absurd (pr_here_ge (by omega)) h
theorem pr_nend {tp : Nat → Int32} {T k : Nat} (hby : ∀ i, i < T → ¬ tp i = -1) (e : am_hereF tp k T = -1) : ¬ k < T := by
  intro h
  rw [pr_here_lt h] at e
  exact hby k h e
theorem pr_parse_0 {f : Nat → Int32} {T : Nat} (hT : T ≤ 20) (hb : ∀ k, pr_by (am_hereF f k T)) (hby : ∀ i, i < T → ¬ f i = -1) (q0 : pr_L 97 20 (am_hereF f 0 T) = true) (q1 : (am_hereF f 1 T) = 46) (q2 : pr_L 48 3 (am_hereF f 2 T) = true) (q3 : (am_hereF f 3 T) = 61) (q4 : pr_L 97 20 (am_hereF f 4 T) = true) (q5 : 5 < T) : pr_D f T := by
  have hR : pr_R f T = ((-1), 5) := by
    unfold pr_R
    rw [if_pos q0, if_pos q1, if_pos q2, if_pos q3, if_pos q4, if_pos q5]
  have m0 : pu_mt f T (pu_fm 0) 0 = 1 := by
    show pu_mt f T [120, 61, 121] 0 = 1
    rw [pr_mt_t hT (by decide) (show pu_su 120 (am_hereF f 0 T) = true from ((pr_su (hb 0)).1.symm.trans q0)), pr_mt_f hT (by decide) (show pu_su 61 (am_hereF f 1 T) = false from (by rw [q1]; decide))]
  have m1 : pu_mt f T (pu_fm 1) 0 = 1 := by
    show pu_mt f T [120, 61, 121, 47, 55] 0 = 1
    rw [pr_mt_t hT (by decide) (show pu_su 120 (am_hereF f 0 T) = true from ((pr_su (hb 0)).1.symm.trans q0)), pr_mt_f hT (by decide) (show pu_su 61 (am_hereF f 1 T) = false from (by rw [q1]; decide))]
  have m2 : pu_mt f T (pu_fm 2) 0 = 1 := by
    show pu_mt f T [120, 61, 121, 46, 50] 0 = 1
    rw [pr_mt_t hT (by decide) (show pu_su 120 (am_hereF f 0 T) = true from ((pr_su (hb 0)).1.symm.trans q0)), pr_mt_f hT (by decide) (show pu_su 61 (am_hereF f 1 T) = false from (by rw [q1]; decide))]
  have m3 : pu_mt f T (pu_fm 3) 0 = 5 := by
    show pu_mt f T [120, 46, 50, 61, 121] 0 = 5
    rw [pr_mt_t hT (by decide) (show pu_su 120 (am_hereF f 0 T) = true from ((pr_su (hb 0)).1.symm.trans q0)), pr_mt_t hT (by decide) (show pu_su 46 (am_hereF f 1 T) = true from (by rw [q1]; decide)), pr_mt_t hT (by decide) (show pu_su 50 (am_hereF f 2 T) = true from ((pr_su (hb 2)).2.2.symm.trans q2)), pr_mt_t hT (by decide) (show pu_su 61 (am_hereF f 3 T) = true from (by rw [q3]; decide)), pr_mt_t hT (by decide) (show pu_su 121 (am_hereF f 4 T) = true from ((pr_su (hb 4)).1.symm.trans q4))]
    rfl
  have m4 : pu_mt f T (pu_fm 4) 0 = 1 := by
    show pu_mt f T [120, 61, 121, 58, 50, 40, 122, 41] 0 = 1
    rw [pr_mt_t hT (by decide) (show pu_su 120 (am_hereF f 0 T) = true from ((pr_su (hb 0)).1.symm.trans q0)), pr_mt_f hT (by decide) (show pu_su 61 (am_hereF f 1 T) = false from (by rw [q1]; decide))]
  have m5 : pu_mt f T (pu_fm 5) 0 = 1 := by
    show pu_mt f T [120, 61, 33, 55] 0 = 1
    rw [pr_mt_t hT (by decide) (show pu_su 120 (am_hereF f 0 T) = true from ((pr_su (hb 0)).1.symm.trans q0)), pr_mt_f hT (by decide) (show pu_su 61 (am_hereF f 1 T) = false from (by rw [q1]; decide))]
  have hlo : 4 < T := pr_in (by decide) (show pu_su 121 (am_hereF f 4 T) = true from ((pr_su (hb 4)).1.symm.trans q4))
  have hS : pu_sort f T = (-1) := by
    unfold pu_sort
    rw [m0, m1, m2, m3, m4, m5]
    rw [pr_so_no hT (by decide) (by decide) (by omega), pr_so_no hT (by decide) (by decide) (by omega), pr_so_no hT (by decide) (by decide) (by omega), pr_so_no hT (by decide) (by decide) (by omega), pr_so_no hT (by decide) (by decide) (by omega), pr_so_no hT (by decide) (by decide) (by omega)]
  have hF : pu_flt f T = 5 := by unfold pu_flt; rw [m0, m1, m2, m3, m4, m5]; decide
  exact ⟨by rw [hR, hS], Or.inl ⟨by rw [hR], by rw [hR, hF], by rw [hF]; decide⟩⟩
theorem pr_parse_1 {f : Nat → Int32} {T : Nat} (hT : T ≤ 20) (hb : ∀ k, pr_by (am_hereF f k T)) (hby : ∀ i, i < T → ¬ f i = -1) (q0 : pr_L 97 20 (am_hereF f 0 T) = true) (q1 : (am_hereF f 1 T) = 46) (q2 : pr_L 48 3 (am_hereF f 2 T) = true) (q3 : (am_hereF f 3 T) = 61) (q4 : pr_L 97 20 (am_hereF f 4 T) = true) (q5 : ¬ 5 < T) : pr_D f T := by
  have hR : pr_R f T = (3, 5) := by
    unfold pr_R
    rw [if_pos q0, if_pos q1, if_pos q2, if_pos q3, if_pos q4, if_neg q5]
  have m0 : pu_mt f T (pu_fm 0) 0 = 1 := by
    show pu_mt f T [120, 61, 121] 0 = 1
    rw [pr_mt_t hT (by decide) (show pu_su 120 (am_hereF f 0 T) = true from ((pr_su (hb 0)).1.symm.trans q0)), pr_mt_f hT (by decide) (show pu_su 61 (am_hereF f 1 T) = false from (by rw [q1]; decide))]
  have m1 : pu_mt f T (pu_fm 1) 0 = 1 := by
    show pu_mt f T [120, 61, 121, 47, 55] 0 = 1
    rw [pr_mt_t hT (by decide) (show pu_su 120 (am_hereF f 0 T) = true from ((pr_su (hb 0)).1.symm.trans q0)), pr_mt_f hT (by decide) (show pu_su 61 (am_hereF f 1 T) = false from (by rw [q1]; decide))]
  have m2 : pu_mt f T (pu_fm 2) 0 = 1 := by
    show pu_mt f T [120, 61, 121, 46, 50] 0 = 1
    rw [pr_mt_t hT (by decide) (show pu_su 120 (am_hereF f 0 T) = true from ((pr_su (hb 0)).1.symm.trans q0)), pr_mt_f hT (by decide) (show pu_su 61 (am_hereF f 1 T) = false from (by rw [q1]; decide))]
  have m3 : pu_mt f T (pu_fm 3) 0 = 5 := by
    show pu_mt f T [120, 46, 50, 61, 121] 0 = 5
    rw [pr_mt_t hT (by decide) (show pu_su 120 (am_hereF f 0 T) = true from ((pr_su (hb 0)).1.symm.trans q0)), pr_mt_t hT (by decide) (show pu_su 46 (am_hereF f 1 T) = true from (by rw [q1]; decide)), pr_mt_t hT (by decide) (show pu_su 50 (am_hereF f 2 T) = true from ((pr_su (hb 2)).2.2.symm.trans q2)), pr_mt_t hT (by decide) (show pu_su 61 (am_hereF f 3 T) = true from (by rw [q3]; decide)), pr_mt_t hT (by decide) (show pu_su 121 (am_hereF f 4 T) = true from ((pr_su (hb 4)).1.symm.trans q4))]
    rfl
  have m4 : pu_mt f T (pu_fm 4) 0 = 1 := by
    show pu_mt f T [120, 61, 121, 58, 50, 40, 122, 41] 0 = 1
    rw [pr_mt_t hT (by decide) (show pu_su 120 (am_hereF f 0 T) = true from ((pr_su (hb 0)).1.symm.trans q0)), pr_mt_f hT (by decide) (show pu_su 61 (am_hereF f 1 T) = false from (by rw [q1]; decide))]
  have m5 : pu_mt f T (pu_fm 5) 0 = 1 := by
    show pu_mt f T [120, 61, 33, 55] 0 = 1
    rw [pr_mt_t hT (by decide) (show pu_su 120 (am_hereF f 0 T) = true from ((pr_su (hb 0)).1.symm.trans q0)), pr_mt_f hT (by decide) (show pu_su 61 (am_hereF f 1 T) = false from (by rw [q1]; decide))]
  have hlo : 4 < T := pr_in (by decide) (show pu_su 121 (am_hereF f 4 T) = true from ((pr_su (hb 4)).1.symm.trans q4))
  have hS : pu_sort f T = 3 := by
    unfold pu_sort
    rw [m0, m1, m2, m3, m4, m5]
    rw [pr_so_no hT (by decide) (by decide) (by omega), pr_so_no hT (by decide) (by decide) (by omega), pr_so_no hT (by decide) (by decide) (by omega), pr_so_yes (by omega) (by omega)]
  have hTT : T = 5 := by omega
  exact ⟨by rw [hR, hS], Or.inr (Or.inr (Or.inr (Or.inr (Or.inl ⟨by rw [hR], hTT, pr_letI (show 0 < T by omega) (hb 0) q0, pr_d3I (show 2 < T by omega) (hb 2) q2, pr_letI (show 4 < T by omega) (hb 4) q4⟩))))⟩
theorem pr_parse_2 {f : Nat → Int32} {T : Nat} (hT : T ≤ 20) (hb : ∀ k, pr_by (am_hereF f k T)) (hby : ∀ i, i < T → ¬ f i = -1) (q0 : pr_L 97 20 (am_hereF f 0 T) = true) (q1 : (am_hereF f 1 T) = 46) (q2 : pr_L 48 3 (am_hereF f 2 T) = true) (q3 : (am_hereF f 3 T) = 61) (q4 : pr_L 97 20 (am_hereF f 4 T) = false) : pr_D f T := by
  have hR : pr_R f T = ((-1), 4) := by
    unfold pr_R
    rw [if_pos q0, if_pos q1, if_pos q2, if_pos q3, if_neg (pr_ff q4)]
  have m0 : pu_mt f T (pu_fm 0) 0 = 1 := by
    show pu_mt f T [120, 61, 121] 0 = 1
    rw [pr_mt_t hT (by decide) (show pu_su 120 (am_hereF f 0 T) = true from ((pr_su (hb 0)).1.symm.trans q0)), pr_mt_f hT (by decide) (show pu_su 61 (am_hereF f 1 T) = false from (by rw [q1]; decide))]
  have m1 : pu_mt f T (pu_fm 1) 0 = 1 := by
    show pu_mt f T [120, 61, 121, 47, 55] 0 = 1
    rw [pr_mt_t hT (by decide) (show pu_su 120 (am_hereF f 0 T) = true from ((pr_su (hb 0)).1.symm.trans q0)), pr_mt_f hT (by decide) (show pu_su 61 (am_hereF f 1 T) = false from (by rw [q1]; decide))]
  have m2 : pu_mt f T (pu_fm 2) 0 = 1 := by
    show pu_mt f T [120, 61, 121, 46, 50] 0 = 1
    rw [pr_mt_t hT (by decide) (show pu_su 120 (am_hereF f 0 T) = true from ((pr_su (hb 0)).1.symm.trans q0)), pr_mt_f hT (by decide) (show pu_su 61 (am_hereF f 1 T) = false from (by rw [q1]; decide))]
  have m3 : pu_mt f T (pu_fm 3) 0 = 4 := by
    show pu_mt f T [120, 46, 50, 61, 121] 0 = 4
    rw [pr_mt_t hT (by decide) (show pu_su 120 (am_hereF f 0 T) = true from ((pr_su (hb 0)).1.symm.trans q0)), pr_mt_t hT (by decide) (show pu_su 46 (am_hereF f 1 T) = true from (by rw [q1]; decide)), pr_mt_t hT (by decide) (show pu_su 50 (am_hereF f 2 T) = true from ((pr_su (hb 2)).2.2.symm.trans q2)), pr_mt_t hT (by decide) (show pu_su 61 (am_hereF f 3 T) = true from (by rw [q3]; decide)), pr_mt_f hT (by decide) (show pu_su 121 (am_hereF f 4 T) = false from ((pr_su (hb 4)).1.symm.trans q4))]
  have m4 : pu_mt f T (pu_fm 4) 0 = 1 := by
    show pu_mt f T [120, 61, 121, 58, 50, 40, 122, 41] 0 = 1
    rw [pr_mt_t hT (by decide) (show pu_su 120 (am_hereF f 0 T) = true from ((pr_su (hb 0)).1.symm.trans q0)), pr_mt_f hT (by decide) (show pu_su 61 (am_hereF f 1 T) = false from (by rw [q1]; decide))]
  have m5 : pu_mt f T (pu_fm 5) 0 = 1 := by
    show pu_mt f T [120, 61, 33, 55] 0 = 1
    rw [pr_mt_t hT (by decide) (show pu_su 120 (am_hereF f 0 T) = true from ((pr_su (hb 0)).1.symm.trans q0)), pr_mt_f hT (by decide) (show pu_su 61 (am_hereF f 1 T) = false from (by rw [q1]; decide))]
  have hlo : 3 < T := pr_in (by decide) (show pu_su 61 (am_hereF f 3 T) = true from (by rw [q3]; decide))
  have hS : pu_sort f T = (-1) := by
    unfold pu_sort
    rw [m0, m1, m2, m3, m4, m5]
    rw [pr_so_no hT (by decide) (by decide) (by omega), pr_so_no hT (by decide) (by decide) (by omega), pr_so_no hT (by decide) (by decide) (by omega), pr_so_no hT (by decide) (by decide) (by omega), pr_so_no hT (by decide) (by decide) (by omega), pr_so_no hT (by decide) (by decide) (by omega)]
  have hF : pu_flt f T = 4 := by unfold pu_flt; rw [m0, m1, m2, m3, m4, m5]; decide
  exact ⟨by rw [hR, hS], Or.inl ⟨by rw [hR], by rw [hR, hF], by rw [hF]; decide⟩⟩
theorem pr_parse_3 {f : Nat → Int32} {T : Nat} (hT : T ≤ 20) (hb : ∀ k, pr_by (am_hereF f k T)) (hby : ∀ i, i < T → ¬ f i = -1) (q0 : pr_L 97 20 (am_hereF f 0 T) = true) (q1 : (am_hereF f 1 T) = 46) (q2 : pr_L 48 3 (am_hereF f 2 T) = true) (q3 : ¬ (am_hereF f 3 T) = 61) : pr_D f T := by
  have hR : pr_R f T = ((-1), 3) := by
    unfold pr_R
    rw [if_pos q0, if_pos q1, if_pos q2, if_neg q3]
  have m0 : pu_mt f T (pu_fm 0) 0 = 1 := by
    show pu_mt f T [120, 61, 121] 0 = 1
    rw [pr_mt_t hT (by decide) (show pu_su 120 (am_hereF f 0 T) = true from ((pr_su (hb 0)).1.symm.trans q0)), pr_mt_f hT (by decide) (show pu_su 61 (am_hereF f 1 T) = false from (by rw [q1]; decide))]
  have m1 : pu_mt f T (pu_fm 1) 0 = 1 := by
    show pu_mt f T [120, 61, 121, 47, 55] 0 = 1
    rw [pr_mt_t hT (by decide) (show pu_su 120 (am_hereF f 0 T) = true from ((pr_su (hb 0)).1.symm.trans q0)), pr_mt_f hT (by decide) (show pu_su 61 (am_hereF f 1 T) = false from (by rw [q1]; decide))]
  have m2 : pu_mt f T (pu_fm 2) 0 = 1 := by
    show pu_mt f T [120, 61, 121, 46, 50] 0 = 1
    rw [pr_mt_t hT (by decide) (show pu_su 120 (am_hereF f 0 T) = true from ((pr_su (hb 0)).1.symm.trans q0)), pr_mt_f hT (by decide) (show pu_su 61 (am_hereF f 1 T) = false from (by rw [q1]; decide))]
  have m3 : pu_mt f T (pu_fm 3) 0 = 3 := by
    show pu_mt f T [120, 46, 50, 61, 121] 0 = 3
    rw [pr_mt_t hT (by decide) (show pu_su 120 (am_hereF f 0 T) = true from ((pr_su (hb 0)).1.symm.trans q0)), pr_mt_t hT (by decide) (show pu_su 46 (am_hereF f 1 T) = true from (by rw [q1]; decide)), pr_mt_t hT (by decide) (show pu_su 50 (am_hereF f 2 T) = true from ((pr_su (hb 2)).2.2.symm.trans q2)), pr_mt_f hT (by decide) (show pu_su 61 (am_hereF f 3 T) = false from (decide_eq_false q3))]
  have m4 : pu_mt f T (pu_fm 4) 0 = 1 := by
    show pu_mt f T [120, 61, 121, 58, 50, 40, 122, 41] 0 = 1
    rw [pr_mt_t hT (by decide) (show pu_su 120 (am_hereF f 0 T) = true from ((pr_su (hb 0)).1.symm.trans q0)), pr_mt_f hT (by decide) (show pu_su 61 (am_hereF f 1 T) = false from (by rw [q1]; decide))]
  have m5 : pu_mt f T (pu_fm 5) 0 = 1 := by
    show pu_mt f T [120, 61, 33, 55] 0 = 1
    rw [pr_mt_t hT (by decide) (show pu_su 120 (am_hereF f 0 T) = true from ((pr_su (hb 0)).1.symm.trans q0)), pr_mt_f hT (by decide) (show pu_su 61 (am_hereF f 1 T) = false from (by rw [q1]; decide))]
  have hlo : 2 < T := pr_in (by decide) (show pu_su 50 (am_hereF f 2 T) = true from ((pr_su (hb 2)).2.2.symm.trans q2))
  have hS : pu_sort f T = (-1) := by
    unfold pu_sort
    rw [m0, m1, m2, m3, m4, m5]
    rw [pr_so_no hT (by decide) (by decide) (by omega), pr_so_no hT (by decide) (by decide) (by omega), pr_so_no hT (by decide) (by decide) (by omega), pr_so_no hT (by decide) (by decide) (by omega), pr_so_no hT (by decide) (by decide) (by omega), pr_so_no hT (by decide) (by decide) (by omega)]
  have hF : pu_flt f T = 3 := by unfold pu_flt; rw [m0, m1, m2, m3, m4, m5]; decide
  exact ⟨by rw [hR, hS], Or.inl ⟨by rw [hR], by rw [hR, hF], by rw [hF]; decide⟩⟩
theorem pr_parse_4 {f : Nat → Int32} {T : Nat} (hT : T ≤ 20) (hb : ∀ k, pr_by (am_hereF f k T)) (hby : ∀ i, i < T → ¬ f i = -1) (q0 : pr_L 97 20 (am_hereF f 0 T) = true) (q1 : (am_hereF f 1 T) = 46) (q2 : pr_L 48 3 (am_hereF f 2 T) = false) : pr_D f T := by
  have hR : pr_R f T = ((-1), 2) := by
    unfold pr_R
    rw [if_pos q0, if_pos q1, if_neg (pr_ff q2)]
  have m0 : pu_mt f T (pu_fm 0) 0 = 1 := by
    show pu_mt f T [120, 61, 121] 0 = 1
    rw [pr_mt_t hT (by decide) (show pu_su 120 (am_hereF f 0 T) = true from ((pr_su (hb 0)).1.symm.trans q0)), pr_mt_f hT (by decide) (show pu_su 61 (am_hereF f 1 T) = false from (by rw [q1]; decide))]
  have m1 : pu_mt f T (pu_fm 1) 0 = 1 := by
    show pu_mt f T [120, 61, 121, 47, 55] 0 = 1
    rw [pr_mt_t hT (by decide) (show pu_su 120 (am_hereF f 0 T) = true from ((pr_su (hb 0)).1.symm.trans q0)), pr_mt_f hT (by decide) (show pu_su 61 (am_hereF f 1 T) = false from (by rw [q1]; decide))]
  have m2 : pu_mt f T (pu_fm 2) 0 = 1 := by
    show pu_mt f T [120, 61, 121, 46, 50] 0 = 1
    rw [pr_mt_t hT (by decide) (show pu_su 120 (am_hereF f 0 T) = true from ((pr_su (hb 0)).1.symm.trans q0)), pr_mt_f hT (by decide) (show pu_su 61 (am_hereF f 1 T) = false from (by rw [q1]; decide))]
  have m3 : pu_mt f T (pu_fm 3) 0 = 2 := by
    show pu_mt f T [120, 46, 50, 61, 121] 0 = 2
    rw [pr_mt_t hT (by decide) (show pu_su 120 (am_hereF f 0 T) = true from ((pr_su (hb 0)).1.symm.trans q0)), pr_mt_t hT (by decide) (show pu_su 46 (am_hereF f 1 T) = true from (by rw [q1]; decide)), pr_mt_f hT (by decide) (show pu_su 50 (am_hereF f 2 T) = false from ((pr_su (hb 2)).2.2.symm.trans q2))]
  have m4 : pu_mt f T (pu_fm 4) 0 = 1 := by
    show pu_mt f T [120, 61, 121, 58, 50, 40, 122, 41] 0 = 1
    rw [pr_mt_t hT (by decide) (show pu_su 120 (am_hereF f 0 T) = true from ((pr_su (hb 0)).1.symm.trans q0)), pr_mt_f hT (by decide) (show pu_su 61 (am_hereF f 1 T) = false from (by rw [q1]; decide))]
  have m5 : pu_mt f T (pu_fm 5) 0 = 1 := by
    show pu_mt f T [120, 61, 33, 55] 0 = 1
    rw [pr_mt_t hT (by decide) (show pu_su 120 (am_hereF f 0 T) = true from ((pr_su (hb 0)).1.symm.trans q0)), pr_mt_f hT (by decide) (show pu_su 61 (am_hereF f 1 T) = false from (by rw [q1]; decide))]
  have hlo : 1 < T := pr_in (by decide) (show pu_su 46 (am_hereF f 1 T) = true from (by rw [q1]; decide))
  have hS : pu_sort f T = (-1) := by
    unfold pu_sort
    rw [m0, m1, m2, m3, m4, m5]
    rw [pr_so_no hT (by decide) (by decide) (by omega), pr_so_no hT (by decide) (by decide) (by omega), pr_so_no hT (by decide) (by decide) (by omega), pr_so_no hT (by decide) (by decide) (by omega), pr_so_no hT (by decide) (by decide) (by omega), pr_so_no hT (by decide) (by decide) (by omega)]
  have hF : pu_flt f T = 2 := by unfold pu_flt; rw [m0, m1, m2, m3, m4, m5]; decide
  exact ⟨by rw [hR, hS], Or.inl ⟨by rw [hR], by rw [hR, hF], by rw [hF]; decide⟩⟩
theorem pr_parse_5 {f : Nat → Int32} {T : Nat} (hT : T ≤ 20) (hb : ∀ k, pr_by (am_hereF f k T)) (hby : ∀ i, i < T → ¬ f i = -1) (q0 : pr_L 97 20 (am_hereF f 0 T) = true) (q1 : ¬ (am_hereF f 1 T) = 46) (q2 : (am_hereF f 1 T) = 61) (q3 : (am_hereF f 2 T) = 33) (q4 : pr_L 48 8 (am_hereF f 3 T) = true) (q5 : 4 < T) : pr_D f T := by
  have hR : pr_R f T = ((-1), 4) := by
    unfold pr_R
    rw [if_pos q0, if_neg q1, if_pos q2, if_pos q3, if_pos q4, if_pos q5]
  have m0 : pu_mt f T (pu_fm 0) 0 = 2 := by
    show pu_mt f T [120, 61, 121] 0 = 2
    rw [pr_mt_t hT (by decide) (show pu_su 120 (am_hereF f 0 T) = true from ((pr_su (hb 0)).1.symm.trans q0)), pr_mt_t hT (by decide) (show pu_su 61 (am_hereF f 1 T) = true from (by rw [q2]; decide)), pr_mt_f hT (by decide) (show pu_su 121 (am_hereF f 2 T) = false from (by rw [q3]; decide))]
  have m1 : pu_mt f T (pu_fm 1) 0 = 2 := by
    show pu_mt f T [120, 61, 121, 47, 55] 0 = 2
    rw [pr_mt_t hT (by decide) (show pu_su 120 (am_hereF f 0 T) = true from ((pr_su (hb 0)).1.symm.trans q0)), pr_mt_t hT (by decide) (show pu_su 61 (am_hereF f 1 T) = true from (by rw [q2]; decide)), pr_mt_f hT (by decide) (show pu_su 121 (am_hereF f 2 T) = false from (by rw [q3]; decide))]
  have m2 : pu_mt f T (pu_fm 2) 0 = 2 := by
    show pu_mt f T [120, 61, 121, 46, 50] 0 = 2
    rw [pr_mt_t hT (by decide) (show pu_su 120 (am_hereF f 0 T) = true from ((pr_su (hb 0)).1.symm.trans q0)), pr_mt_t hT (by decide) (show pu_su 61 (am_hereF f 1 T) = true from (by rw [q2]; decide)), pr_mt_f hT (by decide) (show pu_su 121 (am_hereF f 2 T) = false from (by rw [q3]; decide))]
  have m3 : pu_mt f T (pu_fm 3) 0 = 1 := by
    show pu_mt f T [120, 46, 50, 61, 121] 0 = 1
    rw [pr_mt_t hT (by decide) (show pu_su 120 (am_hereF f 0 T) = true from ((pr_su (hb 0)).1.symm.trans q0)), pr_mt_f hT (by decide) (show pu_su 46 (am_hereF f 1 T) = false from (by rw [q2]; decide))]
  have m4 : pu_mt f T (pu_fm 4) 0 = 2 := by
    show pu_mt f T [120, 61, 121, 58, 50, 40, 122, 41] 0 = 2
    rw [pr_mt_t hT (by decide) (show pu_su 120 (am_hereF f 0 T) = true from ((pr_su (hb 0)).1.symm.trans q0)), pr_mt_t hT (by decide) (show pu_su 61 (am_hereF f 1 T) = true from (by rw [q2]; decide)), pr_mt_f hT (by decide) (show pu_su 121 (am_hereF f 2 T) = false from (by rw [q3]; decide))]
  have m5 : pu_mt f T (pu_fm 5) 0 = 4 := by
    show pu_mt f T [120, 61, 33, 55] 0 = 4
    rw [pr_mt_t hT (by decide) (show pu_su 120 (am_hereF f 0 T) = true from ((pr_su (hb 0)).1.symm.trans q0)), pr_mt_t hT (by decide) (show pu_su 61 (am_hereF f 1 T) = true from (by rw [q2]; decide)), pr_mt_t hT (by decide) (show pu_su 33 (am_hereF f 2 T) = true from (by rw [q3]; decide)), pr_mt_t hT (by decide) (show pu_su 55 (am_hereF f 3 T) = true from ((pr_su (hb 3)).2.1.symm.trans q4))]
    rfl
  have hlo : 3 < T := pr_in (by decide) (show pu_su 55 (am_hereF f 3 T) = true from ((pr_su (hb 3)).2.1.symm.trans q4))
  have hS : pu_sort f T = (-1) := by
    unfold pu_sort
    rw [m0, m1, m2, m3, m4, m5]
    rw [pr_so_no hT (by decide) (by decide) (by omega), pr_so_no hT (by decide) (by decide) (by omega), pr_so_no hT (by decide) (by decide) (by omega), pr_so_no hT (by decide) (by decide) (by omega), pr_so_no hT (by decide) (by decide) (by omega), pr_so_no hT (by decide) (by decide) (by omega)]
  have hF : pu_flt f T = 4 := by unfold pu_flt; rw [m0, m1, m2, m3, m4, m5]; decide
  exact ⟨by rw [hR, hS], Or.inl ⟨by rw [hR], by rw [hR, hF], by rw [hF]; decide⟩⟩
theorem pr_parse_6 {f : Nat → Int32} {T : Nat} (hT : T ≤ 20) (hb : ∀ k, pr_by (am_hereF f k T)) (hby : ∀ i, i < T → ¬ f i = -1) (q0 : pr_L 97 20 (am_hereF f 0 T) = true) (q1 : ¬ (am_hereF f 1 T) = 46) (q2 : (am_hereF f 1 T) = 61) (q3 : (am_hereF f 2 T) = 33) (q4 : pr_L 48 8 (am_hereF f 3 T) = true) (q5 : ¬ 4 < T) : pr_D f T := by
  have hR : pr_R f T = (5, 4) := by
    unfold pr_R
    rw [if_pos q0, if_neg q1, if_pos q2, if_pos q3, if_pos q4, if_neg q5]
  have m0 : pu_mt f T (pu_fm 0) 0 = 2 := by
    show pu_mt f T [120, 61, 121] 0 = 2
    rw [pr_mt_t hT (by decide) (show pu_su 120 (am_hereF f 0 T) = true from ((pr_su (hb 0)).1.symm.trans q0)), pr_mt_t hT (by decide) (show pu_su 61 (am_hereF f 1 T) = true from (by rw [q2]; decide)), pr_mt_f hT (by decide) (show pu_su 121 (am_hereF f 2 T) = false from (by rw [q3]; decide))]
  have m1 : pu_mt f T (pu_fm 1) 0 = 2 := by
    show pu_mt f T [120, 61, 121, 47, 55] 0 = 2
    rw [pr_mt_t hT (by decide) (show pu_su 120 (am_hereF f 0 T) = true from ((pr_su (hb 0)).1.symm.trans q0)), pr_mt_t hT (by decide) (show pu_su 61 (am_hereF f 1 T) = true from (by rw [q2]; decide)), pr_mt_f hT (by decide) (show pu_su 121 (am_hereF f 2 T) = false from (by rw [q3]; decide))]
  have m2 : pu_mt f T (pu_fm 2) 0 = 2 := by
    show pu_mt f T [120, 61, 121, 46, 50] 0 = 2
    rw [pr_mt_t hT (by decide) (show pu_su 120 (am_hereF f 0 T) = true from ((pr_su (hb 0)).1.symm.trans q0)), pr_mt_t hT (by decide) (show pu_su 61 (am_hereF f 1 T) = true from (by rw [q2]; decide)), pr_mt_f hT (by decide) (show pu_su 121 (am_hereF f 2 T) = false from (by rw [q3]; decide))]
  have m3 : pu_mt f T (pu_fm 3) 0 = 1 := by
    show pu_mt f T [120, 46, 50, 61, 121] 0 = 1
    rw [pr_mt_t hT (by decide) (show pu_su 120 (am_hereF f 0 T) = true from ((pr_su (hb 0)).1.symm.trans q0)), pr_mt_f hT (by decide) (show pu_su 46 (am_hereF f 1 T) = false from (by rw [q2]; decide))]
  have m4 : pu_mt f T (pu_fm 4) 0 = 2 := by
    show pu_mt f T [120, 61, 121, 58, 50, 40, 122, 41] 0 = 2
    rw [pr_mt_t hT (by decide) (show pu_su 120 (am_hereF f 0 T) = true from ((pr_su (hb 0)).1.symm.trans q0)), pr_mt_t hT (by decide) (show pu_su 61 (am_hereF f 1 T) = true from (by rw [q2]; decide)), pr_mt_f hT (by decide) (show pu_su 121 (am_hereF f 2 T) = false from (by rw [q3]; decide))]
  have m5 : pu_mt f T (pu_fm 5) 0 = 4 := by
    show pu_mt f T [120, 61, 33, 55] 0 = 4
    rw [pr_mt_t hT (by decide) (show pu_su 120 (am_hereF f 0 T) = true from ((pr_su (hb 0)).1.symm.trans q0)), pr_mt_t hT (by decide) (show pu_su 61 (am_hereF f 1 T) = true from (by rw [q2]; decide)), pr_mt_t hT (by decide) (show pu_su 33 (am_hereF f 2 T) = true from (by rw [q3]; decide)), pr_mt_t hT (by decide) (show pu_su 55 (am_hereF f 3 T) = true from ((pr_su (hb 3)).2.1.symm.trans q4))]
    rfl
  have hlo : 3 < T := pr_in (by decide) (show pu_su 55 (am_hereF f 3 T) = true from ((pr_su (hb 3)).2.1.symm.trans q4))
  have hS : pu_sort f T = 5 := by
    unfold pu_sort
    rw [m0, m1, m2, m3, m4, m5]
    rw [pr_so_no hT (by decide) (by decide) (by omega), pr_so_no hT (by decide) (by decide) (by omega), pr_so_no hT (by decide) (by decide) (by omega), pr_so_no hT (by decide) (by decide) (by omega), pr_so_no hT (by decide) (by decide) (by omega), pr_so_yes (by omega) (by omega)]
  have hTT : T = 4 := by omega
  exact ⟨by rw [hR, hS], Or.inr (Or.inr (Or.inr (Or.inr (Or.inr (Or.inr (⟨by rw [hR], hTT, pr_letI (show 0 < T by omega) (hb 0) q0, pr_d8I (show 3 < T by omega) (hb 3) q4⟩))))))⟩
theorem pr_parse_7 {f : Nat → Int32} {T : Nat} (hT : T ≤ 20) (hb : ∀ k, pr_by (am_hereF f k T)) (hby : ∀ i, i < T → ¬ f i = -1) (q0 : pr_L 97 20 (am_hereF f 0 T) = true) (q1 : ¬ (am_hereF f 1 T) = 46) (q2 : (am_hereF f 1 T) = 61) (q3 : (am_hereF f 2 T) = 33) (q4 : pr_L 48 8 (am_hereF f 3 T) = false) : pr_D f T := by
  have hR : pr_R f T = ((-1), 3) := by
    unfold pr_R
    rw [if_pos q0, if_neg q1, if_pos q2, if_pos q3, if_neg (pr_ff q4)]
  have m0 : pu_mt f T (pu_fm 0) 0 = 2 := by
    show pu_mt f T [120, 61, 121] 0 = 2
    rw [pr_mt_t hT (by decide) (show pu_su 120 (am_hereF f 0 T) = true from ((pr_su (hb 0)).1.symm.trans q0)), pr_mt_t hT (by decide) (show pu_su 61 (am_hereF f 1 T) = true from (by rw [q2]; decide)), pr_mt_f hT (by decide) (show pu_su 121 (am_hereF f 2 T) = false from (by rw [q3]; decide))]
  have m1 : pu_mt f T (pu_fm 1) 0 = 2 := by
    show pu_mt f T [120, 61, 121, 47, 55] 0 = 2
    rw [pr_mt_t hT (by decide) (show pu_su 120 (am_hereF f 0 T) = true from ((pr_su (hb 0)).1.symm.trans q0)), pr_mt_t hT (by decide) (show pu_su 61 (am_hereF f 1 T) = true from (by rw [q2]; decide)), pr_mt_f hT (by decide) (show pu_su 121 (am_hereF f 2 T) = false from (by rw [q3]; decide))]
  have m2 : pu_mt f T (pu_fm 2) 0 = 2 := by
    show pu_mt f T [120, 61, 121, 46, 50] 0 = 2
    rw [pr_mt_t hT (by decide) (show pu_su 120 (am_hereF f 0 T) = true from ((pr_su (hb 0)).1.symm.trans q0)), pr_mt_t hT (by decide) (show pu_su 61 (am_hereF f 1 T) = true from (by rw [q2]; decide)), pr_mt_f hT (by decide) (show pu_su 121 (am_hereF f 2 T) = false from (by rw [q3]; decide))]
  have m3 : pu_mt f T (pu_fm 3) 0 = 1 := by
    show pu_mt f T [120, 46, 50, 61, 121] 0 = 1
    rw [pr_mt_t hT (by decide) (show pu_su 120 (am_hereF f 0 T) = true from ((pr_su (hb 0)).1.symm.trans q0)), pr_mt_f hT (by decide) (show pu_su 46 (am_hereF f 1 T) = false from (by rw [q2]; decide))]
  have m4 : pu_mt f T (pu_fm 4) 0 = 2 := by
    show pu_mt f T [120, 61, 121, 58, 50, 40, 122, 41] 0 = 2
    rw [pr_mt_t hT (by decide) (show pu_su 120 (am_hereF f 0 T) = true from ((pr_su (hb 0)).1.symm.trans q0)), pr_mt_t hT (by decide) (show pu_su 61 (am_hereF f 1 T) = true from (by rw [q2]; decide)), pr_mt_f hT (by decide) (show pu_su 121 (am_hereF f 2 T) = false from (by rw [q3]; decide))]
  have m5 : pu_mt f T (pu_fm 5) 0 = 3 := by
    show pu_mt f T [120, 61, 33, 55] 0 = 3
    rw [pr_mt_t hT (by decide) (show pu_su 120 (am_hereF f 0 T) = true from ((pr_su (hb 0)).1.symm.trans q0)), pr_mt_t hT (by decide) (show pu_su 61 (am_hereF f 1 T) = true from (by rw [q2]; decide)), pr_mt_t hT (by decide) (show pu_su 33 (am_hereF f 2 T) = true from (by rw [q3]; decide)), pr_mt_f hT (by decide) (show pu_su 55 (am_hereF f 3 T) = false from ((pr_su (hb 3)).2.1.symm.trans q4))]
  have hlo : 2 < T := pr_in (by decide) (show pu_su 33 (am_hereF f 2 T) = true from (by rw [q3]; decide))
  have hS : pu_sort f T = (-1) := by
    unfold pu_sort
    rw [m0, m1, m2, m3, m4, m5]
    rw [pr_so_no hT (by decide) (by decide) (by omega), pr_so_no hT (by decide) (by decide) (by omega), pr_so_no hT (by decide) (by decide) (by omega), pr_so_no hT (by decide) (by decide) (by omega), pr_so_no hT (by decide) (by decide) (by omega), pr_so_no hT (by decide) (by decide) (by omega)]
  have hF : pu_flt f T = 3 := by unfold pu_flt; rw [m0, m1, m2, m3, m4, m5]; decide
  exact ⟨by rw [hR, hS], Or.inl ⟨by rw [hR], by rw [hR, hF], by rw [hF]; decide⟩⟩
theorem pr_parse_8 {f : Nat → Int32} {T : Nat} (hT : T ≤ 20) (hb : ∀ k, pr_by (am_hereF f k T)) (hby : ∀ i, i < T → ¬ f i = -1) (q0 : pr_L 97 20 (am_hereF f 0 T) = true) (q1 : ¬ (am_hereF f 1 T) = 46) (q2 : (am_hereF f 1 T) = 61) (q3 : ¬ (am_hereF f 2 T) = 33) (q4 : pr_L 97 20 (am_hereF f 2 T) = true) (q5 : (am_hereF f 3 T) = -1) : pr_D f T := by
  have hR : pr_R f T = (0, 3) := by
    unfold pr_R
    rw [if_pos q0, if_neg q1, if_pos q2, if_neg q3, if_pos q4, if_pos q5]
  have m0 : pu_mt f T (pu_fm 0) 0 = 3 := by
    show pu_mt f T [120, 61, 121] 0 = 3
    rw [pr_mt_t hT (by decide) (show pu_su 120 (am_hereF f 0 T) = true from ((pr_su (hb 0)).1.symm.trans q0)), pr_mt_t hT (by decide) (show pu_su 61 (am_hereF f 1 T) = true from (by rw [q2]; decide)), pr_mt_t hT (by decide) (show pu_su 121 (am_hereF f 2 T) = true from ((pr_su (hb 2)).1.symm.trans q4))]
    rfl
  have m1 : pu_mt f T (pu_fm 1) 0 = 3 := by
    show pu_mt f T [120, 61, 121, 47, 55] 0 = 3
    rw [pr_mt_t hT (by decide) (show pu_su 120 (am_hereF f 0 T) = true from ((pr_su (hb 0)).1.symm.trans q0)), pr_mt_t hT (by decide) (show pu_su 61 (am_hereF f 1 T) = true from (by rw [q2]; decide)), pr_mt_t hT (by decide) (show pu_su 121 (am_hereF f 2 T) = true from ((pr_su (hb 2)).1.symm.trans q4)), pr_mt_f hT (by decide) (show pu_su 47 (am_hereF f 3 T) = false from (by rw [q5]; decide))]
  have m2 : pu_mt f T (pu_fm 2) 0 = 3 := by
    show pu_mt f T [120, 61, 121, 46, 50] 0 = 3
    rw [pr_mt_t hT (by decide) (show pu_su 120 (am_hereF f 0 T) = true from ((pr_su (hb 0)).1.symm.trans q0)), pr_mt_t hT (by decide) (show pu_su 61 (am_hereF f 1 T) = true from (by rw [q2]; decide)), pr_mt_t hT (by decide) (show pu_su 121 (am_hereF f 2 T) = true from ((pr_su (hb 2)).1.symm.trans q4)), pr_mt_f hT (by decide) (show pu_su 46 (am_hereF f 3 T) = false from (by rw [q5]; decide))]
  have m3 : pu_mt f T (pu_fm 3) 0 = 1 := by
    show pu_mt f T [120, 46, 50, 61, 121] 0 = 1
    rw [pr_mt_t hT (by decide) (show pu_su 120 (am_hereF f 0 T) = true from ((pr_su (hb 0)).1.symm.trans q0)), pr_mt_f hT (by decide) (show pu_su 46 (am_hereF f 1 T) = false from (by rw [q2]; decide))]
  have m4 : pu_mt f T (pu_fm 4) 0 = 3 := by
    show pu_mt f T [120, 61, 121, 58, 50, 40, 122, 41] 0 = 3
    rw [pr_mt_t hT (by decide) (show pu_su 120 (am_hereF f 0 T) = true from ((pr_su (hb 0)).1.symm.trans q0)), pr_mt_t hT (by decide) (show pu_su 61 (am_hereF f 1 T) = true from (by rw [q2]; decide)), pr_mt_t hT (by decide) (show pu_su 121 (am_hereF f 2 T) = true from ((pr_su (hb 2)).1.symm.trans q4)), pr_mt_f hT (by decide) (show pu_su 58 (am_hereF f 3 T) = false from (by rw [q5]; decide))]
  have m5 : pu_mt f T (pu_fm 5) 0 = 2 := by
    show pu_mt f T [120, 61, 33, 55] 0 = 2
    rw [pr_mt_t hT (by decide) (show pu_su 120 (am_hereF f 0 T) = true from ((pr_su (hb 0)).1.symm.trans q0)), pr_mt_t hT (by decide) (show pu_su 61 (am_hereF f 1 T) = true from (by rw [q2]; decide)), pr_mt_f hT (by decide) (show pu_su 33 (am_hereF f 2 T) = false from (decide_eq_false q3))]
  have hlo : 2 < T := pr_in (by decide) (show pu_su 121 (am_hereF f 2 T) = true from ((pr_su (hb 2)).1.symm.trans q4))
  have hhi : ¬ 3 < T := pr_nend hby q5
  have hS : pu_sort f T = 0 := by
    unfold pu_sort
    rw [m0, m1, m2, m3, m4, m5]
    rw [pr_so_yes (by omega) (by omega)]
  have hTT : T = 3 := by omega
  exact ⟨by rw [hR, hS], Or.inr (Or.inl ⟨by rw [hR], hTT, pr_letI (show 0 < T by omega) (hb 0) q0, pr_letI (show 2 < T by omega) (hb 2) q4⟩)⟩
theorem pr_parse_9 {f : Nat → Int32} {T : Nat} (hT : T ≤ 20) (hb : ∀ k, pr_by (am_hereF f k T)) (hby : ∀ i, i < T → ¬ f i = -1) (q0 : pr_L 97 20 (am_hereF f 0 T) = true) (q1 : ¬ (am_hereF f 1 T) = 46) (q2 : (am_hereF f 1 T) = 61) (q3 : ¬ (am_hereF f 2 T) = 33) (q4 : pr_L 97 20 (am_hereF f 2 T) = true) (q5 : ¬ (am_hereF f 3 T) = -1) (q6 : (am_hereF f 3 T) = 47) (q7 : pr_L 48 8 (am_hereF f 4 T) = true) (q8 : 5 < T) : pr_D f T := by
  have hR : pr_R f T = ((-1), 5) := by
    unfold pr_R
    rw [if_pos q0, if_neg q1, if_pos q2, if_neg q3, if_pos q4, if_neg q5, if_pos q6, if_pos q7, if_pos q8]
  have m0 : pu_mt f T (pu_fm 0) 0 = 3 := by
    show pu_mt f T [120, 61, 121] 0 = 3
    rw [pr_mt_t hT (by decide) (show pu_su 120 (am_hereF f 0 T) = true from ((pr_su (hb 0)).1.symm.trans q0)), pr_mt_t hT (by decide) (show pu_su 61 (am_hereF f 1 T) = true from (by rw [q2]; decide)), pr_mt_t hT (by decide) (show pu_su 121 (am_hereF f 2 T) = true from ((pr_su (hb 2)).1.symm.trans q4))]
    rfl
  have m1 : pu_mt f T (pu_fm 1) 0 = 5 := by
    show pu_mt f T [120, 61, 121, 47, 55] 0 = 5
    rw [pr_mt_t hT (by decide) (show pu_su 120 (am_hereF f 0 T) = true from ((pr_su (hb 0)).1.symm.trans q0)), pr_mt_t hT (by decide) (show pu_su 61 (am_hereF f 1 T) = true from (by rw [q2]; decide)), pr_mt_t hT (by decide) (show pu_su 121 (am_hereF f 2 T) = true from ((pr_su (hb 2)).1.symm.trans q4)), pr_mt_t hT (by decide) (show pu_su 47 (am_hereF f 3 T) = true from (by rw [q6]; decide)), pr_mt_t hT (by decide) (show pu_su 55 (am_hereF f 4 T) = true from ((pr_su (hb 4)).2.1.symm.trans q7))]
    rfl
  have m2 : pu_mt f T (pu_fm 2) 0 = 3 := by
    show pu_mt f T [120, 61, 121, 46, 50] 0 = 3
    rw [pr_mt_t hT (by decide) (show pu_su 120 (am_hereF f 0 T) = true from ((pr_su (hb 0)).1.symm.trans q0)), pr_mt_t hT (by decide) (show pu_su 61 (am_hereF f 1 T) = true from (by rw [q2]; decide)), pr_mt_t hT (by decide) (show pu_su 121 (am_hereF f 2 T) = true from ((pr_su (hb 2)).1.symm.trans q4)), pr_mt_f hT (by decide) (show pu_su 46 (am_hereF f 3 T) = false from (by rw [q6]; decide))]
  have m3 : pu_mt f T (pu_fm 3) 0 = 1 := by
    show pu_mt f T [120, 46, 50, 61, 121] 0 = 1
    rw [pr_mt_t hT (by decide) (show pu_su 120 (am_hereF f 0 T) = true from ((pr_su (hb 0)).1.symm.trans q0)), pr_mt_f hT (by decide) (show pu_su 46 (am_hereF f 1 T) = false from (by rw [q2]; decide))]
  have m4 : pu_mt f T (pu_fm 4) 0 = 3 := by
    show pu_mt f T [120, 61, 121, 58, 50, 40, 122, 41] 0 = 3
    rw [pr_mt_t hT (by decide) (show pu_su 120 (am_hereF f 0 T) = true from ((pr_su (hb 0)).1.symm.trans q0)), pr_mt_t hT (by decide) (show pu_su 61 (am_hereF f 1 T) = true from (by rw [q2]; decide)), pr_mt_t hT (by decide) (show pu_su 121 (am_hereF f 2 T) = true from ((pr_su (hb 2)).1.symm.trans q4)), pr_mt_f hT (by decide) (show pu_su 58 (am_hereF f 3 T) = false from (by rw [q6]; decide))]
  have m5 : pu_mt f T (pu_fm 5) 0 = 2 := by
    show pu_mt f T [120, 61, 33, 55] 0 = 2
    rw [pr_mt_t hT (by decide) (show pu_su 120 (am_hereF f 0 T) = true from ((pr_su (hb 0)).1.symm.trans q0)), pr_mt_t hT (by decide) (show pu_su 61 (am_hereF f 1 T) = true from (by rw [q2]; decide)), pr_mt_f hT (by decide) (show pu_su 33 (am_hereF f 2 T) = false from (decide_eq_false q3))]
  have hlo : 4 < T := pr_in (by decide) (show pu_su 55 (am_hereF f 4 T) = true from ((pr_su (hb 4)).2.1.symm.trans q7))
  have hmid : 3 < T := pr_ltof q5
  have hS : pu_sort f T = (-1) := by
    unfold pu_sort
    rw [m0, m1, m2, m3, m4, m5]
    rw [pr_so_no hT (by decide) (by decide) (by omega), pr_so_no hT (by decide) (by decide) (by omega), pr_so_no hT (by decide) (by decide) (by omega), pr_so_no hT (by decide) (by decide) (by omega), pr_so_no hT (by decide) (by decide) (by omega), pr_so_no hT (by decide) (by decide) (by omega)]
  have hF : pu_flt f T = 5 := by unfold pu_flt; rw [m0, m1, m2, m3, m4, m5]; decide
  exact ⟨by rw [hR, hS], Or.inl ⟨by rw [hR], by rw [hR, hF], by rw [hF]; decide⟩⟩
theorem pr_parse_10 {f : Nat → Int32} {T : Nat} (hT : T ≤ 20) (hb : ∀ k, pr_by (am_hereF f k T)) (hby : ∀ i, i < T → ¬ f i = -1) (q0 : pr_L 97 20 (am_hereF f 0 T) = true) (q1 : ¬ (am_hereF f 1 T) = 46) (q2 : (am_hereF f 1 T) = 61) (q3 : ¬ (am_hereF f 2 T) = 33) (q4 : pr_L 97 20 (am_hereF f 2 T) = true) (q5 : ¬ (am_hereF f 3 T) = -1) (q6 : (am_hereF f 3 T) = 47) (q7 : pr_L 48 8 (am_hereF f 4 T) = true) (q8 : ¬ 5 < T) : pr_D f T := by
  have hR : pr_R f T = (1, 5) := by
    unfold pr_R
    rw [if_pos q0, if_neg q1, if_pos q2, if_neg q3, if_pos q4, if_neg q5, if_pos q6, if_pos q7, if_neg q8]
  have m0 : pu_mt f T (pu_fm 0) 0 = 3 := by
    show pu_mt f T [120, 61, 121] 0 = 3
    rw [pr_mt_t hT (by decide) (show pu_su 120 (am_hereF f 0 T) = true from ((pr_su (hb 0)).1.symm.trans q0)), pr_mt_t hT (by decide) (show pu_su 61 (am_hereF f 1 T) = true from (by rw [q2]; decide)), pr_mt_t hT (by decide) (show pu_su 121 (am_hereF f 2 T) = true from ((pr_su (hb 2)).1.symm.trans q4))]
    rfl
  have m1 : pu_mt f T (pu_fm 1) 0 = 5 := by
    show pu_mt f T [120, 61, 121, 47, 55] 0 = 5
    rw [pr_mt_t hT (by decide) (show pu_su 120 (am_hereF f 0 T) = true from ((pr_su (hb 0)).1.symm.trans q0)), pr_mt_t hT (by decide) (show pu_su 61 (am_hereF f 1 T) = true from (by rw [q2]; decide)), pr_mt_t hT (by decide) (show pu_su 121 (am_hereF f 2 T) = true from ((pr_su (hb 2)).1.symm.trans q4)), pr_mt_t hT (by decide) (show pu_su 47 (am_hereF f 3 T) = true from (by rw [q6]; decide)), pr_mt_t hT (by decide) (show pu_su 55 (am_hereF f 4 T) = true from ((pr_su (hb 4)).2.1.symm.trans q7))]
    rfl
  have m2 : pu_mt f T (pu_fm 2) 0 = 3 := by
    show pu_mt f T [120, 61, 121, 46, 50] 0 = 3
    rw [pr_mt_t hT (by decide) (show pu_su 120 (am_hereF f 0 T) = true from ((pr_su (hb 0)).1.symm.trans q0)), pr_mt_t hT (by decide) (show pu_su 61 (am_hereF f 1 T) = true from (by rw [q2]; decide)), pr_mt_t hT (by decide) (show pu_su 121 (am_hereF f 2 T) = true from ((pr_su (hb 2)).1.symm.trans q4)), pr_mt_f hT (by decide) (show pu_su 46 (am_hereF f 3 T) = false from (by rw [q6]; decide))]
  have m3 : pu_mt f T (pu_fm 3) 0 = 1 := by
    show pu_mt f T [120, 46, 50, 61, 121] 0 = 1
    rw [pr_mt_t hT (by decide) (show pu_su 120 (am_hereF f 0 T) = true from ((pr_su (hb 0)).1.symm.trans q0)), pr_mt_f hT (by decide) (show pu_su 46 (am_hereF f 1 T) = false from (by rw [q2]; decide))]
  have m4 : pu_mt f T (pu_fm 4) 0 = 3 := by
    show pu_mt f T [120, 61, 121, 58, 50, 40, 122, 41] 0 = 3
    rw [pr_mt_t hT (by decide) (show pu_su 120 (am_hereF f 0 T) = true from ((pr_su (hb 0)).1.symm.trans q0)), pr_mt_t hT (by decide) (show pu_su 61 (am_hereF f 1 T) = true from (by rw [q2]; decide)), pr_mt_t hT (by decide) (show pu_su 121 (am_hereF f 2 T) = true from ((pr_su (hb 2)).1.symm.trans q4)), pr_mt_f hT (by decide) (show pu_su 58 (am_hereF f 3 T) = false from (by rw [q6]; decide))]
  have m5 : pu_mt f T (pu_fm 5) 0 = 2 := by
    show pu_mt f T [120, 61, 33, 55] 0 = 2
    rw [pr_mt_t hT (by decide) (show pu_su 120 (am_hereF f 0 T) = true from ((pr_su (hb 0)).1.symm.trans q0)), pr_mt_t hT (by decide) (show pu_su 61 (am_hereF f 1 T) = true from (by rw [q2]; decide)), pr_mt_f hT (by decide) (show pu_su 33 (am_hereF f 2 T) = false from (decide_eq_false q3))]
  have hlo : 4 < T := pr_in (by decide) (show pu_su 55 (am_hereF f 4 T) = true from ((pr_su (hb 4)).2.1.symm.trans q7))
  have hmid : 3 < T := pr_ltof q5
  have hS : pu_sort f T = 1 := by
    unfold pu_sort
    rw [m0, m1, m2, m3, m4, m5]
    rw [pr_so_no hT (by decide) (by decide) (by omega), pr_so_yes (by omega) (by omega)]
  have hTT : T = 5 := by omega
  exact ⟨by rw [hR, hS], Or.inr (Or.inr (Or.inl ⟨by rw [hR], hTT, pr_letI (show 0 < T by omega) (hb 0) q0, pr_letI (show 2 < T by omega) (hb 2) q4, pr_d8I (show 4 < T by omega) (hb 4) q7⟩))⟩
theorem pr_parse_11 {f : Nat → Int32} {T : Nat} (hT : T ≤ 20) (hb : ∀ k, pr_by (am_hereF f k T)) (hby : ∀ i, i < T → ¬ f i = -1) (q0 : pr_L 97 20 (am_hereF f 0 T) = true) (q1 : ¬ (am_hereF f 1 T) = 46) (q2 : (am_hereF f 1 T) = 61) (q3 : ¬ (am_hereF f 2 T) = 33) (q4 : pr_L 97 20 (am_hereF f 2 T) = true) (q5 : ¬ (am_hereF f 3 T) = -1) (q6 : (am_hereF f 3 T) = 47) (q7 : pr_L 48 8 (am_hereF f 4 T) = false) : pr_D f T := by
  have hR : pr_R f T = ((-1), 4) := by
    unfold pr_R
    rw [if_pos q0, if_neg q1, if_pos q2, if_neg q3, if_pos q4, if_neg q5, if_pos q6, if_neg (pr_ff q7)]
  have m0 : pu_mt f T (pu_fm 0) 0 = 3 := by
    show pu_mt f T [120, 61, 121] 0 = 3
    rw [pr_mt_t hT (by decide) (show pu_su 120 (am_hereF f 0 T) = true from ((pr_su (hb 0)).1.symm.trans q0)), pr_mt_t hT (by decide) (show pu_su 61 (am_hereF f 1 T) = true from (by rw [q2]; decide)), pr_mt_t hT (by decide) (show pu_su 121 (am_hereF f 2 T) = true from ((pr_su (hb 2)).1.symm.trans q4))]
    rfl
  have m1 : pu_mt f T (pu_fm 1) 0 = 4 := by
    show pu_mt f T [120, 61, 121, 47, 55] 0 = 4
    rw [pr_mt_t hT (by decide) (show pu_su 120 (am_hereF f 0 T) = true from ((pr_su (hb 0)).1.symm.trans q0)), pr_mt_t hT (by decide) (show pu_su 61 (am_hereF f 1 T) = true from (by rw [q2]; decide)), pr_mt_t hT (by decide) (show pu_su 121 (am_hereF f 2 T) = true from ((pr_su (hb 2)).1.symm.trans q4)), pr_mt_t hT (by decide) (show pu_su 47 (am_hereF f 3 T) = true from (by rw [q6]; decide)), pr_mt_f hT (by decide) (show pu_su 55 (am_hereF f 4 T) = false from ((pr_su (hb 4)).2.1.symm.trans q7))]
  have m2 : pu_mt f T (pu_fm 2) 0 = 3 := by
    show pu_mt f T [120, 61, 121, 46, 50] 0 = 3
    rw [pr_mt_t hT (by decide) (show pu_su 120 (am_hereF f 0 T) = true from ((pr_su (hb 0)).1.symm.trans q0)), pr_mt_t hT (by decide) (show pu_su 61 (am_hereF f 1 T) = true from (by rw [q2]; decide)), pr_mt_t hT (by decide) (show pu_su 121 (am_hereF f 2 T) = true from ((pr_su (hb 2)).1.symm.trans q4)), pr_mt_f hT (by decide) (show pu_su 46 (am_hereF f 3 T) = false from (by rw [q6]; decide))]
  have m3 : pu_mt f T (pu_fm 3) 0 = 1 := by
    show pu_mt f T [120, 46, 50, 61, 121] 0 = 1
    rw [pr_mt_t hT (by decide) (show pu_su 120 (am_hereF f 0 T) = true from ((pr_su (hb 0)).1.symm.trans q0)), pr_mt_f hT (by decide) (show pu_su 46 (am_hereF f 1 T) = false from (by rw [q2]; decide))]
  have m4 : pu_mt f T (pu_fm 4) 0 = 3 := by
    show pu_mt f T [120, 61, 121, 58, 50, 40, 122, 41] 0 = 3
    rw [pr_mt_t hT (by decide) (show pu_su 120 (am_hereF f 0 T) = true from ((pr_su (hb 0)).1.symm.trans q0)), pr_mt_t hT (by decide) (show pu_su 61 (am_hereF f 1 T) = true from (by rw [q2]; decide)), pr_mt_t hT (by decide) (show pu_su 121 (am_hereF f 2 T) = true from ((pr_su (hb 2)).1.symm.trans q4)), pr_mt_f hT (by decide) (show pu_su 58 (am_hereF f 3 T) = false from (by rw [q6]; decide))]
  have m5 : pu_mt f T (pu_fm 5) 0 = 2 := by
    show pu_mt f T [120, 61, 33, 55] 0 = 2
    rw [pr_mt_t hT (by decide) (show pu_su 120 (am_hereF f 0 T) = true from ((pr_su (hb 0)).1.symm.trans q0)), pr_mt_t hT (by decide) (show pu_su 61 (am_hereF f 1 T) = true from (by rw [q2]; decide)), pr_mt_f hT (by decide) (show pu_su 33 (am_hereF f 2 T) = false from (decide_eq_false q3))]
  have hlo : 3 < T := pr_in (by decide) (show pu_su 47 (am_hereF f 3 T) = true from (by rw [q6]; decide))
  have hmid : 3 < T := pr_ltof q5
  have hS : pu_sort f T = (-1) := by
    unfold pu_sort
    rw [m0, m1, m2, m3, m4, m5]
    rw [pr_so_no hT (by decide) (by decide) (by omega), pr_so_no hT (by decide) (by decide) (by omega), pr_so_no hT (by decide) (by decide) (by omega), pr_so_no hT (by decide) (by decide) (by omega), pr_so_no hT (by decide) (by decide) (by omega), pr_so_no hT (by decide) (by decide) (by omega)]
  have hF : pu_flt f T = 4 := by unfold pu_flt; rw [m0, m1, m2, m3, m4, m5]; decide
  exact ⟨by rw [hR, hS], Or.inl ⟨by rw [hR], by rw [hR, hF], by rw [hF]; decide⟩⟩
theorem pr_parse_12 {f : Nat → Int32} {T : Nat} (hT : T ≤ 20) (hb : ∀ k, pr_by (am_hereF f k T)) (hby : ∀ i, i < T → ¬ f i = -1) (q0 : pr_L 97 20 (am_hereF f 0 T) = true) (q1 : ¬ (am_hereF f 1 T) = 46) (q2 : (am_hereF f 1 T) = 61) (q3 : ¬ (am_hereF f 2 T) = 33) (q4 : pr_L 97 20 (am_hereF f 2 T) = true) (q5 : ¬ (am_hereF f 3 T) = -1) (q6 : ¬ (am_hereF f 3 T) = 47) (q7 : (am_hereF f 3 T) = 46) (q8 : pr_L 48 3 (am_hereF f 4 T) = true) (q9 : 5 < T) : pr_D f T := by
  have hR : pr_R f T = ((-1), 5) := by
    unfold pr_R
    rw [if_pos q0, if_neg q1, if_pos q2, if_neg q3, if_pos q4, if_neg q5, if_neg q6, if_pos q7, if_pos q8, if_pos q9]
  have m0 : pu_mt f T (pu_fm 0) 0 = 3 := by
    show pu_mt f T [120, 61, 121] 0 = 3
    rw [pr_mt_t hT (by decide) (show pu_su 120 (am_hereF f 0 T) = true from ((pr_su (hb 0)).1.symm.trans q0)), pr_mt_t hT (by decide) (show pu_su 61 (am_hereF f 1 T) = true from (by rw [q2]; decide)), pr_mt_t hT (by decide) (show pu_su 121 (am_hereF f 2 T) = true from ((pr_su (hb 2)).1.symm.trans q4))]
    rfl
  have m1 : pu_mt f T (pu_fm 1) 0 = 3 := by
    show pu_mt f T [120, 61, 121, 47, 55] 0 = 3
    rw [pr_mt_t hT (by decide) (show pu_su 120 (am_hereF f 0 T) = true from ((pr_su (hb 0)).1.symm.trans q0)), pr_mt_t hT (by decide) (show pu_su 61 (am_hereF f 1 T) = true from (by rw [q2]; decide)), pr_mt_t hT (by decide) (show pu_su 121 (am_hereF f 2 T) = true from ((pr_su (hb 2)).1.symm.trans q4)), pr_mt_f hT (by decide) (show pu_su 47 (am_hereF f 3 T) = false from (by rw [q7]; decide))]
  have m2 : pu_mt f T (pu_fm 2) 0 = 5 := by
    show pu_mt f T [120, 61, 121, 46, 50] 0 = 5
    rw [pr_mt_t hT (by decide) (show pu_su 120 (am_hereF f 0 T) = true from ((pr_su (hb 0)).1.symm.trans q0)), pr_mt_t hT (by decide) (show pu_su 61 (am_hereF f 1 T) = true from (by rw [q2]; decide)), pr_mt_t hT (by decide) (show pu_su 121 (am_hereF f 2 T) = true from ((pr_su (hb 2)).1.symm.trans q4)), pr_mt_t hT (by decide) (show pu_su 46 (am_hereF f 3 T) = true from (by rw [q7]; decide)), pr_mt_t hT (by decide) (show pu_su 50 (am_hereF f 4 T) = true from ((pr_su (hb 4)).2.2.symm.trans q8))]
    rfl
  have m3 : pu_mt f T (pu_fm 3) 0 = 1 := by
    show pu_mt f T [120, 46, 50, 61, 121] 0 = 1
    rw [pr_mt_t hT (by decide) (show pu_su 120 (am_hereF f 0 T) = true from ((pr_su (hb 0)).1.symm.trans q0)), pr_mt_f hT (by decide) (show pu_su 46 (am_hereF f 1 T) = false from (by rw [q2]; decide))]
  have m4 : pu_mt f T (pu_fm 4) 0 = 3 := by
    show pu_mt f T [120, 61, 121, 58, 50, 40, 122, 41] 0 = 3
    rw [pr_mt_t hT (by decide) (show pu_su 120 (am_hereF f 0 T) = true from ((pr_su (hb 0)).1.symm.trans q0)), pr_mt_t hT (by decide) (show pu_su 61 (am_hereF f 1 T) = true from (by rw [q2]; decide)), pr_mt_t hT (by decide) (show pu_su 121 (am_hereF f 2 T) = true from ((pr_su (hb 2)).1.symm.trans q4)), pr_mt_f hT (by decide) (show pu_su 58 (am_hereF f 3 T) = false from (by rw [q7]; decide))]
  have m5 : pu_mt f T (pu_fm 5) 0 = 2 := by
    show pu_mt f T [120, 61, 33, 55] 0 = 2
    rw [pr_mt_t hT (by decide) (show pu_su 120 (am_hereF f 0 T) = true from ((pr_su (hb 0)).1.symm.trans q0)), pr_mt_t hT (by decide) (show pu_su 61 (am_hereF f 1 T) = true from (by rw [q2]; decide)), pr_mt_f hT (by decide) (show pu_su 33 (am_hereF f 2 T) = false from (decide_eq_false q3))]
  have hlo : 4 < T := pr_in (by decide) (show pu_su 50 (am_hereF f 4 T) = true from ((pr_su (hb 4)).2.2.symm.trans q8))
  have hmid : 3 < T := pr_ltof q5
  have hS : pu_sort f T = (-1) := by
    unfold pu_sort
    rw [m0, m1, m2, m3, m4, m5]
    rw [pr_so_no hT (by decide) (by decide) (by omega), pr_so_no hT (by decide) (by decide) (by omega), pr_so_no hT (by decide) (by decide) (by omega), pr_so_no hT (by decide) (by decide) (by omega), pr_so_no hT (by decide) (by decide) (by omega), pr_so_no hT (by decide) (by decide) (by omega)]
  have hF : pu_flt f T = 5 := by unfold pu_flt; rw [m0, m1, m2, m3, m4, m5]; decide
  exact ⟨by rw [hR, hS], Or.inl ⟨by rw [hR], by rw [hR, hF], by rw [hF]; decide⟩⟩
theorem pr_parse_13 {f : Nat → Int32} {T : Nat} (hT : T ≤ 20) (hb : ∀ k, pr_by (am_hereF f k T)) (hby : ∀ i, i < T → ¬ f i = -1) (q0 : pr_L 97 20 (am_hereF f 0 T) = true) (q1 : ¬ (am_hereF f 1 T) = 46) (q2 : (am_hereF f 1 T) = 61) (q3 : ¬ (am_hereF f 2 T) = 33) (q4 : pr_L 97 20 (am_hereF f 2 T) = true) (q5 : ¬ (am_hereF f 3 T) = -1) (q6 : ¬ (am_hereF f 3 T) = 47) (q7 : (am_hereF f 3 T) = 46) (q8 : pr_L 48 3 (am_hereF f 4 T) = true) (q9 : ¬ 5 < T) : pr_D f T := by
  have hR : pr_R f T = (2, 5) := by
    unfold pr_R
    rw [if_pos q0, if_neg q1, if_pos q2, if_neg q3, if_pos q4, if_neg q5, if_neg q6, if_pos q7, if_pos q8, if_neg q9]
  have m0 : pu_mt f T (pu_fm 0) 0 = 3 := by
    show pu_mt f T [120, 61, 121] 0 = 3
    rw [pr_mt_t hT (by decide) (show pu_su 120 (am_hereF f 0 T) = true from ((pr_su (hb 0)).1.symm.trans q0)), pr_mt_t hT (by decide) (show pu_su 61 (am_hereF f 1 T) = true from (by rw [q2]; decide)), pr_mt_t hT (by decide) (show pu_su 121 (am_hereF f 2 T) = true from ((pr_su (hb 2)).1.symm.trans q4))]
    rfl
  have m1 : pu_mt f T (pu_fm 1) 0 = 3 := by
    show pu_mt f T [120, 61, 121, 47, 55] 0 = 3
    rw [pr_mt_t hT (by decide) (show pu_su 120 (am_hereF f 0 T) = true from ((pr_su (hb 0)).1.symm.trans q0)), pr_mt_t hT (by decide) (show pu_su 61 (am_hereF f 1 T) = true from (by rw [q2]; decide)), pr_mt_t hT (by decide) (show pu_su 121 (am_hereF f 2 T) = true from ((pr_su (hb 2)).1.symm.trans q4)), pr_mt_f hT (by decide) (show pu_su 47 (am_hereF f 3 T) = false from (by rw [q7]; decide))]
  have m2 : pu_mt f T (pu_fm 2) 0 = 5 := by
    show pu_mt f T [120, 61, 121, 46, 50] 0 = 5
    rw [pr_mt_t hT (by decide) (show pu_su 120 (am_hereF f 0 T) = true from ((pr_su (hb 0)).1.symm.trans q0)), pr_mt_t hT (by decide) (show pu_su 61 (am_hereF f 1 T) = true from (by rw [q2]; decide)), pr_mt_t hT (by decide) (show pu_su 121 (am_hereF f 2 T) = true from ((pr_su (hb 2)).1.symm.trans q4)), pr_mt_t hT (by decide) (show pu_su 46 (am_hereF f 3 T) = true from (by rw [q7]; decide)), pr_mt_t hT (by decide) (show pu_su 50 (am_hereF f 4 T) = true from ((pr_su (hb 4)).2.2.symm.trans q8))]
    rfl
  have m3 : pu_mt f T (pu_fm 3) 0 = 1 := by
    show pu_mt f T [120, 46, 50, 61, 121] 0 = 1
    rw [pr_mt_t hT (by decide) (show pu_su 120 (am_hereF f 0 T) = true from ((pr_su (hb 0)).1.symm.trans q0)), pr_mt_f hT (by decide) (show pu_su 46 (am_hereF f 1 T) = false from (by rw [q2]; decide))]
  have m4 : pu_mt f T (pu_fm 4) 0 = 3 := by
    show pu_mt f T [120, 61, 121, 58, 50, 40, 122, 41] 0 = 3
    rw [pr_mt_t hT (by decide) (show pu_su 120 (am_hereF f 0 T) = true from ((pr_su (hb 0)).1.symm.trans q0)), pr_mt_t hT (by decide) (show pu_su 61 (am_hereF f 1 T) = true from (by rw [q2]; decide)), pr_mt_t hT (by decide) (show pu_su 121 (am_hereF f 2 T) = true from ((pr_su (hb 2)).1.symm.trans q4)), pr_mt_f hT (by decide) (show pu_su 58 (am_hereF f 3 T) = false from (by rw [q7]; decide))]
  have m5 : pu_mt f T (pu_fm 5) 0 = 2 := by
    show pu_mt f T [120, 61, 33, 55] 0 = 2
    rw [pr_mt_t hT (by decide) (show pu_su 120 (am_hereF f 0 T) = true from ((pr_su (hb 0)).1.symm.trans q0)), pr_mt_t hT (by decide) (show pu_su 61 (am_hereF f 1 T) = true from (by rw [q2]; decide)), pr_mt_f hT (by decide) (show pu_su 33 (am_hereF f 2 T) = false from (decide_eq_false q3))]
  have hlo : 4 < T := pr_in (by decide) (show pu_su 50 (am_hereF f 4 T) = true from ((pr_su (hb 4)).2.2.symm.trans q8))
  have hmid : 3 < T := pr_ltof q5
  have hS : pu_sort f T = 2 := by
    unfold pu_sort
    rw [m0, m1, m2, m3, m4, m5]
    rw [pr_so_no hT (by decide) (by decide) (by omega), pr_so_no hT (by decide) (by decide) (by omega), pr_so_yes (by omega) (by omega)]
  have hTT : T = 5 := by omega
  exact ⟨by rw [hR, hS], Or.inr (Or.inr (Or.inr (Or.inl ⟨by rw [hR], hTT, pr_letI (show 0 < T by omega) (hb 0) q0, pr_letI (show 2 < T by omega) (hb 2) q4, pr_d3I (show 4 < T by omega) (hb 4) q8⟩)))⟩
theorem pr_parse_14 {f : Nat → Int32} {T : Nat} (hT : T ≤ 20) (hb : ∀ k, pr_by (am_hereF f k T)) (hby : ∀ i, i < T → ¬ f i = -1) (q0 : pr_L 97 20 (am_hereF f 0 T) = true) (q1 : ¬ (am_hereF f 1 T) = 46) (q2 : (am_hereF f 1 T) = 61) (q3 : ¬ (am_hereF f 2 T) = 33) (q4 : pr_L 97 20 (am_hereF f 2 T) = true) (q5 : ¬ (am_hereF f 3 T) = -1) (q6 : ¬ (am_hereF f 3 T) = 47) (q7 : (am_hereF f 3 T) = 46) (q8 : pr_L 48 3 (am_hereF f 4 T) = false) : pr_D f T := by
  have hR : pr_R f T = ((-1), 4) := by
    unfold pr_R
    rw [if_pos q0, if_neg q1, if_pos q2, if_neg q3, if_pos q4, if_neg q5, if_neg q6, if_pos q7, if_neg (pr_ff q8)]
  have m0 : pu_mt f T (pu_fm 0) 0 = 3 := by
    show pu_mt f T [120, 61, 121] 0 = 3
    rw [pr_mt_t hT (by decide) (show pu_su 120 (am_hereF f 0 T) = true from ((pr_su (hb 0)).1.symm.trans q0)), pr_mt_t hT (by decide) (show pu_su 61 (am_hereF f 1 T) = true from (by rw [q2]; decide)), pr_mt_t hT (by decide) (show pu_su 121 (am_hereF f 2 T) = true from ((pr_su (hb 2)).1.symm.trans q4))]
    rfl
  have m1 : pu_mt f T (pu_fm 1) 0 = 3 := by
    show pu_mt f T [120, 61, 121, 47, 55] 0 = 3
    rw [pr_mt_t hT (by decide) (show pu_su 120 (am_hereF f 0 T) = true from ((pr_su (hb 0)).1.symm.trans q0)), pr_mt_t hT (by decide) (show pu_su 61 (am_hereF f 1 T) = true from (by rw [q2]; decide)), pr_mt_t hT (by decide) (show pu_su 121 (am_hereF f 2 T) = true from ((pr_su (hb 2)).1.symm.trans q4)), pr_mt_f hT (by decide) (show pu_su 47 (am_hereF f 3 T) = false from (by rw [q7]; decide))]
  have m2 : pu_mt f T (pu_fm 2) 0 = 4 := by
    show pu_mt f T [120, 61, 121, 46, 50] 0 = 4
    rw [pr_mt_t hT (by decide) (show pu_su 120 (am_hereF f 0 T) = true from ((pr_su (hb 0)).1.symm.trans q0)), pr_mt_t hT (by decide) (show pu_su 61 (am_hereF f 1 T) = true from (by rw [q2]; decide)), pr_mt_t hT (by decide) (show pu_su 121 (am_hereF f 2 T) = true from ((pr_su (hb 2)).1.symm.trans q4)), pr_mt_t hT (by decide) (show pu_su 46 (am_hereF f 3 T) = true from (by rw [q7]; decide)), pr_mt_f hT (by decide) (show pu_su 50 (am_hereF f 4 T) = false from ((pr_su (hb 4)).2.2.symm.trans q8))]
  have m3 : pu_mt f T (pu_fm 3) 0 = 1 := by
    show pu_mt f T [120, 46, 50, 61, 121] 0 = 1
    rw [pr_mt_t hT (by decide) (show pu_su 120 (am_hereF f 0 T) = true from ((pr_su (hb 0)).1.symm.trans q0)), pr_mt_f hT (by decide) (show pu_su 46 (am_hereF f 1 T) = false from (by rw [q2]; decide))]
  have m4 : pu_mt f T (pu_fm 4) 0 = 3 := by
    show pu_mt f T [120, 61, 121, 58, 50, 40, 122, 41] 0 = 3
    rw [pr_mt_t hT (by decide) (show pu_su 120 (am_hereF f 0 T) = true from ((pr_su (hb 0)).1.symm.trans q0)), pr_mt_t hT (by decide) (show pu_su 61 (am_hereF f 1 T) = true from (by rw [q2]; decide)), pr_mt_t hT (by decide) (show pu_su 121 (am_hereF f 2 T) = true from ((pr_su (hb 2)).1.symm.trans q4)), pr_mt_f hT (by decide) (show pu_su 58 (am_hereF f 3 T) = false from (by rw [q7]; decide))]
  have m5 : pu_mt f T (pu_fm 5) 0 = 2 := by
    show pu_mt f T [120, 61, 33, 55] 0 = 2
    rw [pr_mt_t hT (by decide) (show pu_su 120 (am_hereF f 0 T) = true from ((pr_su (hb 0)).1.symm.trans q0)), pr_mt_t hT (by decide) (show pu_su 61 (am_hereF f 1 T) = true from (by rw [q2]; decide)), pr_mt_f hT (by decide) (show pu_su 33 (am_hereF f 2 T) = false from (decide_eq_false q3))]
  have hlo : 3 < T := pr_in (by decide) (show pu_su 46 (am_hereF f 3 T) = true from (by rw [q7]; decide))
  have hmid : 3 < T := pr_ltof q5
  have hS : pu_sort f T = (-1) := by
    unfold pu_sort
    rw [m0, m1, m2, m3, m4, m5]
    rw [pr_so_no hT (by decide) (by decide) (by omega), pr_so_no hT (by decide) (by decide) (by omega), pr_so_no hT (by decide) (by decide) (by omega), pr_so_no hT (by decide) (by decide) (by omega), pr_so_no hT (by decide) (by decide) (by omega), pr_so_no hT (by decide) (by decide) (by omega)]
  have hF : pu_flt f T = 4 := by unfold pu_flt; rw [m0, m1, m2, m3, m4, m5]; decide
  exact ⟨by rw [hR, hS], Or.inl ⟨by rw [hR], by rw [hR, hF], by rw [hF]; decide⟩⟩
theorem pr_parse_15 {f : Nat → Int32} {T : Nat} (hT : T ≤ 20) (hb : ∀ k, pr_by (am_hereF f k T)) (hby : ∀ i, i < T → ¬ f i = -1) (q0 : pr_L 97 20 (am_hereF f 0 T) = true) (q1 : ¬ (am_hereF f 1 T) = 46) (q2 : (am_hereF f 1 T) = 61) (q3 : ¬ (am_hereF f 2 T) = 33) (q4 : pr_L 97 20 (am_hereF f 2 T) = true) (q5 : ¬ (am_hereF f 3 T) = -1) (q6 : ¬ (am_hereF f 3 T) = 47) (q7 : ¬ (am_hereF f 3 T) = 46) (q8 : (am_hereF f 3 T) = 58) (q9 : pr_L 48 3 (am_hereF f 4 T) = true) (q10 : (am_hereF f 5 T) = 40) (q11 : pr_L 97 20 (am_hereF f 6 T) = true) (q12 : (am_hereF f 7 T) = 41) (q13 : 8 < T) : pr_D f T := by
  have hR : pr_R f T = ((-1), 8) := by
    unfold pr_R
    rw [if_pos q0, if_neg q1, if_pos q2, if_neg q3, if_pos q4, if_neg q5, if_neg q6, if_neg q7, if_pos q8, if_pos q9, if_pos q10, if_pos q11, if_pos q12, if_pos q13]
  have m0 : pu_mt f T (pu_fm 0) 0 = 3 := by
    show pu_mt f T [120, 61, 121] 0 = 3
    rw [pr_mt_t hT (by decide) (show pu_su 120 (am_hereF f 0 T) = true from ((pr_su (hb 0)).1.symm.trans q0)), pr_mt_t hT (by decide) (show pu_su 61 (am_hereF f 1 T) = true from (by rw [q2]; decide)), pr_mt_t hT (by decide) (show pu_su 121 (am_hereF f 2 T) = true from ((pr_su (hb 2)).1.symm.trans q4))]
    rfl
  have m1 : pu_mt f T (pu_fm 1) 0 = 3 := by
    show pu_mt f T [120, 61, 121, 47, 55] 0 = 3
    rw [pr_mt_t hT (by decide) (show pu_su 120 (am_hereF f 0 T) = true from ((pr_su (hb 0)).1.symm.trans q0)), pr_mt_t hT (by decide) (show pu_su 61 (am_hereF f 1 T) = true from (by rw [q2]; decide)), pr_mt_t hT (by decide) (show pu_su 121 (am_hereF f 2 T) = true from ((pr_su (hb 2)).1.symm.trans q4)), pr_mt_f hT (by decide) (show pu_su 47 (am_hereF f 3 T) = false from (by rw [q8]; decide))]
  have m2 : pu_mt f T (pu_fm 2) 0 = 3 := by
    show pu_mt f T [120, 61, 121, 46, 50] 0 = 3
    rw [pr_mt_t hT (by decide) (show pu_su 120 (am_hereF f 0 T) = true from ((pr_su (hb 0)).1.symm.trans q0)), pr_mt_t hT (by decide) (show pu_su 61 (am_hereF f 1 T) = true from (by rw [q2]; decide)), pr_mt_t hT (by decide) (show pu_su 121 (am_hereF f 2 T) = true from ((pr_su (hb 2)).1.symm.trans q4)), pr_mt_f hT (by decide) (show pu_su 46 (am_hereF f 3 T) = false from (by rw [q8]; decide))]
  have m3 : pu_mt f T (pu_fm 3) 0 = 1 := by
    show pu_mt f T [120, 46, 50, 61, 121] 0 = 1
    rw [pr_mt_t hT (by decide) (show pu_su 120 (am_hereF f 0 T) = true from ((pr_su (hb 0)).1.symm.trans q0)), pr_mt_f hT (by decide) (show pu_su 46 (am_hereF f 1 T) = false from (by rw [q2]; decide))]
  have m4 : pu_mt f T (pu_fm 4) 0 = 8 := by
    show pu_mt f T [120, 61, 121, 58, 50, 40, 122, 41] 0 = 8
    rw [pr_mt_t hT (by decide) (show pu_su 120 (am_hereF f 0 T) = true from ((pr_su (hb 0)).1.symm.trans q0)), pr_mt_t hT (by decide) (show pu_su 61 (am_hereF f 1 T) = true from (by rw [q2]; decide)), pr_mt_t hT (by decide) (show pu_su 121 (am_hereF f 2 T) = true from ((pr_su (hb 2)).1.symm.trans q4)), pr_mt_t hT (by decide) (show pu_su 58 (am_hereF f 3 T) = true from (by rw [q8]; decide)), pr_mt_t hT (by decide) (show pu_su 50 (am_hereF f 4 T) = true from ((pr_su (hb 4)).2.2.symm.trans q9)), pr_mt_t hT (by decide) (show pu_su 40 (am_hereF f 5 T) = true from (by rw [q10]; decide)), pr_mt_t hT (by decide) (show pu_su 122 (am_hereF f 6 T) = true from ((pr_su (hb 6)).1.symm.trans q11)), pr_mt_t hT (by decide) (show pu_su 41 (am_hereF f 7 T) = true from (by rw [q12]; decide))]
    rfl
  have m5 : pu_mt f T (pu_fm 5) 0 = 2 := by
    show pu_mt f T [120, 61, 33, 55] 0 = 2
    rw [pr_mt_t hT (by decide) (show pu_su 120 (am_hereF f 0 T) = true from ((pr_su (hb 0)).1.symm.trans q0)), pr_mt_t hT (by decide) (show pu_su 61 (am_hereF f 1 T) = true from (by rw [q2]; decide)), pr_mt_f hT (by decide) (show pu_su 33 (am_hereF f 2 T) = false from (decide_eq_false q3))]
  have hlo : 7 < T := pr_in (by decide) (show pu_su 41 (am_hereF f 7 T) = true from (by rw [q12]; decide))
  have hmid : 3 < T := pr_ltof q5
  have hS : pu_sort f T = (-1) := by
    unfold pu_sort
    rw [m0, m1, m2, m3, m4, m5]
    rw [pr_so_no hT (by decide) (by decide) (by omega), pr_so_no hT (by decide) (by decide) (by omega), pr_so_no hT (by decide) (by decide) (by omega), pr_so_no hT (by decide) (by decide) (by omega), pr_so_no hT (by decide) (by decide) (by omega), pr_so_no hT (by decide) (by decide) (by omega)]
  have hF : pu_flt f T = 8 := by unfold pu_flt; rw [m0, m1, m2, m3, m4, m5]; decide
  exact ⟨by rw [hR, hS], Or.inl ⟨by rw [hR], by rw [hR, hF], by rw [hF]; decide⟩⟩
theorem pr_parse_16 {f : Nat → Int32} {T : Nat} (hT : T ≤ 20) (hb : ∀ k, pr_by (am_hereF f k T)) (hby : ∀ i, i < T → ¬ f i = -1) (q0 : pr_L 97 20 (am_hereF f 0 T) = true) (q1 : ¬ (am_hereF f 1 T) = 46) (q2 : (am_hereF f 1 T) = 61) (q3 : ¬ (am_hereF f 2 T) = 33) (q4 : pr_L 97 20 (am_hereF f 2 T) = true) (q5 : ¬ (am_hereF f 3 T) = -1) (q6 : ¬ (am_hereF f 3 T) = 47) (q7 : ¬ (am_hereF f 3 T) = 46) (q8 : (am_hereF f 3 T) = 58) (q9 : pr_L 48 3 (am_hereF f 4 T) = true) (q10 : (am_hereF f 5 T) = 40) (q11 : pr_L 97 20 (am_hereF f 6 T) = true) (q12 : (am_hereF f 7 T) = 41) (q13 : ¬ 8 < T) : pr_D f T := by
  have hR : pr_R f T = (4, 8) := by
    unfold pr_R
    rw [if_pos q0, if_neg q1, if_pos q2, if_neg q3, if_pos q4, if_neg q5, if_neg q6, if_neg q7, if_pos q8, if_pos q9, if_pos q10, if_pos q11, if_pos q12, if_neg q13]
  have m0 : pu_mt f T (pu_fm 0) 0 = 3 := by
    show pu_mt f T [120, 61, 121] 0 = 3
    rw [pr_mt_t hT (by decide) (show pu_su 120 (am_hereF f 0 T) = true from ((pr_su (hb 0)).1.symm.trans q0)), pr_mt_t hT (by decide) (show pu_su 61 (am_hereF f 1 T) = true from (by rw [q2]; decide)), pr_mt_t hT (by decide) (show pu_su 121 (am_hereF f 2 T) = true from ((pr_su (hb 2)).1.symm.trans q4))]
    rfl
  have m1 : pu_mt f T (pu_fm 1) 0 = 3 := by
    show pu_mt f T [120, 61, 121, 47, 55] 0 = 3
    rw [pr_mt_t hT (by decide) (show pu_su 120 (am_hereF f 0 T) = true from ((pr_su (hb 0)).1.symm.trans q0)), pr_mt_t hT (by decide) (show pu_su 61 (am_hereF f 1 T) = true from (by rw [q2]; decide)), pr_mt_t hT (by decide) (show pu_su 121 (am_hereF f 2 T) = true from ((pr_su (hb 2)).1.symm.trans q4)), pr_mt_f hT (by decide) (show pu_su 47 (am_hereF f 3 T) = false from (by rw [q8]; decide))]
  have m2 : pu_mt f T (pu_fm 2) 0 = 3 := by
    show pu_mt f T [120, 61, 121, 46, 50] 0 = 3
    rw [pr_mt_t hT (by decide) (show pu_su 120 (am_hereF f 0 T) = true from ((pr_su (hb 0)).1.symm.trans q0)), pr_mt_t hT (by decide) (show pu_su 61 (am_hereF f 1 T) = true from (by rw [q2]; decide)), pr_mt_t hT (by decide) (show pu_su 121 (am_hereF f 2 T) = true from ((pr_su (hb 2)).1.symm.trans q4)), pr_mt_f hT (by decide) (show pu_su 46 (am_hereF f 3 T) = false from (by rw [q8]; decide))]
  have m3 : pu_mt f T (pu_fm 3) 0 = 1 := by
    show pu_mt f T [120, 46, 50, 61, 121] 0 = 1
    rw [pr_mt_t hT (by decide) (show pu_su 120 (am_hereF f 0 T) = true from ((pr_su (hb 0)).1.symm.trans q0)), pr_mt_f hT (by decide) (show pu_su 46 (am_hereF f 1 T) = false from (by rw [q2]; decide))]
  have m4 : pu_mt f T (pu_fm 4) 0 = 8 := by
    show pu_mt f T [120, 61, 121, 58, 50, 40, 122, 41] 0 = 8
    rw [pr_mt_t hT (by decide) (show pu_su 120 (am_hereF f 0 T) = true from ((pr_su (hb 0)).1.symm.trans q0)), pr_mt_t hT (by decide) (show pu_su 61 (am_hereF f 1 T) = true from (by rw [q2]; decide)), pr_mt_t hT (by decide) (show pu_su 121 (am_hereF f 2 T) = true from ((pr_su (hb 2)).1.symm.trans q4)), pr_mt_t hT (by decide) (show pu_su 58 (am_hereF f 3 T) = true from (by rw [q8]; decide)), pr_mt_t hT (by decide) (show pu_su 50 (am_hereF f 4 T) = true from ((pr_su (hb 4)).2.2.symm.trans q9)), pr_mt_t hT (by decide) (show pu_su 40 (am_hereF f 5 T) = true from (by rw [q10]; decide)), pr_mt_t hT (by decide) (show pu_su 122 (am_hereF f 6 T) = true from ((pr_su (hb 6)).1.symm.trans q11)), pr_mt_t hT (by decide) (show pu_su 41 (am_hereF f 7 T) = true from (by rw [q12]; decide))]
    rfl
  have m5 : pu_mt f T (pu_fm 5) 0 = 2 := by
    show pu_mt f T [120, 61, 33, 55] 0 = 2
    rw [pr_mt_t hT (by decide) (show pu_su 120 (am_hereF f 0 T) = true from ((pr_su (hb 0)).1.symm.trans q0)), pr_mt_t hT (by decide) (show pu_su 61 (am_hereF f 1 T) = true from (by rw [q2]; decide)), pr_mt_f hT (by decide) (show pu_su 33 (am_hereF f 2 T) = false from (decide_eq_false q3))]
  have hlo : 7 < T := pr_in (by decide) (show pu_su 41 (am_hereF f 7 T) = true from (by rw [q12]; decide))
  have hmid : 3 < T := pr_ltof q5
  have hS : pu_sort f T = 4 := by
    unfold pu_sort
    rw [m0, m1, m2, m3, m4, m5]
    rw [pr_so_no hT (by decide) (by decide) (by omega), pr_so_no hT (by decide) (by decide) (by omega), pr_so_no hT (by decide) (by decide) (by omega), pr_so_no hT (by decide) (by decide) (by omega), pr_so_yes (by omega) (by omega)]
  have hTT : T = 8 := by omega
  exact ⟨by rw [hR, hS], Or.inr (Or.inr (Or.inr (Or.inr (Or.inr (Or.inl ⟨by rw [hR], hTT, pr_letI (show 0 < T by omega) (hb 0) q0, pr_letI (show 2 < T by omega) (hb 2) q4, pr_d3I (show 4 < T by omega) (hb 4) q9, pr_letI (show 6 < T by omega) (hb 6) q11⟩)))))⟩
theorem pr_parse_17 {f : Nat → Int32} {T : Nat} (hT : T ≤ 20) (hb : ∀ k, pr_by (am_hereF f k T)) (hby : ∀ i, i < T → ¬ f i = -1) (q0 : pr_L 97 20 (am_hereF f 0 T) = true) (q1 : ¬ (am_hereF f 1 T) = 46) (q2 : (am_hereF f 1 T) = 61) (q3 : ¬ (am_hereF f 2 T) = 33) (q4 : pr_L 97 20 (am_hereF f 2 T) = true) (q5 : ¬ (am_hereF f 3 T) = -1) (q6 : ¬ (am_hereF f 3 T) = 47) (q7 : ¬ (am_hereF f 3 T) = 46) (q8 : (am_hereF f 3 T) = 58) (q9 : pr_L 48 3 (am_hereF f 4 T) = true) (q10 : (am_hereF f 5 T) = 40) (q11 : pr_L 97 20 (am_hereF f 6 T) = true) (q12 : ¬ (am_hereF f 7 T) = 41) : pr_D f T := by
  have hR : pr_R f T = ((-1), 7) := by
    unfold pr_R
    rw [if_pos q0, if_neg q1, if_pos q2, if_neg q3, if_pos q4, if_neg q5, if_neg q6, if_neg q7, if_pos q8, if_pos q9, if_pos q10, if_pos q11, if_neg q12]
  have m0 : pu_mt f T (pu_fm 0) 0 = 3 := by
    show pu_mt f T [120, 61, 121] 0 = 3
    rw [pr_mt_t hT (by decide) (show pu_su 120 (am_hereF f 0 T) = true from ((pr_su (hb 0)).1.symm.trans q0)), pr_mt_t hT (by decide) (show pu_su 61 (am_hereF f 1 T) = true from (by rw [q2]; decide)), pr_mt_t hT (by decide) (show pu_su 121 (am_hereF f 2 T) = true from ((pr_su (hb 2)).1.symm.trans q4))]
    rfl
  have m1 : pu_mt f T (pu_fm 1) 0 = 3 := by
    show pu_mt f T [120, 61, 121, 47, 55] 0 = 3
    rw [pr_mt_t hT (by decide) (show pu_su 120 (am_hereF f 0 T) = true from ((pr_su (hb 0)).1.symm.trans q0)), pr_mt_t hT (by decide) (show pu_su 61 (am_hereF f 1 T) = true from (by rw [q2]; decide)), pr_mt_t hT (by decide) (show pu_su 121 (am_hereF f 2 T) = true from ((pr_su (hb 2)).1.symm.trans q4)), pr_mt_f hT (by decide) (show pu_su 47 (am_hereF f 3 T) = false from (by rw [q8]; decide))]
  have m2 : pu_mt f T (pu_fm 2) 0 = 3 := by
    show pu_mt f T [120, 61, 121, 46, 50] 0 = 3
    rw [pr_mt_t hT (by decide) (show pu_su 120 (am_hereF f 0 T) = true from ((pr_su (hb 0)).1.symm.trans q0)), pr_mt_t hT (by decide) (show pu_su 61 (am_hereF f 1 T) = true from (by rw [q2]; decide)), pr_mt_t hT (by decide) (show pu_su 121 (am_hereF f 2 T) = true from ((pr_su (hb 2)).1.symm.trans q4)), pr_mt_f hT (by decide) (show pu_su 46 (am_hereF f 3 T) = false from (by rw [q8]; decide))]
  have m3 : pu_mt f T (pu_fm 3) 0 = 1 := by
    show pu_mt f T [120, 46, 50, 61, 121] 0 = 1
    rw [pr_mt_t hT (by decide) (show pu_su 120 (am_hereF f 0 T) = true from ((pr_su (hb 0)).1.symm.trans q0)), pr_mt_f hT (by decide) (show pu_su 46 (am_hereF f 1 T) = false from (by rw [q2]; decide))]
  have m4 : pu_mt f T (pu_fm 4) 0 = 7 := by
    show pu_mt f T [120, 61, 121, 58, 50, 40, 122, 41] 0 = 7
    rw [pr_mt_t hT (by decide) (show pu_su 120 (am_hereF f 0 T) = true from ((pr_su (hb 0)).1.symm.trans q0)), pr_mt_t hT (by decide) (show pu_su 61 (am_hereF f 1 T) = true from (by rw [q2]; decide)), pr_mt_t hT (by decide) (show pu_su 121 (am_hereF f 2 T) = true from ((pr_su (hb 2)).1.symm.trans q4)), pr_mt_t hT (by decide) (show pu_su 58 (am_hereF f 3 T) = true from (by rw [q8]; decide)), pr_mt_t hT (by decide) (show pu_su 50 (am_hereF f 4 T) = true from ((pr_su (hb 4)).2.2.symm.trans q9)), pr_mt_t hT (by decide) (show pu_su 40 (am_hereF f 5 T) = true from (by rw [q10]; decide)), pr_mt_t hT (by decide) (show pu_su 122 (am_hereF f 6 T) = true from ((pr_su (hb 6)).1.symm.trans q11)), pr_mt_f hT (by decide) (show pu_su 41 (am_hereF f 7 T) = false from (decide_eq_false q12))]
  have m5 : pu_mt f T (pu_fm 5) 0 = 2 := by
    show pu_mt f T [120, 61, 33, 55] 0 = 2
    rw [pr_mt_t hT (by decide) (show pu_su 120 (am_hereF f 0 T) = true from ((pr_su (hb 0)).1.symm.trans q0)), pr_mt_t hT (by decide) (show pu_su 61 (am_hereF f 1 T) = true from (by rw [q2]; decide)), pr_mt_f hT (by decide) (show pu_su 33 (am_hereF f 2 T) = false from (decide_eq_false q3))]
  have hlo : 6 < T := pr_in (by decide) (show pu_su 122 (am_hereF f 6 T) = true from ((pr_su (hb 6)).1.symm.trans q11))
  have hmid : 3 < T := pr_ltof q5
  have hS : pu_sort f T = (-1) := by
    unfold pu_sort
    rw [m0, m1, m2, m3, m4, m5]
    rw [pr_so_no hT (by decide) (by decide) (by omega), pr_so_no hT (by decide) (by decide) (by omega), pr_so_no hT (by decide) (by decide) (by omega), pr_so_no hT (by decide) (by decide) (by omega), pr_so_no hT (by decide) (by decide) (by omega), pr_so_no hT (by decide) (by decide) (by omega)]
  have hF : pu_flt f T = 7 := by unfold pu_flt; rw [m0, m1, m2, m3, m4, m5]; decide
  exact ⟨by rw [hR, hS], Or.inl ⟨by rw [hR], by rw [hR, hF], by rw [hF]; decide⟩⟩
theorem pr_parse_18 {f : Nat → Int32} {T : Nat} (hT : T ≤ 20) (hb : ∀ k, pr_by (am_hereF f k T)) (hby : ∀ i, i < T → ¬ f i = -1) (q0 : pr_L 97 20 (am_hereF f 0 T) = true) (q1 : ¬ (am_hereF f 1 T) = 46) (q2 : (am_hereF f 1 T) = 61) (q3 : ¬ (am_hereF f 2 T) = 33) (q4 : pr_L 97 20 (am_hereF f 2 T) = true) (q5 : ¬ (am_hereF f 3 T) = -1) (q6 : ¬ (am_hereF f 3 T) = 47) (q7 : ¬ (am_hereF f 3 T) = 46) (q8 : (am_hereF f 3 T) = 58) (q9 : pr_L 48 3 (am_hereF f 4 T) = true) (q10 : (am_hereF f 5 T) = 40) (q11 : pr_L 97 20 (am_hereF f 6 T) = false) : pr_D f T := by
  have hR : pr_R f T = ((-1), 6) := by
    unfold pr_R
    rw [if_pos q0, if_neg q1, if_pos q2, if_neg q3, if_pos q4, if_neg q5, if_neg q6, if_neg q7, if_pos q8, if_pos q9, if_pos q10, if_neg (pr_ff q11)]
  have m0 : pu_mt f T (pu_fm 0) 0 = 3 := by
    show pu_mt f T [120, 61, 121] 0 = 3
    rw [pr_mt_t hT (by decide) (show pu_su 120 (am_hereF f 0 T) = true from ((pr_su (hb 0)).1.symm.trans q0)), pr_mt_t hT (by decide) (show pu_su 61 (am_hereF f 1 T) = true from (by rw [q2]; decide)), pr_mt_t hT (by decide) (show pu_su 121 (am_hereF f 2 T) = true from ((pr_su (hb 2)).1.symm.trans q4))]
    rfl
  have m1 : pu_mt f T (pu_fm 1) 0 = 3 := by
    show pu_mt f T [120, 61, 121, 47, 55] 0 = 3
    rw [pr_mt_t hT (by decide) (show pu_su 120 (am_hereF f 0 T) = true from ((pr_su (hb 0)).1.symm.trans q0)), pr_mt_t hT (by decide) (show pu_su 61 (am_hereF f 1 T) = true from (by rw [q2]; decide)), pr_mt_t hT (by decide) (show pu_su 121 (am_hereF f 2 T) = true from ((pr_su (hb 2)).1.symm.trans q4)), pr_mt_f hT (by decide) (show pu_su 47 (am_hereF f 3 T) = false from (by rw [q8]; decide))]
  have m2 : pu_mt f T (pu_fm 2) 0 = 3 := by
    show pu_mt f T [120, 61, 121, 46, 50] 0 = 3
    rw [pr_mt_t hT (by decide) (show pu_su 120 (am_hereF f 0 T) = true from ((pr_su (hb 0)).1.symm.trans q0)), pr_mt_t hT (by decide) (show pu_su 61 (am_hereF f 1 T) = true from (by rw [q2]; decide)), pr_mt_t hT (by decide) (show pu_su 121 (am_hereF f 2 T) = true from ((pr_su (hb 2)).1.symm.trans q4)), pr_mt_f hT (by decide) (show pu_su 46 (am_hereF f 3 T) = false from (by rw [q8]; decide))]
  have m3 : pu_mt f T (pu_fm 3) 0 = 1 := by
    show pu_mt f T [120, 46, 50, 61, 121] 0 = 1
    rw [pr_mt_t hT (by decide) (show pu_su 120 (am_hereF f 0 T) = true from ((pr_su (hb 0)).1.symm.trans q0)), pr_mt_f hT (by decide) (show pu_su 46 (am_hereF f 1 T) = false from (by rw [q2]; decide))]
  have m4 : pu_mt f T (pu_fm 4) 0 = 6 := by
    show pu_mt f T [120, 61, 121, 58, 50, 40, 122, 41] 0 = 6
    rw [pr_mt_t hT (by decide) (show pu_su 120 (am_hereF f 0 T) = true from ((pr_su (hb 0)).1.symm.trans q0)), pr_mt_t hT (by decide) (show pu_su 61 (am_hereF f 1 T) = true from (by rw [q2]; decide)), pr_mt_t hT (by decide) (show pu_su 121 (am_hereF f 2 T) = true from ((pr_su (hb 2)).1.symm.trans q4)), pr_mt_t hT (by decide) (show pu_su 58 (am_hereF f 3 T) = true from (by rw [q8]; decide)), pr_mt_t hT (by decide) (show pu_su 50 (am_hereF f 4 T) = true from ((pr_su (hb 4)).2.2.symm.trans q9)), pr_mt_t hT (by decide) (show pu_su 40 (am_hereF f 5 T) = true from (by rw [q10]; decide)), pr_mt_f hT (by decide) (show pu_su 122 (am_hereF f 6 T) = false from ((pr_su (hb 6)).1.symm.trans q11))]
  have m5 : pu_mt f T (pu_fm 5) 0 = 2 := by
    show pu_mt f T [120, 61, 33, 55] 0 = 2
    rw [pr_mt_t hT (by decide) (show pu_su 120 (am_hereF f 0 T) = true from ((pr_su (hb 0)).1.symm.trans q0)), pr_mt_t hT (by decide) (show pu_su 61 (am_hereF f 1 T) = true from (by rw [q2]; decide)), pr_mt_f hT (by decide) (show pu_su 33 (am_hereF f 2 T) = false from (decide_eq_false q3))]
  have hlo : 5 < T := pr_in (by decide) (show pu_su 40 (am_hereF f 5 T) = true from (by rw [q10]; decide))
  have hmid : 3 < T := pr_ltof q5
  have hS : pu_sort f T = (-1) := by
    unfold pu_sort
    rw [m0, m1, m2, m3, m4, m5]
    rw [pr_so_no hT (by decide) (by decide) (by omega), pr_so_no hT (by decide) (by decide) (by omega), pr_so_no hT (by decide) (by decide) (by omega), pr_so_no hT (by decide) (by decide) (by omega), pr_so_no hT (by decide) (by decide) (by omega), pr_so_no hT (by decide) (by decide) (by omega)]
  have hF : pu_flt f T = 6 := by unfold pu_flt; rw [m0, m1, m2, m3, m4, m5]; decide
  exact ⟨by rw [hR, hS], Or.inl ⟨by rw [hR], by rw [hR, hF], by rw [hF]; decide⟩⟩
theorem pr_parse_19 {f : Nat → Int32} {T : Nat} (hT : T ≤ 20) (hb : ∀ k, pr_by (am_hereF f k T)) (hby : ∀ i, i < T → ¬ f i = -1) (q0 : pr_L 97 20 (am_hereF f 0 T) = true) (q1 : ¬ (am_hereF f 1 T) = 46) (q2 : (am_hereF f 1 T) = 61) (q3 : ¬ (am_hereF f 2 T) = 33) (q4 : pr_L 97 20 (am_hereF f 2 T) = true) (q5 : ¬ (am_hereF f 3 T) = -1) (q6 : ¬ (am_hereF f 3 T) = 47) (q7 : ¬ (am_hereF f 3 T) = 46) (q8 : (am_hereF f 3 T) = 58) (q9 : pr_L 48 3 (am_hereF f 4 T) = true) (q10 : ¬ (am_hereF f 5 T) = 40) : pr_D f T := by
  have hR : pr_R f T = ((-1), 5) := by
    unfold pr_R
    rw [if_pos q0, if_neg q1, if_pos q2, if_neg q3, if_pos q4, if_neg q5, if_neg q6, if_neg q7, if_pos q8, if_pos q9, if_neg q10]
  have m0 : pu_mt f T (pu_fm 0) 0 = 3 := by
    show pu_mt f T [120, 61, 121] 0 = 3
    rw [pr_mt_t hT (by decide) (show pu_su 120 (am_hereF f 0 T) = true from ((pr_su (hb 0)).1.symm.trans q0)), pr_mt_t hT (by decide) (show pu_su 61 (am_hereF f 1 T) = true from (by rw [q2]; decide)), pr_mt_t hT (by decide) (show pu_su 121 (am_hereF f 2 T) = true from ((pr_su (hb 2)).1.symm.trans q4))]
    rfl
  have m1 : pu_mt f T (pu_fm 1) 0 = 3 := by
    show pu_mt f T [120, 61, 121, 47, 55] 0 = 3
    rw [pr_mt_t hT (by decide) (show pu_su 120 (am_hereF f 0 T) = true from ((pr_su (hb 0)).1.symm.trans q0)), pr_mt_t hT (by decide) (show pu_su 61 (am_hereF f 1 T) = true from (by rw [q2]; decide)), pr_mt_t hT (by decide) (show pu_su 121 (am_hereF f 2 T) = true from ((pr_su (hb 2)).1.symm.trans q4)), pr_mt_f hT (by decide) (show pu_su 47 (am_hereF f 3 T) = false from (by rw [q8]; decide))]
  have m2 : pu_mt f T (pu_fm 2) 0 = 3 := by
    show pu_mt f T [120, 61, 121, 46, 50] 0 = 3
    rw [pr_mt_t hT (by decide) (show pu_su 120 (am_hereF f 0 T) = true from ((pr_su (hb 0)).1.symm.trans q0)), pr_mt_t hT (by decide) (show pu_su 61 (am_hereF f 1 T) = true from (by rw [q2]; decide)), pr_mt_t hT (by decide) (show pu_su 121 (am_hereF f 2 T) = true from ((pr_su (hb 2)).1.symm.trans q4)), pr_mt_f hT (by decide) (show pu_su 46 (am_hereF f 3 T) = false from (by rw [q8]; decide))]
  have m3 : pu_mt f T (pu_fm 3) 0 = 1 := by
    show pu_mt f T [120, 46, 50, 61, 121] 0 = 1
    rw [pr_mt_t hT (by decide) (show pu_su 120 (am_hereF f 0 T) = true from ((pr_su (hb 0)).1.symm.trans q0)), pr_mt_f hT (by decide) (show pu_su 46 (am_hereF f 1 T) = false from (by rw [q2]; decide))]
  have m4 : pu_mt f T (pu_fm 4) 0 = 5 := by
    show pu_mt f T [120, 61, 121, 58, 50, 40, 122, 41] 0 = 5
    rw [pr_mt_t hT (by decide) (show pu_su 120 (am_hereF f 0 T) = true from ((pr_su (hb 0)).1.symm.trans q0)), pr_mt_t hT (by decide) (show pu_su 61 (am_hereF f 1 T) = true from (by rw [q2]; decide)), pr_mt_t hT (by decide) (show pu_su 121 (am_hereF f 2 T) = true from ((pr_su (hb 2)).1.symm.trans q4)), pr_mt_t hT (by decide) (show pu_su 58 (am_hereF f 3 T) = true from (by rw [q8]; decide)), pr_mt_t hT (by decide) (show pu_su 50 (am_hereF f 4 T) = true from ((pr_su (hb 4)).2.2.symm.trans q9)), pr_mt_f hT (by decide) (show pu_su 40 (am_hereF f 5 T) = false from (decide_eq_false q10))]
  have m5 : pu_mt f T (pu_fm 5) 0 = 2 := by
    show pu_mt f T [120, 61, 33, 55] 0 = 2
    rw [pr_mt_t hT (by decide) (show pu_su 120 (am_hereF f 0 T) = true from ((pr_su (hb 0)).1.symm.trans q0)), pr_mt_t hT (by decide) (show pu_su 61 (am_hereF f 1 T) = true from (by rw [q2]; decide)), pr_mt_f hT (by decide) (show pu_su 33 (am_hereF f 2 T) = false from (decide_eq_false q3))]
  have hlo : 4 < T := pr_in (by decide) (show pu_su 50 (am_hereF f 4 T) = true from ((pr_su (hb 4)).2.2.symm.trans q9))
  have hmid : 3 < T := pr_ltof q5
  have hS : pu_sort f T = (-1) := by
    unfold pu_sort
    rw [m0, m1, m2, m3, m4, m5]
    rw [pr_so_no hT (by decide) (by decide) (by omega), pr_so_no hT (by decide) (by decide) (by omega), pr_so_no hT (by decide) (by decide) (by omega), pr_so_no hT (by decide) (by decide) (by omega), pr_so_no hT (by decide) (by decide) (by omega), pr_so_no hT (by decide) (by decide) (by omega)]
  have hF : pu_flt f T = 5 := by unfold pu_flt; rw [m0, m1, m2, m3, m4, m5]; decide
  exact ⟨by rw [hR, hS], Or.inl ⟨by rw [hR], by rw [hR, hF], by rw [hF]; decide⟩⟩
theorem pr_parse_20 {f : Nat → Int32} {T : Nat} (hT : T ≤ 20) (hb : ∀ k, pr_by (am_hereF f k T)) (hby : ∀ i, i < T → ¬ f i = -1) (q0 : pr_L 97 20 (am_hereF f 0 T) = true) (q1 : ¬ (am_hereF f 1 T) = 46) (q2 : (am_hereF f 1 T) = 61) (q3 : ¬ (am_hereF f 2 T) = 33) (q4 : pr_L 97 20 (am_hereF f 2 T) = true) (q5 : ¬ (am_hereF f 3 T) = -1) (q6 : ¬ (am_hereF f 3 T) = 47) (q7 : ¬ (am_hereF f 3 T) = 46) (q8 : (am_hereF f 3 T) = 58) (q9 : pr_L 48 3 (am_hereF f 4 T) = false) : pr_D f T := by
  have hR : pr_R f T = ((-1), 4) := by
    unfold pr_R
    rw [if_pos q0, if_neg q1, if_pos q2, if_neg q3, if_pos q4, if_neg q5, if_neg q6, if_neg q7, if_pos q8, if_neg (pr_ff q9)]
  have m0 : pu_mt f T (pu_fm 0) 0 = 3 := by
    show pu_mt f T [120, 61, 121] 0 = 3
    rw [pr_mt_t hT (by decide) (show pu_su 120 (am_hereF f 0 T) = true from ((pr_su (hb 0)).1.symm.trans q0)), pr_mt_t hT (by decide) (show pu_su 61 (am_hereF f 1 T) = true from (by rw [q2]; decide)), pr_mt_t hT (by decide) (show pu_su 121 (am_hereF f 2 T) = true from ((pr_su (hb 2)).1.symm.trans q4))]
    rfl
  have m1 : pu_mt f T (pu_fm 1) 0 = 3 := by
    show pu_mt f T [120, 61, 121, 47, 55] 0 = 3
    rw [pr_mt_t hT (by decide) (show pu_su 120 (am_hereF f 0 T) = true from ((pr_su (hb 0)).1.symm.trans q0)), pr_mt_t hT (by decide) (show pu_su 61 (am_hereF f 1 T) = true from (by rw [q2]; decide)), pr_mt_t hT (by decide) (show pu_su 121 (am_hereF f 2 T) = true from ((pr_su (hb 2)).1.symm.trans q4)), pr_mt_f hT (by decide) (show pu_su 47 (am_hereF f 3 T) = false from (by rw [q8]; decide))]
  have m2 : pu_mt f T (pu_fm 2) 0 = 3 := by
    show pu_mt f T [120, 61, 121, 46, 50] 0 = 3
    rw [pr_mt_t hT (by decide) (show pu_su 120 (am_hereF f 0 T) = true from ((pr_su (hb 0)).1.symm.trans q0)), pr_mt_t hT (by decide) (show pu_su 61 (am_hereF f 1 T) = true from (by rw [q2]; decide)), pr_mt_t hT (by decide) (show pu_su 121 (am_hereF f 2 T) = true from ((pr_su (hb 2)).1.symm.trans q4)), pr_mt_f hT (by decide) (show pu_su 46 (am_hereF f 3 T) = false from (by rw [q8]; decide))]
  have m3 : pu_mt f T (pu_fm 3) 0 = 1 := by
    show pu_mt f T [120, 46, 50, 61, 121] 0 = 1
    rw [pr_mt_t hT (by decide) (show pu_su 120 (am_hereF f 0 T) = true from ((pr_su (hb 0)).1.symm.trans q0)), pr_mt_f hT (by decide) (show pu_su 46 (am_hereF f 1 T) = false from (by rw [q2]; decide))]
  have m4 : pu_mt f T (pu_fm 4) 0 = 4 := by
    show pu_mt f T [120, 61, 121, 58, 50, 40, 122, 41] 0 = 4
    rw [pr_mt_t hT (by decide) (show pu_su 120 (am_hereF f 0 T) = true from ((pr_su (hb 0)).1.symm.trans q0)), pr_mt_t hT (by decide) (show pu_su 61 (am_hereF f 1 T) = true from (by rw [q2]; decide)), pr_mt_t hT (by decide) (show pu_su 121 (am_hereF f 2 T) = true from ((pr_su (hb 2)).1.symm.trans q4)), pr_mt_t hT (by decide) (show pu_su 58 (am_hereF f 3 T) = true from (by rw [q8]; decide)), pr_mt_f hT (by decide) (show pu_su 50 (am_hereF f 4 T) = false from ((pr_su (hb 4)).2.2.symm.trans q9))]
  have m5 : pu_mt f T (pu_fm 5) 0 = 2 := by
    show pu_mt f T [120, 61, 33, 55] 0 = 2
    rw [pr_mt_t hT (by decide) (show pu_su 120 (am_hereF f 0 T) = true from ((pr_su (hb 0)).1.symm.trans q0)), pr_mt_t hT (by decide) (show pu_su 61 (am_hereF f 1 T) = true from (by rw [q2]; decide)), pr_mt_f hT (by decide) (show pu_su 33 (am_hereF f 2 T) = false from (decide_eq_false q3))]
  have hlo : 3 < T := pr_in (by decide) (show pu_su 58 (am_hereF f 3 T) = true from (by rw [q8]; decide))
  have hmid : 3 < T := pr_ltof q5
  have hS : pu_sort f T = (-1) := by
    unfold pu_sort
    rw [m0, m1, m2, m3, m4, m5]
    rw [pr_so_no hT (by decide) (by decide) (by omega), pr_so_no hT (by decide) (by decide) (by omega), pr_so_no hT (by decide) (by decide) (by omega), pr_so_no hT (by decide) (by decide) (by omega), pr_so_no hT (by decide) (by decide) (by omega), pr_so_no hT (by decide) (by decide) (by omega)]
  have hF : pu_flt f T = 4 := by unfold pu_flt; rw [m0, m1, m2, m3, m4, m5]; decide
  exact ⟨by rw [hR, hS], Or.inl ⟨by rw [hR], by rw [hR, hF], by rw [hF]; decide⟩⟩
theorem pr_parse_21 {f : Nat → Int32} {T : Nat} (hT : T ≤ 20) (hb : ∀ k, pr_by (am_hereF f k T)) (hby : ∀ i, i < T → ¬ f i = -1) (q0 : pr_L 97 20 (am_hereF f 0 T) = true) (q1 : ¬ (am_hereF f 1 T) = 46) (q2 : (am_hereF f 1 T) = 61) (q3 : ¬ (am_hereF f 2 T) = 33) (q4 : pr_L 97 20 (am_hereF f 2 T) = true) (q5 : ¬ (am_hereF f 3 T) = -1) (q6 : ¬ (am_hereF f 3 T) = 47) (q7 : ¬ (am_hereF f 3 T) = 46) (q8 : ¬ (am_hereF f 3 T) = 58) : pr_D f T := by
  have hR : pr_R f T = ((-1), 3) := by
    unfold pr_R
    rw [if_pos q0, if_neg q1, if_pos q2, if_neg q3, if_pos q4, if_neg q5, if_neg q6, if_neg q7, if_neg q8]
  have m0 : pu_mt f T (pu_fm 0) 0 = 3 := by
    show pu_mt f T [120, 61, 121] 0 = 3
    rw [pr_mt_t hT (by decide) (show pu_su 120 (am_hereF f 0 T) = true from ((pr_su (hb 0)).1.symm.trans q0)), pr_mt_t hT (by decide) (show pu_su 61 (am_hereF f 1 T) = true from (by rw [q2]; decide)), pr_mt_t hT (by decide) (show pu_su 121 (am_hereF f 2 T) = true from ((pr_su (hb 2)).1.symm.trans q4))]
    rfl
  have m1 : pu_mt f T (pu_fm 1) 0 = 3 := by
    show pu_mt f T [120, 61, 121, 47, 55] 0 = 3
    rw [pr_mt_t hT (by decide) (show pu_su 120 (am_hereF f 0 T) = true from ((pr_su (hb 0)).1.symm.trans q0)), pr_mt_t hT (by decide) (show pu_su 61 (am_hereF f 1 T) = true from (by rw [q2]; decide)), pr_mt_t hT (by decide) (show pu_su 121 (am_hereF f 2 T) = true from ((pr_su (hb 2)).1.symm.trans q4)), pr_mt_f hT (by decide) (show pu_su 47 (am_hereF f 3 T) = false from (decide_eq_false q6))]
  have m2 : pu_mt f T (pu_fm 2) 0 = 3 := by
    show pu_mt f T [120, 61, 121, 46, 50] 0 = 3
    rw [pr_mt_t hT (by decide) (show pu_su 120 (am_hereF f 0 T) = true from ((pr_su (hb 0)).1.symm.trans q0)), pr_mt_t hT (by decide) (show pu_su 61 (am_hereF f 1 T) = true from (by rw [q2]; decide)), pr_mt_t hT (by decide) (show pu_su 121 (am_hereF f 2 T) = true from ((pr_su (hb 2)).1.symm.trans q4)), pr_mt_f hT (by decide) (show pu_su 46 (am_hereF f 3 T) = false from (decide_eq_false q7))]
  have m3 : pu_mt f T (pu_fm 3) 0 = 1 := by
    show pu_mt f T [120, 46, 50, 61, 121] 0 = 1
    rw [pr_mt_t hT (by decide) (show pu_su 120 (am_hereF f 0 T) = true from ((pr_su (hb 0)).1.symm.trans q0)), pr_mt_f hT (by decide) (show pu_su 46 (am_hereF f 1 T) = false from (by rw [q2]; decide))]
  have m4 : pu_mt f T (pu_fm 4) 0 = 3 := by
    show pu_mt f T [120, 61, 121, 58, 50, 40, 122, 41] 0 = 3
    rw [pr_mt_t hT (by decide) (show pu_su 120 (am_hereF f 0 T) = true from ((pr_su (hb 0)).1.symm.trans q0)), pr_mt_t hT (by decide) (show pu_su 61 (am_hereF f 1 T) = true from (by rw [q2]; decide)), pr_mt_t hT (by decide) (show pu_su 121 (am_hereF f 2 T) = true from ((pr_su (hb 2)).1.symm.trans q4)), pr_mt_f hT (by decide) (show pu_su 58 (am_hereF f 3 T) = false from (decide_eq_false q8))]
  have m5 : pu_mt f T (pu_fm 5) 0 = 2 := by
    show pu_mt f T [120, 61, 33, 55] 0 = 2
    rw [pr_mt_t hT (by decide) (show pu_su 120 (am_hereF f 0 T) = true from ((pr_su (hb 0)).1.symm.trans q0)), pr_mt_t hT (by decide) (show pu_su 61 (am_hereF f 1 T) = true from (by rw [q2]; decide)), pr_mt_f hT (by decide) (show pu_su 33 (am_hereF f 2 T) = false from (decide_eq_false q3))]
  have hlo : 2 < T := pr_in (by decide) (show pu_su 121 (am_hereF f 2 T) = true from ((pr_su (hb 2)).1.symm.trans q4))
  have hmid : 3 < T := pr_ltof q5
  have hS : pu_sort f T = (-1) := by
    unfold pu_sort
    rw [m0, m1, m2, m3, m4, m5]
    rw [pr_so_no hT (by decide) (by decide) (by omega), pr_so_no hT (by decide) (by decide) (by omega), pr_so_no hT (by decide) (by decide) (by omega), pr_so_no hT (by decide) (by decide) (by omega), pr_so_no hT (by decide) (by decide) (by omega), pr_so_no hT (by decide) (by decide) (by omega)]
  have hF : pu_flt f T = 3 := by unfold pu_flt; rw [m0, m1, m2, m3, m4, m5]; decide
  exact ⟨by rw [hR, hS], Or.inl ⟨by rw [hR], by rw [hR, hF], by rw [hF]; decide⟩⟩
theorem pr_parse_22 {f : Nat → Int32} {T : Nat} (hT : T ≤ 20) (hb : ∀ k, pr_by (am_hereF f k T)) (hby : ∀ i, i < T → ¬ f i = -1) (q0 : pr_L 97 20 (am_hereF f 0 T) = true) (q1 : ¬ (am_hereF f 1 T) = 46) (q2 : (am_hereF f 1 T) = 61) (q3 : ¬ (am_hereF f 2 T) = 33) (q4 : pr_L 97 20 (am_hereF f 2 T) = false) : pr_D f T := by
  have hR : pr_R f T = ((-1), 2) := by
    unfold pr_R
    rw [if_pos q0, if_neg q1, if_pos q2, if_neg q3, if_neg (pr_ff q4)]
  have m0 : pu_mt f T (pu_fm 0) 0 = 2 := by
    show pu_mt f T [120, 61, 121] 0 = 2
    rw [pr_mt_t hT (by decide) (show pu_su 120 (am_hereF f 0 T) = true from ((pr_su (hb 0)).1.symm.trans q0)), pr_mt_t hT (by decide) (show pu_su 61 (am_hereF f 1 T) = true from (by rw [q2]; decide)), pr_mt_f hT (by decide) (show pu_su 121 (am_hereF f 2 T) = false from ((pr_su (hb 2)).1.symm.trans q4))]
  have m1 : pu_mt f T (pu_fm 1) 0 = 2 := by
    show pu_mt f T [120, 61, 121, 47, 55] 0 = 2
    rw [pr_mt_t hT (by decide) (show pu_su 120 (am_hereF f 0 T) = true from ((pr_su (hb 0)).1.symm.trans q0)), pr_mt_t hT (by decide) (show pu_su 61 (am_hereF f 1 T) = true from (by rw [q2]; decide)), pr_mt_f hT (by decide) (show pu_su 121 (am_hereF f 2 T) = false from ((pr_su (hb 2)).1.symm.trans q4))]
  have m2 : pu_mt f T (pu_fm 2) 0 = 2 := by
    show pu_mt f T [120, 61, 121, 46, 50] 0 = 2
    rw [pr_mt_t hT (by decide) (show pu_su 120 (am_hereF f 0 T) = true from ((pr_su (hb 0)).1.symm.trans q0)), pr_mt_t hT (by decide) (show pu_su 61 (am_hereF f 1 T) = true from (by rw [q2]; decide)), pr_mt_f hT (by decide) (show pu_su 121 (am_hereF f 2 T) = false from ((pr_su (hb 2)).1.symm.trans q4))]
  have m3 : pu_mt f T (pu_fm 3) 0 = 1 := by
    show pu_mt f T [120, 46, 50, 61, 121] 0 = 1
    rw [pr_mt_t hT (by decide) (show pu_su 120 (am_hereF f 0 T) = true from ((pr_su (hb 0)).1.symm.trans q0)), pr_mt_f hT (by decide) (show pu_su 46 (am_hereF f 1 T) = false from (by rw [q2]; decide))]
  have m4 : pu_mt f T (pu_fm 4) 0 = 2 := by
    show pu_mt f T [120, 61, 121, 58, 50, 40, 122, 41] 0 = 2
    rw [pr_mt_t hT (by decide) (show pu_su 120 (am_hereF f 0 T) = true from ((pr_su (hb 0)).1.symm.trans q0)), pr_mt_t hT (by decide) (show pu_su 61 (am_hereF f 1 T) = true from (by rw [q2]; decide)), pr_mt_f hT (by decide) (show pu_su 121 (am_hereF f 2 T) = false from ((pr_su (hb 2)).1.symm.trans q4))]
  have m5 : pu_mt f T (pu_fm 5) 0 = 2 := by
    show pu_mt f T [120, 61, 33, 55] 0 = 2
    rw [pr_mt_t hT (by decide) (show pu_su 120 (am_hereF f 0 T) = true from ((pr_su (hb 0)).1.symm.trans q0)), pr_mt_t hT (by decide) (show pu_su 61 (am_hereF f 1 T) = true from (by rw [q2]; decide)), pr_mt_f hT (by decide) (show pu_su 33 (am_hereF f 2 T) = false from (decide_eq_false q3))]
  have hlo : 1 < T := pr_in (by decide) (show pu_su 61 (am_hereF f 1 T) = true from (by rw [q2]; decide))
  have hS : pu_sort f T = (-1) := by
    unfold pu_sort
    rw [m0, m1, m2, m3, m4, m5]
    rw [pr_so_no hT (by decide) (by decide) (by omega), pr_so_no hT (by decide) (by decide) (by omega), pr_so_no hT (by decide) (by decide) (by omega), pr_so_no hT (by decide) (by decide) (by omega), pr_so_no hT (by decide) (by decide) (by omega), pr_so_no hT (by decide) (by decide) (by omega)]
  have hF : pu_flt f T = 2 := by unfold pu_flt; rw [m0, m1, m2, m3, m4, m5]; decide
  exact ⟨by rw [hR, hS], Or.inl ⟨by rw [hR], by rw [hR, hF], by rw [hF]; decide⟩⟩
theorem pr_parse_23 {f : Nat → Int32} {T : Nat} (hT : T ≤ 20) (hb : ∀ k, pr_by (am_hereF f k T)) (hby : ∀ i, i < T → ¬ f i = -1) (q0 : pr_L 97 20 (am_hereF f 0 T) = true) (q1 : ¬ (am_hereF f 1 T) = 46) (q2 : ¬ (am_hereF f 1 T) = 61) : pr_D f T := by
  have hR : pr_R f T = ((-1), 1) := by
    unfold pr_R
    rw [if_pos q0, if_neg q1, if_neg q2]
  have m0 : pu_mt f T (pu_fm 0) 0 = 1 := by
    show pu_mt f T [120, 61, 121] 0 = 1
    rw [pr_mt_t hT (by decide) (show pu_su 120 (am_hereF f 0 T) = true from ((pr_su (hb 0)).1.symm.trans q0)), pr_mt_f hT (by decide) (show pu_su 61 (am_hereF f 1 T) = false from (decide_eq_false q2))]
  have m1 : pu_mt f T (pu_fm 1) 0 = 1 := by
    show pu_mt f T [120, 61, 121, 47, 55] 0 = 1
    rw [pr_mt_t hT (by decide) (show pu_su 120 (am_hereF f 0 T) = true from ((pr_su (hb 0)).1.symm.trans q0)), pr_mt_f hT (by decide) (show pu_su 61 (am_hereF f 1 T) = false from (decide_eq_false q2))]
  have m2 : pu_mt f T (pu_fm 2) 0 = 1 := by
    show pu_mt f T [120, 61, 121, 46, 50] 0 = 1
    rw [pr_mt_t hT (by decide) (show pu_su 120 (am_hereF f 0 T) = true from ((pr_su (hb 0)).1.symm.trans q0)), pr_mt_f hT (by decide) (show pu_su 61 (am_hereF f 1 T) = false from (decide_eq_false q2))]
  have m3 : pu_mt f T (pu_fm 3) 0 = 1 := by
    show pu_mt f T [120, 46, 50, 61, 121] 0 = 1
    rw [pr_mt_t hT (by decide) (show pu_su 120 (am_hereF f 0 T) = true from ((pr_su (hb 0)).1.symm.trans q0)), pr_mt_f hT (by decide) (show pu_su 46 (am_hereF f 1 T) = false from (decide_eq_false q1))]
  have m4 : pu_mt f T (pu_fm 4) 0 = 1 := by
    show pu_mt f T [120, 61, 121, 58, 50, 40, 122, 41] 0 = 1
    rw [pr_mt_t hT (by decide) (show pu_su 120 (am_hereF f 0 T) = true from ((pr_su (hb 0)).1.symm.trans q0)), pr_mt_f hT (by decide) (show pu_su 61 (am_hereF f 1 T) = false from (decide_eq_false q2))]
  have m5 : pu_mt f T (pu_fm 5) 0 = 1 := by
    show pu_mt f T [120, 61, 33, 55] 0 = 1
    rw [pr_mt_t hT (by decide) (show pu_su 120 (am_hereF f 0 T) = true from ((pr_su (hb 0)).1.symm.trans q0)), pr_mt_f hT (by decide) (show pu_su 61 (am_hereF f 1 T) = false from (decide_eq_false q2))]
  have hlo : 0 < T := pr_in (by decide) (show pu_su 120 (am_hereF f 0 T) = true from ((pr_su (hb 0)).1.symm.trans q0))
  have hS : pu_sort f T = (-1) := by
    unfold pu_sort
    rw [m0, m1, m2, m3, m4, m5]
    rw [pr_so_no hT (by decide) (by decide) (by omega), pr_so_no hT (by decide) (by decide) (by omega), pr_so_no hT (by decide) (by decide) (by omega), pr_so_no hT (by decide) (by decide) (by omega), pr_so_no hT (by decide) (by decide) (by omega), pr_so_no hT (by decide) (by decide) (by omega)]
  have hF : pu_flt f T = 1 := by unfold pu_flt; rw [m0, m1, m2, m3, m4, m5]; decide
  exact ⟨by rw [hR, hS], Or.inl ⟨by rw [hR], by rw [hR, hF], by rw [hF]; decide⟩⟩
theorem pr_parse_24 {f : Nat → Int32} {T : Nat} (hT : T ≤ 20) (hb : ∀ k, pr_by (am_hereF f k T)) (hby : ∀ i, i < T → ¬ f i = -1) (q0 : pr_L 97 20 (am_hereF f 0 T) = false) : pr_D f T := by
  have hR : pr_R f T = ((-1), 0) := by
    unfold pr_R
    rw [if_neg (pr_ff q0)]
  have m0 : pu_mt f T (pu_fm 0) 0 = 0 := by
    show pu_mt f T [120, 61, 121] 0 = 0
    rw [pr_mt_f hT (by decide) (show pu_su 120 (am_hereF f 0 T) = false from ((pr_su (hb 0)).1.symm.trans q0))]
  have m1 : pu_mt f T (pu_fm 1) 0 = 0 := by
    show pu_mt f T [120, 61, 121, 47, 55] 0 = 0
    rw [pr_mt_f hT (by decide) (show pu_su 120 (am_hereF f 0 T) = false from ((pr_su (hb 0)).1.symm.trans q0))]
  have m2 : pu_mt f T (pu_fm 2) 0 = 0 := by
    show pu_mt f T [120, 61, 121, 46, 50] 0 = 0
    rw [pr_mt_f hT (by decide) (show pu_su 120 (am_hereF f 0 T) = false from ((pr_su (hb 0)).1.symm.trans q0))]
  have m3 : pu_mt f T (pu_fm 3) 0 = 0 := by
    show pu_mt f T [120, 46, 50, 61, 121] 0 = 0
    rw [pr_mt_f hT (by decide) (show pu_su 120 (am_hereF f 0 T) = false from ((pr_su (hb 0)).1.symm.trans q0))]
  have m4 : pu_mt f T (pu_fm 4) 0 = 0 := by
    show pu_mt f T [120, 61, 121, 58, 50, 40, 122, 41] 0 = 0
    rw [pr_mt_f hT (by decide) (show pu_su 120 (am_hereF f 0 T) = false from ((pr_su (hb 0)).1.symm.trans q0))]
  have m5 : pu_mt f T (pu_fm 5) 0 = 0 := by
    show pu_mt f T [120, 61, 33, 55] 0 = 0
    rw [pr_mt_f hT (by decide) (show pu_su 120 (am_hereF f 0 T) = false from ((pr_su (hb 0)).1.symm.trans q0))]
  have hS : pu_sort f T = (-1) := by
    unfold pu_sort
    rw [m0, m1, m2, m3, m4, m5]
    rw [pr_so_no hT (by decide) (by decide) (by omega), pr_so_no hT (by decide) (by decide) (by omega), pr_so_no hT (by decide) (by decide) (by omega), pr_so_no hT (by decide) (by decide) (by omega), pr_so_no hT (by decide) (by decide) (by omega), pr_so_no hT (by decide) (by decide) (by omega)]
  have hF : pu_flt f T = 0 := by unfold pu_flt; rw [m0, m1, m2, m3, m4, m5]; decide
  exact ⟨by rw [hR, hS], Or.inl ⟨by rw [hR], by rw [hR, hF], by rw [hF]; decide⟩⟩
theorem pr_parse {f : Nat → Int32} {T : Nat} (hT : T ≤ 20) (hbt : ∀ i, i < T → ∃ c, c < 256 ∧ f i = nI c) : pr_D f T := by
  have hb : ∀ k, pr_by (am_hereF f k T) := by
    intro k
    by_cases h : k < T
    · rw [pr_here_lt h]; exact Or.inr (hbt k h)
    · rw [pr_here_ge h]; exact Or.inl rfl
  have hby : ∀ i, i < T → ¬ f i = -1 := by
    intro i hi q
    obtain ⟨c, hc, e⟩ := hbt i hi
    exact nI_m1 (by omega) (e ▸ q)
  cases q0 : pr_L 97 20 (am_hereF f 0 T) with
  | true =>
    by_cases q1 : (am_hereF f 1 T) = 46
    · skip
      cases q2 : pr_L 48 3 (am_hereF f 2 T) with
      | true =>
        by_cases q3 : (am_hereF f 3 T) = 61
        · skip
          cases q4 : pr_L 97 20 (am_hereF f 4 T) with
          | true =>
            by_cases q5 : 5 < T
            · skip
              exact pr_parse_0 hT hb hby q0 q1 q2 q3 q4 q5
            · skip
              exact pr_parse_1 hT hb hby q0 q1 q2 q3 q4 q5
          | false =>
            exact pr_parse_2 hT hb hby q0 q1 q2 q3 q4
        · skip
          exact pr_parse_3 hT hb hby q0 q1 q2 q3
      | false =>
        exact pr_parse_4 hT hb hby q0 q1 q2
    · skip
      by_cases q2 : (am_hereF f 1 T) = 61
      · skip
        by_cases q3 : (am_hereF f 2 T) = 33
        · skip
          cases q4 : pr_L 48 8 (am_hereF f 3 T) with
          | true =>
            by_cases q5 : 4 < T
            · skip
              exact pr_parse_5 hT hb hby q0 q1 q2 q3 q4 q5
            · skip
              exact pr_parse_6 hT hb hby q0 q1 q2 q3 q4 q5
          | false =>
            exact pr_parse_7 hT hb hby q0 q1 q2 q3 q4
        · skip
          cases q4 : pr_L 97 20 (am_hereF f 2 T) with
          | true =>
            by_cases q5 : (am_hereF f 3 T) = -1
            · skip
              exact pr_parse_8 hT hb hby q0 q1 q2 q3 q4 q5
            · skip
              by_cases q6 : (am_hereF f 3 T) = 47
              · skip
                cases q7 : pr_L 48 8 (am_hereF f 4 T) with
                | true =>
                  by_cases q8 : 5 < T
                  · skip
                    exact pr_parse_9 hT hb hby q0 q1 q2 q3 q4 q5 q6 q7 q8
                  · skip
                    exact pr_parse_10 hT hb hby q0 q1 q2 q3 q4 q5 q6 q7 q8
                | false =>
                  exact pr_parse_11 hT hb hby q0 q1 q2 q3 q4 q5 q6 q7
              · skip
                by_cases q7 : (am_hereF f 3 T) = 46
                · skip
                  cases q8 : pr_L 48 3 (am_hereF f 4 T) with
                  | true =>
                    by_cases q9 : 5 < T
                    · skip
                      exact pr_parse_12 hT hb hby q0 q1 q2 q3 q4 q5 q6 q7 q8 q9
                    · skip
                      exact pr_parse_13 hT hb hby q0 q1 q2 q3 q4 q5 q6 q7 q8 q9
                  | false =>
                    exact pr_parse_14 hT hb hby q0 q1 q2 q3 q4 q5 q6 q7 q8
                · skip
                  by_cases q8 : (am_hereF f 3 T) = 58
                  · skip
                    cases q9 : pr_L 48 3 (am_hereF f 4 T) with
                    | true =>
                      by_cases q10 : (am_hereF f 5 T) = 40
                      · skip
                        cases q11 : pr_L 97 20 (am_hereF f 6 T) with
                        | true =>
                          by_cases q12 : (am_hereF f 7 T) = 41
                          · skip
                            by_cases q13 : 8 < T
                            · skip
                              exact pr_parse_15 hT hb hby q0 q1 q2 q3 q4 q5 q6 q7 q8 q9 q10 q11 q12 q13
                            · skip
                              exact pr_parse_16 hT hb hby q0 q1 q2 q3 q4 q5 q6 q7 q8 q9 q10 q11 q12 q13
                          · skip
                            exact pr_parse_17 hT hb hby q0 q1 q2 q3 q4 q5 q6 q7 q8 q9 q10 q11 q12
                        | false =>
                          exact pr_parse_18 hT hb hby q0 q1 q2 q3 q4 q5 q6 q7 q8 q9 q10 q11
                      · skip
                        exact pr_parse_19 hT hb hby q0 q1 q2 q3 q4 q5 q6 q7 q8 q9 q10
                    | false =>
                      exact pr_parse_20 hT hb hby q0 q1 q2 q3 q4 q5 q6 q7 q8 q9
                  · skip
                    exact pr_parse_21 hT hb hby q0 q1 q2 q3 q4 q5 q6 q7 q8
          | false =>
            exact pr_parse_22 hT hb hby q0 q1 q2 q3 q4
      · skip
        exact pr_parse_23 hT hb hby q0 q1 q2
  | false =>
    exact pr_parse_24 hT hb hby q0
