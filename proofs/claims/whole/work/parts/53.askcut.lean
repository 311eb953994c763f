/-! asked with a budget; a cut -/
theorem pu_W_fr {σ τ : Nat → Nat → Int32} (h : ∀ j, j < 5 → τ j = σ j) (sr : Nat → Nat) (ln : Nat → Nat → Int32) (Lc : Nat) (bk : Bool) (wo : Int32) : pu_W τ sr ln Lc bk wo = pu_W σ sr ln Lc bk wo := by
  have e : am_lnX τ sr ln Lc bk wo = am_lnX σ sr ln Lc bk wo := by
    have ek : am_kf τ bk = am_kf σ bk := by
      funext p
      unfold am_kf
      rw [h 4 (by decide)]
    funext W i A
    unfold am_lnX
    rw [ek, h 1 (by decide), h 2 (by decide), h 3 (by decide)]
  funext r
  induction r with
  | zero => rfl
  | succ r ih =>
    funext k
    rw [pu_WS, pu_WS, ih]
    unfold pu_R
    rw [e]
theorem pu_ne_fr {σ τ : Nat → Nat → Int32} (h : ∀ j, j < 5 → τ j = σ j) (sr : Nat → Nat) (ln : Nat → Nat → Int32) (Lc : Nat) (bk : Bool) (wo : Int32) : pu_ne τ sr ln Lc bk wo = pu_ne σ sr ln Lc bk wo := by
  funext r
  unfold pu_ne
  rw [pu_W_fr h]
theorem pu_isN_fr {σ τ : Nat → Nat → Int32} (h : ∀ j, j < 5 → τ j = σ j) {sr : Nat → Nat} {ln : Nat → Nat → Int32} {Lc : Nat} {bk : Bool} {wo : Int32} {N : Nat} (g : pu_isN τ sr ln Lc bk wo N) : pu_isN σ sr ln Lc bk wo N := by
  unfold pu_isN at *
  rw [pu_ne_fr h] at g
  exact g
theorem am_WF_fr {σ τ : Nat → Nat → Int32} (h : ∀ j, j < 5 → τ j = σ j) {sr : Nat → Nat} {ln : Nat → Nat → Int32} {Lc : Nat} (g : am_WF σ sr ln Lc) : am_WF τ sr ln Lc := by
  unfold am_WF at *
  rw [h 1 (by decide), h 2 (by decide), h 3 (by decide), h 4 (by decide)]
  exact g
theorem nI_div {a b : Nat} (ha : a < 2 ^ 31) (hb : b < 2 ^ 31) : nI a / nI b = nI (a / b) := by
  apply Int32.toInt_inj.mp
  have h1 : a / b ≤ a := Nat.div_le_self a b
  rw [Int32.toInt_div, nI_toInt ha, nI_toInt hb, nI_toInt (by omega)]
  rw [← Int.ofNat_tdiv]
  generalize a / b = q at *
  exact Int.bmod_eq_of_le (by omega) (by omega)
theorem nI_min {a b : Nat} (ha : a < 2 ^ 31) (hb : b < 2 ^ 31) : (if nI b < nI a then nI b else nI a) = nI (min a b) := by
  by_cases h : b < a
  · rw [if_pos (nI_lt h ha), Nat.min_eq_right (by omega)]
  · rw [if_neg (nI_nlt (by omega) hb), Nat.min_eq_left (by omega)]
theorem am_b99x {B : Int32} : decide ((0 : Int64) ≤ B.toInt64 ∧ B.toInt64 ≤ 99999) = decide ((0 : Int32) ≤ B ∧ B ≤ 99999) := by
  congr 1
  rw [Int64.le_iff_toInt_le, Int64.le_iff_toInt_le, Int32.toInt_toInt64, Int32.le_iff_toInt_le, Int32.le_iff_toInt_le]
  rw [show (0 : Int64).toInt = 0 by decide, show (99999 : Int64).toInt = 99999 by decide, show (0 : Int32).toInt = 0 by decide, show (99999 : Int32).toInt = 99999 by decide]
theorem am_b99 {B : Nat} (hB : B < 100000) : decide ((0 : Int64) ≤ (nI B).toInt64 ∧ (nI B).toInt64 ≤ 99999) = true := by
  rw [am_b99x]
  exact am_wiN (a := 0) (b := 99999) (v := B) (by omega) (by omega) (by omega)
section AK
variable {xs : Nat → Int32} {LL : Nat} {σ μ τ τ0 ρ ν : Nat → Nat → Int32} {sr : Nat → Nat} {ln : Nat → Nat → Int32} {Lc O : Nat}
theorem sp_X11_ask_p0 (d : Nat) (hsr : ∀ i, i < Lc → sr i < 6) (n : Nat) (hn : n < 20) (B : Nat) (hB : B < 100000) {N : Nat} (hN : N < 2000) (hr : τ 11 0 = nI N) {c : Nat} (hc : c < 1000) (hwk : ∀ d, am_X xs LL (d + 4) 133 [.ref 14] (hG τ sr ln Lc μ) (some (.int (nI c))) (hG τ sr ln Lc μ)) (hc0 : 0 < c) (hf : ∀ d, am_X xs LL (d + 6) 52 [.ref 23] (hG σ sr ln Lc μ) (some (.ref 23)) (hG τ sr ln Lc μ)) : am_X xs LL (d + 7) 104 [.ref 14, .int (nI n), .int (nI B), .int 0] (hG σ sr ln Lc μ) (some (.int (if (nI N) ≤ (nI (min N (B / c))) then (τ 12 n) else (am_it (pu_obS sr ln Lc) 0 40)))) (hG τ sr ln Lc μ) := by
  refine am_XR (d := d + 6) (C := cd_X11_ask) (L := [some (.ref 14), some (.int (nI n)), some (.int (nI B)), some (.int 0), none, none, none, none]) rfl rfl rfl rfl ?_
  refine am_g 1 1 [some (.ref 14), some (.int (nI n)), some (.int (nI B)), some (.int 0), none, none, none, none] [.int (nI n)] (hG σ sr ln Lc μ) rfl ?_
  refine am_call (y := 123) (vs := [.int (nI n)]) (rest := []) (v := (some (.int 1))) (h1 := (hG σ sr ln Lc μ)) rfl rfl rfl (sp_X11_isName (d + 4) _ _ (am_in_of_nI hn (by omega))) ?_
  refine am_g 4 11 [some (.ref 14), some (.int (nI n)), some (.int (nI B)), some (.int 0), none, none, none, none] [.int 99999, .int 0, .int (nI B)] (hG σ sr ln Lc μ) rfl ?_
  refine am_call (y := 122) (vs := [.int (nI B), .int 0, .int 99999]) (rest := []) (v := (some (.int 1))) (h1 := (hG σ sr ln Lc μ)) rfl rfl rfl (sp_X11_isWithin_b (d + 5) _ _ _ _ ((am_wiN (a := 0) (b := 99999) (v := B) (by omega) (by omega) (by omega)))) ?_
  refine am_g 4 20 [some (.ref 14), some (.int (nI n)), some (.int (nI B)), some (.int 0), none, none, none, none] [.int 2, .int 0, .int 0] (hG σ sr ln Lc μ) rfl ?_
  refine am_call (y := 122) (vs := [.int 0, .int 0, .int 2]) (rest := []) (v := (some (.int 1))) (h1 := (hG σ sr ln Lc μ)) rfl rfl rfl (sp_X11_isWithin_b (d + 5) _ _ _ _ (show decide ((0 : Int32) ≤ 0 ∧ (0 : Int32) ≤ 2) = true from by decide)) ?_
  refine am_g 3 33 [some (.ref 14), some (.int (nI n)), some (.int (nI B)), some (.int 0), none, none, none, none] [.ref 23] (hG σ sr ln Lc μ) rfl ?_
  refine am_call (y := 52) (vs := [.ref 23]) (rest := []) (v := (some (.ref 23))) (h1 := (hG τ sr ln Lc μ)) rfl rfl rfl (hf d) ?_
  refine am_g 2 39 [some (.ref 14), some (.int (nI n)), some (.int (nI B)), some (.int 0), some (.ref 23), none, none, none] [.ref 14] (hG τ sr ln Lc μ) rfl ?_
  refine am_call (y := 133) (vs := [.ref 14]) (rest := []) (v := (some (.int (nI c)))) (h1 := (hG τ sr ln Lc μ)) rfl rfl rfl (hwk (d + 2)) ?_
  refine am_g 3 (if (nI c) ≤ 0 then 64 else 49) [some (.ref 14), some (.int (nI n)), some (.int (nI B)), some (.int 0), some (.ref 23), some (.int (nI c)), none, none] [] (hG τ sr ln Lc μ) rfl ?_
  rw [if_neg (show ¬ (nI c) ≤ 0 from (nI_nle hc0 (by omega)))]
  refine am_g 2 54 [some (.ref 14), some (.int (nI n)), some (.int (nI B)), some (.int 0), some (.ref 23), some (.int (nI c)), none, none] [.int (τ 11 0)] (hG τ sr ln Lc μ) rfl ?_
  rw [show (τ 11 0) = (nI N) from hr]
  refine am_g 2 57 [some (.ref 14), some (.int (nI n)), some (.int (nI B)), some (.int 0), some (.ref 23), some (.int (nI c)), none, none] [.int (nI c), .int (nI B), .int (nI N)] (hG τ sr ln Lc μ) rfl ?_
  refine am_idivR rfl ((nI_ne0 hc0 (by omega))) ?_
  refine am_g 1 61 [some (.ref 14), some (.int (nI n)), some (.int (nI B)), some (.int 0), some (.ref 23), some (.int (nI c)), none, none] [.int (if ((nI B) / (nI c)) < (nI N) then ((nI B) / (nI c)) else (nI N))] (hG τ sr ln Lc μ) rfl ?_
  rw [show (if ((nI B) / (nI c)) < (nI N) then ((nI B) / (nI c)) else (nI N)) = nI (min N (B / c)) from by rw [nI_div (by omega) (by omega)]; exact nI_min (by omega) (Nat.lt_of_le_of_lt (Nat.div_le_self B c) (by omega))]
  refine am_g 5 74 [some (.ref 14), some (.int (nI n)), some (.int (nI B)), some (.int 0), some (.ref 23), some (.int (nI c)), some (.int (nI (min N (B / c)))), none] [.int (τ 11 0), .int (nI (min N (B / c)))] (hG τ sr ln Lc μ) rfl ?_
  rw [show (τ 11 0) = (nI N) from hr]
  refine am_g 1 (if (nI N) ≤ (nI (min N (B / c))) then 81 else 77) [some (.ref 14), some (.int (nI n)), some (.int (nI B)), some (.int 0), some (.ref 23), some (.int (nI c)), some (.int (nI (min N (B / c)))), none] [] (hG τ sr ln Lc μ) rfl (am_brR (fun c1 => ?_) (fun c1 => ?_))
  · skip
    refine am_g 12 121 [some (.ref 14), some (.int (nI n)), some (.int (nI B)), some (.int 0), some (.ref 23), some (.int (nI c)), some (.int (nI (min N (B / c)))), some (.int 0)] [.int (nI n), .ref 23] (hG τ sr ln Lc μ) rfl ?_
    refine am_call (y := 56) (vs := [.ref 23, .int (nI n)]) (rest := []) (v := (some (.int (τ 12 n)))) (h1 := (hG τ sr ln Lc μ)) rfl rfl rfl (sp_X7_heldAt_0_k (σ := τ) (μ := μ) (d + 5) n (by omega)) ?_
    exact am_ret2 rfl rfl rfl (by rw [if_pos c1]) rfl
  · skip
    refine am_g 12 112 [some (.ref 14), some (.int (nI n)), some (.int (nI B)), some (.int 0), some (.ref 23), some (.int (nI c)), some (.int (nI (min N (B / c)))), some (.int 1)] [.ref 14] (hG τ sr ln Lc μ) rfl ?_
    refine am_call (y := 134) (vs := [.ref 14]) (rest := []) (v := (some (.int (am_it (pu_obS sr ln Lc) 0 40)))) (h1 := (hG τ sr ln Lc μ)) rfl rfl rfl (sp_X11_objectsOn (σ := τ) (μ := μ) (d + 4) hsr) ?_
    refine am_g 1 124 [some (.ref 14), some (.int (nI n)), some (.int (nI B)), some (.int 0), some (.ref 23), some (.int (nI c)), some (.int (nI (min N (B / c)))), some (.int 1)] [.int (am_it (pu_obS sr ln Lc) 0 40)] (hG τ sr ln Lc μ) rfl ?_
    exact am_ret2 rfl rfl rfl (by rw [if_neg c1]) rfl
theorem sp_X11_ask_p1 (d : Nat) (hsr : ∀ i, i < Lc → sr i < 6) (n : Nat) (hn : n < 20) (B : Nat) (hB : B < 100000) {N : Nat} (hN : N < 2000) (hr : τ 11 0 = nI N) {c : Nat} (hc : c < 1000) (hwk : ∀ d, am_X xs LL (d + 4) 133 [.ref 14] (hG τ sr ln Lc μ) (some (.int (nI c))) (hG τ sr ln Lc μ)) (hc0 : 0 < c) (hf : ∀ d, am_X xs LL (d + 6) 52 [.ref 23] (hG σ sr ln Lc μ) (some (.ref 23)) (hG τ sr ln Lc μ)) : am_X xs LL (d + 7) 104 [.ref 14, .int (nI n), .int (nI B), .int 1] (hG σ sr ln Lc μ) (some (.int (if (nI N) ≤ (nI (min N (B / c))) then 0 else 1))) (hG τ sr ln Lc μ) := by
  refine am_XR (d := d + 6) (C := cd_X11_ask) (L := [some (.ref 14), some (.int (nI n)), some (.int (nI B)), some (.int 1), none, none, none, none]) rfl rfl rfl rfl ?_
  refine am_g 1 1 [some (.ref 14), some (.int (nI n)), some (.int (nI B)), some (.int 1), none, none, none, none] [.int (nI n)] (hG σ sr ln Lc μ) rfl ?_
  refine am_call (y := 123) (vs := [.int (nI n)]) (rest := []) (v := (some (.int 1))) (h1 := (hG σ sr ln Lc μ)) rfl rfl rfl (sp_X11_isName (d + 4) _ _ (am_in_of_nI hn (by omega))) ?_
  refine am_g 4 11 [some (.ref 14), some (.int (nI n)), some (.int (nI B)), some (.int 1), none, none, none, none] [.int 99999, .int 0, .int (nI B)] (hG σ sr ln Lc μ) rfl ?_
  refine am_call (y := 122) (vs := [.int (nI B), .int 0, .int 99999]) (rest := []) (v := (some (.int 1))) (h1 := (hG σ sr ln Lc μ)) rfl rfl rfl (sp_X11_isWithin_b (d + 5) _ _ _ _ ((am_wiN (a := 0) (b := 99999) (v := B) (by omega) (by omega) (by omega)))) ?_
  refine am_g 4 20 [some (.ref 14), some (.int (nI n)), some (.int (nI B)), some (.int 1), none, none, none, none] [.int 2, .int 0, .int 1] (hG σ sr ln Lc μ) rfl ?_
  refine am_call (y := 122) (vs := [.int 1, .int 0, .int 2]) (rest := []) (v := (some (.int 1))) (h1 := (hG σ sr ln Lc μ)) rfl rfl rfl (sp_X11_isWithin_b (d + 5) _ _ _ _ (show decide ((0 : Int32) ≤ 1 ∧ (1 : Int32) ≤ 2) = true from by decide)) ?_
  refine am_g 3 33 [some (.ref 14), some (.int (nI n)), some (.int (nI B)), some (.int 1), none, none, none, none] [.ref 23] (hG σ sr ln Lc μ) rfl ?_
  refine am_call (y := 52) (vs := [.ref 23]) (rest := []) (v := (some (.ref 23))) (h1 := (hG τ sr ln Lc μ)) rfl rfl rfl (hf d) ?_
  refine am_g 2 39 [some (.ref 14), some (.int (nI n)), some (.int (nI B)), some (.int 1), some (.ref 23), none, none, none] [.ref 14] (hG τ sr ln Lc μ) rfl ?_
  refine am_call (y := 133) (vs := [.ref 14]) (rest := []) (v := (some (.int (nI c)))) (h1 := (hG τ sr ln Lc μ)) rfl rfl rfl (hwk (d + 2)) ?_
  refine am_g 3 (if (nI c) ≤ 0 then 64 else 49) [some (.ref 14), some (.int (nI n)), some (.int (nI B)), some (.int 1), some (.ref 23), some (.int (nI c)), none, none] [] (hG τ sr ln Lc μ) rfl ?_
  rw [if_neg (show ¬ (nI c) ≤ 0 from (nI_nle hc0 (by omega)))]
  refine am_g 2 54 [some (.ref 14), some (.int (nI n)), some (.int (nI B)), some (.int 1), some (.ref 23), some (.int (nI c)), none, none] [.int (τ 11 0)] (hG τ sr ln Lc μ) rfl ?_
  rw [show (τ 11 0) = (nI N) from hr]
  refine am_g 2 57 [some (.ref 14), some (.int (nI n)), some (.int (nI B)), some (.int 1), some (.ref 23), some (.int (nI c)), none, none] [.int (nI c), .int (nI B), .int (nI N)] (hG τ sr ln Lc μ) rfl ?_
  refine am_idivR rfl ((nI_ne0 hc0 (by omega))) ?_
  refine am_g 1 61 [some (.ref 14), some (.int (nI n)), some (.int (nI B)), some (.int 1), some (.ref 23), some (.int (nI c)), none, none] [.int (if ((nI B) / (nI c)) < (nI N) then ((nI B) / (nI c)) else (nI N))] (hG τ sr ln Lc μ) rfl ?_
  rw [show (if ((nI B) / (nI c)) < (nI N) then ((nI B) / (nI c)) else (nI N)) = nI (min N (B / c)) from by rw [nI_div (by omega) (by omega)]; exact nI_min (by omega) (Nat.lt_of_le_of_lt (Nat.div_le_self B c) (by omega))]
  refine am_g 5 74 [some (.ref 14), some (.int (nI n)), some (.int (nI B)), some (.int 1), some (.ref 23), some (.int (nI c)), some (.int (nI (min N (B / c)))), none] [.int (τ 11 0), .int (nI (min N (B / c)))] (hG τ sr ln Lc μ) rfl ?_
  rw [show (τ 11 0) = (nI N) from hr]
  refine am_g 1 (if (nI N) ≤ (nI (min N (B / c))) then 81 else 77) [some (.ref 14), some (.int (nI n)), some (.int (nI B)), some (.int 1), some (.ref 23), some (.int (nI c)), some (.int (nI (min N (B / c)))), none] [] (hG τ sr ln Lc μ) rfl (am_brR (fun c1 => ?_) (fun c1 => ?_))
  · skip
    refine am_g 6 91 [some (.ref 14), some (.int (nI n)), some (.int (nI B)), some (.int 1), some (.ref 23), some (.int (nI c)), some (.int (nI (min N (B / c)))), some (.int 0)] [.int 0] (hG τ sr ln Lc μ) rfl ?_
    refine am_call (y := 125) (vs := [.int 0]) (rest := []) (v := (some (.int 0))) (h1 := (hG τ sr ln Lc μ)) rfl rfl rfl (sp_X11_bit0 (d + 5) _) ?_
    exact am_ret2 rfl rfl rfl (by rw [if_pos c1]) rfl
  · skip
    refine am_g 7 91 [some (.ref 14), some (.int (nI n)), some (.int (nI B)), some (.int 1), some (.ref 23), some (.int (nI c)), some (.int (nI (min N (B / c)))), some (.int 1)] [.int 1] (hG τ sr ln Lc μ) rfl ?_
    refine am_call (y := 125) (vs := [.int 1]) (rest := []) (v := (some (.int 1))) (h1 := (hG τ sr ln Lc μ)) rfl rfl rfl (sp_X11_bit1 (d + 5) _) ?_
    exact am_ret2 rfl rfl rfl (by rw [if_neg c1]) rfl
theorem sp_X11_ask_p2 (d : Nat) (hsr : ∀ i, i < Lc → sr i < 6) (n : Nat) (hn : n < 20) (B : Nat) (hB : B < 100000) {N : Nat} (hN : N < 2000) (hr : τ 11 0 = nI N) {c : Nat} (hc : c < 1000) (hwk : ∀ d, am_X xs LL (d + 4) 133 [.ref 14] (hG τ sr ln Lc μ) (some (.int (nI c))) (hG τ sr ln Lc μ)) (hc0 : 0 < c) (hf : ∀ d, am_X xs LL (d + 6) 52 [.ref 23] (hG σ sr ln Lc μ) (some (.ref 23)) (hG τ sr ln Lc μ)) : am_X xs LL (d + 7) 104 [.ref 14, .int (nI n), .int (nI B), .int 2] (hG σ sr ln Lc μ) (some (.int ((nI (min N (B / c))) * (nI c)))) (hG τ sr ln Lc μ) := by
  refine am_XR (d := d + 6) (C := cd_X11_ask) (L := [some (.ref 14), some (.int (nI n)), some (.int (nI B)), some (.int 2), none, none, none, none]) rfl rfl rfl rfl ?_
  refine am_g 1 1 [some (.ref 14), some (.int (nI n)), some (.int (nI B)), some (.int 2), none, none, none, none] [.int (nI n)] (hG σ sr ln Lc μ) rfl ?_
  refine am_call (y := 123) (vs := [.int (nI n)]) (rest := []) (v := (some (.int 1))) (h1 := (hG σ sr ln Lc μ)) rfl rfl rfl (sp_X11_isName (d + 4) _ _ (am_in_of_nI hn (by omega))) ?_
  refine am_g 4 11 [some (.ref 14), some (.int (nI n)), some (.int (nI B)), some (.int 2), none, none, none, none] [.int 99999, .int 0, .int (nI B)] (hG σ sr ln Lc μ) rfl ?_
  refine am_call (y := 122) (vs := [.int (nI B), .int 0, .int 99999]) (rest := []) (v := (some (.int 1))) (h1 := (hG σ sr ln Lc μ)) rfl rfl rfl (sp_X11_isWithin_b (d + 5) _ _ _ _ ((am_wiN (a := 0) (b := 99999) (v := B) (by omega) (by omega) (by omega)))) ?_
  refine am_g 4 20 [some (.ref 14), some (.int (nI n)), some (.int (nI B)), some (.int 2), none, none, none, none] [.int 2, .int 0, .int 2] (hG σ sr ln Lc μ) rfl ?_
  refine am_call (y := 122) (vs := [.int 2, .int 0, .int 2]) (rest := []) (v := (some (.int 1))) (h1 := (hG σ sr ln Lc μ)) rfl rfl rfl (sp_X11_isWithin_b (d + 5) _ _ _ _ (show decide ((0 : Int32) ≤ 2 ∧ (2 : Int32) ≤ 2) = true from by decide)) ?_
  refine am_g 3 33 [some (.ref 14), some (.int (nI n)), some (.int (nI B)), some (.int 2), none, none, none, none] [.ref 23] (hG σ sr ln Lc μ) rfl ?_
  refine am_call (y := 52) (vs := [.ref 23]) (rest := []) (v := (some (.ref 23))) (h1 := (hG τ sr ln Lc μ)) rfl rfl rfl (hf d) ?_
  refine am_g 2 39 [some (.ref 14), some (.int (nI n)), some (.int (nI B)), some (.int 2), some (.ref 23), none, none, none] [.ref 14] (hG τ sr ln Lc μ) rfl ?_
  refine am_call (y := 133) (vs := [.ref 14]) (rest := []) (v := (some (.int (nI c)))) (h1 := (hG τ sr ln Lc μ)) rfl rfl rfl (hwk (d + 2)) ?_
  refine am_g 3 (if (nI c) ≤ 0 then 64 else 49) [some (.ref 14), some (.int (nI n)), some (.int (nI B)), some (.int 2), some (.ref 23), some (.int (nI c)), none, none] [] (hG τ sr ln Lc μ) rfl ?_
  rw [if_neg (show ¬ (nI c) ≤ 0 from (nI_nle hc0 (by omega)))]
  refine am_g 2 54 [some (.ref 14), some (.int (nI n)), some (.int (nI B)), some (.int 2), some (.ref 23), some (.int (nI c)), none, none] [.int (τ 11 0)] (hG τ sr ln Lc μ) rfl ?_
  rw [show (τ 11 0) = (nI N) from hr]
  refine am_g 2 57 [some (.ref 14), some (.int (nI n)), some (.int (nI B)), some (.int 2), some (.ref 23), some (.int (nI c)), none, none] [.int (nI c), .int (nI B), .int (nI N)] (hG τ sr ln Lc μ) rfl ?_
  refine am_idivR rfl ((nI_ne0 hc0 (by omega))) ?_
  refine am_g 1 61 [some (.ref 14), some (.int (nI n)), some (.int (nI B)), some (.int 2), some (.ref 23), some (.int (nI c)), none, none] [.int (if ((nI B) / (nI c)) < (nI N) then ((nI B) / (nI c)) else (nI N))] (hG τ sr ln Lc μ) rfl ?_
  rw [show (if ((nI B) / (nI c)) < (nI N) then ((nI B) / (nI c)) else (nI N)) = nI (min N (B / c)) from by rw [nI_div (by omega) (by omega)]; exact nI_min (by omega) (Nat.lt_of_le_of_lt (Nat.div_le_self B c) (by omega))]
  refine am_g 5 74 [some (.ref 14), some (.int (nI n)), some (.int (nI B)), some (.int 2), some (.ref 23), some (.int (nI c)), some (.int (nI (min N (B / c)))), none] [.int (τ 11 0), .int (nI (min N (B / c)))] (hG τ sr ln Lc μ) rfl ?_
  rw [show (τ 11 0) = (nI N) from hr]
  refine am_g 1 (if (nI N) ≤ (nI (min N (B / c))) then 81 else 77) [some (.ref 14), some (.int (nI n)), some (.int (nI B)), some (.int 2), some (.ref 23), some (.int (nI c)), some (.int (nI (min N (B / c)))), none] [] (hG τ sr ln Lc μ) rfl (am_brR (fun c1 => ?_) (fun c1 => ?_))
  · skip
    refine am_g 11 105 [some (.ref 14), some (.int (nI n)), some (.int (nI B)), some (.int 2), some (.ref 23), some (.int (nI c)), some (.int (nI (min N (B / c)))), some (.int 0)] [.int ((nI (min N (B / c))) * (nI c))] (hG τ sr ln Lc μ) rfl ?_
    exact am_ret2 rfl rfl rfl rfl rfl
  · skip
    refine am_g 12 105 [some (.ref 14), some (.int (nI n)), some (.int (nI B)), some (.int 2), some (.ref 23), some (.int (nI c)), some (.int (nI (min N (B / c)))), some (.int 1)] [.int ((nI (min N (B / c))) * (nI c))] (hG τ sr ln Lc μ) rfl ?_
    exact am_ret2 rfl rfl rfl rfl rfl
theorem sp_X11_ask_z0 (d : Nat) (hsr : ∀ i, i < Lc → sr i < 6) (n : Nat) (hn : n < 20) (B : Nat) (hB : B < 100000) {N : Nat} (hN : N < 2000) (hr : τ 11 0 = nI N) {c : Nat} (hc : c < 1000) (hwk : ∀ d, am_X xs LL (d + 4) 133 [.ref 14] (hG τ sr ln Lc μ) (some (.int (nI c))) (hG τ sr ln Lc μ)) (hc0 : c = 0) (hf : ∀ d, am_X xs LL (d + 6) 52 [.ref 23] (hG σ sr ln Lc μ) (some (.ref 23)) (hG τ sr ln Lc μ)) : am_X xs LL (d + 7) 104 [.ref 14, .int (nI n), .int (nI B), .int 0] (hG σ sr ln Lc μ) (some (.int (if (nI N) ≤ 0 then (τ 12 n) else (am_it (pu_obS sr ln Lc) 0 40)))) (hG τ sr ln Lc μ) := by
  refine am_XR (d := d + 6) (C := cd_X11_ask) (L := [some (.ref 14), some (.int (nI n)), some (.int (nI B)), some (.int 0), none, none, none, none]) rfl rfl rfl rfl ?_
  refine am_g 1 1 [some (.ref 14), some (.int (nI n)), some (.int (nI B)), some (.int 0), none, none, none, none] [.int (nI n)] (hG σ sr ln Lc μ) rfl ?_
  refine am_call (y := 123) (vs := [.int (nI n)]) (rest := []) (v := (some (.int 1))) (h1 := (hG σ sr ln Lc μ)) rfl rfl rfl (sp_X11_isName (d + 4) _ _ (am_in_of_nI hn (by omega))) ?_
  refine am_g 4 11 [some (.ref 14), some (.int (nI n)), some (.int (nI B)), some (.int 0), none, none, none, none] [.int 99999, .int 0, .int (nI B)] (hG σ sr ln Lc μ) rfl ?_
  refine am_call (y := 122) (vs := [.int (nI B), .int 0, .int 99999]) (rest := []) (v := (some (.int 1))) (h1 := (hG σ sr ln Lc μ)) rfl rfl rfl (sp_X11_isWithin_b (d + 5) _ _ _ _ ((am_wiN (a := 0) (b := 99999) (v := B) (by omega) (by omega) (by omega)))) ?_
  refine am_g 4 20 [some (.ref 14), some (.int (nI n)), some (.int (nI B)), some (.int 0), none, none, none, none] [.int 2, .int 0, .int 0] (hG σ sr ln Lc μ) rfl ?_
  refine am_call (y := 122) (vs := [.int 0, .int 0, .int 2]) (rest := []) (v := (some (.int 1))) (h1 := (hG σ sr ln Lc μ)) rfl rfl rfl (sp_X11_isWithin_b (d + 5) _ _ _ _ (show decide ((0 : Int32) ≤ 0 ∧ (0 : Int32) ≤ 2) = true from by decide)) ?_
  refine am_g 3 33 [some (.ref 14), some (.int (nI n)), some (.int (nI B)), some (.int 0), none, none, none, none] [.ref 23] (hG σ sr ln Lc μ) rfl ?_
  refine am_call (y := 52) (vs := [.ref 23]) (rest := []) (v := (some (.ref 23))) (h1 := (hG τ sr ln Lc μ)) rfl rfl rfl (hf d) ?_
  refine am_g 2 39 [some (.ref 14), some (.int (nI n)), some (.int (nI B)), some (.int 0), some (.ref 23), none, none, none] [.ref 14] (hG τ sr ln Lc μ) rfl ?_
  refine am_call (y := 133) (vs := [.ref 14]) (rest := []) (v := (some (.int (nI c)))) (h1 := (hG τ sr ln Lc μ)) rfl rfl rfl (hwk (d + 2)) ?_
  refine am_g 3 (if (nI c) ≤ 0 then 64 else 49) [some (.ref 14), some (.int (nI n)), some (.int (nI B)), some (.int 0), some (.ref 23), some (.int (nI c)), none, none] [] (hG τ sr ln Lc μ) rfl ?_
  rw [if_pos (show (nI c) ≤ 0 from (by rw [hc0]; decide))]
  refine am_g 5 74 [some (.ref 14), some (.int (nI n)), some (.int (nI B)), some (.int 0), some (.ref 23), some (.int (nI c)), some (.int 0), none] [.int (τ 11 0), .int 0] (hG τ sr ln Lc μ) rfl ?_
  rw [show (τ 11 0) = (nI N) from hr]
  refine am_g 1 (if (nI N) ≤ 0 then 81 else 77) [some (.ref 14), some (.int (nI n)), some (.int (nI B)), some (.int 0), some (.ref 23), some (.int (nI c)), some (.int 0), none] [] (hG τ sr ln Lc μ) rfl (am_brR (fun c1 => ?_) (fun c1 => ?_))
  · skip
    refine am_g 12 121 [some (.ref 14), some (.int (nI n)), some (.int (nI B)), some (.int 0), some (.ref 23), some (.int (nI c)), some (.int 0), some (.int 0)] [.int (nI n), .ref 23] (hG τ sr ln Lc μ) rfl ?_
    refine am_call (y := 56) (vs := [.ref 23, .int (nI n)]) (rest := []) (v := (some (.int (τ 12 n)))) (h1 := (hG τ sr ln Lc μ)) rfl rfl rfl (sp_X7_heldAt_0_k (σ := τ) (μ := μ) (d + 5) n (by omega)) ?_
    exact am_ret2 rfl rfl rfl (by rw [if_pos c1]) rfl
  · skip
    refine am_g 12 112 [some (.ref 14), some (.int (nI n)), some (.int (nI B)), some (.int 0), some (.ref 23), some (.int (nI c)), some (.int 0), some (.int 1)] [.ref 14] (hG τ sr ln Lc μ) rfl ?_
    refine am_call (y := 134) (vs := [.ref 14]) (rest := []) (v := (some (.int (am_it (pu_obS sr ln Lc) 0 40)))) (h1 := (hG τ sr ln Lc μ)) rfl rfl rfl (sp_X11_objectsOn (σ := τ) (μ := μ) (d + 4) hsr) ?_
    refine am_g 1 124 [some (.ref 14), some (.int (nI n)), some (.int (nI B)), some (.int 0), some (.ref 23), some (.int (nI c)), some (.int 0), some (.int 1)] [.int (am_it (pu_obS sr ln Lc) 0 40)] (hG τ sr ln Lc μ) rfl ?_
    exact am_ret2 rfl rfl rfl (by rw [if_neg c1]) rfl
theorem sp_X11_ask_z1 (d : Nat) (hsr : ∀ i, i < Lc → sr i < 6) (n : Nat) (hn : n < 20) (B : Nat) (hB : B < 100000) {N : Nat} (hN : N < 2000) (hr : τ 11 0 = nI N) {c : Nat} (hc : c < 1000) (hwk : ∀ d, am_X xs LL (d + 4) 133 [.ref 14] (hG τ sr ln Lc μ) (some (.int (nI c))) (hG τ sr ln Lc μ)) (hc0 : c = 0) (hf : ∀ d, am_X xs LL (d + 6) 52 [.ref 23] (hG σ sr ln Lc μ) (some (.ref 23)) (hG τ sr ln Lc μ)) : am_X xs LL (d + 7) 104 [.ref 14, .int (nI n), .int (nI B), .int 1] (hG σ sr ln Lc μ) (some (.int (if (nI N) ≤ 0 then 0 else 1))) (hG τ sr ln Lc μ) := by
  refine am_XR (d := d + 6) (C := cd_X11_ask) (L := [some (.ref 14), some (.int (nI n)), some (.int (nI B)), some (.int 1), none, none, none, none]) rfl rfl rfl rfl ?_
  refine am_g 1 1 [some (.ref 14), some (.int (nI n)), some (.int (nI B)), some (.int 1), none, none, none, none] [.int (nI n)] (hG σ sr ln Lc μ) rfl ?_
  refine am_call (y := 123) (vs := [.int (nI n)]) (rest := []) (v := (some (.int 1))) (h1 := (hG σ sr ln Lc μ)) rfl rfl rfl (sp_X11_isName (d + 4) _ _ (am_in_of_nI hn (by omega))) ?_
  refine am_g 4 11 [some (.ref 14), some (.int (nI n)), some (.int (nI B)), some (.int 1), none, none, none, none] [.int 99999, .int 0, .int (nI B)] (hG σ sr ln Lc μ) rfl ?_
  refine am_call (y := 122) (vs := [.int (nI B), .int 0, .int 99999]) (rest := []) (v := (some (.int 1))) (h1 := (hG σ sr ln Lc μ)) rfl rfl rfl (sp_X11_isWithin_b (d + 5) _ _ _ _ ((am_wiN (a := 0) (b := 99999) (v := B) (by omega) (by omega) (by omega)))) ?_
  refine am_g 4 20 [some (.ref 14), some (.int (nI n)), some (.int (nI B)), some (.int 1), none, none, none, none] [.int 2, .int 0, .int 1] (hG σ sr ln Lc μ) rfl ?_
  refine am_call (y := 122) (vs := [.int 1, .int 0, .int 2]) (rest := []) (v := (some (.int 1))) (h1 := (hG σ sr ln Lc μ)) rfl rfl rfl (sp_X11_isWithin_b (d + 5) _ _ _ _ (show decide ((0 : Int32) ≤ 1 ∧ (1 : Int32) ≤ 2) = true from by decide)) ?_
  refine am_g 3 33 [some (.ref 14), some (.int (nI n)), some (.int (nI B)), some (.int 1), none, none, none, none] [.ref 23] (hG σ sr ln Lc μ) rfl ?_
  refine am_call (y := 52) (vs := [.ref 23]) (rest := []) (v := (some (.ref 23))) (h1 := (hG τ sr ln Lc μ)) rfl rfl rfl (hf d) ?_
  refine am_g 2 39 [some (.ref 14), some (.int (nI n)), some (.int (nI B)), some (.int 1), some (.ref 23), none, none, none] [.ref 14] (hG τ sr ln Lc μ) rfl ?_
  refine am_call (y := 133) (vs := [.ref 14]) (rest := []) (v := (some (.int (nI c)))) (h1 := (hG τ sr ln Lc μ)) rfl rfl rfl (hwk (d + 2)) ?_
  refine am_g 3 (if (nI c) ≤ 0 then 64 else 49) [some (.ref 14), some (.int (nI n)), some (.int (nI B)), some (.int 1), some (.ref 23), some (.int (nI c)), none, none] [] (hG τ sr ln Lc μ) rfl ?_
  rw [if_pos (show (nI c) ≤ 0 from (by rw [hc0]; decide))]
  refine am_g 5 74 [some (.ref 14), some (.int (nI n)), some (.int (nI B)), some (.int 1), some (.ref 23), some (.int (nI c)), some (.int 0), none] [.int (τ 11 0), .int 0] (hG τ sr ln Lc μ) rfl ?_
  rw [show (τ 11 0) = (nI N) from hr]
  refine am_g 1 (if (nI N) ≤ 0 then 81 else 77) [some (.ref 14), some (.int (nI n)), some (.int (nI B)), some (.int 1), some (.ref 23), some (.int (nI c)), some (.int 0), none] [] (hG τ sr ln Lc μ) rfl (am_brR (fun c1 => ?_) (fun c1 => ?_))
  · skip
    refine am_g 6 91 [some (.ref 14), some (.int (nI n)), some (.int (nI B)), some (.int 1), some (.ref 23), some (.int (nI c)), some (.int 0), some (.int 0)] [.int 0] (hG τ sr ln Lc μ) rfl ?_
    refine am_call (y := 125) (vs := [.int 0]) (rest := []) (v := (some (.int 0))) (h1 := (hG τ sr ln Lc μ)) rfl rfl rfl (sp_X11_bit0 (d + 5) _) ?_
    exact am_ret2 rfl rfl rfl (by rw [if_pos c1]) rfl
  · skip
    refine am_g 7 91 [some (.ref 14), some (.int (nI n)), some (.int (nI B)), some (.int 1), some (.ref 23), some (.int (nI c)), some (.int 0), some (.int 1)] [.int 1] (hG τ sr ln Lc μ) rfl ?_
    refine am_call (y := 125) (vs := [.int 1]) (rest := []) (v := (some (.int 1))) (h1 := (hG τ sr ln Lc μ)) rfl rfl rfl (sp_X11_bit1 (d + 5) _) ?_
    exact am_ret2 rfl rfl rfl (by rw [if_neg c1]) rfl
theorem sp_X11_ask_z2 (d : Nat) (hsr : ∀ i, i < Lc → sr i < 6) (n : Nat) (hn : n < 20) (B : Nat) (hB : B < 100000) {N : Nat} (hN : N < 2000) (hr : τ 11 0 = nI N) {c : Nat} (hc : c < 1000) (hwk : ∀ d, am_X xs LL (d + 4) 133 [.ref 14] (hG τ sr ln Lc μ) (some (.int (nI c))) (hG τ sr ln Lc μ)) (hc0 : c = 0) (hf : ∀ d, am_X xs LL (d + 6) 52 [.ref 23] (hG σ sr ln Lc μ) (some (.ref 23)) (hG τ sr ln Lc μ)) : am_X xs LL (d + 7) 104 [.ref 14, .int (nI n), .int (nI B), .int 2] (hG σ sr ln Lc μ) (some (.int (0 * (nI c)))) (hG τ sr ln Lc μ) := by
  refine am_XR (d := d + 6) (C := cd_X11_ask) (L := [some (.ref 14), some (.int (nI n)), some (.int (nI B)), some (.int 2), none, none, none, none]) rfl rfl rfl rfl ?_
  refine am_g 1 1 [some (.ref 14), some (.int (nI n)), some (.int (nI B)), some (.int 2), none, none, none, none] [.int (nI n)] (hG σ sr ln Lc μ) rfl ?_
  refine am_call (y := 123) (vs := [.int (nI n)]) (rest := []) (v := (some (.int 1))) (h1 := (hG σ sr ln Lc μ)) rfl rfl rfl (sp_X11_isName (d + 4) _ _ (am_in_of_nI hn (by omega))) ?_
  refine am_g 4 11 [some (.ref 14), some (.int (nI n)), some (.int (nI B)), some (.int 2), none, none, none, none] [.int 99999, .int 0, .int (nI B)] (hG σ sr ln Lc μ) rfl ?_
  refine am_call (y := 122) (vs := [.int (nI B), .int 0, .int 99999]) (rest := []) (v := (some (.int 1))) (h1 := (hG σ sr ln Lc μ)) rfl rfl rfl (sp_X11_isWithin_b (d + 5) _ _ _ _ ((am_wiN (a := 0) (b := 99999) (v := B) (by omega) (by omega) (by omega)))) ?_
  refine am_g 4 20 [some (.ref 14), some (.int (nI n)), some (.int (nI B)), some (.int 2), none, none, none, none] [.int 2, .int 0, .int 2] (hG σ sr ln Lc μ) rfl ?_
  refine am_call (y := 122) (vs := [.int 2, .int 0, .int 2]) (rest := []) (v := (some (.int 1))) (h1 := (hG σ sr ln Lc μ)) rfl rfl rfl (sp_X11_isWithin_b (d + 5) _ _ _ _ (show decide ((0 : Int32) ≤ 2 ∧ (2 : Int32) ≤ 2) = true from by decide)) ?_
  refine am_g 3 33 [some (.ref 14), some (.int (nI n)), some (.int (nI B)), some (.int 2), none, none, none, none] [.ref 23] (hG σ sr ln Lc μ) rfl ?_
  refine am_call (y := 52) (vs := [.ref 23]) (rest := []) (v := (some (.ref 23))) (h1 := (hG τ sr ln Lc μ)) rfl rfl rfl (hf d) ?_
  refine am_g 2 39 [some (.ref 14), some (.int (nI n)), some (.int (nI B)), some (.int 2), some (.ref 23), none, none, none] [.ref 14] (hG τ sr ln Lc μ) rfl ?_
  refine am_call (y := 133) (vs := [.ref 14]) (rest := []) (v := (some (.int (nI c)))) (h1 := (hG τ sr ln Lc μ)) rfl rfl rfl (hwk (d + 2)) ?_
  refine am_g 3 (if (nI c) ≤ 0 then 64 else 49) [some (.ref 14), some (.int (nI n)), some (.int (nI B)), some (.int 2), some (.ref 23), some (.int (nI c)), none, none] [] (hG τ sr ln Lc μ) rfl ?_
  rw [if_pos (show (nI c) ≤ 0 from (by rw [hc0]; decide))]
  refine am_g 5 74 [some (.ref 14), some (.int (nI n)), some (.int (nI B)), some (.int 2), some (.ref 23), some (.int (nI c)), some (.int 0), none] [.int (τ 11 0), .int 0] (hG τ sr ln Lc μ) rfl ?_
  rw [show (τ 11 0) = (nI N) from hr]
  refine am_g 1 (if (nI N) ≤ 0 then 81 else 77) [some (.ref 14), some (.int (nI n)), some (.int (nI B)), some (.int 2), some (.ref 23), some (.int (nI c)), some (.int 0), none] [] (hG τ sr ln Lc μ) rfl (am_brR (fun c1 => ?_) (fun c1 => ?_))
  · skip
    refine am_g 11 105 [some (.ref 14), some (.int (nI n)), some (.int (nI B)), some (.int 2), some (.ref 23), some (.int (nI c)), some (.int 0), some (.int 0)] [.int (0 * (nI c))] (hG τ sr ln Lc μ) rfl ?_
    exact am_ret2 rfl rfl rfl rfl rfl
  · skip
    refine am_g 12 105 [some (.ref 14), some (.int (nI n)), some (.int (nI B)), some (.int 2), some (.ref 23), some (.int (nI c)), some (.int 0), some (.int 1)] [.int (0 * (nI c))] (hG τ sr ln Lc μ) rfl ?_
    exact am_ret2 rfl rfl rfl rfl rfl
theorem sp_X11_ask_bad (d : Nat) (n B w : Int32) (hbad : (am_in n 20 && (decide ((0 : Int32) ≤ B ∧ B ≤ 99999) && am_in w 3)) = false) : am_X xs LL (d + 3) 104 [.ref 14, .int n, .int B, .int w] (hG σ sr ln Lc μ) (some (.int (-2))) (hG σ sr ln Lc μ) := by
  refine am_XR (d := d + 2) (C := cd_X11_ask) (L := [some (.ref 14), some (.int n), some (.int B), some (.int w), none, none, none, none]) rfl rfl rfl rfl ?_
  refine am_g 1 1 [some (.ref 14), some (.int n), some (.int B), some (.int w), none, none, none, none] [.int n] (hG σ sr ln Lc μ) rfl ?_
  cases e1 : am_in n 20 with
  | false =>
    refine am_call (y := 123) (vs := [.int n]) (rest := []) (v := (some (.int 0))) (h1 := (hG σ sr ln Lc μ)) rfl rfl rfl (sp_X11_isName d _ _ e1) ?_
    refine am_g 2 28 [some (.ref 14), some (.int n), some (.int B), some (.int w), none, none, none, none] [.int (-2)] (hG σ sr ln Lc μ) rfl ?_
    exact am_ret2 rfl rfl rfl rfl rfl
  | true =>
    refine am_call (y := 123) (vs := [.int n]) (rest := []) (v := (some (.int 1))) (h1 := (hG σ sr ln Lc μ)) rfl rfl rfl (sp_X11_isName d _ _ e1) ?_
    refine am_g 4 11 [some (.ref 14), some (.int n), some (.int B), some (.int w), none, none, none, none] [.int 99999, .int 0, .int B] (hG σ sr ln Lc μ) rfl ?_
    cases e2 : decide (0 ≤ B ∧ B ≤ 99999) with
    | false =>
      refine am_call (y := 122) (vs := [.int B, .int 0, .int 99999]) (rest := []) (v := (some (.int 0))) (h1 := (hG σ sr ln Lc μ)) rfl rfl rfl (sp_X11_isWithin_b (d + 1) _ _ _ _ e2) ?_
      refine am_g 2 28 [some (.ref 14), some (.int n), some (.int B), some (.int w), none, none, none, none] [.int (-2)] (hG σ sr ln Lc μ) rfl ?_
      exact am_ret2 rfl rfl rfl rfl rfl
    | true =>
      refine am_call (y := 122) (vs := [.int B, .int 0, .int 99999]) (rest := []) (v := (some (.int 1))) (h1 := (hG σ sr ln Lc μ)) rfl rfl rfl (sp_X11_isWithin_b (d + 1) _ _ _ _ e2) ?_
      refine am_g 4 20 [some (.ref 14), some (.int n), some (.int B), some (.int w), none, none, none, none] [.int 2, .int 0, .int w] (hG σ sr ln Lc μ) rfl ?_
      cases e3 : decide (0 ≤ w ∧ w ≤ 2) with
      | false =>
        refine am_call (y := 122) (vs := [.int w, .int 0, .int 2]) (rest := []) (v := (some (.int 0))) (h1 := (hG σ sr ln Lc μ)) rfl rfl rfl (sp_X11_isWithin_b (d + 1) _ _ _ _ e3) ?_
        refine am_g 2 28 [some (.ref 14), some (.int n), some (.int B), some (.int w), none, none, none, none] [.int (-2)] (hG σ sr ln Lc μ) rfl ?_
        exact am_ret2 rfl rfl rfl rfl rfl
      | true =>
        refine am_call (y := 122) (vs := [.int w, .int 0, .int 2]) (rest := []) (v := (some (.int 1))) (h1 := (hG σ sr ln Lc μ)) rfl rfl rfl (sp_X11_isWithin_b (d + 1) _ _ _ _ e3) ?_
        refine am_g 1 29 [some (.ref 14), some (.int n), some (.int B), some (.int w), none, none, none, none] [] (hG σ sr ln Lc μ) rfl ?_
        rw [am_wi (n := 3) (by decide)] at e3
        rw [e1, e2, e3] at hbad
        cases hbad
def pu_omS (ln : Nat → Nat → Int32) (mk : Nat → Nat) (o : Nat) (a : Int32) : Int32 := if ln (mk o) 6 = 0 then a else a ||| 1 <<< (nI o &&& 31)
theorem sp_X12_ask_p0 (d : Nat) (n : Nat) (hn : n < 20) (B : Nat) (hB : B < 100000) {N : Nat} (hN : N < 2000) (hr : ν 26 0 = nI N) (hRL : am_RL sr ln Lc ν) (hL40 : Lc ≤ 40) (hO : ν 19 0 = nI O) (hO16 : O ≤ 16) (mk : Nat → Nat) (hmk : ∀ o, o < O → ν 18 o = nI (mk o) ∧ mk o < Lc) {c : Nat} (hc : c < 1000) (hwk : ∀ d, am_X xs LL (d + 2) 181 [.ref 47] (hG σ sr ln Lc μ) (some (.int (nI c))) (hG σ sr ln Lc μ)) (hc0 : 0 < c) (hw : ∀ d, am_X xs LL (d + 6) 173 [.ref 47, .int 0, .int (-1)] (hG σ sr ln Lc μ) none (hG σ sr ln Lc ν)) : am_X xs LL (d + 7) 182 [.ref 47, .int (nI n), .int (nI B), .int 0] (hG σ sr ln Lc μ) (some (.int (if (nI N) ≤ (nI (min (B / c) N)) then (ν 24 n) else (am_it (pu_omS ln mk) 0 O)))) (hG σ sr ln Lc ν) := by
  refine am_XR (d := d + 6) (C := cd_X12_ask) (L := [some (.ref 47), some (.int (nI n)), some (.int (nI B)), some (.int 0), none, none, none, none, none, none, none]) rfl rfl rfl rfl ?_
  refine am_g 1 1 [some (.ref 47), some (.int (nI n)), some (.int (nI B)), some (.int 0), none, none, none, none, none, none, none] [.int (nI n)] (hG σ sr ln Lc μ) rfl ?_
  refine am_call (y := 143) (vs := [.int (nI n)]) (rest := []) (v := (some (.int 1))) (h1 := (hG σ sr ln Lc μ)) rfl rfl rfl (sp_X12_isName (d + 4) _ _ (am_in_of_nI hn (by omega))) ?_
  refine am_g 5 13 [some (.ref 47), some (.int (nI n)), some (.int (nI B)), some (.int 0), none, none, none, none, none, none, none] [.long 99999, .long 0, .long ((nI B).toInt64)] (hG σ sr ln Lc μ) rfl ?_
  refine am_call (y := 140) (vs := [.long ((nI B).toInt64), .long 0, .long 99999]) (rest := []) (v := (some (.int 1))) (h1 := (hG σ sr ln Lc μ)) rfl rfl rfl (sp_X12_in_b (d + 5) _ _ _ _ (am_b99 hB)) ?_
  refine am_g 5 25 [some (.ref 47), some (.int (nI n)), some (.int (nI B)), some (.int 0), none, none, none, none, none, none, none] [.long 2, .long 0, .long ((0 : Int32).toInt64)] (hG σ sr ln Lc μ) rfl ?_
  refine am_call (y := 140) (vs := [.long ((0 : Int32).toInt64), .long 0, .long 2]) (rest := []) (v := (some (.int 1))) (h1 := (hG σ sr ln Lc μ)) rfl rfl rfl (sp_X12_in_b (d + 5) _ _ _ _ (show decide ((0 : Int64) ≤ (0 : Int32).toInt64 ∧ (0 : Int32).toInt64 ≤ 2) = true from by decide)) ?_
  refine am_g 2 35 [some (.ref 47), some (.int (nI n)), some (.int (nI B)), some (.int 0), none, none, none, none, none, none, none] [.ref 47] (hG σ sr ln Lc μ) rfl ?_
  refine am_call (y := 181) (vs := [.ref 47]) (rest := []) (v := (some (.int (nI c)))) (h1 := (hG σ sr ln Lc μ)) rfl rfl rfl (hwk (d + 4)) ?_
  refine am_g 4 43 [some (.ref 47), some (.int (nI n)), some (.int (nI B)), some (.int 0), some (.int (nI c)), none, none, none, none, none, none] [.int (-1), .int 0, .ref 47] (hG σ sr ln Lc μ) rfl ?_
  refine am_call (y := 173) (vs := [.ref 47, .int 0, .int (-1)]) (rest := []) (v := none) (h1 := (hG σ sr ln Lc ν)) rfl rfl rfl (hw d) ?_
  refine am_g 2 50 [some (.ref 47), some (.int (nI n)), some (.int (nI B)), some (.int 0), some (.int (nI c)), none, none, none, none, none, none] [.int (ν 26 0)] (hG σ sr ln Lc ν) rfl ?_
  rw [show (ν 26 0) = (nI N) from hr]
  refine am_g 3 (if (nI c) = 0 then 57 else 62) [some (.ref 47), some (.int (nI n)), some (.int (nI B)), some (.int 0), some (.int (nI c)), some (.int (nI N)), none, none, none, none, none] [] (hG σ sr ln Lc ν) rfl ?_
  rw [if_neg (show ¬ (nI c) = 0 from (nI_ne0 hc0 (by omega)))]
  refine am_g 2 65 [some (.ref 47), some (.int (nI n)), some (.int (nI B)), some (.int 0), some (.int (nI c)), some (.int (nI N)), none, none, none, none, none] [.int (nI c), .int (nI B)] (hG σ sr ln Lc ν) rfl ?_
  refine am_idivR rfl ((nI_ne0 hc0 (by omega))) ?_
  refine am_g 4 (if (nI N) ≤ ((nI B) / (nI c)) then 80 else 75) [some (.ref 47), some (.int (nI n)), some (.int (nI B)), some (.int 0), some (.int (nI c)), some (.int (nI N)), some (.int ((nI B) / (nI c))), none, none, none, none] [] (hG σ sr ln Lc ν) rfl (am_brR (fun c1 => ?_) (fun c1 => ?_))
  · skip
    refine am_g 1 82 [some (.ref 47), some (.int (nI n)), some (.int (nI B)), some (.int 0), some (.int (nI c)), some (.int (nI N)), some (.int ((nI B) / (nI c))), none, none, none, none] [.int (nI N)] (hG σ sr ln Lc ν) rfl ?_
    have hdl := Nat.div_le_self B c
    have hle : N ≤ B / c := (nI_leI (by omega) (by omega)).mp (nI_div (show B < 2 ^ 31 by omega) (show c < 2 ^ 31 by omega) ▸ c1)
    rw [Nat.min_eq_right hle]
    refine am_g 4 (if (nI N) ≤ (nI N) then 95 else 91) [some (.ref 47), some (.int (nI n)), some (.int (nI B)), some (.int 0), some (.int (nI c)), some (.int (nI N)), some (.int ((nI B) / (nI c))), some (.int (nI N)), none, none, none] [] (hG σ sr ln Lc ν) rfl ?_
    rw [if_pos (show (nI N) ≤ (nI N) from (Int32.le_refl _))]
    refine am_g 13 135 [some (.ref 47), some (.int (nI n)), some (.int (nI B)), some (.int 0), some (.int (nI c)), some (.int (nI N)), some (.int ((nI B) / (nI c))), some (.int (nI N)), some (.int 0), none, none] [.int (nI n), .ref 65] (hG σ sr ln Lc ν) rfl ?_
    refine am_ialdR (n := 68) (f := (ν 24)) (k := n) rfl rfl (rfl) (by omega) (by decide) ?_
    exact am_ret2 rfl rfl rfl (by rw [if_pos (Int32.le_refl _)]) rfl
  · skip
    refine am_g 2 82 [some (.ref 47), some (.int (nI n)), some (.int (nI B)), some (.int 0), some (.int (nI c)), some (.int (nI N)), some (.int ((nI B) / (nI c))), none, none, none, none] [.int ((nI B) / (nI c))] (hG σ sr ln Lc ν) rfl ?_
    have hdl := Nat.div_le_self B c
    have hdv : nI B / nI c = nI (B / c) := nI_div (by omega) (by omega)
    have hlt : ¬ nI N ≤ nI (B / c) := by rw [← hdv]; exact c1
    have hlt2 : B / c ≤ N := Nat.le_of_not_le (fun q => hlt (nI_le q (by omega)))
    rw [Nat.min_eq_left hlt2, hdv]
    refine am_g 4 (if (nI N) ≤ (nI (B / c)) then 95 else 91) [some (.ref 47), some (.int (nI n)), some (.int (nI B)), some (.int 0), some (.int (nI c)), some (.int (nI N)), some (.int (nI (B / c))), some (.int (nI (B / c))), none, none, none] [] (hG σ sr ln Lc ν) rfl ?_
    rw [if_neg (show ¬ (nI N) ≤ (nI (B / c)) from hlt)]
    refine am_g 15 143 [some (.ref 47), some (.int (nI n)), some (.int (nI B)), some (.int 0), some (.int (nI c)), some (.int (nI N)), some (.int (nI (B / c))), some (.int (nI (B / c))), some (.int 1), some (.int 0), some (.int 0)] [] (hG σ sr ln Lc ν) rfl ?_
    have lp : ∀ (r o : Nat) (w6 : Option Value), o + r = O → am_R xs LL cd_X12_ask (am_X xs LL (d + 6)) 143 [some (.ref 47), some (.int (nI n)), some (.int (nI B)), some (.int 0), some (.int (nI c)), some (.int (nI N)), w6, some (.int (nI (B / c))), some (.int 1), some (.int (am_it (pu_omS ln mk) 0 o)), some (.int (nI o))] [] (hG σ sr ln Lc ν) (some (.int (if (nI N) ≤ (nI (B / c)) then (ν 24 n) else (am_it (pu_omS ln mk) 0 O)))) (hG σ sr ln Lc ν) := by
      intro r
      induction r with
      | zero =>
        intro o w6 hi
        have hi2 : o = O := by omega
        rw [hi2]
        refine am_g 3 149 [some (.ref 47), some (.int (nI n)), some (.int (nI B)), some (.int 0), some (.int (nI c)), some (.int (nI N)), w6, some (.int (nI (B / c))), some (.int 1), some (.int (am_it (pu_omS ln mk) 0 O)), some (.int (nI O))] [.int (ν 19 0), .int (nI O)] (hG σ sr ln Lc ν) rfl ?_
        rw [show (ν 19 0) = (nI O) from hO]
        refine am_g 1 (if (nI O) ≤ (nI O) then 186 else 152) [some (.ref 47), some (.int (nI n)), some (.int (nI B)), some (.int 0), some (.int (nI c)), some (.int (nI N)), w6, some (.int (nI (B / c))), some (.int 1), some (.int (am_it (pu_omS ln mk) 0 O)), some (.int (nI O))] [] (hG σ sr ln Lc ν) rfl ?_
        rw [if_pos (show (nI O) ≤ (nI O) from (am_dle (a := O) (b := O) (rfl) (rfl) (by omega) (by omega) (by omega)))]
        refine am_g 1 188 [some (.ref 47), some (.int (nI n)), some (.int (nI B)), some (.int 0), some (.int (nI c)), some (.int (nI N)), w6, some (.int (nI (B / c))), some (.int 1), some (.int (am_it (pu_omS ln mk) 0 O)), some (.int (nI O))] [.int (am_it (pu_omS ln mk) 0 O)] (hG σ sr ln Lc ν) rfl ?_
        exact am_ret2 rfl rfl rfl (by rw [if_neg hlt]) rfl
      | succ r ih =>
        intro o w6 hi
        have hi2 : o < O := by omega
        refine am_g 3 149 [some (.ref 47), some (.int (nI n)), some (.int (nI B)), some (.int 0), some (.int (nI c)), some (.int (nI N)), w6, some (.int (nI (B / c))), some (.int 1), some (.int (am_it (pu_omS ln mk) 0 o)), some (.int (nI o))] [.int (ν 19 0), .int (nI o)] (hG σ sr ln Lc ν) rfl ?_
        rw [show (ν 19 0) = (nI O) from hO]
        refine am_g 1 (if (nI O) ≤ (nI o) then 186 else 152) [some (.ref 47), some (.int (nI n)), some (.int (nI B)), some (.int 0), some (.int (nI c)), some (.int (nI N)), w6, some (.int (nI (B / c))), some (.int 1), some (.int (am_it (pu_omS ln mk) 0 o)), some (.int (nI o))] [] (hG σ sr ln Lc ν) rfl ?_
        rw [if_neg (show ¬ (nI O) ≤ (nI o) from (am_dnle (a := O) (b := o) (rfl) (rfl) (by omega) (by omega) (by omega)))]
        refine am_g 6 164 [some (.ref 47), some (.int (nI n)), some (.int (nI B)), some (.int 0), some (.int (nI c)), some (.int (nI N)), w6, some (.int (nI (B / c))), some (.int 1), some (.int (am_it (pu_omS ln mk) 0 o)), some (.int (nI o))] [.int (nI o), .ref 63, .ref 60, .int (am_it (pu_omS ln mk) 0 o)] (hG σ sr ln Lc ν) rfl ?_
        refine am_ialdV (n := 16) (f := (ν 18)) (k := o) (w := (nI (mk o))) rfl rfl (rfl) (by omega) (by decide) ((hmk o hi2).1) ?_
        refine am_baldV (n := 40) (f := (ν 14)) (k := (mk o)) (w := (ln (mk o) 6)) rfl rfl (rfl) (by have := (hmk o hi2).2; omega) (by decide) (hRL.2.2.2.2.2.2.2.2.1 (mk o) (hmk o hi2).2) ?_
        refine am_g 1 (if (ln (mk o) 6) = 0 then 176 else 169) [some (.ref 47), some (.int (nI n)), some (.int (nI B)), some (.int 0), some (.int (nI c)), some (.int (nI N)), w6, some (.int (nI (B / c))), some (.int 1), some (.int (am_it (pu_omS ln mk) 0 o)), some (.int (nI o))] [.int (am_it (pu_omS ln mk) 0 o)] (hG σ sr ln Lc ν) rfl (am_brR (fun c2 => ?_) (fun c2 => ?_))
        · skip
          refine am_g 5 143 [some (.ref 47), some (.int (nI n)), some (.int (nI B)), some (.int 0), some (.int (nI c)), some (.int (nI N)), w6, some (.int (nI (B / c))), some (.int 1), some (.int ((am_it (pu_omS ln mk) 0 o) ||| 0)), some (.int ((nI o) + 1))] [] (hG σ sr ln Lc ν) rfl ?_
          have qq : (am_it (pu_omS ln mk) 0 (o + 1)) = ((am_it (pu_omS ln mk) 0 o) ||| 0) := by
            rw [am_itS]
            exact (if_pos c2).trans (am_or0 _).symm
          rw [nI_up, ← qq]
          exact ih (o + 1) _ (by omega)
        · skip
          refine am_g 8 143 [some (.ref 47), some (.int (nI n)), some (.int (nI B)), some (.int 0), some (.int (nI c)), some (.int (nI N)), w6, some (.int (nI (B / c))), some (.int 1), some (.int ((am_it (pu_omS ln mk) 0 o) ||| (1 <<< ((nI o) &&& 31)))), some (.int ((nI o) + 1))] [] (hG σ sr ln Lc ν) rfl ?_
          have qq : (am_it (pu_omS ln mk) 0 (o + 1)) = ((am_it (pu_omS ln mk) 0 o) ||| (1 <<< ((nI o) &&& 31))) := by
            rw [am_itS]
            exact if_neg c2
          rw [nI_up, ← qq]
          exact ih (o + 1) _ (by omega)
    exact lp O 0 _ (by omega)
theorem sp_X12_ask_p1 (d : Nat) (n : Nat) (hn : n < 20) (B : Nat) (hB : B < 100000) {N : Nat} (hN : N < 2000) (hr : ν 26 0 = nI N) (hRL : am_RL sr ln Lc ν) (hL40 : Lc ≤ 40) (hO : ν 19 0 = nI O) (hO16 : O ≤ 16) (mk : Nat → Nat) (hmk : ∀ o, o < O → ν 18 o = nI (mk o) ∧ mk o < Lc) {c : Nat} (hc : c < 1000) (hwk : ∀ d, am_X xs LL (d + 2) 181 [.ref 47] (hG σ sr ln Lc μ) (some (.int (nI c))) (hG σ sr ln Lc μ)) (hc0 : 0 < c) (hw : ∀ d, am_X xs LL (d + 6) 173 [.ref 47, .int 0, .int (-1)] (hG σ sr ln Lc μ) none (hG σ sr ln Lc ν)) : am_X xs LL (d + 7) 182 [.ref 47, .int (nI n), .int (nI B), .int 1] (hG σ sr ln Lc μ) (some (.int (if (nI N) ≤ (nI (min (B / c) N)) then 0 else 1))) (hG σ sr ln Lc ν) := by
  refine am_XR (d := d + 6) (C := cd_X12_ask) (L := [some (.ref 47), some (.int (nI n)), some (.int (nI B)), some (.int 1), none, none, none, none, none, none, none]) rfl rfl rfl rfl ?_
  refine am_g 1 1 [some (.ref 47), some (.int (nI n)), some (.int (nI B)), some (.int 1), none, none, none, none, none, none, none] [.int (nI n)] (hG σ sr ln Lc μ) rfl ?_
  refine am_call (y := 143) (vs := [.int (nI n)]) (rest := []) (v := (some (.int 1))) (h1 := (hG σ sr ln Lc μ)) rfl rfl rfl (sp_X12_isName (d + 4) _ _ (am_in_of_nI hn (by omega))) ?_
  refine am_g 5 13 [some (.ref 47), some (.int (nI n)), some (.int (nI B)), some (.int 1), none, none, none, none, none, none, none] [.long 99999, .long 0, .long ((nI B).toInt64)] (hG σ sr ln Lc μ) rfl ?_
  refine am_call (y := 140) (vs := [.long ((nI B).toInt64), .long 0, .long 99999]) (rest := []) (v := (some (.int 1))) (h1 := (hG σ sr ln Lc μ)) rfl rfl rfl (sp_X12_in_b (d + 5) _ _ _ _ (am_b99 hB)) ?_
  refine am_g 5 25 [some (.ref 47), some (.int (nI n)), some (.int (nI B)), some (.int 1), none, none, none, none, none, none, none] [.long 2, .long 0, .long ((1 : Int32).toInt64)] (hG σ sr ln Lc μ) rfl ?_
  refine am_call (y := 140) (vs := [.long ((1 : Int32).toInt64), .long 0, .long 2]) (rest := []) (v := (some (.int 1))) (h1 := (hG σ sr ln Lc μ)) rfl rfl rfl (sp_X12_in_b (d + 5) _ _ _ _ (show decide ((0 : Int64) ≤ (1 : Int32).toInt64 ∧ (1 : Int32).toInt64 ≤ 2) = true from by decide)) ?_
  refine am_g 2 35 [some (.ref 47), some (.int (nI n)), some (.int (nI B)), some (.int 1), none, none, none, none, none, none, none] [.ref 47] (hG σ sr ln Lc μ) rfl ?_
  refine am_call (y := 181) (vs := [.ref 47]) (rest := []) (v := (some (.int (nI c)))) (h1 := (hG σ sr ln Lc μ)) rfl rfl rfl (hwk (d + 4)) ?_
  refine am_g 4 43 [some (.ref 47), some (.int (nI n)), some (.int (nI B)), some (.int 1), some (.int (nI c)), none, none, none, none, none, none] [.int (-1), .int 0, .ref 47] (hG σ sr ln Lc μ) rfl ?_
  refine am_call (y := 173) (vs := [.ref 47, .int 0, .int (-1)]) (rest := []) (v := none) (h1 := (hG σ sr ln Lc ν)) rfl rfl rfl (hw d) ?_
  refine am_g 2 50 [some (.ref 47), some (.int (nI n)), some (.int (nI B)), some (.int 1), some (.int (nI c)), none, none, none, none, none, none] [.int (ν 26 0)] (hG σ sr ln Lc ν) rfl ?_
  rw [show (ν 26 0) = (nI N) from hr]
  refine am_g 3 (if (nI c) = 0 then 57 else 62) [some (.ref 47), some (.int (nI n)), some (.int (nI B)), some (.int 1), some (.int (nI c)), some (.int (nI N)), none, none, none, none, none] [] (hG σ sr ln Lc ν) rfl ?_
  rw [if_neg (show ¬ (nI c) = 0 from (nI_ne0 hc0 (by omega)))]
  refine am_g 2 65 [some (.ref 47), some (.int (nI n)), some (.int (nI B)), some (.int 1), some (.int (nI c)), some (.int (nI N)), none, none, none, none, none] [.int (nI c), .int (nI B)] (hG σ sr ln Lc ν) rfl ?_
  refine am_idivR rfl ((nI_ne0 hc0 (by omega))) ?_
  refine am_g 4 (if (nI N) ≤ ((nI B) / (nI c)) then 80 else 75) [some (.ref 47), some (.int (nI n)), some (.int (nI B)), some (.int 1), some (.int (nI c)), some (.int (nI N)), some (.int ((nI B) / (nI c))), none, none, none, none] [] (hG σ sr ln Lc ν) rfl (am_brR (fun c1 => ?_) (fun c1 => ?_))
  · skip
    refine am_g 1 82 [some (.ref 47), some (.int (nI n)), some (.int (nI B)), some (.int 1), some (.int (nI c)), some (.int (nI N)), some (.int ((nI B) / (nI c))), none, none, none, none] [.int (nI N)] (hG σ sr ln Lc ν) rfl ?_
    have hdl := Nat.div_le_self B c
    have hle : N ≤ B / c := (nI_leI (by omega) (by omega)).mp (nI_div (show B < 2 ^ 31 by omega) (show c < 2 ^ 31 by omega) ▸ c1)
    rw [Nat.min_eq_right hle]
    refine am_g 4 (if (nI N) ≤ (nI N) then 95 else 91) [some (.ref 47), some (.int (nI n)), some (.int (nI B)), some (.int 1), some (.int (nI c)), some (.int (nI N)), some (.int ((nI B) / (nI c))), some (.int (nI N)), none, none, none] [] (hG σ sr ln Lc ν) rfl ?_
    rw [if_pos (show (nI N) ≤ (nI N) from (Int32.le_refl _))]
    refine am_g 8 113 [some (.ref 47), some (.int (nI n)), some (.int (nI B)), some (.int 1), some (.int (nI c)), some (.int (nI N)), some (.int ((nI B) / (nI c))), some (.int (nI N)), some (.int 0), none, none] [.int 0] (hG σ sr ln Lc ν) rfl ?_
    exact am_ret2 rfl rfl rfl (by rw [if_pos (Int32.le_refl _)]) rfl
  · skip
    refine am_g 2 82 [some (.ref 47), some (.int (nI n)), some (.int (nI B)), some (.int 1), some (.int (nI c)), some (.int (nI N)), some (.int ((nI B) / (nI c))), none, none, none, none] [.int ((nI B) / (nI c))] (hG σ sr ln Lc ν) rfl ?_
    have hdl := Nat.div_le_self B c
    have hdv : nI B / nI c = nI (B / c) := nI_div (by omega) (by omega)
    have hlt : ¬ nI N ≤ nI (B / c) := by rw [← hdv]; exact c1
    have hlt2 : B / c ≤ N := Nat.le_of_not_le (fun q => hlt (nI_le q (by omega)))
    rw [Nat.min_eq_left hlt2, hdv]
    refine am_g 4 (if (nI N) ≤ (nI (B / c)) then 95 else 91) [some (.ref 47), some (.int (nI n)), some (.int (nI B)), some (.int 1), some (.int (nI c)), some (.int (nI N)), some (.int (nI (B / c))), some (.int (nI (B / c))), none, none, none] [] (hG σ sr ln Lc ν) rfl ?_
    rw [if_neg (show ¬ (nI N) ≤ (nI (B / c)) from hlt)]
    refine am_g 10 113 [some (.ref 47), some (.int (nI n)), some (.int (nI B)), some (.int 1), some (.int (nI c)), some (.int (nI N)), some (.int (nI (B / c))), some (.int (nI (B / c))), some (.int 1), none, none] [.int 1] (hG σ sr ln Lc ν) rfl ?_
    exact am_ret2 rfl rfl rfl (by rw [if_neg hlt]) rfl
theorem sp_X12_ask_p2 (d : Nat) (n : Nat) (hn : n < 20) (B : Nat) (hB : B < 100000) {N : Nat} (hN : N < 2000) (hr : ν 26 0 = nI N) (hRL : am_RL sr ln Lc ν) (hL40 : Lc ≤ 40) (hO : ν 19 0 = nI O) (hO16 : O ≤ 16) (mk : Nat → Nat) (hmk : ∀ o, o < O → ν 18 o = nI (mk o) ∧ mk o < Lc) {c : Nat} (hc : c < 1000) (hwk : ∀ d, am_X xs LL (d + 2) 181 [.ref 47] (hG σ sr ln Lc μ) (some (.int (nI c))) (hG σ sr ln Lc μ)) (hc0 : 0 < c) (hw : ∀ d, am_X xs LL (d + 6) 173 [.ref 47, .int 0, .int (-1)] (hG σ sr ln Lc μ) none (hG σ sr ln Lc ν)) : am_X xs LL (d + 7) 182 [.ref 47, .int (nI n), .int (nI B), .int 2] (hG σ sr ln Lc μ) (some (.int ((nI (min (B / c) N)) * (nI c)))) (hG σ sr ln Lc ν) := by
  refine am_XR (d := d + 6) (C := cd_X12_ask) (L := [some (.ref 47), some (.int (nI n)), some (.int (nI B)), some (.int 2), none, none, none, none, none, none, none]) rfl rfl rfl rfl ?_
  refine am_g 1 1 [some (.ref 47), some (.int (nI n)), some (.int (nI B)), some (.int 2), none, none, none, none, none, none, none] [.int (nI n)] (hG σ sr ln Lc μ) rfl ?_
  refine am_call (y := 143) (vs := [.int (nI n)]) (rest := []) (v := (some (.int 1))) (h1 := (hG σ sr ln Lc μ)) rfl rfl rfl (sp_X12_isName (d + 4) _ _ (am_in_of_nI hn (by omega))) ?_
  refine am_g 5 13 [some (.ref 47), some (.int (nI n)), some (.int (nI B)), some (.int 2), none, none, none, none, none, none, none] [.long 99999, .long 0, .long ((nI B).toInt64)] (hG σ sr ln Lc μ) rfl ?_
  refine am_call (y := 140) (vs := [.long ((nI B).toInt64), .long 0, .long 99999]) (rest := []) (v := (some (.int 1))) (h1 := (hG σ sr ln Lc μ)) rfl rfl rfl (sp_X12_in_b (d + 5) _ _ _ _ (am_b99 hB)) ?_
  refine am_g 5 25 [some (.ref 47), some (.int (nI n)), some (.int (nI B)), some (.int 2), none, none, none, none, none, none, none] [.long 2, .long 0, .long ((2 : Int32).toInt64)] (hG σ sr ln Lc μ) rfl ?_
  refine am_call (y := 140) (vs := [.long ((2 : Int32).toInt64), .long 0, .long 2]) (rest := []) (v := (some (.int 1))) (h1 := (hG σ sr ln Lc μ)) rfl rfl rfl (sp_X12_in_b (d + 5) _ _ _ _ (show decide ((0 : Int64) ≤ (2 : Int32).toInt64 ∧ (2 : Int32).toInt64 ≤ 2) = true from by decide)) ?_
  refine am_g 2 35 [some (.ref 47), some (.int (nI n)), some (.int (nI B)), some (.int 2), none, none, none, none, none, none, none] [.ref 47] (hG σ sr ln Lc μ) rfl ?_
  refine am_call (y := 181) (vs := [.ref 47]) (rest := []) (v := (some (.int (nI c)))) (h1 := (hG σ sr ln Lc μ)) rfl rfl rfl (hwk (d + 4)) ?_
  refine am_g 4 43 [some (.ref 47), some (.int (nI n)), some (.int (nI B)), some (.int 2), some (.int (nI c)), none, none, none, none, none, none] [.int (-1), .int 0, .ref 47] (hG σ sr ln Lc μ) rfl ?_
  refine am_call (y := 173) (vs := [.ref 47, .int 0, .int (-1)]) (rest := []) (v := none) (h1 := (hG σ sr ln Lc ν)) rfl rfl rfl (hw d) ?_
  refine am_g 2 50 [some (.ref 47), some (.int (nI n)), some (.int (nI B)), some (.int 2), some (.int (nI c)), none, none, none, none, none, none] [.int (ν 26 0)] (hG σ sr ln Lc ν) rfl ?_
  rw [show (ν 26 0) = (nI N) from hr]
  refine am_g 3 (if (nI c) = 0 then 57 else 62) [some (.ref 47), some (.int (nI n)), some (.int (nI B)), some (.int 2), some (.int (nI c)), some (.int (nI N)), none, none, none, none, none] [] (hG σ sr ln Lc ν) rfl ?_
  rw [if_neg (show ¬ (nI c) = 0 from (nI_ne0 hc0 (by omega)))]
  refine am_g 2 65 [some (.ref 47), some (.int (nI n)), some (.int (nI B)), some (.int 2), some (.int (nI c)), some (.int (nI N)), none, none, none, none, none] [.int (nI c), .int (nI B)] (hG σ sr ln Lc ν) rfl ?_
  refine am_idivR rfl ((nI_ne0 hc0 (by omega))) ?_
  refine am_g 4 (if (nI N) ≤ ((nI B) / (nI c)) then 80 else 75) [some (.ref 47), some (.int (nI n)), some (.int (nI B)), some (.int 2), some (.int (nI c)), some (.int (nI N)), some (.int ((nI B) / (nI c))), none, none, none, none] [] (hG σ sr ln Lc ν) rfl (am_brR (fun c1 => ?_) (fun c1 => ?_))
  · skip
    refine am_g 1 82 [some (.ref 47), some (.int (nI n)), some (.int (nI B)), some (.int 2), some (.int (nI c)), some (.int (nI N)), some (.int ((nI B) / (nI c))), none, none, none, none] [.int (nI N)] (hG σ sr ln Lc ν) rfl ?_
    have hdl := Nat.div_le_self B c
    have hle : N ≤ B / c := (nI_leI (by omega) (by omega)).mp (nI_div (show B < 2 ^ 31 by omega) (show c < 2 ^ 31 by omega) ▸ c1)
    rw [Nat.min_eq_right hle]
    refine am_g 4 (if (nI N) ≤ (nI N) then 95 else 91) [some (.ref 47), some (.int (nI n)), some (.int (nI B)), some (.int 2), some (.int (nI c)), some (.int (nI N)), some (.int ((nI B) / (nI c))), some (.int (nI N)), none, none, none] [] (hG σ sr ln Lc ν) rfl ?_
    rw [if_pos (show (nI N) ≤ (nI N) from (Int32.le_refl _))]
    refine am_g 11 124 [some (.ref 47), some (.int (nI n)), some (.int (nI B)), some (.int 2), some (.int (nI c)), some (.int (nI N)), some (.int ((nI B) / (nI c))), some (.int (nI N)), some (.int 0), none, none] [.int ((nI N) * (nI c))] (hG σ sr ln Lc ν) rfl ?_
    exact am_ret2 rfl rfl rfl rfl rfl
  · skip
    refine am_g 2 82 [some (.ref 47), some (.int (nI n)), some (.int (nI B)), some (.int 2), some (.int (nI c)), some (.int (nI N)), some (.int ((nI B) / (nI c))), none, none, none, none] [.int ((nI B) / (nI c))] (hG σ sr ln Lc ν) rfl ?_
    have hdl := Nat.div_le_self B c
    have hdv : nI B / nI c = nI (B / c) := nI_div (by omega) (by omega)
    have hlt : ¬ nI N ≤ nI (B / c) := by rw [← hdv]; exact c1
    have hlt2 : B / c ≤ N := Nat.le_of_not_le (fun q => hlt (nI_le q (by omega)))
    rw [Nat.min_eq_left hlt2, hdv]
    refine am_g 4 (if (nI N) ≤ (nI (B / c)) then 95 else 91) [some (.ref 47), some (.int (nI n)), some (.int (nI B)), some (.int 2), some (.int (nI c)), some (.int (nI N)), some (.int (nI (B / c))), some (.int (nI (B / c))), none, none, none] [] (hG σ sr ln Lc ν) rfl ?_
    rw [if_neg (show ¬ (nI N) ≤ (nI (B / c)) from hlt)]
    refine am_g 12 124 [some (.ref 47), some (.int (nI n)), some (.int (nI B)), some (.int 2), some (.int (nI c)), some (.int (nI N)), some (.int (nI (B / c))), some (.int (nI (B / c))), some (.int 1), none, none] [.int ((nI (B / c)) * (nI c))] (hG σ sr ln Lc ν) rfl ?_
    exact am_ret2 rfl rfl rfl rfl rfl
theorem sp_X12_ask_z0 (d : Nat) (n : Nat) (hn : n < 20) (B : Nat) (hB : B < 100000) {N : Nat} (hN : N < 2000) (hr : ν 26 0 = nI N) (hRL : am_RL sr ln Lc ν) (hL40 : Lc ≤ 40) (hO : ν 19 0 = nI O) (hO16 : O ≤ 16) (mk : Nat → Nat) (hmk : ∀ o, o < O → ν 18 o = nI (mk o) ∧ mk o < Lc) {c : Nat} (hc : c < 1000) (hwk : ∀ d, am_X xs LL (d + 2) 181 [.ref 47] (hG σ sr ln Lc μ) (some (.int (nI c))) (hG σ sr ln Lc μ)) (hc0 : c = 0) (hw : ∀ d, am_X xs LL (d + 6) 173 [.ref 47, .int 0, .int (-1)] (hG σ sr ln Lc μ) none (hG σ sr ln Lc ν)) : am_X xs LL (d + 7) 182 [.ref 47, .int (nI n), .int (nI B), .int 0] (hG σ sr ln Lc μ) (some (.int (if (nI N) ≤ (nI N) then (ν 24 n) else (am_it (pu_omS ln mk) 0 O)))) (hG σ sr ln Lc ν) := by
  refine am_XR (d := d + 6) (C := cd_X12_ask) (L := [some (.ref 47), some (.int (nI n)), some (.int (nI B)), some (.int 0), none, none, none, none, none, none, none]) rfl rfl rfl rfl ?_
  refine am_g 1 1 [some (.ref 47), some (.int (nI n)), some (.int (nI B)), some (.int 0), none, none, none, none, none, none, none] [.int (nI n)] (hG σ sr ln Lc μ) rfl ?_
  refine am_call (y := 143) (vs := [.int (nI n)]) (rest := []) (v := (some (.int 1))) (h1 := (hG σ sr ln Lc μ)) rfl rfl rfl (sp_X12_isName (d + 4) _ _ (am_in_of_nI hn (by omega))) ?_
  refine am_g 5 13 [some (.ref 47), some (.int (nI n)), some (.int (nI B)), some (.int 0), none, none, none, none, none, none, none] [.long 99999, .long 0, .long ((nI B).toInt64)] (hG σ sr ln Lc μ) rfl ?_
  refine am_call (y := 140) (vs := [.long ((nI B).toInt64), .long 0, .long 99999]) (rest := []) (v := (some (.int 1))) (h1 := (hG σ sr ln Lc μ)) rfl rfl rfl (sp_X12_in_b (d + 5) _ _ _ _ (am_b99 hB)) ?_
  refine am_g 5 25 [some (.ref 47), some (.int (nI n)), some (.int (nI B)), some (.int 0), none, none, none, none, none, none, none] [.long 2, .long 0, .long ((0 : Int32).toInt64)] (hG σ sr ln Lc μ) rfl ?_
  refine am_call (y := 140) (vs := [.long ((0 : Int32).toInt64), .long 0, .long 2]) (rest := []) (v := (some (.int 1))) (h1 := (hG σ sr ln Lc μ)) rfl rfl rfl (sp_X12_in_b (d + 5) _ _ _ _ (show decide ((0 : Int64) ≤ (0 : Int32).toInt64 ∧ (0 : Int32).toInt64 ≤ 2) = true from by decide)) ?_
  refine am_g 2 35 [some (.ref 47), some (.int (nI n)), some (.int (nI B)), some (.int 0), none, none, none, none, none, none, none] [.ref 47] (hG σ sr ln Lc μ) rfl ?_
  refine am_call (y := 181) (vs := [.ref 47]) (rest := []) (v := (some (.int (nI c)))) (h1 := (hG σ sr ln Lc μ)) rfl rfl rfl (hwk (d + 4)) ?_
  refine am_g 4 43 [some (.ref 47), some (.int (nI n)), some (.int (nI B)), some (.int 0), some (.int (nI c)), none, none, none, none, none, none] [.int (-1), .int 0, .ref 47] (hG σ sr ln Lc μ) rfl ?_
  refine am_call (y := 173) (vs := [.ref 47, .int 0, .int (-1)]) (rest := []) (v := none) (h1 := (hG σ sr ln Lc ν)) rfl rfl rfl (hw d) ?_
  refine am_g 2 50 [some (.ref 47), some (.int (nI n)), some (.int (nI B)), some (.int 0), some (.int (nI c)), none, none, none, none, none, none] [.int (ν 26 0)] (hG σ sr ln Lc ν) rfl ?_
  rw [show (ν 26 0) = (nI N) from hr]
  refine am_g 3 (if (nI c) = 0 then 57 else 62) [some (.ref 47), some (.int (nI n)), some (.int (nI B)), some (.int 0), some (.int (nI c)), some (.int (nI N)), none, none, none, none, none] [] (hG σ sr ln Lc ν) rfl ?_
  rw [if_pos (show (nI c) = 0 from (by rw [hc0]; rfl))]
  refine am_g 6 (if (nI N) ≤ (nI N) then 80 else 75) [some (.ref 47), some (.int (nI n)), some (.int (nI B)), some (.int 0), some (.int (nI c)), some (.int (nI N)), some (.int (nI N)), none, none, none, none] [] (hG σ sr ln Lc ν) rfl ?_
  rw [if_pos (show (nI N) ≤ (nI N) from (Int32.le_refl _))]
  refine am_g 1 82 [some (.ref 47), some (.int (nI n)), some (.int (nI B)), some (.int 0), some (.int (nI c)), some (.int (nI N)), some (.int (nI N)), none, none, none, none] [.int (nI N)] (hG σ sr ln Lc ν) rfl ?_
  refine am_g 4 (if (nI N) ≤ (nI N) then 95 else 91) [some (.ref 47), some (.int (nI n)), some (.int (nI B)), some (.int 0), some (.int (nI c)), some (.int (nI N)), some (.int (nI N)), some (.int (nI N)), none, none, none] [] (hG σ sr ln Lc ν) rfl (am_brR (fun c1 => ?_) (fun c1 => ?_))
  · skip
    refine am_g 13 135 [some (.ref 47), some (.int (nI n)), some (.int (nI B)), some (.int 0), some (.int (nI c)), some (.int (nI N)), some (.int (nI N)), some (.int (nI N)), some (.int 0), none, none] [.int (nI n), .ref 65] (hG σ sr ln Lc ν) rfl ?_
    refine am_ialdR (n := 68) (f := (ν 24)) (k := n) rfl rfl (rfl) (by omega) (by decide) ?_
    exact am_ret2 rfl rfl rfl (by rw [if_pos c1]) rfl
  · skip
    refine am_g 15 143 [some (.ref 47), some (.int (nI n)), some (.int (nI B)), some (.int 0), some (.int (nI c)), some (.int (nI N)), some (.int (nI N)), some (.int (nI N)), some (.int 1), some (.int 0), some (.int 0)] [] (hG σ sr ln Lc ν) rfl ?_
    have lp : ∀ (r o : Nat) (w6 : Option Value), o + r = O → am_R xs LL cd_X12_ask (am_X xs LL (d + 6)) 143 [some (.ref 47), some (.int (nI n)), some (.int (nI B)), some (.int 0), some (.int (nI c)), some (.int (nI N)), w6, some (.int (nI N)), some (.int 1), some (.int (am_it (pu_omS ln mk) 0 o)), some (.int (nI o))] [] (hG σ sr ln Lc ν) (some (.int (if (nI N) ≤ (nI N) then (ν 24 n) else (am_it (pu_omS ln mk) 0 O)))) (hG σ sr ln Lc ν) := by
      intro r
      induction r with
      | zero =>
        intro o w6 hi
        have hi2 : o = O := by omega
        rw [hi2]
        refine am_g 3 149 [some (.ref 47), some (.int (nI n)), some (.int (nI B)), some (.int 0), some (.int (nI c)), some (.int (nI N)), w6, some (.int (nI N)), some (.int 1), some (.int (am_it (pu_omS ln mk) 0 O)), some (.int (nI O))] [.int (ν 19 0), .int (nI O)] (hG σ sr ln Lc ν) rfl ?_
        rw [show (ν 19 0) = (nI O) from hO]
        refine am_g 1 (if (nI O) ≤ (nI O) then 186 else 152) [some (.ref 47), some (.int (nI n)), some (.int (nI B)), some (.int 0), some (.int (nI c)), some (.int (nI N)), w6, some (.int (nI N)), some (.int 1), some (.int (am_it (pu_omS ln mk) 0 O)), some (.int (nI O))] [] (hG σ sr ln Lc ν) rfl ?_
        rw [if_pos (show (nI O) ≤ (nI O) from (am_dle (a := O) (b := O) (rfl) (rfl) (by omega) (by omega) (by omega)))]
        refine am_g 1 188 [some (.ref 47), some (.int (nI n)), some (.int (nI B)), some (.int 0), some (.int (nI c)), some (.int (nI N)), w6, some (.int (nI N)), some (.int 1), some (.int (am_it (pu_omS ln mk) 0 O)), some (.int (nI O))] [.int (am_it (pu_omS ln mk) 0 O)] (hG σ sr ln Lc ν) rfl ?_
        exact am_ret2 rfl rfl rfl (by rw [if_neg c1]) rfl
      | succ r ih =>
        intro o w6 hi
        have hi2 : o < O := by omega
        refine am_g 3 149 [some (.ref 47), some (.int (nI n)), some (.int (nI B)), some (.int 0), some (.int (nI c)), some (.int (nI N)), w6, some (.int (nI N)), some (.int 1), some (.int (am_it (pu_omS ln mk) 0 o)), some (.int (nI o))] [.int (ν 19 0), .int (nI o)] (hG σ sr ln Lc ν) rfl ?_
        rw [show (ν 19 0) = (nI O) from hO]
        refine am_g 1 (if (nI O) ≤ (nI o) then 186 else 152) [some (.ref 47), some (.int (nI n)), some (.int (nI B)), some (.int 0), some (.int (nI c)), some (.int (nI N)), w6, some (.int (nI N)), some (.int 1), some (.int (am_it (pu_omS ln mk) 0 o)), some (.int (nI o))] [] (hG σ sr ln Lc ν) rfl ?_
        rw [if_neg (show ¬ (nI O) ≤ (nI o) from (am_dnle (a := O) (b := o) (rfl) (rfl) (by omega) (by omega) (by omega)))]
        refine am_g 6 164 [some (.ref 47), some (.int (nI n)), some (.int (nI B)), some (.int 0), some (.int (nI c)), some (.int (nI N)), w6, some (.int (nI N)), some (.int 1), some (.int (am_it (pu_omS ln mk) 0 o)), some (.int (nI o))] [.int (nI o), .ref 63, .ref 60, .int (am_it (pu_omS ln mk) 0 o)] (hG σ sr ln Lc ν) rfl ?_
        refine am_ialdV (n := 16) (f := (ν 18)) (k := o) (w := (nI (mk o))) rfl rfl (rfl) (by omega) (by decide) ((hmk o hi2).1) ?_
        refine am_baldV (n := 40) (f := (ν 14)) (k := (mk o)) (w := (ln (mk o) 6)) rfl rfl (rfl) (by have := (hmk o hi2).2; omega) (by decide) (hRL.2.2.2.2.2.2.2.2.1 (mk o) (hmk o hi2).2) ?_
        refine am_g 1 (if (ln (mk o) 6) = 0 then 176 else 169) [some (.ref 47), some (.int (nI n)), some (.int (nI B)), some (.int 0), some (.int (nI c)), some (.int (nI N)), w6, some (.int (nI N)), some (.int 1), some (.int (am_it (pu_omS ln mk) 0 o)), some (.int (nI o))] [.int (am_it (pu_omS ln mk) 0 o)] (hG σ sr ln Lc ν) rfl (am_brR (fun c2 => ?_) (fun c2 => ?_))
        · skip
          refine am_g 5 143 [some (.ref 47), some (.int (nI n)), some (.int (nI B)), some (.int 0), some (.int (nI c)), some (.int (nI N)), w6, some (.int (nI N)), some (.int 1), some (.int ((am_it (pu_omS ln mk) 0 o) ||| 0)), some (.int ((nI o) + 1))] [] (hG σ sr ln Lc ν) rfl ?_
          have qq : (am_it (pu_omS ln mk) 0 (o + 1)) = ((am_it (pu_omS ln mk) 0 o) ||| 0) := by
            rw [am_itS]
            exact (if_pos c2).trans (am_or0 _).symm
          rw [nI_up, ← qq]
          exact ih (o + 1) _ (by omega)
        · skip
          refine am_g 8 143 [some (.ref 47), some (.int (nI n)), some (.int (nI B)), some (.int 0), some (.int (nI c)), some (.int (nI N)), w6, some (.int (nI N)), some (.int 1), some (.int ((am_it (pu_omS ln mk) 0 o) ||| (1 <<< ((nI o) &&& 31)))), some (.int ((nI o) + 1))] [] (hG σ sr ln Lc ν) rfl ?_
          have qq : (am_it (pu_omS ln mk) 0 (o + 1)) = ((am_it (pu_omS ln mk) 0 o) ||| (1 <<< ((nI o) &&& 31))) := by
            rw [am_itS]
            exact if_neg c2
          rw [nI_up, ← qq]
          exact ih (o + 1) _ (by omega)
    exact lp O 0 _ (by omega)
theorem sp_X12_ask_z1 (d : Nat) (n : Nat) (hn : n < 20) (B : Nat) (hB : B < 100000) {N : Nat} (hN : N < 2000) (hr : ν 26 0 = nI N) (hRL : am_RL sr ln Lc ν) (hL40 : Lc ≤ 40) (hO : ν 19 0 = nI O) (hO16 : O ≤ 16) (mk : Nat → Nat) (hmk : ∀ o, o < O → ν 18 o = nI (mk o) ∧ mk o < Lc) {c : Nat} (hc : c < 1000) (hwk : ∀ d, am_X xs LL (d + 2) 181 [.ref 47] (hG σ sr ln Lc μ) (some (.int (nI c))) (hG σ sr ln Lc μ)) (hc0 : c = 0) (hw : ∀ d, am_X xs LL (d + 6) 173 [.ref 47, .int 0, .int (-1)] (hG σ sr ln Lc μ) none (hG σ sr ln Lc ν)) : am_X xs LL (d + 7) 182 [.ref 47, .int (nI n), .int (nI B), .int 1] (hG σ sr ln Lc μ) (some (.int (if (nI N) ≤ (nI N) then 0 else 1))) (hG σ sr ln Lc ν) := by
  refine am_XR (d := d + 6) (C := cd_X12_ask) (L := [some (.ref 47), some (.int (nI n)), some (.int (nI B)), some (.int 1), none, none, none, none, none, none, none]) rfl rfl rfl rfl ?_
  refine am_g 1 1 [some (.ref 47), some (.int (nI n)), some (.int (nI B)), some (.int 1), none, none, none, none, none, none, none] [.int (nI n)] (hG σ sr ln Lc μ) rfl ?_
  refine am_call (y := 143) (vs := [.int (nI n)]) (rest := []) (v := (some (.int 1))) (h1 := (hG σ sr ln Lc μ)) rfl rfl rfl (sp_X12_isName (d + 4) _ _ (am_in_of_nI hn (by omega))) ?_
  refine am_g 5 13 [some (.ref 47), some (.int (nI n)), some (.int (nI B)), some (.int 1), none, none, none, none, none, none, none] [.long 99999, .long 0, .long ((nI B).toInt64)] (hG σ sr ln Lc μ) rfl ?_
  refine am_call (y := 140) (vs := [.long ((nI B).toInt64), .long 0, .long 99999]) (rest := []) (v := (some (.int 1))) (h1 := (hG σ sr ln Lc μ)) rfl rfl rfl (sp_X12_in_b (d + 5) _ _ _ _ (am_b99 hB)) ?_
  refine am_g 5 25 [some (.ref 47), some (.int (nI n)), some (.int (nI B)), some (.int 1), none, none, none, none, none, none, none] [.long 2, .long 0, .long ((1 : Int32).toInt64)] (hG σ sr ln Lc μ) rfl ?_
  refine am_call (y := 140) (vs := [.long ((1 : Int32).toInt64), .long 0, .long 2]) (rest := []) (v := (some (.int 1))) (h1 := (hG σ sr ln Lc μ)) rfl rfl rfl (sp_X12_in_b (d + 5) _ _ _ _ (show decide ((0 : Int64) ≤ (1 : Int32).toInt64 ∧ (1 : Int32).toInt64 ≤ 2) = true from by decide)) ?_
  refine am_g 2 35 [some (.ref 47), some (.int (nI n)), some (.int (nI B)), some (.int 1), none, none, none, none, none, none, none] [.ref 47] (hG σ sr ln Lc μ) rfl ?_
  refine am_call (y := 181) (vs := [.ref 47]) (rest := []) (v := (some (.int (nI c)))) (h1 := (hG σ sr ln Lc μ)) rfl rfl rfl (hwk (d + 4)) ?_
  refine am_g 4 43 [some (.ref 47), some (.int (nI n)), some (.int (nI B)), some (.int 1), some (.int (nI c)), none, none, none, none, none, none] [.int (-1), .int 0, .ref 47] (hG σ sr ln Lc μ) rfl ?_
  refine am_call (y := 173) (vs := [.ref 47, .int 0, .int (-1)]) (rest := []) (v := none) (h1 := (hG σ sr ln Lc ν)) rfl rfl rfl (hw d) ?_
  refine am_g 2 50 [some (.ref 47), some (.int (nI n)), some (.int (nI B)), some (.int 1), some (.int (nI c)), none, none, none, none, none, none] [.int (ν 26 0)] (hG σ sr ln Lc ν) rfl ?_
  rw [show (ν 26 0) = (nI N) from hr]
  refine am_g 3 (if (nI c) = 0 then 57 else 62) [some (.ref 47), some (.int (nI n)), some (.int (nI B)), some (.int 1), some (.int (nI c)), some (.int (nI N)), none, none, none, none, none] [] (hG σ sr ln Lc ν) rfl ?_
  rw [if_pos (show (nI c) = 0 from (by rw [hc0]; rfl))]
  refine am_g 6 (if (nI N) ≤ (nI N) then 80 else 75) [some (.ref 47), some (.int (nI n)), some (.int (nI B)), some (.int 1), some (.int (nI c)), some (.int (nI N)), some (.int (nI N)), none, none, none, none] [] (hG σ sr ln Lc ν) rfl ?_
  rw [if_pos (show (nI N) ≤ (nI N) from (Int32.le_refl _))]
  refine am_g 1 82 [some (.ref 47), some (.int (nI n)), some (.int (nI B)), some (.int 1), some (.int (nI c)), some (.int (nI N)), some (.int (nI N)), none, none, none, none] [.int (nI N)] (hG σ sr ln Lc ν) rfl ?_
  refine am_g 4 (if (nI N) ≤ (nI N) then 95 else 91) [some (.ref 47), some (.int (nI n)), some (.int (nI B)), some (.int 1), some (.int (nI c)), some (.int (nI N)), some (.int (nI N)), some (.int (nI N)), none, none, none] [] (hG σ sr ln Lc ν) rfl (am_brR (fun c1 => ?_) (fun c1 => ?_))
  · skip
    refine am_g 8 113 [some (.ref 47), some (.int (nI n)), some (.int (nI B)), some (.int 1), some (.int (nI c)), some (.int (nI N)), some (.int (nI N)), some (.int (nI N)), some (.int 0), none, none] [.int 0] (hG σ sr ln Lc ν) rfl ?_
    exact am_ret2 rfl rfl rfl (by rw [if_pos c1]) rfl
  · skip
    refine am_g 10 113 [some (.ref 47), some (.int (nI n)), some (.int (nI B)), some (.int 1), some (.int (nI c)), some (.int (nI N)), some (.int (nI N)), some (.int (nI N)), some (.int 1), none, none] [.int 1] (hG σ sr ln Lc ν) rfl ?_
    exact am_ret2 rfl rfl rfl (by rw [if_neg c1]) rfl
theorem sp_X12_ask_z2 (d : Nat) (n : Nat) (hn : n < 20) (B : Nat) (hB : B < 100000) {N : Nat} (hN : N < 2000) (hr : ν 26 0 = nI N) (hRL : am_RL sr ln Lc ν) (hL40 : Lc ≤ 40) (hO : ν 19 0 = nI O) (hO16 : O ≤ 16) (mk : Nat → Nat) (hmk : ∀ o, o < O → ν 18 o = nI (mk o) ∧ mk o < Lc) {c : Nat} (hc : c < 1000) (hwk : ∀ d, am_X xs LL (d + 2) 181 [.ref 47] (hG σ sr ln Lc μ) (some (.int (nI c))) (hG σ sr ln Lc μ)) (hc0 : c = 0) (hw : ∀ d, am_X xs LL (d + 6) 173 [.ref 47, .int 0, .int (-1)] (hG σ sr ln Lc μ) none (hG σ sr ln Lc ν)) : am_X xs LL (d + 7) 182 [.ref 47, .int (nI n), .int (nI B), .int 2] (hG σ sr ln Lc μ) (some (.int ((nI N) * (nI c)))) (hG σ sr ln Lc ν) := by
  refine am_XR (d := d + 6) (C := cd_X12_ask) (L := [some (.ref 47), some (.int (nI n)), some (.int (nI B)), some (.int 2), none, none, none, none, none, none, none]) rfl rfl rfl rfl ?_
  refine am_g 1 1 [some (.ref 47), some (.int (nI n)), some (.int (nI B)), some (.int 2), none, none, none, none, none, none, none] [.int (nI n)] (hG σ sr ln Lc μ) rfl ?_
  refine am_call (y := 143) (vs := [.int (nI n)]) (rest := []) (v := (some (.int 1))) (h1 := (hG σ sr ln Lc μ)) rfl rfl rfl (sp_X12_isName (d + 4) _ _ (am_in_of_nI hn (by omega))) ?_
  refine am_g 5 13 [some (.ref 47), some (.int (nI n)), some (.int (nI B)), some (.int 2), none, none, none, none, none, none, none] [.long 99999, .long 0, .long ((nI B).toInt64)] (hG σ sr ln Lc μ) rfl ?_
  refine am_call (y := 140) (vs := [.long ((nI B).toInt64), .long 0, .long 99999]) (rest := []) (v := (some (.int 1))) (h1 := (hG σ sr ln Lc μ)) rfl rfl rfl (sp_X12_in_b (d + 5) _ _ _ _ (am_b99 hB)) ?_
  refine am_g 5 25 [some (.ref 47), some (.int (nI n)), some (.int (nI B)), some (.int 2), none, none, none, none, none, none, none] [.long 2, .long 0, .long ((2 : Int32).toInt64)] (hG σ sr ln Lc μ) rfl ?_
  refine am_call (y := 140) (vs := [.long ((2 : Int32).toInt64), .long 0, .long 2]) (rest := []) (v := (some (.int 1))) (h1 := (hG σ sr ln Lc μ)) rfl rfl rfl (sp_X12_in_b (d + 5) _ _ _ _ (show decide ((0 : Int64) ≤ (2 : Int32).toInt64 ∧ (2 : Int32).toInt64 ≤ 2) = true from by decide)) ?_
  refine am_g 2 35 [some (.ref 47), some (.int (nI n)), some (.int (nI B)), some (.int 2), none, none, none, none, none, none, none] [.ref 47] (hG σ sr ln Lc μ) rfl ?_
  refine am_call (y := 181) (vs := [.ref 47]) (rest := []) (v := (some (.int (nI c)))) (h1 := (hG σ sr ln Lc μ)) rfl rfl rfl (hwk (d + 4)) ?_
  refine am_g 4 43 [some (.ref 47), some (.int (nI n)), some (.int (nI B)), some (.int 2), some (.int (nI c)), none, none, none, none, none, none] [.int (-1), .int 0, .ref 47] (hG σ sr ln Lc μ) rfl ?_
  refine am_call (y := 173) (vs := [.ref 47, .int 0, .int (-1)]) (rest := []) (v := none) (h1 := (hG σ sr ln Lc ν)) rfl rfl rfl (hw d) ?_
  refine am_g 2 50 [some (.ref 47), some (.int (nI n)), some (.int (nI B)), some (.int 2), some (.int (nI c)), none, none, none, none, none, none] [.int (ν 26 0)] (hG σ sr ln Lc ν) rfl ?_
  rw [show (ν 26 0) = (nI N) from hr]
  refine am_g 3 (if (nI c) = 0 then 57 else 62) [some (.ref 47), some (.int (nI n)), some (.int (nI B)), some (.int 2), some (.int (nI c)), some (.int (nI N)), none, none, none, none, none] [] (hG σ sr ln Lc ν) rfl ?_
  rw [if_pos (show (nI c) = 0 from (by rw [hc0]; rfl))]
  refine am_g 6 (if (nI N) ≤ (nI N) then 80 else 75) [some (.ref 47), some (.int (nI n)), some (.int (nI B)), some (.int 2), some (.int (nI c)), some (.int (nI N)), some (.int (nI N)), none, none, none, none] [] (hG σ sr ln Lc ν) rfl ?_
  rw [if_pos (show (nI N) ≤ (nI N) from (Int32.le_refl _))]
  refine am_g 1 82 [some (.ref 47), some (.int (nI n)), some (.int (nI B)), some (.int 2), some (.int (nI c)), some (.int (nI N)), some (.int (nI N)), none, none, none, none] [.int (nI N)] (hG σ sr ln Lc ν) rfl ?_
  refine am_g 4 (if (nI N) ≤ (nI N) then 95 else 91) [some (.ref 47), some (.int (nI n)), some (.int (nI B)), some (.int 2), some (.int (nI c)), some (.int (nI N)), some (.int (nI N)), some (.int (nI N)), none, none, none] [] (hG σ sr ln Lc ν) rfl (am_brR (fun c1 => ?_) (fun c1 => ?_))
  · skip
    refine am_g 11 124 [some (.ref 47), some (.int (nI n)), some (.int (nI B)), some (.int 2), some (.int (nI c)), some (.int (nI N)), some (.int (nI N)), some (.int (nI N)), some (.int 0), none, none] [.int ((nI N) * (nI c))] (hG σ sr ln Lc ν) rfl ?_
    exact am_ret2 rfl rfl rfl rfl rfl
  · skip
    refine am_g 12 124 [some (.ref 47), some (.int (nI n)), some (.int (nI B)), some (.int 2), some (.int (nI c)), some (.int (nI N)), some (.int (nI N)), some (.int (nI N)), some (.int 1), none, none] [.int ((nI N) * (nI c))] (hG σ sr ln Lc ν) rfl ?_
    exact am_ret2 rfl rfl rfl rfl rfl
theorem sp_X12_ask_bad (d : Nat) (n B w : Int32) (hbad : (am_in n 20 && (decide ((0 : Int32) ≤ B ∧ B ≤ 99999) && am_in w 3)) = false) : am_X xs LL (d + 3) 182 [.ref 47, .int n, .int B, .int w] (hG σ sr ln Lc μ) (some (.int (-2))) (hG σ sr ln Lc μ) := by
  refine am_XR (d := d + 2) (C := cd_X12_ask) (L := [some (.ref 47), some (.int n), some (.int B), some (.int w), none, none, none, none, none, none, none]) rfl rfl rfl rfl ?_
  refine am_g 1 1 [some (.ref 47), some (.int n), some (.int B), some (.int w), none, none, none, none, none, none, none] [.int n] (hG σ sr ln Lc μ) rfl ?_
  cases e1 : am_in n 20 with
  | false =>
    refine am_call (y := 143) (vs := [.int n]) (rest := []) (v := (some (.int 0))) (h1 := (hG σ sr ln Lc μ)) rfl rfl rfl (sp_X12_isName d _ _ e1) ?_
    refine am_g 2 33 [some (.ref 47), some (.int n), some (.int B), some (.int w), none, none, none, none, none, none, none] [.int (-2)] (hG σ sr ln Lc μ) rfl ?_
    exact am_ret2 rfl rfl rfl rfl rfl
  | true =>
    refine am_call (y := 143) (vs := [.int n]) (rest := []) (v := (some (.int 1))) (h1 := (hG σ sr ln Lc μ)) rfl rfl rfl (sp_X12_isName d _ _ e1) ?_
    refine am_g 5 13 [some (.ref 47), some (.int n), some (.int B), some (.int w), none, none, none, none, none, none, none] [.long 99999, .long 0, .long (B.toInt64)] (hG σ sr ln Lc μ) rfl ?_
    cases e2 : decide (0 ≤ (B.toInt64) ∧ (B.toInt64) ≤ 99999) with
    | false =>
      refine am_call (y := 140) (vs := [.long (B.toInt64), .long 0, .long 99999]) (rest := []) (v := (some (.int 0))) (h1 := (hG σ sr ln Lc μ)) rfl rfl rfl (sp_X12_in_b (d + 1) _ _ _ _ e2) ?_
      refine am_g 2 33 [some (.ref 47), some (.int n), some (.int B), some (.int w), none, none, none, none, none, none, none] [.int (-2)] (hG σ sr ln Lc μ) rfl ?_
      exact am_ret2 rfl rfl rfl rfl rfl
    | true =>
      refine am_call (y := 140) (vs := [.long (B.toInt64), .long 0, .long 99999]) (rest := []) (v := (some (.int 1))) (h1 := (hG σ sr ln Lc μ)) rfl rfl rfl (sp_X12_in_b (d + 1) _ _ _ _ e2) ?_
      refine am_g 5 25 [some (.ref 47), some (.int n), some (.int B), some (.int w), none, none, none, none, none, none, none] [.long 2, .long 0, .long (w.toInt64)] (hG σ sr ln Lc μ) rfl ?_
      cases e3 : decide (0 ≤ (w.toInt64) ∧ (w.toInt64) ≤ 2) with
      | false =>
        refine am_call (y := 140) (vs := [.long (w.toInt64), .long 0, .long 2]) (rest := []) (v := (some (.int 0))) (h1 := (hG σ sr ln Lc μ)) rfl rfl rfl (sp_X12_in_b (d + 1) _ _ _ _ e3) ?_
        refine am_g 2 33 [some (.ref 47), some (.int n), some (.int B), some (.int w), none, none, none, none, none, none, none] [.int (-2)] (hG σ sr ln Lc μ) rfl ?_
        exact am_ret2 rfl rfl rfl rfl rfl
      | true =>
        refine am_call (y := 140) (vs := [.long (w.toInt64), .long 0, .long 2]) (rest := []) (v := (some (.int 1))) (h1 := (hG σ sr ln Lc μ)) rfl rfl rfl (sp_X12_in_b (d + 1) _ _ _ _ e3) ?_
        refine am_g 1 34 [some (.ref 47), some (.int n), some (.int B), some (.int w), none, none, none, none, none, none, none] [] (hG σ sr ln Lc μ) rfl ?_
        rw [am_b99x] at e2
        rw [am_in64c (n := 3) (by decide)] at e3
        rw [e1, e2, e3] at hbad
        cases hbad
def pu_ctS (ln : Nat → Nat → Int32) (cb : Nat → Bool) (i : Nat) (a : Int64) : Int64 := if ln i 6 = 0 then a else bif cb i then a else a ||| 1 <<< ((nI i).toInt64 &&& 63)
def pu_ctF (ln : Nat → Nat → Int32) (cb : Nat → Bool) : Nat → Nat → Int64 → Int64
  | 0, _, a => a
  | r + 1, i, a => pu_ctF ln cb r (i + 1) (pu_ctS ln cb i a)
theorem sp_X11_cut_bad1 (d : Nat) (hO : σ 6 0 = nI O) (hO16 : O ≤ 16) (o n : Int32) (hb : am_in o O = false) : am_X xs LL (d + 3) 108 [.ref 14, .int o, .int n] (hG σ sr ln Lc μ) (some (.long (-4611686018427387904))) (hG σ sr ln Lc μ) := by
  refine am_XR (d := d + 2) (C := cd_X11_cut) (L := [some (.ref 14), some (.int o), some (.int n), none, none, none, none]) rfl rfl rfl rfl ?_
  refine am_g 3 5 [some (.ref 14), some (.int o), some (.int n), none, none, none, none] [.int o, .ref 15] (hG σ sr ln Lc μ) rfl ?_
  refine am_call (y := 31) (vs := [.ref 15, .int o]) (rest := []) (v := (some (.int 0))) (h1 := (hG σ sr ln Lc μ)) rfl rfl rfl (sp_X3_isObject (σ := σ) (μ := μ) (d + 1) hO hO16 _ hb) ?_
  refine am_g 2 21 [some (.ref 14), some (.int o), some (.int n), none, none, none, none] [.long (-4611686018427387904)] (hG σ sr ln Lc μ) rfl ?_
  exact am_ret2 rfl rfl rfl rfl rfl
theorem sp_X11_cut_bad2 (d : Nat) (hO : σ 6 0 = nI O) (hO16 : O ≤ 16) (o : Nat) (n : Int32) (ho : o < O) (hb : am_in n 20 = false) : am_X xs LL (d + 3) 108 [.ref 14, .int (nI o), .int n] (hG σ sr ln Lc μ) (some (.long (-4611686018427387904))) (hG σ sr ln Lc μ) := by
  refine am_XR (d := d + 2) (C := cd_X11_cut) (L := [some (.ref 14), some (.int (nI o)), some (.int n), none, none, none, none]) rfl rfl rfl rfl ?_
  refine am_g 3 5 [some (.ref 14), some (.int (nI o)), some (.int n), none, none, none, none] [.int (nI o), .ref 15] (hG σ sr ln Lc μ) rfl ?_
  refine am_call (y := 31) (vs := [.ref 15, .int (nI o)]) (rest := []) (v := (some (.int 1))) (h1 := (hG σ sr ln Lc μ)) rfl rfl rfl (sp_X3_isObject (σ := σ) (μ := μ) (d + 1) hO hO16 _ (am_in_of_nI ho (by omega))) ?_
  refine am_g 2 12 [some (.ref 14), some (.int (nI o)), some (.int n), none, none, none, none] [.int n] (hG σ sr ln Lc μ) rfl ?_
  refine am_call (y := 123) (vs := [.int n]) (rest := []) (v := (some (.int 0))) (h1 := (hG σ sr ln Lc μ)) rfl rfl rfl (sp_X11_isName d _ _ hb) ?_
  refine am_g 2 21 [some (.ref 14), some (.int (nI o)), some (.int n), none, none, none, none] [.long (-4611686018427387904)] (hG σ sr ln Lc μ) rfl ?_
  exact am_ret2 rfl rfl rfl rfl rfl
theorem sp_X11_cut_0 (d : Nat) (hO : σ 6 0 = nI O) (hO16 : O ≤ 16) (o n : Nat) (ho : o < O) (hn : n < 20) (h0 : am_hb (τ0 12 n) o = false) (hf : ∀ d, am_X xs LL (d + 6) 52 [.ref 23] (hG σ sr ln Lc μ) (some (.ref 23)) (hG τ0 sr ln Lc μ)) : am_X xs LL (d + 7) 108 [.ref 14, .int (nI o), .int (nI n)] (hG σ sr ln Lc μ) (some (.long 0)) (hG τ0 sr ln Lc μ) := by
  refine am_XR (d := d + 6) (C := cd_X11_cut) (L := [some (.ref 14), some (.int (nI o)), some (.int (nI n)), none, none, none, none]) rfl rfl rfl rfl ?_
  refine am_g 3 5 [some (.ref 14), some (.int (nI o)), some (.int (nI n)), none, none, none, none] [.int (nI o), .ref 15] (hG σ sr ln Lc μ) rfl ?_
  refine am_call (y := 31) (vs := [.ref 15, .int (nI o)]) (rest := []) (v := (some (.int 1))) (h1 := (hG σ sr ln Lc μ)) rfl rfl rfl (sp_X3_isObject (σ := σ) (μ := μ) (d + 5) hO hO16 _ (am_in_of_nI ho (by omega))) ?_
  refine am_g 2 12 [some (.ref 14), some (.int (nI o)), some (.int (nI n)), none, none, none, none] [.int (nI n)] (hG σ sr ln Lc μ) rfl ?_
  refine am_call (y := 123) (vs := [.int (nI n)]) (rest := []) (v := (some (.int 1))) (h1 := (hG σ sr ln Lc μ)) rfl rfl rfl (sp_X11_isName (d + 4) _ _ (am_in_of_nI hn (by omega))) ?_
  refine am_g 3 26 [some (.ref 14), some (.int (nI o)), some (.int (nI n)), none, none, none, none] [.ref 23] (hG σ sr ln Lc μ) rfl ?_
  refine am_call (y := 52) (vs := [.ref 23]) (rest := []) (v := (some (.ref 23))) (h1 := (hG τ0 sr ln Lc μ)) rfl rfl rfl (hf d) ?_
  refine am_g 1 30 [some (.ref 14), some (.int (nI o)), some (.int (nI n)), none, none, none, none] [.int (nI n), .ref 23] (hG τ0 sr ln Lc μ) rfl ?_
  refine am_call (y := 56) (vs := [.ref 23, .int (nI n)]) (rest := []) (v := (some (.int (τ0 12 n)))) (h1 := (hG τ0 sr ln Lc μ)) rfl rfl rfl (sp_X7_heldAt_0_k (σ := τ0) (μ := μ) (d + 5) n (by omega)) ?_
  refine am_g 1 34 [some (.ref 14), some (.int (nI o)), some (.int (nI n)), none, none, none, none] [.int (nI o), .int (τ0 12 n)] (hG τ0 sr ln Lc μ) rfl ?_
  refine am_call (y := 126) (vs := [.int (τ0 12 n), .int (nI o)]) (rest := []) (v := (some (.int 0))) (h1 := (hG τ0 sr ln Lc μ)) rfl rfl rfl (sp_X11_hasBit (d + 5) _ _ _ h0) ?_
  refine am_g 2 41 [some (.ref 14), some (.int (nI o)), some (.int (nI n)), none, none, none, none] [.long 0] (hG τ0 sr ln Lc μ) rfl ?_
  exact am_ret2 rfl rfl rfl rfl rfl
theorem sp_X11_cut_ok (d : Nat) (hO : σ 6 0 = nI O) (hO16 : O ≤ 16) (hL : Lc ≤ 40) (hsr : ∀ i, i < Lc → sr i < 6) (hwf : am_WF τ0 sr ln Lc) (hob : pu_ob sr ln Lc O) (o n : Nat) (ho : o < O) (hn : n < 20) (h1 : am_hb (τ0 12 n) o = true) (cb : Nat → Bool) (hcb : ∀ i, i < Lc → ∀ N, pu_isN τ0 sr ln Lc false (nI i) N → am_hb (pu_W τ0 sr ln Lc false (nI i) N n) o = cb i) (hf : ∀ d, am_X xs LL (d + 6) 52 [.ref 23] (hG σ sr ln Lc μ) (some (.ref 23)) (hG τ0 sr ln Lc μ)) : ∃ τ1 : Nat → Nat → Int32, (∀ j, j < 30 ∨ 34 < j → τ1 j = τ0 j) ∧ am_X xs LL (d + 7) 108 [.ref 14, .int (nI o), .int (nI n)] (hG σ sr ln Lc μ) (some (.long (pu_ctF ln cb Lc 0 0))) (hG τ1 sr ln Lc μ) := by
  have lp : ∀ (r i : Nat) (a : Int64) (τ : Nat → Nat → Int32) (w : Option Value), i + r = Lc → (∀ j, j < 30 ∨ 34 < j → τ j = τ0 j) → ∃ τ1 : Nat → Nat → Int32, (∀ j, j < 30 ∨ 34 < j → τ1 j = τ0 j) ∧ am_R xs LL cd_X11_cut (am_X xs LL (d + 6)) 47 [some (.ref 14), some (.int (nI o)), some (.int (nI n)), some (.long a), none, some (.int (nI i)), w] [] (hG τ sr ln Lc μ) (some (.long (pu_ctF ln cb r i a))) (hG τ1 sr ln Lc μ) := by
    intro r
    induction r with
    | zero =>
      intro i a τ w hi hfr
      have hi2 : i = Lc := by omega
      refine ⟨τ, hfr, ?_⟩
      rw [hi2]
      refine am_g 4 (if (nI Lc) ≤ (nI Lc) then 114 else 56) [some (.ref 14), some (.int (nI o)), some (.int (nI n)), some (.long a), none, some (.int (nI Lc)), w] [] (hG τ sr ln Lc μ) rfl ?_
      rw [if_pos (show (nI Lc) ≤ (nI Lc) from (am_dle (a := Lc) (b := Lc) (rfl) (rfl) (by omega) (by omega) (by omega)))]
      refine am_g 1 115 [some (.ref 14), some (.int (nI o)), some (.int (nI n)), some (.long a), none, some (.int (nI Lc)), w] [.long a] (hG τ sr ln Lc μ) rfl ?_
      exact am_ret2 rfl rfl rfl rfl rfl
    | succ r ih =>
      intro i a τ w hi hfr
      have hi2 : i < Lc := by omega
      by_cases hon : ln i 6 = 0
      · obtain ⟨τ1, hfr1, hh⟩ := ih (i + 1) a τ (some (.ref (75 + i))) (by omega) hfr
        refine ⟨τ1, hfr1, ?_⟩
        rw [show (pu_ctF ln cb (r + 1) i a) = (pu_ctF ln cb r (i + 1) a) from by show pu_ctF ln cb r (i + 1) (pu_ctS ln cb i a) = _; unfold pu_ctS; rw [if_pos hon]]
        refine am_g 4 (if (nI Lc) ≤ (nI i) then 114 else 56) [some (.ref 14), some (.int (nI o)), some (.int (nI n)), some (.long a), none, some (.int (nI i)), w] [] (hG τ sr ln Lc μ) rfl ?_
        rw [if_neg (show ¬ (nI Lc) ≤ (nI i) from (am_dnle (a := Lc) (b := i) (rfl) (rfl) (by omega) (by omega) (by omega)))]
        refine am_g 2 59 [some (.ref 14), some (.int (nI o)), some (.int (nI n)), some (.long a), none, some (.int (nI i)), w] [.int (nI i), .ref 14] (hG τ sr ln Lc μ) rfl ?_
        refine am_call (y := 128) (vs := [.ref 14, .int (nI i)]) (rest := []) (v := (some (.ref (75 + i)))) (h1 := (hG τ sr ln Lc μ)) rfl rfl rfl (sp_X11_lineAt_ok (σ := τ) (μ := μ) (d + 5) i hi2 hL) ?_
        refine am_g 2 66 [some (.ref 14), some (.int (nI o)), some (.int (nI n)), some (.long a), none, some (.int (nI i)), some (.ref (75 + i))] [.ref (75 + i)] (hG τ sr ln Lc μ) rfl ?_
        refine am_lnnR rfl _ ?_
        refine am_g 1 71 [some (.ref 14), some (.int (nI o)), some (.int (nI n)), some (.long a), none, some (.int (nI i)), some (.ref (75 + i))] [.ref (75 + i)] (hG τ sr ln Lc μ) rfl ?_
        refine am_lgetR (i := i) (k := 6) rfl hi2 (by decide) (am_lkx (by decide) (hsr _ hi2)) ?_
        refine am_g 1 (if (ln i 6) = 0 then 108 else 77) [some (.ref 14), some (.int (nI o)), some (.int (nI n)), some (.long a), none, some (.int (nI i)), some (.ref (75 + i))] [] (hG τ sr ln Lc μ) rfl ?_
        rw [if_pos (show (ln i 6) = 0 from hon)]
        refine am_g 2 47 [some (.ref 14), some (.int (nI o)), some (.int (nI n)), some (.long a), none, some (.int ((nI i) + 1)), some (.ref (75 + i))] [] (hG τ sr ln Lc μ) rfl ?_
        rw [nI_up]
        exact hh
      · have hfr5 : ∀ j, j < 5 → τ j = τ0 j := fun j hj => hfr j (Or.inl (by omega))
        obtain ⟨N, H, A, F, hS, hfill⟩ := sp_X7_fillW_2 (σ := τ) xs LL μ (am_WF_fr hfr5 hwf) hob (nI i)
        have hcbi := hcb i hi2 N (pu_isN_fr hfr5 hS.1)
        rw [← pu_W_fr hfr5, ← hS.2.1 n (by omega)] at hcbi
        obtain ⟨ρ, hρ⟩ : ∃ ρ : Nat → Nat → Int32, ρ = (am_us (am_up (am_up (am_up τ 32 H) 33 A) 34 F) 31 (nI N)) := ⟨_, rfl⟩
        have hfrρ : (∀ j, j < 30 ∨ 34 < j → ρ j = τ0 j) := fun j hj => by rw [hρ, am_us_ne (by omega), am_up_ne (by omega), am_up_ne (by omega), am_up_ne (by omega)]; exact hfr j hj
        have hρH : ρ 32 = H := by rw [hρ]; rfl
        rw [← hρ] at hfill
        obtain ⟨τ1, hfr1, hh⟩ := ih (i + 1) (pu_ctS ln cb i a) ρ (some (.ref (75 + i))) (by omega) hfrρ
        refine ⟨τ1, hfr1, ?_⟩
        rw [show (pu_ctF ln cb (r + 1) i a) = (pu_ctF ln cb r (i + 1) (pu_ctS ln cb i a)) from rfl]
        refine am_g 4 (if (nI Lc) ≤ (nI i) then 114 else 56) [some (.ref 14), some (.int (nI o)), some (.int (nI n)), some (.long a), none, some (.int (nI i)), w] [] (hG τ sr ln Lc μ) rfl ?_
        rw [if_neg (show ¬ (nI Lc) ≤ (nI i) from (am_dnle (a := Lc) (b := i) (rfl) (rfl) (by omega) (by omega) (by omega)))]
        refine am_g 2 59 [some (.ref 14), some (.int (nI o)), some (.int (nI n)), some (.long a), none, some (.int (nI i)), w] [.int (nI i), .ref 14] (hG τ sr ln Lc μ) rfl ?_
        refine am_call (y := 128) (vs := [.ref 14, .int (nI i)]) (rest := []) (v := (some (.ref (75 + i)))) (h1 := (hG τ sr ln Lc μ)) rfl rfl rfl (sp_X11_lineAt_ok (σ := τ) (μ := μ) (d + 5) i hi2 hL) ?_
        refine am_g 2 66 [some (.ref 14), some (.int (nI o)), some (.int (nI n)), some (.long a), none, some (.int (nI i)), some (.ref (75 + i))] [.ref (75 + i)] (hG τ sr ln Lc μ) rfl ?_
        refine am_lnnR rfl _ ?_
        refine am_g 1 71 [some (.ref 14), some (.int (nI o)), some (.int (nI n)), some (.long a), none, some (.int (nI i)), some (.ref (75 + i))] [.ref (75 + i)] (hG τ sr ln Lc μ) rfl ?_
        refine am_lgetR (i := i) (k := 6) rfl hi2 (by decide) (am_lkx (by decide) (hsr _ hi2)) ?_
        refine am_g 1 (if (ln i 6) = 0 then 108 else 77) [some (.ref 14), some (.int (nI o)), some (.int (nI n)), some (.long a), none, some (.int (nI i)), some (.ref (75 + i))] [] (hG τ sr ln Lc μ) rfl ?_
        rw [if_neg (show ¬ (ln i 6) = 0 from hon)]
        refine am_g 3 83 [some (.ref 14), some (.int (nI o)), some (.int (nI n)), some (.long a), none, some (.int (nI i)), some (.ref (75 + i))] [.int (nI i), .ref 31] (hG τ sr ln Lc μ) rfl ?_
        refine am_call (y := 53) (vs := [.ref 31, .int (nI i)]) (rest := []) (v := none) (h1 := (hG ρ sr ln Lc μ)) rfl rfl rfl (hfill (d + 1)) ?_
        refine am_g 3 91 [some (.ref 14), some (.int (nI o)), some (.int (nI n)), some (.long a), none, some (.int (nI i)), some (.ref (75 + i))] [.int (nI n), .ref 31] (hG ρ sr ln Lc μ) rfl ?_
        refine am_call (y := 56) (vs := [.ref 31, .int (nI n)]) (rest := []) (v := (some (.int (ρ 32 n)))) (h1 := (hG ρ sr ln Lc μ)) rfl rfl rfl (sp_X7_heldAt_2_k (σ := ρ) (μ := μ) (d + 5) n (by omega)) ?_
        refine am_g 1 95 [some (.ref 14), some (.int (nI o)), some (.int (nI n)), some (.long a), none, some (.int (nI i)), some (.ref (75 + i))] [.int (nI o), .int (ρ 32 n)] (hG ρ sr ln Lc μ) rfl ?_
        cases e1 : am_hb (ρ 32 n) o with
        | false =>
          refine am_call (y := 126) (vs := [.int (ρ 32 n), .int (nI o)]) (rest := []) (v := (some (.int 0))) (h1 := (hG ρ sr ln Lc μ)) rfl rfl rfl (sp_X11_hasBit (d + 5) _ _ _ e1) ?_
          refine am_g 9 47 [some (.ref 14), some (.int (nI o)), some (.int (nI n)), some (.long (a ||| (1 <<< ((nI i).toInt64 &&& 63)))), none, some (.int ((nI i) + 1)), some (.ref (75 + i))] [] (hG ρ sr ln Lc μ) rfl ?_
          have hc : cb i = false := by rw [← hcbi, ← hρH]; exact e1
          have hq : pu_ctS ln cb i a = (a ||| (1 <<< ((nI i).toInt64 &&& 63))) := by unfold pu_ctS; rw [if_neg hon, hc]; rfl
          rw [hq] at hh
          rw [hq, nI_up]
          exact hh
        | true =>
          refine am_call (y := 126) (vs := [.int (ρ 32 n), .int (nI o)]) (rest := []) (v := (some (.int 1))) (h1 := (hG ρ sr ln Lc μ)) rfl rfl rfl (sp_X11_hasBit (d + 5) _ _ _ e1) ?_
          refine am_g 3 47 [some (.ref 14), some (.int (nI o)), some (.int (nI n)), some (.long a), none, some (.int ((nI i) + 1)), some (.ref (75 + i))] [] (hG ρ sr ln Lc μ) rfl ?_
          have hc : cb i = true := by rw [← hcbi, ← hρH]; exact e1
          have hq : pu_ctS ln cb i a = a := by unfold pu_ctS; rw [if_neg hon, hc]; rfl
          rw [hq] at hh
          rw [hq, nI_up]
          exact hh
  obtain ⟨τ1, hfr1, hh⟩ := lp Lc 0 0 τ0 none (by omega) (fun _ _ => rfl)
  refine ⟨τ1, hfr1, ?_⟩
  refine am_XR (d := d + 6) (C := cd_X11_cut) (L := [some (.ref 14), some (.int (nI o)), some (.int (nI n)), none, none, none, none]) rfl rfl rfl rfl ?_
  refine am_g 3 5 [some (.ref 14), some (.int (nI o)), some (.int (nI n)), none, none, none, none] [.int (nI o), .ref 15] (hG σ sr ln Lc μ) rfl ?_
  refine am_call (y := 31) (vs := [.ref 15, .int (nI o)]) (rest := []) (v := (some (.int 1))) (h1 := (hG σ sr ln Lc μ)) rfl rfl rfl (sp_X3_isObject (σ := σ) (μ := μ) (d + 5) hO hO16 _ (am_in_of_nI ho (by omega))) ?_
  refine am_g 2 12 [some (.ref 14), some (.int (nI o)), some (.int (nI n)), none, none, none, none] [.int (nI n)] (hG σ sr ln Lc μ) rfl ?_
  refine am_call (y := 123) (vs := [.int (nI n)]) (rest := []) (v := (some (.int 1))) (h1 := (hG σ sr ln Lc μ)) rfl rfl rfl (sp_X11_isName (d + 4) _ _ (am_in_of_nI hn (by omega))) ?_
  refine am_g 3 26 [some (.ref 14), some (.int (nI o)), some (.int (nI n)), none, none, none, none] [.ref 23] (hG σ sr ln Lc μ) rfl ?_
  refine am_call (y := 52) (vs := [.ref 23]) (rest := []) (v := (some (.ref 23))) (h1 := (hG τ0 sr ln Lc μ)) rfl rfl rfl (hf d) ?_
  refine am_g 1 30 [some (.ref 14), some (.int (nI o)), some (.int (nI n)), none, none, none, none] [.int (nI n), .ref 23] (hG τ0 sr ln Lc μ) rfl ?_
  refine am_call (y := 56) (vs := [.ref 23, .int (nI n)]) (rest := []) (v := (some (.int (τ0 12 n)))) (h1 := (hG τ0 sr ln Lc μ)) rfl rfl rfl (sp_X7_heldAt_0_k (σ := τ0) (μ := μ) (d + 5) n (by omega)) ?_
  refine am_g 1 34 [some (.ref 14), some (.int (nI o)), some (.int (nI n)), none, none, none, none] [.int (nI o), .int (τ0 12 n)] (hG τ0 sr ln Lc μ) rfl ?_
  refine am_call (y := 126) (vs := [.int (τ0 12 n), .int (nI o)]) (rest := []) (v := (some (.int 1))) (h1 := (hG τ0 sr ln Lc μ)) rfl rfl rfl (sp_X11_hasBit (d + 5) _ _ _ h1) ?_
  refine am_g 5 47 [some (.ref 14), some (.int (nI o)), some (.int (nI n)), some (.long 0), none, some (.int 0), none] [] (hG τ0 sr ln Lc μ) rfl ?_
  exact hh
theorem sp_X12_cut_bad1 (d : Nat) (hO : μ 19 0 = nI O) (hO16 : O ≤ 16) (o n : Int32) (hb : am_in o O = false) : am_X xs LL (d + 3) 187 [.ref 47, .int o, .int n] (hG σ sr ln Lc μ) (some (.long (-4611686018427387904))) (hG σ sr ln Lc μ) := by
  refine am_XR (d := d + 2) (C := cd_X12_cut) (L := [some (.ref 47), some (.int o), some (.int n), none, none, none]) rfl rfl rfl rfl ?_
  refine am_g 2 2 [some (.ref 47), some (.int o), some (.int n), none, none, none] [.int o, .ref 47] (hG σ sr ln Lc μ) rfl ?_
  refine am_call (y := 153) (vs := [.ref 47, .int o]) (rest := []) (v := (some (.int 0))) (h1 := (hG σ sr ln Lc μ)) rfl rfl rfl (sp_X12_isObject (σ := σ) (μ := μ) d _ hO (by omega) hb) ?_
  refine am_g 2 18 [some (.ref 47), some (.int o), some (.int n), none, none, none] [.long (-4611686018427387904)] (hG σ sr ln Lc μ) rfl ?_
  exact am_ret2 rfl rfl rfl rfl rfl
theorem sp_X12_cut_bad2 (d : Nat) (hO : μ 19 0 = nI O) (hO16 : O ≤ 16) (o : Nat) (n : Int32) (ho : o < O) (hb : am_in n 20 = false) : am_X xs LL (d + 3) 187 [.ref 47, .int (nI o), .int n] (hG σ sr ln Lc μ) (some (.long (-4611686018427387904))) (hG σ sr ln Lc μ) := by
  refine am_XR (d := d + 2) (C := cd_X12_cut) (L := [some (.ref 47), some (.int (nI o)), some (.int n), none, none, none]) rfl rfl rfl rfl ?_
  refine am_g 2 2 [some (.ref 47), some (.int (nI o)), some (.int n), none, none, none] [.int (nI o), .ref 47] (hG σ sr ln Lc μ) rfl ?_
  refine am_call (y := 153) (vs := [.ref 47, .int (nI o)]) (rest := []) (v := (some (.int 1))) (h1 := (hG σ sr ln Lc μ)) rfl rfl rfl (sp_X12_isObject (σ := σ) (μ := μ) d _ hO (by omega) (am_in_of_nI ho (by omega))) ?_
  refine am_g 2 9 [some (.ref 47), some (.int (nI o)), some (.int n), none, none, none] [.int n] (hG σ sr ln Lc μ) rfl ?_
  refine am_call (y := 143) (vs := [.int n]) (rest := []) (v := (some (.int 0))) (h1 := (hG σ sr ln Lc μ)) rfl rfl rfl (sp_X12_isName d _ _ hb) ?_
  refine am_g 2 18 [some (.ref 47), some (.int (nI o)), some (.int n), none, none, none] [.long (-4611686018427387904)] (hG σ sr ln Lc μ) rfl ?_
  exact am_ret2 rfl rfl rfl rfl rfl
theorem sp_X12_cut_0 (d : Nat) (hO : μ 19 0 = nI O) (hO16 : O ≤ 16) (o n : Nat) (ho : o < O) (hn : n < 20) (h0 : am_hb (ν 24 n) o = false) (hw : ∀ d, am_X xs LL (d + 6) 173 [.ref 47, .int 0, .int (-1)] (hG σ sr ln Lc μ) none (hG σ sr ln Lc ν)) : am_X xs LL (d + 7) 187 [.ref 47, .int (nI o), .int (nI n)] (hG σ sr ln Lc μ) (some (.long 0)) (hG σ sr ln Lc ν) := by
  refine am_XR (d := d + 6) (C := cd_X12_cut) (L := [some (.ref 47), some (.int (nI o)), some (.int (nI n)), none, none, none]) rfl rfl rfl rfl ?_
  refine am_g 2 2 [some (.ref 47), some (.int (nI o)), some (.int (nI n)), none, none, none] [.int (nI o), .ref 47] (hG σ sr ln Lc μ) rfl ?_
  refine am_call (y := 153) (vs := [.ref 47, .int (nI o)]) (rest := []) (v := (some (.int 1))) (h1 := (hG σ sr ln Lc μ)) rfl rfl rfl (sp_X12_isObject (σ := σ) (μ := μ) (d + 4) _ hO (by omega) (am_in_of_nI ho (by omega))) ?_
  refine am_g 2 9 [some (.ref 47), some (.int (nI o)), some (.int (nI n)), none, none, none] [.int (nI n)] (hG σ sr ln Lc μ) rfl ?_
  refine am_call (y := 143) (vs := [.int (nI n)]) (rest := []) (v := (some (.int 1))) (h1 := (hG σ sr ln Lc μ)) rfl rfl rfl (sp_X12_isName (d + 4) _ _ (am_in_of_nI hn (by omega))) ?_
  refine am_g 4 22 [some (.ref 47), some (.int (nI o)), some (.int (nI n)), none, none, none] [.int (-1), .int 0, .ref 47] (hG σ sr ln Lc μ) rfl ?_
  refine am_call (y := 173) (vs := [.ref 47, .int 0, .int (-1)]) (rest := []) (v := none) (h1 := (hG σ sr ln Lc ν)) rfl rfl rfl (hw d) ?_
  refine am_g 3 30 [some (.ref 47), some (.int (nI o)), some (.int (nI n)), none, none, none] [.int (nI n), .ref 65] (hG σ sr ln Lc ν) rfl ?_
  refine am_ialdR (n := 68) (f := (ν 24)) (k := n) rfl rfl (rfl) (by omega) (by decide) ?_
  refine am_g 5 (if (((ν 24 n) >>> ((nI o) &&& 31)) &&& 1) = 0 then 38 else 40) [some (.ref 47), some (.int (nI o)), some (.int (nI n)), none, none, none] [] (hG σ sr ln Lc ν) rfl ?_
  rw [if_pos (show (((ν 24 n) >>> ((nI o) &&& 31)) &&& 1) = 0 from (pu_hbF h0))]
  refine am_g 1 39 [some (.ref 47), some (.int (nI o)), some (.int (nI n)), none, none, none] [.long 0] (hG σ sr ln Lc ν) rfl ?_
  exact am_ret2 rfl rfl rfl rfl rfl
theorem am_RL_fr {ν0 : Nat → Nat → Int32} (h : (∀ j, j < 24 ∨ 28 < j → ν j = ν0 j)) (g : am_RL sr ln Lc ν0) : am_RL sr ln Lc ν := by
  unfold am_RL at *
  rw [h 17 (by omega), h 7 (by omega), h 8 (by omega), h 9 (by omega), h 10 (by omega), h 11 (by omega), h 12 (by omega), h 13 (by omega), h 14 (by omega), h 15 (by omega), h 16 (by omega)]
  exact g
theorem am_RK_fr {ν0 : Nat → Nat → Int32} (h : (∀ j, j < 24 ∨ 28 < j → ν j = ν0 j)) (g : am_RK σ ν0) : am_RK σ ν := by
  unfold am_RK at *
  rw [h 1 (by omega), h 2 (by omega), h 4 (by omega), h 5 (by omega), h 6 (by omega), h 3 (by omega)]
  exact g
theorem am_RO_fr {ν0 : Nat → Nat → Int32} (h : (∀ j, j < 24 ∨ 28 < j → ν j = ν0 j)) (g : am_RO σ sr ln Lc O ν0) : am_RO σ sr ln Lc O ν := by
  unfold am_RO at *
  rw [h 19 (by omega), h 18 (by omega)]
  exact g
theorem sp_X12_cut_ok {ν0 : Nat → Nat → Int32} (d : Nat) (hO : μ 19 0 = nI O) (hO16 : O ≤ 16) (hL40 : Lc ≤ 40) (hwf : am_WF σ sr ln Lc) (hob : pu_ob sr ln Lc O) (hRK : am_RK σ ν0) (hRL : am_RL sr ln Lc ν0) (hRO : am_RO σ sr ln Lc O ν0) (o n : Nat) (ho : o < O) (hn : n < 20) (h1 : am_hb (ν0 24 n) o = true) (cb : Nat → Bool) (hcb : ∀ i, i < Lc → ∀ N, pu_isN σ sr ln Lc false (nI i) N → am_hb (pu_W σ sr ln Lc false (nI i) N n) o = cb i) (hw : ∀ d, am_X xs LL (d + 6) 173 [.ref 47, .int 0, .int (-1)] (hG σ sr ln Lc μ) none (hG σ sr ln Lc ν0)) : ∃ ν1 : Nat → Nat → Int32, (∀ j, j < 24 ∨ 28 < j → ν1 j = ν0 j) ∧ am_X xs LL (d + 7) 187 [.ref 47, .int (nI o), .int (nI n)] (hG σ sr ln Lc μ) (some (.long (pu_ctF ln cb Lc 0 0))) (hG σ sr ln Lc ν1) := by
  have lp : ∀ (r i : Nat) (a : Int64) (ν : Nat → Nat → Int32), i + r = Lc → (∀ j, j < 24 ∨ 28 < j → ν j = ν0 j) → ∃ ν1 : Nat → Nat → Int32, (∀ j, j < 24 ∨ 28 < j → ν1 j = ν0 j) ∧ am_R xs LL cd_X12_cut (am_X xs LL (d + 6)) 45 [some (.ref 47), some (.int (nI o)), some (.int (nI n)), some (.long a), none, some (.int (nI i))] [] (hG σ sr ln Lc ν) (some (.long (pu_ctF ln cb r i a))) (hG σ sr ln Lc ν1) := by
    intro r
    induction r with
    | zero =>
      intro i a ν hi hfr
      have hi2 : i = Lc := by omega
      have hRLn := am_RL_fr hfr hRL
      refine ⟨ν, hfr, ?_⟩
      rw [hi2]
      refine am_g 3 51 [some (.ref 47), some (.int (nI o)), some (.int (nI n)), some (.long a), none, some (.int (nI Lc))] [.int (ν 17 0), .int (nI Lc)] (hG σ sr ln Lc ν) rfl ?_
      rw [show (ν 17 0) = (nI Lc) from hRLn.1]
      refine am_g 1 (if (nI Lc) ≤ (nI Lc) then 104 else 54) [some (.ref 47), some (.int (nI o)), some (.int (nI n)), some (.long a), none, some (.int (nI Lc))] [] (hG σ sr ln Lc ν) rfl ?_
      rw [if_pos (show (nI Lc) ≤ (nI Lc) from (am_dle (a := Lc) (b := Lc) (rfl) (rfl) (by omega) (by omega) (by omega)))]
      refine am_g 1 105 [some (.ref 47), some (.int (nI o)), some (.int (nI n)), some (.long a), none, some (.int (nI Lc))] [.long a] (hG σ sr ln Lc ν) rfl ?_
      exact am_ret2 rfl rfl rfl rfl rfl
    | succ r ih =>
      intro i a ν hi hfr
      have hi2 : i < Lc := by omega
      have hRLn := am_RL_fr hfr hRL
      by_cases hon : ln i 6 = 0
      · obtain ⟨ν1, hfr1, hh⟩ := ih (i + 1) a ν (by omega) hfr
        refine ⟨ν1, hfr1, ?_⟩
        rw [show (pu_ctF ln cb (r + 1) i a) = (pu_ctF ln cb r (i + 1) a) from by show pu_ctF ln cb r (i + 1) (pu_ctS ln cb i a) = _; unfold pu_ctS; rw [if_pos hon]]
        refine am_g 3 51 [some (.ref 47), some (.int (nI o)), some (.int (nI n)), some (.long a), none, some (.int (nI i))] [.int (ν 17 0), .int (nI i)] (hG σ sr ln Lc ν) rfl ?_
        rw [show (ν 17 0) = (nI Lc) from hRLn.1]
        refine am_g 1 (if (nI Lc) ≤ (nI i) then 104 else 54) [some (.ref 47), some (.int (nI o)), some (.int (nI n)), some (.long a), none, some (.int (nI i))] [] (hG σ sr ln Lc ν) rfl ?_
        rw [if_neg (show ¬ (nI Lc) ≤ (nI i) from (am_dnle (a := Lc) (b := i) (rfl) (rfl) (by omega) (by omega) (by omega)))]
        refine am_g 3 60 [some (.ref 47), some (.int (nI o)), some (.int (nI n)), some (.long a), none, some (.int (nI i))] [.int (nI i), .ref 60] (hG σ sr ln Lc ν) rfl ?_
        refine am_baldV (n := 40) (f := (ν 14)) (k := i) (w := (ln i 6)) rfl rfl (rfl) (by omega) (by decide) (hRLn.2.2.2.2.2.2.2.2.1 i hi2) ?_
        refine am_g 1 (if (ln i 6) = 0 then 64 else 67) [some (.ref 47), some (.int (nI o)), some (.int (nI n)), some (.long a), none, some (.int (nI i))] [] (hG σ sr ln Lc ν) rfl ?_
        rw [if_pos (show (ln i 6) = 0 from hon)]
        refine am_g 3 45 [some (.ref 47), some (.int (nI o)), some (.int (nI n)), some (.long a), none, some (.int ((nI i) + 1))] [] (hG σ sr ln Lc ν) rfl ?_
        rw [nI_up]
        exact hh
      · obtain ⟨ρ, N, hN, hρW, -, hfr2, hwo⟩ := sp_workOut_0 (μ := ν) xs LL hwf hob (am_RK_fr hfr hRK) hRLn (am_RO_fr hfr hRO) (nI i)
        have hcbi := hcb i hi2 N hN
        rw [← hρW n (by omega)] at hcbi
        have hfrρ : (∀ j, j < 24 ∨ 28 < j → ρ j = ν0 j) := fun j hj => (hfr2 j hj).trans (hfr j hj)
        obtain ⟨ν1, hfr1, hh⟩ := ih (i + 1) (pu_ctS ln cb i a) ρ (by omega) hfrρ
        refine ⟨ν1, hfr1, ?_⟩
        rw [show (pu_ctF ln cb (r + 1) i a) = (pu_ctF ln cb r (i + 1) (pu_ctS ln cb i a)) from rfl]
        cases hc : cb i with
        | true =>
          refine am_g 3 51 [some (.ref 47), some (.int (nI o)), some (.int (nI n)), some (.long a), none, some (.int (nI i))] [.int (ν 17 0), .int (nI i)] (hG σ sr ln Lc ν) rfl ?_
          rw [show (ν 17 0) = (nI Lc) from hRLn.1]
          refine am_g 1 (if (nI Lc) ≤ (nI i) then 104 else 54) [some (.ref 47), some (.int (nI o)), some (.int (nI n)), some (.long a), none, some (.int (nI i))] [] (hG σ sr ln Lc ν) rfl ?_
          rw [if_neg (show ¬ (nI Lc) ≤ (nI i) from (am_dnle (a := Lc) (b := i) (rfl) (rfl) (by omega) (by omega) (by omega)))]
          refine am_g 3 60 [some (.ref 47), some (.int (nI o)), some (.int (nI n)), some (.long a), none, some (.int (nI i))] [.int (nI i), .ref 60] (hG σ sr ln Lc ν) rfl ?_
          refine am_baldV (n := 40) (f := (ν 14)) (k := i) (w := (ln i 6)) rfl rfl (rfl) (by omega) (by decide) (hRLn.2.2.2.2.2.2.2.2.1 i hi2) ?_
          refine am_g 1 (if (ln i 6) = 0 then 64 else 67) [some (.ref 47), some (.int (nI o)), some (.int (nI n)), some (.long a), none, some (.int (nI i))] [] (hG σ sr ln Lc ν) rfl ?_
          rw [if_neg (show ¬ (ln i 6) = 0 from hon)]
          refine am_g 3 71 [some (.ref 47), some (.int (nI o)), some (.int (nI n)), some (.long a), none, some (.int (nI i))] [.int (nI i), .int 0, .ref 47] (hG σ sr ln Lc ν) rfl ?_
          refine am_call (y := 173) (vs := [.ref 47, .int 0, .int (nI i)]) (rest := []) (v := none) (h1 := (hG σ sr ln Lc ρ)) rfl rfl rfl (hwo d) ?_
          refine am_g 4 80 [some (.ref 47), some (.int (nI o)), some (.int (nI n)), some (.long a), none, some (.int (nI i))] [.int (nI n), .ref 65, .long a] (hG σ sr ln Lc ρ) rfl ?_
          refine am_ialdR (n := 68) (f := (ρ 24)) (k := n) rfl rfl (rfl) (by omega) (by decide) ?_
          refine am_g 5 (if (((ρ 24 n) >>> ((nI o) &&& 31)) &&& 1) = 0 then 88 else 95) [some (.ref 47), some (.int (nI o)), some (.int (nI n)), some (.long a), none, some (.int (nI i))] [.long a] (hG σ sr ln Lc ρ) rfl ?_
          rw [if_neg (show ¬ (((ρ 24 n) >>> ((nI o) &&& 31)) &&& 1) = 0 from (pu_hbT (hcbi.trans hc)))]
          refine am_g 5 45 [some (.ref 47), some (.int (nI o)), some (.int (nI n)), some (.long (a ||| 0)), none, some (.int ((nI i) + 1))] [] (hG σ sr ln Lc ρ) rfl ?_
          rw [nI_up, show (a ||| 0) = pu_ctS ln cb i a from by unfold pu_ctS; rw [if_neg hon, hc]; exact Int64.or_zero]
          exact hh
        | false =>
          refine am_g 3 51 [some (.ref 47), some (.int (nI o)), some (.int (nI n)), some (.long a), none, some (.int (nI i))] [.int (ν 17 0), .int (nI i)] (hG σ sr ln Lc ν) rfl ?_
          rw [show (ν 17 0) = (nI Lc) from hRLn.1]
          refine am_g 1 (if (nI Lc) ≤ (nI i) then 104 else 54) [some (.ref 47), some (.int (nI o)), some (.int (nI n)), some (.long a), none, some (.int (nI i))] [] (hG σ sr ln Lc ν) rfl ?_
          rw [if_neg (show ¬ (nI Lc) ≤ (nI i) from (am_dnle (a := Lc) (b := i) (rfl) (rfl) (by omega) (by omega) (by omega)))]
          refine am_g 3 60 [some (.ref 47), some (.int (nI o)), some (.int (nI n)), some (.long a), none, some (.int (nI i))] [.int (nI i), .ref 60] (hG σ sr ln Lc ν) rfl ?_
          refine am_baldV (n := 40) (f := (ν 14)) (k := i) (w := (ln i 6)) rfl rfl (rfl) (by omega) (by decide) (hRLn.2.2.2.2.2.2.2.2.1 i hi2) ?_
          refine am_g 1 (if (ln i 6) = 0 then 64 else 67) [some (.ref 47), some (.int (nI o)), some (.int (nI n)), some (.long a), none, some (.int (nI i))] [] (hG σ sr ln Lc ν) rfl ?_
          rw [if_neg (show ¬ (ln i 6) = 0 from hon)]
          refine am_g 3 71 [some (.ref 47), some (.int (nI o)), some (.int (nI n)), some (.long a), none, some (.int (nI i))] [.int (nI i), .int 0, .ref 47] (hG σ sr ln Lc ν) rfl ?_
          refine am_call (y := 173) (vs := [.ref 47, .int 0, .int (nI i)]) (rest := []) (v := none) (h1 := (hG σ sr ln Lc ρ)) rfl rfl rfl (hwo d) ?_
          refine am_g 4 80 [some (.ref 47), some (.int (nI o)), some (.int (nI n)), some (.long a), none, some (.int (nI i))] [.int (nI n), .ref 65, .long a] (hG σ sr ln Lc ρ) rfl ?_
          refine am_ialdR (n := 68) (f := (ρ 24)) (k := n) rfl rfl (rfl) (by omega) (by decide) ?_
          refine am_g 5 (if (((ρ 24 n) >>> ((nI o) &&& 31)) &&& 1) = 0 then 88 else 95) [some (.ref 47), some (.int (nI o)), some (.int (nI n)), some (.long a), none, some (.int (nI i))] [.long a] (hG σ sr ln Lc ρ) rfl ?_
          rw [if_pos (show (((ρ 24 n) >>> ((nI o) &&& 31)) &&& 1) = 0 from (pu_hbF (hcbi.trans hc)))]
          refine am_g 8 45 [some (.ref 47), some (.int (nI o)), some (.int (nI n)), some (.long (a ||| (1 <<< ((nI i).toInt64 &&& 63)))), none, some (.int ((nI i) + 1))] [] (hG σ sr ln Lc ρ) rfl ?_
          rw [nI_up, show (a ||| (1 <<< ((nI i).toInt64 &&& 63))) = pu_ctS ln cb i a from by unfold pu_ctS; rw [if_neg hon, hc]; rfl]
          exact hh
  obtain ⟨ν1, hfr1, hh⟩ := lp Lc 0 0 ν0 (by omega) (fun _ _ => rfl)
  refine ⟨ν1, hfr1, ?_⟩
  refine am_XR (d := d + 6) (C := cd_X12_cut) (L := [some (.ref 47), some (.int (nI o)), some (.int (nI n)), none, none, none]) rfl rfl rfl rfl ?_
  refine am_g 2 2 [some (.ref 47), some (.int (nI o)), some (.int (nI n)), none, none, none] [.int (nI o), .ref 47] (hG σ sr ln Lc μ) rfl ?_
  refine am_call (y := 153) (vs := [.ref 47, .int (nI o)]) (rest := []) (v := (some (.int 1))) (h1 := (hG σ sr ln Lc μ)) rfl rfl rfl (sp_X12_isObject (σ := σ) (μ := μ) (d + 4) _ hO (by omega) (am_in_of_nI ho (by omega))) ?_
  refine am_g 2 9 [some (.ref 47), some (.int (nI o)), some (.int (nI n)), none, none, none] [.int (nI n)] (hG σ sr ln Lc μ) rfl ?_
  refine am_call (y := 143) (vs := [.int (nI n)]) (rest := []) (v := (some (.int 1))) (h1 := (hG σ sr ln Lc μ)) rfl rfl rfl (sp_X12_isName (d + 4) _ _ (am_in_of_nI hn (by omega))) ?_
  refine am_g 4 22 [some (.ref 47), some (.int (nI o)), some (.int (nI n)), none, none, none] [.int (-1), .int 0, .ref 47] (hG σ sr ln Lc μ) rfl ?_
  refine am_call (y := 173) (vs := [.ref 47, .int 0, .int (-1)]) (rest := []) (v := none) (h1 := (hG σ sr ln Lc ν0)) rfl rfl rfl (hw d) ?_
  refine am_g 3 30 [some (.ref 47), some (.int (nI o)), some (.int (nI n)), none, none, none] [.int (nI n), .ref 65] (hG σ sr ln Lc ν0) rfl ?_
  refine am_ialdR (n := 68) (f := (ν0 24)) (k := n) rfl rfl (rfl) (by omega) (by decide) ?_
  refine am_g 5 (if (((ν0 24 n) >>> ((nI o) &&& 31)) &&& 1) = 0 then 38 else 40) [some (.ref 47), some (.int (nI o)), some (.int (nI n)), none, none, none] [] (hG σ sr ln Lc ν0) rfl ?_
  rw [if_neg (show ¬ (((ν0 24 n) >>> ((nI o) &&& 31)) &&& 1) = 0 from (pu_hbT h1))]
  refine am_g 4 45 [some (.ref 47), some (.int (nI o)), some (.int (nI n)), some (.long 0), none, some (.int 0)] [] (hG σ sr ln Lc ν0) rfl ?_
  exact hh
end AK
