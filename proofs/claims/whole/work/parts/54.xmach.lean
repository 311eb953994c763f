/-! the class: the machine -/
theorem lN_big {n : Nat} (h : n < 2 ^ 63) : (lN n).toInt = (n : Int) := Int64.toInt_ofNat_of_lt h
theorem lN_rem {a b : Nat} (ha : a < 2 ^ 62) (hb : b < 2 ^ 62) : lN a - lN a / lN b * lN b = lN (a % b) := by
  have hd : lN a / lN b = lN (a / b) := by
    apply Int64.toInt_inj.mp
    have h1 : a / b ≤ a := Nat.div_le_self a b
    rw [Int64.toInt_div, lN_big (by omega), lN_big (by omega), lN_big (by omega), ← Int.ofNat_tdiv]
    generalize a / b = q at *
    exact Int.bmod_eq_of_le (by omega) (by omega)
  have hm : a / b * b ≤ a := Nat.div_mul_le_self a b
  rw [hd, lN_mul, lN_sub hm]
  congr 1
  have := Nat.div_add_mod a b
  rw [Nat.mul_comm] at this
  omega
theorem am_lremR {xs : Nat → Int32} {LL : Nat} {C : Nat → Option am_En} {K : Nat → List Value → am_H → Option Value → am_H → Prop} {pc : Nat} {L : am_L} {st : List Value} {h : am_H} {r : Option Value} {h' : am_H} {ln0 aa : Nat} {v : Int} {tg : List (Nat × Nat)} {ps : List Nat} {x y : Int64} {a b : Nat} (hc : C pc = some (.lrem, ln0, aa, v, tg, ps)) (hx : x = lN a) (hy : y = lN b) (ha : a < 2 ^ 62) (hb : b < 2 ^ 62) (hb0 : 0 < b) (kk : am_R xs LL C K (pc + 1) L (.long (lN (a % b)) :: st) h r h') : am_R xs LL C K pc L (.long y :: .long x :: st) h r h' := by
  subst hx; subst hy
  refine am_R1 (S := (pc + 1, L, .long (lN (a % b)) :: st, h)) hc rfl ?_ kk
  have hne : ¬ lN b = 0 := by
    intro q
    have q := congrArg Int64.toInt q
    rw [lN_big (by omega), show (0 : Int64).toInt = 0 by decide] at q
    omega
  dsimp only [am_step, am_opL]
  rw [if_neg hne, lN_rem ha hb]
def am_pt1 (p v : Int32) (H : Nat → Int32) : Nat → Int32 := if p = -1 then H else upd H p.toNatClampNeg v
def am_pt2 (p v : Int32) (D : Nat → Int32) : Nat → Int32 := if p = -1 then D else if v = -1 then D else upd D p.toNatClampNeg (D p.toNatClampNeg ||| 1 <<< (v &&& 31))
def am_oaF (H : Nat → Int32) (p : Int32) : Int32 := if p = -1 then -1 else H p.toNatClampNeg
theorem am_oaF_nI {H : Nat → Int32} {k : Nat} (h : k < 2 ^ 31) : am_oaF H (nI k) = H k := by
  unfold am_oaF
  rw [if_neg (nI_m1 h), nI_clamp h]
theorem am_oaF_no {H : Nat → Int32} : am_oaF H (-1) = -1 := if_pos rfl
theorem am_pt1_nI {H : Nat → Int32} {v : Int32} {k : Nat} (h : k < 2 ^ 31) : am_pt1 (nI k) v H = upd H k v := by
  unfold am_pt1
  rw [if_neg (nI_m1 h), nI_clamp h]
theorem am_pt2_nI {D : Nat → Int32} {v : Int32} {k : Nat} (h : k < 2 ^ 31) : am_pt2 (nI k) v D = if v = -1 then D else upd D k (D k ||| 1 <<< (v &&& 31)) := by
  unfold am_pt2
  rw [if_neg (nI_m1 h), nI_clamp h]
section XM
variable {xs : Nat → Int32} {LL : Nat} {σ μ : Nat → Nat → Int32} {sr : Nat → Nat} {ln : Nat → Nat → Int32} {Lc O : Nat}
theorem sp_X4_objectAt_k (d : Nat) (k : Nat) (hk : k < 68) : am_X xs LL (d + 1) 36 [.ref 35, .int (nI k)] (hG σ sr ln Lc μ) (some (.int (σ 40 k))) (hG σ sr ln Lc μ) := by
  refine am_XR (d := d + 0) (C := cd_X4_objectAt) (L := [some (.ref 35), some (.int (nI k))]) rfl rfl rfl rfl ?_
  refine am_g 2 (if (nI k) < 0 then 22 else 4) [some (.ref 35), some (.int (nI k))] [] (hG σ sr ln Lc μ) rfl ?_
  rw [if_neg (show ¬ (nI k) < 0 from (am_dnlt (a := k) (b := 0) (rfl) (rfl) (by omega) (by omega) (by omega)))]
  refine am_g 5 (if 68 ≤ (nI k) then 22 else 13) [some (.ref 35), some (.int (nI k))] [] (hG σ sr ln Lc μ) rfl ?_
  rw [if_neg (show ¬ 68 ≤ (nI k) from (am_dnle (a := 68) (b := k) (rfl) (rfl) (by omega) (by omega) (by omega)))]
  refine am_g 3 18 [some (.ref 35), some (.int (nI k))] [.int (nI k), .ref 36] (hG σ sr ln Lc μ) rfl ?_
  refine am_ialdR (n := 68) (f := (σ 40)) (k := k) rfl rfl (rfl) (by omega) (by decide) ?_
  refine am_g 1 23 [some (.ref 35), some (.int (nI k))] [.int (σ 40 k)] (hG σ sr ln Lc μ) rfl ?_
  exact am_ret2 rfl rfl rfl rfl rfl
theorem sp_X4_objectAt_n (d : Nat)  : am_X xs LL (d + 1) 36 [.ref 35, .int (-1)] (hG σ sr ln Lc μ) (some (.int (-1))) (hG σ sr ln Lc μ) := by
  refine am_XR (d := d + 0) (C := cd_X4_objectAt) (L := [some (.ref 35), some (.int (-1))]) rfl rfl rfl rfl ?_
  refine am_g 3 23 [some (.ref 35), some (.int (-1))] [.int (-1)] (hG σ sr ln Lc μ) rfl ?_
  exact am_ret2 rfl rfl rfl rfl rfl
theorem sp_X4_hadAt_k (d : Nat) (k : Nat) (hk : k < 68) : am_X xs LL (d + 1) 37 [.ref 35, .int (nI k)] (hG σ sr ln Lc μ) (some (.int (σ 41 k))) (hG σ sr ln Lc μ) := by
  refine am_XR (d := d + 0) (C := cd_X4_hadAt) (L := [some (.ref 35), some (.int (nI k))]) rfl rfl rfl rfl ?_
  refine am_g 2 (if (nI k) < 0 then 22 else 4) [some (.ref 35), some (.int (nI k))] [] (hG σ sr ln Lc μ) rfl ?_
  rw [if_neg (show ¬ (nI k) < 0 from (am_dnlt (a := k) (b := 0) (rfl) (rfl) (by omega) (by omega) (by omega)))]
  refine am_g 5 (if 68 ≤ (nI k) then 22 else 13) [some (.ref 35), some (.int (nI k))] [] (hG σ sr ln Lc μ) rfl ?_
  rw [if_neg (show ¬ 68 ≤ (nI k) from (am_dnle (a := 68) (b := k) (rfl) (rfl) (by omega) (by omega) (by omega)))]
  refine am_g 3 18 [some (.ref 35), some (.int (nI k))] [.int (nI k), .ref 37] (hG σ sr ln Lc μ) rfl ?_
  refine am_ialdR (n := 68) (f := (σ 41)) (k := k) rfl rfl (rfl) (by omega) (by decide) ?_
  refine am_g 1 23 [some (.ref 35), some (.int (nI k))] [.int (σ 41 k)] (hG σ sr ln Lc μ) rfl ?_
  exact am_ret2 rfl rfl rfl rfl rfl
theorem sp_X4_objectAt (d : Nat) (p : Int32) (hp : am_pl 68 p) {v : Int32} (hv : am_oaF (σ 40) p = v) : am_X xs LL (d + 1) 36 [.ref 35, .int p] (hG σ sr ln Lc μ) (some (.int v)) (hG σ sr ln Lc μ) := by
  subst hv
  rcases hp with rfl | ⟨k, hk, rfl⟩
  · rw [am_oaF_no]; exact sp_X4_objectAt_n d
  · rw [am_oaF_nI (by omega)]; exact sp_X4_objectAt_k d k hk
theorem sp_X4_put_n (d : Nat) (v : Int32) : am_X xs LL (d + 1) 38 [.ref 35, .int (-1), .int v] (hG σ sr ln Lc μ) none (hG σ sr ln Lc μ) := by
  refine am_XR (d := d + 0) (C := cd_X4_put) (L := [some (.ref 35), some (.int (-1)), some (.int v)]) rfl rfl rfl rfl ?_
  refine am_g 2 22 [some (.ref 35), some (.int (-1)), some (.int v)] [] (hG σ sr ln Lc μ) rfl ?_
  exact am_ret2 rfl rfl rfl rfl rfl
theorem sp_X4_put_k0 (d : Nat) (k : Nat) (hk : k < 68) (v : Int32) (hv : v = -1) : am_X xs LL (d + 1) 38 [.ref 35, .int (nI k), .int v] (hG σ sr ln Lc μ) none (hG (am_up σ 40 (upd (σ 40) k v)) sr ln Lc μ) := by
  refine am_XR (d := d + 0) (C := cd_X4_put) (L := [some (.ref 35), some (.int (nI k)), some (.int v)]) rfl rfl rfl rfl ?_
  refine am_g 2 (if (nI k) < 0 then 22 else 4) [some (.ref 35), some (.int (nI k)), some (.int v)] [] (hG σ sr ln Lc μ) rfl ?_
  rw [if_neg (show ¬ (nI k) < 0 from (am_dnlt (a := k) (b := 0) (rfl) (rfl) (by omega) (by omega) (by omega)))]
  refine am_g 5 (if 68 ≤ (nI k) then 22 else 13) [some (.ref 35), some (.int (nI k)), some (.int v)] [] (hG σ sr ln Lc μ) rfl ?_
  rw [if_neg (show ¬ 68 ≤ (nI k) from (am_dnle (a := 68) (b := k) (rfl) (rfl) (by omega) (by omega) (by omega)))]
  refine am_g 5 (if (nI k) < 68 then 23 else 22) [some (.ref 35), some (.int (nI k)), some (.int v)] [] (hG σ sr ln Lc μ) rfl ?_
  rw [if_pos (show (nI k) < 68 from (am_dlt (a := k) (b := 68) (rfl) (rfl) (by omega) (by omega) (by omega)))]
  refine am_g 4 29 [some (.ref 35), some (.int (nI k)), some (.int v)] [.int v, .int (nI k), .ref 36] (hG σ sr ln Lc μ) rfl ?_
  refine am_iastR (n := 68) (f := (σ 40)) (k := k) (h1 := (hG (am_up σ 40 (upd (σ 40) k v)) sr ln Lc μ)) rfl rfl (rfl) (by omega) (by decide) rfl ?_
  refine am_g 3 (if v = (-1) then 47 else 35) [some (.ref 35), some (.int (nI k)), some (.int v)] [] (hG (am_up σ 40 (upd (σ 40) k v)) sr ln Lc μ) rfl ?_
  rw [if_pos (show v = (-1) from hv)]
  exact am_ret2 rfl rfl rfl rfl rfl
theorem sp_X4_put_k1 (d : Nat) (k : Nat) (hk : k < 68) (v : Int32) (hv : ¬ v = -1) : am_X xs LL (d + 1) 38 [.ref 35, .int (nI k), .int v] (hG σ sr ln Lc μ) none (hG (am_up (am_up σ 40 (upd (σ 40) k v)) 41 (upd (σ 41) k ((σ 41 k) ||| (1 <<< (v &&& 31))))) sr ln Lc μ) := by
  refine am_XR (d := d + 0) (C := cd_X4_put) (L := [some (.ref 35), some (.int (nI k)), some (.int v)]) rfl rfl rfl rfl ?_
  refine am_g 2 (if (nI k) < 0 then 22 else 4) [some (.ref 35), some (.int (nI k)), some (.int v)] [] (hG σ sr ln Lc μ) rfl ?_
  rw [if_neg (show ¬ (nI k) < 0 from (am_dnlt (a := k) (b := 0) (rfl) (rfl) (by omega) (by omega) (by omega)))]
  refine am_g 5 (if 68 ≤ (nI k) then 22 else 13) [some (.ref 35), some (.int (nI k)), some (.int v)] [] (hG σ sr ln Lc μ) rfl ?_
  rw [if_neg (show ¬ 68 ≤ (nI k) from (am_dnle (a := 68) (b := k) (rfl) (rfl) (by omega) (by omega) (by omega)))]
  refine am_g 5 (if (nI k) < 68 then 23 else 22) [some (.ref 35), some (.int (nI k)), some (.int v)] [] (hG σ sr ln Lc μ) rfl ?_
  rw [if_pos (show (nI k) < 68 from (am_dlt (a := k) (b := 68) (rfl) (rfl) (by omega) (by omega) (by omega)))]
  refine am_g 4 29 [some (.ref 35), some (.int (nI k)), some (.int v)] [.int v, .int (nI k), .ref 36] (hG σ sr ln Lc μ) rfl ?_
  refine am_iastR (n := 68) (f := (σ 40)) (k := k) (h1 := (hG (am_up σ 40 (upd (σ 40) k v)) sr ln Lc μ)) rfl rfl (rfl) (by omega) (by decide) rfl ?_
  refine am_g 3 (if v = (-1) then 47 else 35) [some (.ref 35), some (.int (nI k)), some (.int v)] [] (hG (am_up σ 40 (upd (σ 40) k v)) sr ln Lc μ) rfl ?_
  rw [if_neg (show ¬ v = (-1) from hv)]
  refine am_g 4 41 [some (.ref 35), some (.int (nI k)), some (.int v)] [.int (nI k), .ref 37, .int (nI k), .ref 37] (hG (am_up σ 40 (upd (σ 40) k v)) sr ln Lc μ) rfl ?_
  refine am_ialdR (n := 68) (f := (σ 41)) (k := k) rfl rfl (rfl) (by omega) (by decide) ?_
  refine am_g 4 46 [some (.ref 35), some (.int (nI k)), some (.int v)] [.int ((σ 41 k) ||| (1 <<< (v &&& 31))), .int (nI k), .ref 37] (hG (am_up σ 40 (upd (σ 40) k v)) sr ln Lc μ) rfl ?_
  refine am_iastR (n := 68) (f := (σ 41)) (k := k) (h1 := (hG (am_up (am_up σ 40 (upd (σ 40) k v)) 41 (upd (σ 41) k ((σ 41 k) ||| (1 <<< (v &&& 31))))) sr ln Lc μ)) rfl rfl (rfl) (by omega) (by decide) rfl ?_
  exact am_ret2 rfl rfl rfl rfl rfl
theorem sp_X4_put (d : Nat) (p v : Int32) (hp : am_pl 68 p) : am_X xs LL (d + 1) 38 [.ref 35, .int p, .int v] (hG σ sr ln Lc μ) none (hG (am_up (am_up σ 40 (am_pt1 p v (σ 40))) 41 (am_pt2 p v (σ 41))) sr ln Lc μ) := by
  rcases hp with rfl | ⟨k, hk, rfl⟩
  · rw [show am_pt1 (-1) v (σ 40) = σ 40 from if_pos rfl, show am_pt2 (-1) v (σ 41) = σ 41 from if_pos rfl, am_up_id, am_up_id]; exact sp_X4_put_n d v
  · rw [am_pt1_nI (by omega), am_pt2_nI (by omega)]
    by_cases hv : v = -1
    · rw [if_pos hv]; exact sp_X4_put_k0 d k hk v hv
    · rw [if_neg hv]; exact sp_X4_put_k1 d k hk v hv
theorem sp_X4_begin (d : Nat)  : am_X xs LL (d + 2) 35 [.ref 35] (hG σ sr ln Lc μ) none (hG (am_up (am_up σ 40 (am_fill (fun _ => (-1)) (σ 40) 68 0)) 41 (am_fill (fun _ => 0) (σ 41) 68 0)) sr ln Lc μ) := by
  refine am_XR (d := d + 1) (C := cd_X4_begin) (L := [some (.ref 35)]) rfl rfl rfl rfl ?_
  refine am_g 3 5 [some (.ref 35)] [.int (-1), .ref 36] (hG σ sr ln Lc μ) rfl ?_
  refine am_call (y := 209) (vs := [.ref 36, .int (-1)]) (rest := []) (v := none) (h1 := (hG (am_up σ 40 (am_fill (fun _ => (-1)) (σ 40) 68 0)) sr ln Lc μ)) rfl rfl rfl (sp_fill d _ 36 68 (σ 40) (-1) rfl (by decide) rfl) ?_
  refine am_g 3 13 [some (.ref 35)] [.int 0, .ref 37] (hG (am_up σ 40 (am_fill (fun _ => (-1)) (σ 40) 68 0)) sr ln Lc μ) rfl ?_
  refine am_call (y := 209) (vs := [.ref 37, .int 0]) (rest := []) (v := none) (h1 := (hG (am_up (am_up σ 40 (am_fill (fun _ => (-1)) (σ 40) 68 0)) 41 (am_fill (fun _ => 0) (σ 41) 68 0)) sr ln Lc μ)) rfl rfl rfl (sp_fill d _ 37 68 (σ 41) 0 rfl (by decide) rfl) ?_
  exact am_ret2 rfl rfl rfl rfl rfl
theorem sp_X4_isObjectUnder_t (d : Nat) (hab : am_wab (σ 1)) (hk4 : ∀ o, o < 16 → am_pl 8 (σ 4 o)) (o : Nat) (ho : o < 16) (k : Int32) (eb : am_undF (σ 1) k 9 (σ 4 o) = true) : am_X xs LL (d + 2) 39 [.ref 35, .int (nI o), .int k] (hG σ sr ln Lc μ) (some (.int 1)) (hG σ sr ln Lc μ) := by
  refine am_XR (d := d + 1) (C := cd_X4_isObjectUnder) (L := [some (.ref 35), some (.int (nI o)), some (.int k)]) rfl rfl rfl rfl ?_
  refine am_g 5 9 [some (.ref 35), some (.int (nI o)), some (.int k)] [.int (nI o), .ref 15, .ref 15] (hG σ sr ln Lc μ) rfl ?_
  refine am_call (y := 32) (vs := [.ref 15, .int (nI o)]) (rest := [.ref 15]) (v := (some (.int (σ 4 o)))) (h1 := (hG σ sr ln Lc μ)) rfl rfl rfl (sp_X3_kindOfObject_ok (σ := σ) (μ := μ) d o (by omega)) ?_
  refine am_g 1 13 [some (.ref 35), some (.int (nI o)), some (.int k)] [.int k, .int (σ 4 o), .ref 15] (hG σ sr ln Lc μ) rfl ?_
  refine am_call (y := 26) (vs := [.ref 15, .int (σ 4 o), .int k]) (rest := []) (v := (some (.int 1))) (h1 := (hG σ sr ln Lc μ)) rfl rfl rfl (sp_X3_isUnder (σ := σ) (μ := μ) d hab _ _ (hk4 o (by omega)) eb) ?_
  exact am_ret2 rfl rfl rfl rfl rfl
theorem sp_X4_isObjectUnder_f (d : Nat) (hab : am_wab (σ 1)) (hk4 : ∀ o, o < 16 → am_pl 8 (σ 4 o)) (o : Nat) (ho : o < 16) (k : Int32) (eb : am_undF (σ 1) k 9 (σ 4 o) = false) : am_X xs LL (d + 2) 39 [.ref 35, .int (nI o), .int k] (hG σ sr ln Lc μ) (some (.int 0)) (hG σ sr ln Lc μ) := by
  refine am_XR (d := d + 1) (C := cd_X4_isObjectUnder) (L := [some (.ref 35), some (.int (nI o)), some (.int k)]) rfl rfl rfl rfl ?_
  refine am_g 5 9 [some (.ref 35), some (.int (nI o)), some (.int k)] [.int (nI o), .ref 15, .ref 15] (hG σ sr ln Lc μ) rfl ?_
  refine am_call (y := 32) (vs := [.ref 15, .int (nI o)]) (rest := [.ref 15]) (v := (some (.int (σ 4 o)))) (h1 := (hG σ sr ln Lc μ)) rfl rfl rfl (sp_X3_kindOfObject_ok (σ := σ) (μ := μ) d o (by omega)) ?_
  refine am_g 1 13 [some (.ref 35), some (.int (nI o)), some (.int k)] [.int k, .int (σ 4 o), .ref 15] (hG σ sr ln Lc μ) rfl ?_
  refine am_call (y := 26) (vs := [.ref 15, .int (σ 4 o), .int k]) (rest := []) (v := (some (.int 0))) (h1 := (hG σ sr ln Lc μ)) rfl rfl rfl (sp_X3_isUnder (σ := σ) (μ := μ) d hab _ _ (hk4 o (by omega)) eb) ?_
  exact am_ret2 rfl rfl rfl rfl rfl
theorem sp_X4_isObjectUnder (d : Nat) (hab : am_wab (σ 1)) (hk4 : ∀ o, o < 16 → am_pl 8 (σ 4 o)) (o : Nat) (ho : o < 16) (k : Int32) {z : Bool} (eb : am_undF (σ 1) k 9 (σ 4 o) = z) : am_X xs LL (d + 2) 39 [.ref 35, .int (nI o), .int k] (hG σ sr ln Lc μ) (some (.int (am_b2 z))) (hG σ sr ln Lc μ) := by
  cases z with
  | true => exact sp_X4_isObjectUnder_t d hab hk4 o ho k eb
  | false => exact sp_X4_isObjectUnder_f d hab hk4 o ho k eb
theorem sp_X2_act (d : Nat) (i : Nat) (hi : i < Lc) (hs : sr i = 0) (h0 : am_pl 68 (ln i 0)) (h1 : am_pl 68 (ln i 1)) : am_X xs LL (d + 2) 19 [.ref (75 + i), .ref 35] (hG σ sr ln Lc μ) (some (.int 1)) (hG (am_up (am_up σ 40 (am_pt1 (ln i 0) (am_oaF (σ 40) (ln i 1)) (σ 40))) 41 (am_pt2 (ln i 0) (am_oaF (σ 40) (ln i 1)) (σ 41))) sr ln Lc μ) := by
  refine am_XR (d := d + 1) (C := cd_X2_act) (L := [some (.ref (75 + i)), some (.ref 35)]) rfl rfl rfl rfl ?_
  refine am_g 2 2 [some (.ref (75 + i)), some (.ref 35)] [.ref (75 + i), .ref 35] (hG σ sr ln Lc μ) rfl ?_
  refine am_lgetR (i := i) (k := 0) rfl (by omega) (by decide) (by rw [hs]; exact ⟨_, rfl⟩) ?_
  refine am_g 2 7 [some (.ref (75 + i)), some (.ref 35)] [.ref (75 + i), .ref 35, .int (ln i 0), .ref 35] (hG σ sr ln Lc μ) rfl ?_
  refine am_lgetR (i := i) (k := 1) rfl (by omega) (by decide) (by rw [hs]; exact ⟨_, rfl⟩) ?_
  refine am_call (y := 36) (vs := [.ref 35, .int (ln i 1)]) (rest := [.int (ln i 0), .ref 35]) (v := (some (.int (am_oaF (σ 40) (ln i 1))))) (h1 := (hG σ sr ln Lc μ)) rfl rfl rfl (sp_X4_objectAt (σ := σ) (μ := μ) d _ h1 rfl) ?_
  refine am_call (y := 38) (vs := [.ref 35, .int (ln i 0), .int (am_oaF (σ 40) (ln i 1))]) (rest := []) (v := none) (h1 := (hG (am_up (am_up σ 40 (am_pt1 (ln i 0) (am_oaF (σ 40) (ln i 1)) (σ 40))) 41 (am_pt2 (ln i 0) (am_oaF (σ 40) (ln i 1)) (σ 41))) sr ln Lc μ)) rfl rfl rfl (sp_X4_put (σ := σ) (μ := μ) d _ _ h0) ?_
  refine am_g 1 17 [some (.ref (75 + i)), some (.ref 35)] [.int 1] (hG (am_up (am_up σ 40 (am_pt1 (ln i 0) (am_oaF (σ 40) (ln i 1)) (σ 40))) 41 (am_pt2 (ln i 0) (am_oaF (σ 40) (ln i 1)) (σ 41))) sr ln Lc μ) rfl ?_
  exact am_ret2 rfl rfl rfl rfl rfl
theorem sp_X5_act (d : Nat) (i : Nat) (hi : i < Lc) (hs : sr i = 5) (h0 : am_pl 68 (ln i 0))  : am_X xs LL (d + 2) 44 [.ref (75 + i), .ref 35] (hG σ sr ln Lc μ) (some (.int 1)) (hG (am_up (am_up σ 40 (am_pt1 (ln i 0) (ln i 7) (σ 40))) 41 (am_pt2 (ln i 0) (ln i 7) (σ 41))) sr ln Lc μ) := by
  refine am_XR (d := d + 1) (C := cd_X5_act) (L := [some (.ref (75 + i)), some (.ref 35)]) rfl rfl rfl rfl ?_
  refine am_g 2 2 [some (.ref (75 + i)), some (.ref 35)] [.ref (75 + i), .ref 35] (hG σ sr ln Lc μ) rfl ?_
  refine am_lgetR (i := i) (k := 0) rfl (by omega) (by decide) (by rw [hs]; exact ⟨_, rfl⟩) ?_
  refine am_g 1 6 [some (.ref (75 + i)), some (.ref 35)] [.ref (75 + i), .int (ln i 0), .ref 35] (hG σ sr ln Lc μ) rfl ?_
  refine am_lget7R (i := i) rfl (by omega) (by rw [hs]; rfl) (by rw [hs]; exact ⟨_, rfl⟩) ?_
  refine am_call (y := 38) (vs := [.ref 35, .int (ln i 0), .int (ln i 7)]) (rest := []) (v := none) (h1 := (hG (am_up (am_up σ 40 (am_pt1 (ln i 0) (ln i 7) (σ 40))) 41 (am_pt2 (ln i 0) (ln i 7) (σ 41))) sr ln Lc μ)) rfl rfl rfl (sp_X4_put (σ := σ) (μ := μ) d _ _ h0) ?_
  refine am_g 1 13 [some (.ref (75 + i)), some (.ref 35)] [.int 1] (hG (am_up (am_up σ 40 (am_pt1 (ln i 0) (ln i 7) (σ 40))) 41 (am_pt2 (ln i 0) (ln i 7) (σ 41))) sr ln Lc μ) rfl ?_
  exact am_ret2 rfl rfl rfl rfl rfl
theorem sp_X1_act_z (d : Nat) (i : Nat) (hi : i < Lc) (hs : sr i = 1) (h0 : am_pl 68 (ln i 0)) (h1 : am_pl 68 (ln i 1)) (hv : am_oaF (σ 40) (ln i 1) = -1) : am_X xs LL (d + 2) 11 [.ref (75 + i), .ref 35] (hG σ sr ln Lc μ) (some (.int 1)) (hG (am_up (am_up σ 40 (am_pt1 (ln i 0) (-1) (σ 40))) 41 (am_pt2 (ln i 0) (-1) (σ 41))) sr ln Lc μ) := by
  refine am_XR (d := d + 1) (C := cd_X1_act) (L := [some (.ref (75 + i)), some (.ref 35), none]) rfl rfl rfl rfl ?_
  refine am_g 2 2 [some (.ref (75 + i)), some (.ref 35), none] [.ref (75 + i), .ref 35] (hG σ sr ln Lc μ) rfl ?_
  refine am_lgetR (i := i) (k := 1) rfl (by omega) (by decide) (by rw [hs]; exact ⟨_, rfl⟩) ?_
  refine am_call (y := 36) (vs := [.ref 35, .int (ln i 1)]) (rest := []) (v := (some (.int (-1)))) (h1 := (hG σ sr ln Lc μ)) rfl rfl rfl (sp_X4_objectAt (σ := σ) (μ := μ) d _ h1 hv) ?_
  refine am_g 6 30 [some (.ref (75 + i)), some (.ref 35), some (.int (-1))] [.ref (75 + i), .ref 35] (hG σ sr ln Lc μ) rfl ?_
  refine am_lgetR (i := i) (k := 0) rfl (by omega) (by decide) (by rw [hs]; exact ⟨_, rfl⟩) ?_
  refine am_g 1 34 [some (.ref (75 + i)), some (.ref 35), some (.int (-1))] [.int (-1), .int (ln i 0), .ref 35] (hG σ sr ln Lc μ) rfl ?_
  refine am_call (y := 38) (vs := [.ref 35, .int (ln i 0), .int (-1)]) (rest := []) (v := none) (h1 := (hG (am_up (am_up σ 40 (am_pt1 (ln i 0) (-1) (σ 40))) 41 (am_pt2 (ln i 0) (-1) (σ 41))) sr ln Lc μ)) rfl rfl rfl (sp_X4_put (σ := σ) (μ := μ) d _ _ h0) ?_
  refine am_g 1 38 [some (.ref (75 + i)), some (.ref 35), some (.int (-1))] [.int 1] (hG (am_up (am_up σ 40 (am_pt1 (ln i 0) (-1) (σ 40))) 41 (am_pt2 (ln i 0) (-1) (σ 41))) sr ln Lc μ) rfl ?_
  exact am_ret2 rfl rfl rfl rfl rfl
theorem sp_X1_act_y (d : Nat) (i : Nat) (hi : i < Lc) (hs : sr i = 1) (h0 : am_pl 68 (ln i 0)) (h1 : am_pl 68 (ln i 1)) (o : Nat) (ho : o < 16) (hv : am_oaF (σ 40) (ln i 1) = nI o) (hab : am_wab (σ 1)) (hk4 : ∀ o, o < 16 → am_pl 8 (σ 4 o)) (hu : am_undF (σ 1) (ln i 2) 9 (σ 4 o) = true) : am_X xs LL (d + 3) 11 [.ref (75 + i), .ref 35] (hG σ sr ln Lc μ) (some (.int 1)) (hG (am_up (am_up σ 40 (am_pt1 (ln i 0) (nI o) (σ 40))) 41 (am_pt2 (ln i 0) (nI o) (σ 41))) sr ln Lc μ) := by
  refine am_XR (d := d + 2) (C := cd_X1_act) (L := [some (.ref (75 + i)), some (.ref 35), none]) rfl rfl rfl rfl ?_
  refine am_g 2 2 [some (.ref (75 + i)), some (.ref 35), none] [.ref (75 + i), .ref 35] (hG σ sr ln Lc μ) rfl ?_
  refine am_lgetR (i := i) (k := 1) rfl (by omega) (by decide) (by rw [hs]; exact ⟨_, rfl⟩) ?_
  refine am_call (y := 36) (vs := [.ref 35, .int (ln i 1)]) (rest := []) (v := (some (.int (nI o)))) (h1 := (hG σ sr ln Lc μ)) rfl rfl rfl (sp_X4_objectAt (σ := σ) (μ := μ) (d + 1) _ h1 hv) ?_
  refine am_g 4 (if (nI o) = (-1) then 28 else 14) [some (.ref (75 + i)), some (.ref 35), some (.int (nI o))] [] (hG σ sr ln Lc μ) rfl ?_
  rw [if_neg (show ¬ (nI o) = (-1) from (nI_m1 (by omega)))]
  refine am_g 3 17 [some (.ref (75 + i)), some (.ref 35), some (.int (nI o))] [.ref (75 + i), .int (nI o), .ref 35] (hG σ sr ln Lc μ) rfl ?_
  refine am_lgetR (i := i) (k := 2) rfl (by omega) (by decide) (by rw [hs]; exact ⟨_, rfl⟩) ?_
  refine am_call (y := 39) (vs := [.ref 35, .int (nI o), .int (ln i 2)]) (rest := []) (v := (some (.int 1))) (h1 := (hG σ sr ln Lc μ)) rfl rfl rfl (sp_X4_isObjectUnder (σ := σ) (μ := μ) d hab hk4 o ho _ hu) ?_
  refine am_g 3 30 [some (.ref (75 + i)), some (.ref 35), some (.int (nI o))] [.ref (75 + i), .ref 35] (hG σ sr ln Lc μ) rfl ?_
  refine am_lgetR (i := i) (k := 0) rfl (by omega) (by decide) (by rw [hs]; exact ⟨_, rfl⟩) ?_
  refine am_g 1 34 [some (.ref (75 + i)), some (.ref 35), some (.int (nI o))] [.int (nI o), .int (ln i 0), .ref 35] (hG σ sr ln Lc μ) rfl ?_
  refine am_call (y := 38) (vs := [.ref 35, .int (ln i 0), .int (nI o)]) (rest := []) (v := none) (h1 := (hG (am_up (am_up σ 40 (am_pt1 (ln i 0) (nI o) (σ 40))) 41 (am_pt2 (ln i 0) (nI o) (σ 41))) sr ln Lc μ)) rfl rfl rfl (sp_X4_put (σ := σ) (μ := μ) (d + 1) _ _ h0) ?_
  refine am_g 1 38 [some (.ref (75 + i)), some (.ref 35), some (.int (nI o))] [.int 1] (hG (am_up (am_up σ 40 (am_pt1 (ln i 0) (nI o) (σ 40))) 41 (am_pt2 (ln i 0) (nI o) (σ 41))) sr ln Lc μ) rfl ?_
  exact am_ret2 rfl rfl rfl rfl rfl
theorem sp_X1_act_n (d : Nat) (i : Nat) (hi : i < Lc) (hs : sr i = 1) (h0 : am_pl 68 (ln i 0)) (h1 : am_pl 68 (ln i 1)) (o : Nat) (ho : o < 16) (hv : am_oaF (σ 40) (ln i 1) = nI o) (hab : am_wab (σ 1)) (hk4 : ∀ o, o < 16 → am_pl 8 (σ 4 o)) (hu : am_undF (σ 1) (ln i 2) 9 (σ 4 o) = false) : am_X xs LL (d + 3) 11 [.ref (75 + i), .ref 35] (hG σ sr ln Lc μ) (some (.int 0)) (hG σ sr ln Lc μ) := by
  refine am_XR (d := d + 2) (C := cd_X1_act) (L := [some (.ref (75 + i)), some (.ref 35), none]) rfl rfl rfl rfl ?_
  refine am_g 2 2 [some (.ref (75 + i)), some (.ref 35), none] [.ref (75 + i), .ref 35] (hG σ sr ln Lc μ) rfl ?_
  refine am_lgetR (i := i) (k := 1) rfl (by omega) (by decide) (by rw [hs]; exact ⟨_, rfl⟩) ?_
  refine am_call (y := 36) (vs := [.ref 35, .int (ln i 1)]) (rest := []) (v := (some (.int (nI o)))) (h1 := (hG σ sr ln Lc μ)) rfl rfl rfl (sp_X4_objectAt (σ := σ) (μ := μ) (d + 1) _ h1 hv) ?_
  refine am_g 4 (if (nI o) = (-1) then 28 else 14) [some (.ref (75 + i)), some (.ref 35), some (.int (nI o))] [] (hG σ sr ln Lc μ) rfl ?_
  rw [if_neg (show ¬ (nI o) = (-1) from (nI_m1 (by omega)))]
  refine am_g 3 17 [some (.ref (75 + i)), some (.ref 35), some (.int (nI o))] [.ref (75 + i), .int (nI o), .ref 35] (hG σ sr ln Lc μ) rfl ?_
  refine am_lgetR (i := i) (k := 2) rfl (by omega) (by decide) (by rw [hs]; exact ⟨_, rfl⟩) ?_
  refine am_call (y := 39) (vs := [.ref 35, .int (nI o), .int (ln i 2)]) (rest := []) (v := (some (.int 0))) (h1 := (hG σ sr ln Lc μ)) rfl rfl rfl (sp_X4_isObjectUnder (σ := σ) (μ := μ) d hab hk4 o ho _ hu) ?_
  refine am_g 2 27 [some (.ref (75 + i)), some (.ref 35), some (.int (nI o))] [.int 0] (hG σ sr ln Lc μ) rfl ?_
  exact am_ret2 rfl rfl rfl rfl rfl
theorem sp_X6_act_z (d : Nat) (i : Nat) (hi : i < Lc) (hs : sr i = 2) (h0 : am_pl 68 (ln i 0)) (h1 : am_pl 68 (ln i 1)) (hv : am_oaF (σ 40) (ln i 1) = -1) : am_X xs LL (d + 2) 50 [.ref (75 + i), .ref 35] (hG σ sr ln Lc μ) (some (.int 0)) (hG σ sr ln Lc μ) := by
  refine am_XR (d := d + 1) (C := cd_X6_act) (L := [some (.ref (75 + i)), some (.ref 35), none]) rfl rfl rfl rfl ?_
  refine am_g 2 2 [some (.ref (75 + i)), some (.ref 35), none] [.ref (75 + i), .ref 35] (hG σ sr ln Lc μ) rfl ?_
  refine am_lgetR (i := i) (k := 1) rfl (by omega) (by decide) (by rw [hs]; exact ⟨_, rfl⟩) ?_
  refine am_call (y := 36) (vs := [.ref 35, .int (ln i 1)]) (rest := []) (v := (some (.int (-1)))) (h1 := (hG σ sr ln Lc μ)) rfl rfl rfl (sp_X4_objectAt (σ := σ) (μ := μ) d _ h1 hv) ?_
  refine am_g 5 15 [some (.ref (75 + i)), some (.ref 35), some (.int (-1))] [.int 0] (hG σ sr ln Lc μ) rfl ?_
  exact am_ret2 rfl rfl rfl rfl rfl
theorem sp_X6_act_y (d : Nat) (i : Nat) (hi : i < Lc) (hs : sr i = 2) (h0 : am_pl 68 (ln i 0)) (h1 : am_pl 68 (ln i 1)) {n : Nat} (hn : ln i 2 = nI n) (hn3 : n < 3) (o : Nat) (ho : o < 16) (hv : am_oaF (σ 40) (ln i 1) = nI o) : am_X xs LL (d + 3) 50 [.ref (75 + i), .ref 35] (hG σ sr ln Lc μ) (some (.int 1)) (hG (am_up (am_up σ 40 (am_pt1 (ln i 0) (σ 40 (20 + 3 * o + n)) (σ 40))) 41 (am_pt2 (ln i 0) (σ 40 (20 + 3 * o + n)) (σ 41))) sr ln Lc μ) := by
  refine am_XR (d := d + 2) (C := cd_X6_act) (L := [some (.ref (75 + i)), some (.ref 35), none]) rfl rfl rfl rfl ?_
  refine am_g 2 2 [some (.ref (75 + i)), some (.ref 35), none] [.ref (75 + i), .ref 35] (hG σ sr ln Lc μ) rfl ?_
  refine am_lgetR (i := i) (k := 1) rfl (by omega) (by decide) (by rw [hs]; exact ⟨_, rfl⟩) ?_
  refine am_call (y := 36) (vs := [.ref 35, .int (ln i 1)]) (rest := []) (v := (some (.int (nI o)))) (h1 := (hG σ sr ln Lc μ)) rfl rfl rfl (sp_X4_objectAt (σ := σ) (μ := μ) (d + 1) _ h1 hv) ?_
  refine am_g 4 (if (nI o) = (-1) then 14 else 16) [some (.ref (75 + i)), some (.ref 35), some (.int (nI o))] [] (hG σ sr ln Lc μ) rfl ?_
  rw [if_neg (show ¬ (nI o) = (-1) from (nI_m1 (by omega)))]
  refine am_g 2 18 [some (.ref (75 + i)), some (.ref 35), some (.int (nI o))] [.ref (75 + i), .ref 35] (hG σ sr ln Lc μ) rfl ?_
  refine am_lgetR (i := i) (k := 0) rfl (by omega) (by decide) (by rw [hs]; exact ⟨_, rfl⟩) ?_
  refine am_g 3 24 [some (.ref (75 + i)), some (.ref 35), some (.int (nI o))] [.ref (75 + i), .int (nI o), .ref 35, .int (ln i 0), .ref 35] (hG σ sr ln Lc μ) rfl ?_
  refine am_lgetR (i := i) (k := 2) rfl (by omega) (by decide) (by rw [hs]; exact ⟨_, rfl⟩) ?_
  refine am_call (y := 127) (vs := [.int (nI o), .int (ln i 2)]) (rest := [.ref 35, .int (ln i 0), .ref 35]) (v := (some (.int (nI (20 + 3 * o + n))))) (h1 := (hG σ sr ln Lc μ)) rfl rfl rfl (sp_X11_fieldPlace_v d o n _ _ (rfl) (hn) (by omega) (by omega) _) ?_
  refine am_call (y := 36) (vs := [.ref 35, .int (nI (20 + 3 * o + n))]) (rest := [.int (ln i 0), .ref 35]) (v := (some (.int (σ 40 (20 + 3 * o + n))))) (h1 := (hG σ sr ln Lc μ)) rfl rfl rfl (sp_X4_objectAt (σ := σ) (μ := μ) (d + 1) _ (am_pl_nI (by omega)) (am_oaF_nI (by omega))) ?_
  refine am_call (y := 38) (vs := [.ref 35, .int (ln i 0), .int (σ 40 (20 + 3 * o + n))]) (rest := []) (v := none) (h1 := (hG (am_up (am_up σ 40 (am_pt1 (ln i 0) (σ 40 (20 + 3 * o + n)) (σ 40))) 41 (am_pt2 (ln i 0) (σ 40 (20 + 3 * o + n)) (σ 41))) sr ln Lc μ)) rfl rfl rfl (sp_X4_put (σ := σ) (μ := μ) (d + 1) _ _ h0) ?_
  refine am_g 1 37 [some (.ref (75 + i)), some (.ref 35), some (.int (nI o))] [.int 1] (hG (am_up (am_up σ 40 (am_pt1 (ln i 0) (σ 40 (20 + 3 * o + n)) (σ 40))) 41 (am_pt2 (ln i 0) (σ 40 (20 + 3 * o + n)) (σ 41))) sr ln Lc μ) rfl ?_
  exact am_ret2 rfl rfl rfl rfl rfl
theorem sp_X10_act_z (d : Nat) (i : Nat) (hi : i < Lc) (hs : sr i = 3) (h0 : am_pl 68 (ln i 0)) (h1 : am_pl 68 (ln i 1)) (hv : am_oaF (σ 40) (ln i 0) = -1) : am_X xs LL (d + 2) 86 [.ref (75 + i), .ref 35] (hG σ sr ln Lc μ) (some (.int 0)) (hG σ sr ln Lc μ) := by
  refine am_XR (d := d + 1) (C := cd_X10_act) (L := [some (.ref (75 + i)), some (.ref 35), none]) rfl rfl rfl rfl ?_
  refine am_g 2 2 [some (.ref (75 + i)), some (.ref 35), none] [.ref (75 + i), .ref 35] (hG σ sr ln Lc μ) rfl ?_
  refine am_lgetR (i := i) (k := 0) rfl (by omega) (by decide) (by rw [hs]; exact ⟨_, rfl⟩) ?_
  refine am_call (y := 36) (vs := [.ref 35, .int (ln i 0)]) (rest := []) (v := (some (.int (-1)))) (h1 := (hG σ sr ln Lc μ)) rfl rfl rfl (sp_X4_objectAt (σ := σ) (μ := μ) d _ h0 hv) ?_
  refine am_g 5 15 [some (.ref (75 + i)), some (.ref 35), some (.int (-1))] [.int 0] (hG σ sr ln Lc μ) rfl ?_
  exact am_ret2 rfl rfl rfl rfl rfl
theorem sp_X10_act_y (d : Nat) (i : Nat) (hi : i < Lc) (hs : sr i = 3) (h0 : am_pl 68 (ln i 0)) (h1 : am_pl 68 (ln i 1)) {n : Nat} (hn : ln i 2 = nI n) (hn3 : n < 3) (o : Nat) (ho : o < 16) (hv : am_oaF (σ 40) (ln i 0) = nI o) : am_X xs LL (d + 3) 86 [.ref (75 + i), .ref 35] (hG σ sr ln Lc μ) (some (.int 1)) (hG (am_up (am_up σ 40 (am_pt1 (nI (20 + 3 * o + n)) (am_oaF (σ 40) (ln i 1)) (σ 40))) 41 (am_pt2 (nI (20 + 3 * o + n)) (am_oaF (σ 40) (ln i 1)) (σ 41))) sr ln Lc μ) := by
  refine am_XR (d := d + 2) (C := cd_X10_act) (L := [some (.ref (75 + i)), some (.ref 35), none]) rfl rfl rfl rfl ?_
  refine am_g 2 2 [some (.ref (75 + i)), some (.ref 35), none] [.ref (75 + i), .ref 35] (hG σ sr ln Lc μ) rfl ?_
  refine am_lgetR (i := i) (k := 0) rfl (by omega) (by decide) (by rw [hs]; exact ⟨_, rfl⟩) ?_
  refine am_call (y := 36) (vs := [.ref 35, .int (ln i 0)]) (rest := []) (v := (some (.int (nI o)))) (h1 := (hG σ sr ln Lc μ)) rfl rfl rfl (sp_X4_objectAt (σ := σ) (μ := μ) (d + 1) _ h0 hv) ?_
  refine am_g 4 (if (nI o) = (-1) then 14 else 16) [some (.ref (75 + i)), some (.ref 35), some (.int (nI o))] [] (hG σ sr ln Lc μ) rfl ?_
  rw [if_neg (show ¬ (nI o) = (-1) from (nI_m1 (by omega)))]
  refine am_g 3 19 [some (.ref (75 + i)), some (.ref 35), some (.int (nI o))] [.ref (75 + i), .int (nI o), .ref 35] (hG σ sr ln Lc μ) rfl ?_
  refine am_lgetR (i := i) (k := 2) rfl (by omega) (by decide) (by rw [hs]; exact ⟨_, rfl⟩) ?_
  refine am_call (y := 127) (vs := [.int (nI o), .int (ln i 2)]) (rest := [.ref 35]) (v := (some (.int (nI (20 + 3 * o + n))))) (h1 := (hG σ sr ln Lc μ)) rfl rfl rfl (sp_X11_fieldPlace_v d o n _ _ (rfl) (hn) (by omega) (by omega) _) ?_
  refine am_g 2 27 [some (.ref (75 + i)), some (.ref 35), some (.int (nI o))] [.ref (75 + i), .ref 35, .int (nI (20 + 3 * o + n)), .ref 35] (hG σ sr ln Lc μ) rfl ?_
  refine am_lgetR (i := i) (k := 1) rfl (by omega) (by decide) (by rw [hs]; exact ⟨_, rfl⟩) ?_
  refine am_call (y := 36) (vs := [.ref 35, .int (ln i 1)]) (rest := [.int (nI (20 + 3 * o + n)), .ref 35]) (v := (some (.int (am_oaF (σ 40) (ln i 1))))) (h1 := (hG σ sr ln Lc μ)) rfl rfl rfl (sp_X4_objectAt (σ := σ) (μ := μ) (d + 1) _ h1 rfl) ?_
  refine am_call (y := 38) (vs := [.ref 35, .int (nI (20 + 3 * o + n)), .int (am_oaF (σ 40) (ln i 1))]) (rest := []) (v := none) (h1 := (hG (am_up (am_up σ 40 (am_pt1 (nI (20 + 3 * o + n)) (am_oaF (σ 40) (ln i 1)) (σ 40))) 41 (am_pt2 (nI (20 + 3 * o + n)) (am_oaF (σ 40) (ln i 1)) (σ 41))) sr ln Lc μ)) rfl rfl rfl (sp_X4_put (σ := σ) (μ := μ) (d + 1) _ _ (am_pl_nI (by omega))) ?_
  refine am_g 1 37 [some (.ref (75 + i)), some (.ref 35), some (.int (nI o))] [.int 1] (hG (am_up (am_up σ 40 (am_pt1 (nI (20 + 3 * o + n)) (am_oaF (σ 40) (ln i 1)) (σ 40))) 41 (am_pt2 (nI (20 + 3 * o + n)) (am_oaF (σ 40) (ln i 1)) (σ 41))) sr ln Lc μ) rfl ?_
  exact am_ret2 rfl rfl rfl rfl rfl
theorem sp_X3_aimOf_v (d : Nat) (hab : am_wab (σ 1)) (kk : Int32) (a : Nat) (w : Int32) (hw : w = nI a) (ha : a < 3) (hk : am_pl 8 kk) {v : Int32} (hv : am_aimF (σ 1) (σ 2) a 9 kk = v) : am_X xs LL (d + 1) 25 [.ref 15, .int kk, .int w] (hG σ sr ln Lc μ) (some (.int v)) (hG σ sr ln Lc μ) := by
  subst hw; subst hv
  exact sp_X3_aimOf d hab kk a hk ha
theorem sp_X0_act_z (d : Nat) (i : Nat) (hi : i < Lc) (hs : sr i = 4) (h0 : am_pl 68 (ln i 0)) (h1 : am_pl 68 (ln i 1)) (h7 : am_pl 68 (ln i 7)) {n : Nat} (hn : ln i 2 = nI n) (hn3 : n < 3) (hab : am_wab (σ 1)) (hk4 : ∀ o, o < 16 → am_pl 8 (σ 4 o)) (hv : am_oaF (σ 40) (ln i 1) = -1) : am_X xs LL (d + 2) 6 [.ref (75 + i), .ref 35] (hG σ sr ln Lc μ) (some (.int 0)) (hG σ sr ln Lc μ) := by
  refine am_XR (d := d + 1) (C := cd_X0_act) (L := [some (.ref (75 + i)), some (.ref 35), none, none, none, none, none]) rfl rfl rfl rfl ?_
  refine am_g 5 7 [some (.ref (75 + i)), some (.ref 35), some (.ref 15), none, none, none, none] [.ref (75 + i), .ref 35] (hG σ sr ln Lc μ) rfl ?_
  refine am_lgetR (i := i) (k := 1) rfl (by omega) (by decide) (by rw [hs]; exact ⟨_, rfl⟩) ?_
  refine am_call (y := 36) (vs := [.ref 35, .int (ln i 1)]) (rest := []) (v := (some (.int (-1)))) (h1 := (hG σ sr ln Lc μ)) rfl rfl rfl (sp_X4_objectAt (σ := σ) (μ := μ) d _ h1 hv) ?_
  refine am_g 4 17 [some (.ref (75 + i)), some (.ref 35), some (.ref 15), some (.int (-1)), none, none, none] [.int (-1), .ref 15, .ref 15] (hG σ sr ln Lc μ) rfl ?_
  refine am_call (y := 32) (vs := [.ref 15, .int (-1)]) (rest := [.ref 15]) (v := (some (.int (-1)))) (h1 := (hG σ sr ln Lc μ)) rfl rfl rfl (sp_X3_kindOfObject_no (σ := σ) (μ := μ) d) ?_
  refine am_g 1 21 [some (.ref (75 + i)), some (.ref 35), some (.ref 15), some (.int (-1)), none, none, none] [.ref (75 + i), .int (-1), .ref 15] (hG σ sr ln Lc μ) rfl ?_
  refine am_lgetR (i := i) (k := 2) rfl (by omega) (by decide) (by rw [hs]; exact ⟨_, rfl⟩) ?_
  refine am_call (y := 25) (vs := [.ref 15, .int (-1), .int (ln i 2)]) (rest := []) (v := (some (.int (-1)))) (h1 := (hG σ sr ln Lc μ)) rfl rfl rfl (sp_X3_aimOf_v (σ := σ) (μ := μ) d hab _ n _ hn hn3 (Or.inl rfl) am_aimF_no) ?_
  refine am_g 5 36 [some (.ref (75 + i)), some (.ref 35), some (.ref 15), some (.int (-1)), some (.int (-1)), none, none] [.int 0] (hG σ sr ln Lc μ) rfl ?_
  exact am_ret2 rfl rfl rfl rfl rfl
theorem sp_X0_act_n (d : Nat) (i : Nat) (hi : i < Lc) (hs : sr i = 4) (h0 : am_pl 68 (ln i 0)) (h1 : am_pl 68 (ln i 1)) (h7 : am_pl 68 (ln i 7)) {n : Nat} (hn : ln i 2 = nI n) (hn3 : n < 3) (hab : am_wab (σ 1)) (hk4 : ∀ o, o < 16 → am_pl 8 (σ 4 o)) (o : Nat) (ho : o < 16) (hv : am_oaF (σ 40) (ln i 1) = nI o) (hg : (am_aimF (σ 1) (σ 2) n 9 (σ 4 o)) = -1) : am_X xs LL (d + 2) 6 [.ref (75 + i), .ref 35] (hG σ sr ln Lc μ) (some (.int 0)) (hG σ sr ln Lc μ) := by
  refine am_XR (d := d + 1) (C := cd_X0_act) (L := [some (.ref (75 + i)), some (.ref 35), none, none, none, none, none]) rfl rfl rfl rfl ?_
  refine am_g 5 7 [some (.ref (75 + i)), some (.ref 35), some (.ref 15), none, none, none, none] [.ref (75 + i), .ref 35] (hG σ sr ln Lc μ) rfl ?_
  refine am_lgetR (i := i) (k := 1) rfl (by omega) (by decide) (by rw [hs]; exact ⟨_, rfl⟩) ?_
  refine am_call (y := 36) (vs := [.ref 35, .int (ln i 1)]) (rest := []) (v := (some (.int (nI o)))) (h1 := (hG σ sr ln Lc μ)) rfl rfl rfl (sp_X4_objectAt (σ := σ) (μ := μ) d _ h1 hv) ?_
  refine am_g 4 17 [some (.ref (75 + i)), some (.ref 35), some (.ref 15), some (.int (nI o)), none, none, none] [.int (nI o), .ref 15, .ref 15] (hG σ sr ln Lc μ) rfl ?_
  refine am_call (y := 32) (vs := [.ref 15, .int (nI o)]) (rest := [.ref 15]) (v := (some (.int (σ 4 o)))) (h1 := (hG σ sr ln Lc μ)) rfl rfl rfl (sp_X3_kindOfObject_ok (σ := σ) (μ := μ) d o (by omega)) ?_
  refine am_g 1 21 [some (.ref (75 + i)), some (.ref 35), some (.ref 15), some (.int (nI o)), none, none, none] [.ref (75 + i), .int (σ 4 o), .ref 15] (hG σ sr ln Lc μ) rfl ?_
  refine am_lgetR (i := i) (k := 2) rfl (by omega) (by decide) (by rw [hs]; exact ⟨_, rfl⟩) ?_
  refine am_call (y := 25) (vs := [.ref 15, .int (σ 4 o), .int (ln i 2)]) (rest := []) (v := (some (.int (-1)))) (h1 := (hG σ sr ln Lc μ)) rfl rfl rfl (sp_X3_aimOf_v (σ := σ) (μ := μ) d hab _ n _ hn hn3 (hk4 o (by omega)) hg) ?_
  refine am_g 5 36 [some (.ref (75 + i)), some (.ref 35), some (.ref 15), some (.int (nI o)), some (.int (-1)), none, none] [.int 0] (hG σ sr ln Lc μ) rfl ?_
  exact am_ret2 rfl rfl rfl rfl rfl
theorem sp_X0_act_y0 (d : Nat) (i : Nat) (hi : i < Lc) (hs : sr i = 4) (h0 : am_pl 68 (ln i 0)) (h1 : am_pl 68 (ln i 1)) (h7 : am_pl 68 (ln i 7)) {n : Nat} (hn : ln i 2 = nI n) (hn3 : n < 3) (hab : am_wab (σ 1)) (hk4 : ∀ o, o < 16 → am_pl 8 (σ 4 o)) (o : Nat) (ho : o < 16) (hv : am_oaF (σ 40) (ln i 1) = nI o) (hro : ∀ p, p < 18 → am_pl 20 (σ 3 p)) (q : Nat) (hq : q < 6) (hg : (am_aimF (σ 1) (σ 2) n 9 (σ 4 o)) = nI q) (hb : σ 3 ((3 * q) + 2) = -1) : am_X xs LL (d + 3) 6 [.ref (75 + i), .ref 35] (hG σ sr ln Lc μ) (some (.int 1)) (hG (am_up (am_up σ 40 (am_pt1 (σ 3 ((3 * q) + 1)) (am_oaF (σ 40) (ln i 7)) (am_pt1 (σ 3 ((3 * q) + 0)) (nI o) (σ 40)))) 41 (am_pt2 (σ 3 ((3 * q) + 1)) (am_oaF (σ 40) (ln i 7)) (am_pt2 (σ 3 ((3 * q) + 0)) (nI o) (σ 41)))) sr ln Lc μ) := by
  refine am_XR (d := d + 2) (C := cd_X0_act) (L := [some (.ref (75 + i)), some (.ref 35), none, none, none, none, none]) rfl rfl rfl rfl ?_
  refine am_g 5 7 [some (.ref (75 + i)), some (.ref 35), some (.ref 15), none, none, none, none] [.ref (75 + i), .ref 35] (hG σ sr ln Lc μ) rfl ?_
  refine am_lgetR (i := i) (k := 1) rfl (by omega) (by decide) (by rw [hs]; exact ⟨_, rfl⟩) ?_
  refine am_call (y := 36) (vs := [.ref 35, .int (ln i 1)]) (rest := []) (v := (some (.int (nI o)))) (h1 := (hG σ sr ln Lc μ)) rfl rfl rfl (sp_X4_objectAt (σ := σ) (μ := μ) (d + 1) _ h1 hv) ?_
  refine am_g 4 17 [some (.ref (75 + i)), some (.ref 35), some (.ref 15), some (.int (nI o)), none, none, none] [.int (nI o), .ref 15, .ref 15] (hG σ sr ln Lc μ) rfl ?_
  refine am_call (y := 32) (vs := [.ref 15, .int (nI o)]) (rest := [.ref 15]) (v := (some (.int (σ 4 o)))) (h1 := (hG σ sr ln Lc μ)) rfl rfl rfl (sp_X3_kindOfObject_ok (σ := σ) (μ := μ) (d + 1) o (by omega)) ?_
  refine am_g 1 21 [some (.ref (75 + i)), some (.ref 35), some (.ref 15), some (.int (nI o)), none, none, none] [.ref (75 + i), .int (σ 4 o), .ref 15] (hG σ sr ln Lc μ) rfl ?_
  refine am_lgetR (i := i) (k := 2) rfl (by omega) (by decide) (by rw [hs]; exact ⟨_, rfl⟩) ?_
  refine am_call (y := 25) (vs := [.ref 15, .int (σ 4 o), .int (ln i 2)]) (rest := []) (v := (some (.int (nI q)))) (h1 := (hG σ sr ln Lc μ)) rfl rfl rfl (sp_X3_aimOf_v (σ := σ) (μ := μ) (d + 1) hab _ n _ hn hn3 (hk4 o (by omega)) hg) ?_
  refine am_g 4 (if (nI q) = (-1) then 35 else 37) [some (.ref (75 + i)), some (.ref 35), some (.ref 15), some (.int (nI o)), some (.int (nI q)), none, none] [] (hG σ sr ln Lc μ) rfl ?_
  rw [if_neg (show ¬ (nI q) = (-1) from (nI_m1 (by omega)))]
  refine am_g 2 39 [some (.ref (75 + i)), some (.ref 35), some (.ref 15), some (.int (nI o)), some (.int (nI q)), none, none] [.ref (75 + i), .ref 35] (hG σ sr ln Lc μ) rfl ?_
  refine am_lget7R (i := i) rfl (by omega) (by rw [hs]; rfl) (by rw [hs]; exact ⟨_, rfl⟩) ?_
  refine am_call (y := 36) (vs := [.ref 35, .int (ln i 7)]) (rest := []) (v := (some (.int (am_oaF (σ 40) (ln i 7))))) (h1 := (hG σ sr ln Lc μ)) rfl rfl rfl (sp_X4_objectAt (σ := σ) (μ := μ) (d + 1) _ h7 rfl) ?_
  refine am_g 5 52 [some (.ref (75 + i)), some (.ref 35), some (.ref 15), some (.int (nI o)), some (.int (nI q)), some (.int (am_oaF (σ 40) (ln i 7))), none] [.int 0, .int (nI q), .ref 15, .ref 35] (hG σ sr ln Lc μ) rfl ?_
  refine am_call (y := 28) (vs := [.ref 15, .int (nI q), .int 0]) (rest := [.ref 35]) (v := (some (.int (σ 3 ((3 * q) + 0))))) (h1 := (hG σ sr ln Lc μ)) rfl rfl rfl (sp_X3_nameOf (σ := σ) (μ := μ) d q 0 hq (by decide)) ?_
  refine am_g 1 56 [some (.ref (75 + i)), some (.ref 35), some (.ref 15), some (.int (nI o)), some (.int (nI q)), some (.int (am_oaF (σ 40) (ln i 7))), none] [.int (nI o), .int (σ 3 ((3 * q) + 0)), .ref 35] (hG σ sr ln Lc μ) rfl ?_
  refine am_call (y := 38) (vs := [.ref 35, .int (σ 3 ((3 * q) + 0)), .int (nI o)]) (rest := []) (v := none) (h1 := (hG (am_up (am_up σ 40 (am_pt1 (σ 3 ((3 * q) + 0)) (nI o) (σ 40))) 41 (am_pt2 (σ 3 ((3 * q) + 0)) (nI o) (σ 41))) sr ln Lc μ)) rfl rfl rfl (sp_X4_put (σ := σ) (μ := μ) (d + 1) _ _ (am_pl_mono (hro _ (by omega)) (by decide))) ?_
  refine am_g 4 64 [some (.ref (75 + i)), some (.ref 35), some (.ref 15), some (.int (nI o)), some (.int (nI q)), some (.int (am_oaF (σ 40) (ln i 7))), none] [.int 1, .int (nI q), .ref 15, .ref 35] (hG (am_up (am_up σ 40 (am_pt1 (σ 3 ((3 * q) + 0)) (nI o) (σ 40))) 41 (am_pt2 (σ 3 ((3 * q) + 0)) (nI o) (σ 41))) sr ln Lc μ) rfl ?_
  refine am_call (y := 28) (vs := [.ref 15, .int (nI q), .int 1]) (rest := [.ref 35]) (v := (some (.int (σ 3 ((3 * q) + 1))))) (h1 := (hG (am_up (am_up σ 40 (am_pt1 (σ 3 ((3 * q) + 0)) (nI o) (σ 40))) 41 (am_pt2 (σ 3 ((3 * q) + 0)) (nI o) (σ 41))) sr ln Lc μ)) rfl rfl rfl (sp_X3_nameOf (σ := (am_up (am_up σ 40 (am_pt1 (σ 3 ((3 * q) + 0)) (nI o) (σ 40))) 41 (am_pt2 (σ 3 ((3 * q) + 0)) (nI o) (σ 41)))) (μ := μ) d q 1 hq (by decide)) ?_
  refine am_g 1 69 [some (.ref (75 + i)), some (.ref 35), some (.ref 15), some (.int (nI o)), some (.int (nI q)), some (.int (am_oaF (σ 40) (ln i 7))), none] [.int (am_oaF (σ 40) (ln i 7)), .int (σ 3 ((3 * q) + 1)), .ref 35] (hG (am_up (am_up σ 40 (am_pt1 (σ 3 ((3 * q) + 0)) (nI o) (σ 40))) 41 (am_pt2 (σ 3 ((3 * q) + 0)) (nI o) (σ 41))) sr ln Lc μ) rfl ?_
  refine am_call (y := 38) (vs := [.ref 35, .int (σ 3 ((3 * q) + 1)), .int (am_oaF (σ 40) (ln i 7))]) (rest := []) (v := none) (h1 := (hG (am_up (am_up σ 40 (am_pt1 (σ 3 ((3 * q) + 1)) (am_oaF (σ 40) (ln i 7)) (am_pt1 (σ 3 ((3 * q) + 0)) (nI o) (σ 40)))) 41 (am_pt2 (σ 3 ((3 * q) + 1)) (am_oaF (σ 40) (ln i 7)) (am_pt2 (σ 3 ((3 * q) + 0)) (nI o) (σ 41)))) sr ln Lc μ)) rfl rfl rfl (sp_X4_put (σ := (am_up (am_up σ 40 (am_pt1 (σ 3 ((3 * q) + 0)) (nI o) (σ 40))) 41 (am_pt2 (σ 3 ((3 * q) + 0)) (nI o) (σ 41)))) (μ := μ) (d + 1) _ _ (am_pl_mono (hro _ (by omega)) (by decide))) ?_
  refine am_g 3 76 [some (.ref (75 + i)), some (.ref 35), some (.ref 15), some (.int (nI o)), some (.int (nI q)), some (.int (am_oaF (σ 40) (ln i 7))), none] [.int 2, .int (nI q), .ref 15] (hG (am_up (am_up σ 40 (am_pt1 (σ 3 ((3 * q) + 1)) (am_oaF (σ 40) (ln i 7)) (am_pt1 (σ 3 ((3 * q) + 0)) (nI o) (σ 40)))) 41 (am_pt2 (σ 3 ((3 * q) + 1)) (am_oaF (σ 40) (ln i 7)) (am_pt2 (σ 3 ((3 * q) + 0)) (nI o) (σ 41)))) sr ln Lc μ) rfl ?_
  refine am_call (y := 28) (vs := [.ref 15, .int (nI q), .int 2]) (rest := []) (v := (some (.int (σ 3 ((3 * q) + 2))))) (h1 := (hG (am_up (am_up σ 40 (am_pt1 (σ 3 ((3 * q) + 1)) (am_oaF (σ 40) (ln i 7)) (am_pt1 (σ 3 ((3 * q) + 0)) (nI o) (σ 40)))) 41 (am_pt2 (σ 3 ((3 * q) + 1)) (am_oaF (σ 40) (ln i 7)) (am_pt2 (σ 3 ((3 * q) + 0)) (nI o) (σ 41)))) sr ln Lc μ)) rfl rfl rfl (sp_X3_nameOf (σ := (am_up (am_up σ 40 (am_pt1 (σ 3 ((3 * q) + 1)) (am_oaF (σ 40) (ln i 7)) (am_pt1 (σ 3 ((3 * q) + 0)) (nI o) (σ 40)))) 41 (am_pt2 (σ 3 ((3 * q) + 1)) (am_oaF (σ 40) (ln i 7)) (am_pt2 (σ 3 ((3 * q) + 0)) (nI o) (σ 41))))) (μ := μ) d q 2 hq (by decide)) ?_
  refine am_g 4 (if (σ 3 ((3 * q) + 2)) = (-1) then 101 else 87) [some (.ref (75 + i)), some (.ref 35), some (.ref 15), some (.int (nI o)), some (.int (nI q)), some (.int (am_oaF (σ 40) (ln i 7))), some (.int (σ 3 ((3 * q) + 2)))] [] (hG (am_up (am_up σ 40 (am_pt1 (σ 3 ((3 * q) + 1)) (am_oaF (σ 40) (ln i 7)) (am_pt1 (σ 3 ((3 * q) + 0)) (nI o) (σ 40)))) 41 (am_pt2 (σ 3 ((3 * q) + 1)) (am_oaF (σ 40) (ln i 7)) (am_pt2 (σ 3 ((3 * q) + 0)) (nI o) (σ 41)))) sr ln Lc μ) rfl ?_
  rw [if_pos (show (σ 3 ((3 * q) + 2)) = (-1) from hb)]
  refine am_g 1 102 [some (.ref (75 + i)), some (.ref 35), some (.ref 15), some (.int (nI o)), some (.int (nI q)), some (.int (am_oaF (σ 40) (ln i 7))), some (.int (σ 3 ((3 * q) + 2)))] [.int 1] (hG (am_up (am_up σ 40 (am_pt1 (σ 3 ((3 * q) + 1)) (am_oaF (σ 40) (ln i 7)) (am_pt1 (σ 3 ((3 * q) + 0)) (nI o) (σ 40)))) 41 (am_pt2 (σ 3 ((3 * q) + 1)) (am_oaF (σ 40) (ln i 7)) (am_pt2 (σ 3 ((3 * q) + 0)) (nI o) (σ 41)))) sr ln Lc μ) rfl ?_
  exact am_ret2 rfl rfl rfl rfl rfl
theorem sp_X0_act_y1 (d : Nat) (i : Nat) (hi : i < Lc) (hs : sr i = 4) (h0 : am_pl 68 (ln i 0)) (h1 : am_pl 68 (ln i 1)) (h7 : am_pl 68 (ln i 7)) {n : Nat} (hn : ln i 2 = nI n) (hn3 : n < 3) (hab : am_wab (σ 1)) (hk4 : ∀ o, o < 16 → am_pl 8 (σ 4 o)) (o : Nat) (ho : o < 16) (hv : am_oaF (σ 40) (ln i 1) = nI o) (hro : ∀ p, p < 18 → am_pl 20 (σ 3 p)) (q : Nat) (hq : q < 6) (hg : (am_aimF (σ 1) (σ 2) n 9 (σ 4 o)) = nI q) (hb : ¬ σ 3 ((3 * q) + 2) = -1) : am_X xs LL (d + 3) 6 [.ref (75 + i), .ref 35] (hG σ sr ln Lc μ) (some (.int 1)) (hG (am_up (am_up σ 40 (am_pt1 (ln i 0) (am_oaF (am_pt1 (σ 3 ((3 * q) + 1)) (am_oaF (σ 40) (ln i 7)) (am_pt1 (σ 3 ((3 * q) + 0)) (nI o) (σ 40))) (σ 3 ((3 * q) + 2))) (am_pt1 (σ 3 ((3 * q) + 1)) (am_oaF (σ 40) (ln i 7)) (am_pt1 (σ 3 ((3 * q) + 0)) (nI o) (σ 40))))) 41 (am_pt2 (ln i 0) (am_oaF (am_pt1 (σ 3 ((3 * q) + 1)) (am_oaF (σ 40) (ln i 7)) (am_pt1 (σ 3 ((3 * q) + 0)) (nI o) (σ 40))) (σ 3 ((3 * q) + 2))) (am_pt2 (σ 3 ((3 * q) + 1)) (am_oaF (σ 40) (ln i 7)) (am_pt2 (σ 3 ((3 * q) + 0)) (nI o) (σ 41))))) sr ln Lc μ) := by
  refine am_XR (d := d + 2) (C := cd_X0_act) (L := [some (.ref (75 + i)), some (.ref 35), none, none, none, none, none]) rfl rfl rfl rfl ?_
  refine am_g 5 7 [some (.ref (75 + i)), some (.ref 35), some (.ref 15), none, none, none, none] [.ref (75 + i), .ref 35] (hG σ sr ln Lc μ) rfl ?_
  refine am_lgetR (i := i) (k := 1) rfl (by omega) (by decide) (by rw [hs]; exact ⟨_, rfl⟩) ?_
  refine am_call (y := 36) (vs := [.ref 35, .int (ln i 1)]) (rest := []) (v := (some (.int (nI o)))) (h1 := (hG σ sr ln Lc μ)) rfl rfl rfl (sp_X4_objectAt (σ := σ) (μ := μ) (d + 1) _ h1 hv) ?_
  refine am_g 4 17 [some (.ref (75 + i)), some (.ref 35), some (.ref 15), some (.int (nI o)), none, none, none] [.int (nI o), .ref 15, .ref 15] (hG σ sr ln Lc μ) rfl ?_
  refine am_call (y := 32) (vs := [.ref 15, .int (nI o)]) (rest := [.ref 15]) (v := (some (.int (σ 4 o)))) (h1 := (hG σ sr ln Lc μ)) rfl rfl rfl (sp_X3_kindOfObject_ok (σ := σ) (μ := μ) (d + 1) o (by omega)) ?_
  refine am_g 1 21 [some (.ref (75 + i)), some (.ref 35), some (.ref 15), some (.int (nI o)), none, none, none] [.ref (75 + i), .int (σ 4 o), .ref 15] (hG σ sr ln Lc μ) rfl ?_
  refine am_lgetR (i := i) (k := 2) rfl (by omega) (by decide) (by rw [hs]; exact ⟨_, rfl⟩) ?_
  refine am_call (y := 25) (vs := [.ref 15, .int (σ 4 o), .int (ln i 2)]) (rest := []) (v := (some (.int (nI q)))) (h1 := (hG σ sr ln Lc μ)) rfl rfl rfl (sp_X3_aimOf_v (σ := σ) (μ := μ) (d + 1) hab _ n _ hn hn3 (hk4 o (by omega)) hg) ?_
  refine am_g 4 (if (nI q) = (-1) then 35 else 37) [some (.ref (75 + i)), some (.ref 35), some (.ref 15), some (.int (nI o)), some (.int (nI q)), none, none] [] (hG σ sr ln Lc μ) rfl ?_
  rw [if_neg (show ¬ (nI q) = (-1) from (nI_m1 (by omega)))]
  refine am_g 2 39 [some (.ref (75 + i)), some (.ref 35), some (.ref 15), some (.int (nI o)), some (.int (nI q)), none, none] [.ref (75 + i), .ref 35] (hG σ sr ln Lc μ) rfl ?_
  refine am_lget7R (i := i) rfl (by omega) (by rw [hs]; rfl) (by rw [hs]; exact ⟨_, rfl⟩) ?_
  refine am_call (y := 36) (vs := [.ref 35, .int (ln i 7)]) (rest := []) (v := (some (.int (am_oaF (σ 40) (ln i 7))))) (h1 := (hG σ sr ln Lc μ)) rfl rfl rfl (sp_X4_objectAt (σ := σ) (μ := μ) (d + 1) _ h7 rfl) ?_
  refine am_g 5 52 [some (.ref (75 + i)), some (.ref 35), some (.ref 15), some (.int (nI o)), some (.int (nI q)), some (.int (am_oaF (σ 40) (ln i 7))), none] [.int 0, .int (nI q), .ref 15, .ref 35] (hG σ sr ln Lc μ) rfl ?_
  refine am_call (y := 28) (vs := [.ref 15, .int (nI q), .int 0]) (rest := [.ref 35]) (v := (some (.int (σ 3 ((3 * q) + 0))))) (h1 := (hG σ sr ln Lc μ)) rfl rfl rfl (sp_X3_nameOf (σ := σ) (μ := μ) d q 0 hq (by decide)) ?_
  refine am_g 1 56 [some (.ref (75 + i)), some (.ref 35), some (.ref 15), some (.int (nI o)), some (.int (nI q)), some (.int (am_oaF (σ 40) (ln i 7))), none] [.int (nI o), .int (σ 3 ((3 * q) + 0)), .ref 35] (hG σ sr ln Lc μ) rfl ?_
  refine am_call (y := 38) (vs := [.ref 35, .int (σ 3 ((3 * q) + 0)), .int (nI o)]) (rest := []) (v := none) (h1 := (hG (am_up (am_up σ 40 (am_pt1 (σ 3 ((3 * q) + 0)) (nI o) (σ 40))) 41 (am_pt2 (σ 3 ((3 * q) + 0)) (nI o) (σ 41))) sr ln Lc μ)) rfl rfl rfl (sp_X4_put (σ := σ) (μ := μ) (d + 1) _ _ (am_pl_mono (hro _ (by omega)) (by decide))) ?_
  refine am_g 4 64 [some (.ref (75 + i)), some (.ref 35), some (.ref 15), some (.int (nI o)), some (.int (nI q)), some (.int (am_oaF (σ 40) (ln i 7))), none] [.int 1, .int (nI q), .ref 15, .ref 35] (hG (am_up (am_up σ 40 (am_pt1 (σ 3 ((3 * q) + 0)) (nI o) (σ 40))) 41 (am_pt2 (σ 3 ((3 * q) + 0)) (nI o) (σ 41))) sr ln Lc μ) rfl ?_
  refine am_call (y := 28) (vs := [.ref 15, .int (nI q), .int 1]) (rest := [.ref 35]) (v := (some (.int (σ 3 ((3 * q) + 1))))) (h1 := (hG (am_up (am_up σ 40 (am_pt1 (σ 3 ((3 * q) + 0)) (nI o) (σ 40))) 41 (am_pt2 (σ 3 ((3 * q) + 0)) (nI o) (σ 41))) sr ln Lc μ)) rfl rfl rfl (sp_X3_nameOf (σ := (am_up (am_up σ 40 (am_pt1 (σ 3 ((3 * q) + 0)) (nI o) (σ 40))) 41 (am_pt2 (σ 3 ((3 * q) + 0)) (nI o) (σ 41)))) (μ := μ) d q 1 hq (by decide)) ?_
  refine am_g 1 69 [some (.ref (75 + i)), some (.ref 35), some (.ref 15), some (.int (nI o)), some (.int (nI q)), some (.int (am_oaF (σ 40) (ln i 7))), none] [.int (am_oaF (σ 40) (ln i 7)), .int (σ 3 ((3 * q) + 1)), .ref 35] (hG (am_up (am_up σ 40 (am_pt1 (σ 3 ((3 * q) + 0)) (nI o) (σ 40))) 41 (am_pt2 (σ 3 ((3 * q) + 0)) (nI o) (σ 41))) sr ln Lc μ) rfl ?_
  refine am_call (y := 38) (vs := [.ref 35, .int (σ 3 ((3 * q) + 1)), .int (am_oaF (σ 40) (ln i 7))]) (rest := []) (v := none) (h1 := (hG (am_up (am_up σ 40 (am_pt1 (σ 3 ((3 * q) + 1)) (am_oaF (σ 40) (ln i 7)) (am_pt1 (σ 3 ((3 * q) + 0)) (nI o) (σ 40)))) 41 (am_pt2 (σ 3 ((3 * q) + 1)) (am_oaF (σ 40) (ln i 7)) (am_pt2 (σ 3 ((3 * q) + 0)) (nI o) (σ 41)))) sr ln Lc μ)) rfl rfl rfl (sp_X4_put (σ := (am_up (am_up σ 40 (am_pt1 (σ 3 ((3 * q) + 0)) (nI o) (σ 40))) 41 (am_pt2 (σ 3 ((3 * q) + 0)) (nI o) (σ 41)))) (μ := μ) (d + 1) _ _ (am_pl_mono (hro _ (by omega)) (by decide))) ?_
  refine am_g 3 76 [some (.ref (75 + i)), some (.ref 35), some (.ref 15), some (.int (nI o)), some (.int (nI q)), some (.int (am_oaF (σ 40) (ln i 7))), none] [.int 2, .int (nI q), .ref 15] (hG (am_up (am_up σ 40 (am_pt1 (σ 3 ((3 * q) + 1)) (am_oaF (σ 40) (ln i 7)) (am_pt1 (σ 3 ((3 * q) + 0)) (nI o) (σ 40)))) 41 (am_pt2 (σ 3 ((3 * q) + 1)) (am_oaF (σ 40) (ln i 7)) (am_pt2 (σ 3 ((3 * q) + 0)) (nI o) (σ 41)))) sr ln Lc μ) rfl ?_
  refine am_call (y := 28) (vs := [.ref 15, .int (nI q), .int 2]) (rest := []) (v := (some (.int (σ 3 ((3 * q) + 2))))) (h1 := (hG (am_up (am_up σ 40 (am_pt1 (σ 3 ((3 * q) + 1)) (am_oaF (σ 40) (ln i 7)) (am_pt1 (σ 3 ((3 * q) + 0)) (nI o) (σ 40)))) 41 (am_pt2 (σ 3 ((3 * q) + 1)) (am_oaF (σ 40) (ln i 7)) (am_pt2 (σ 3 ((3 * q) + 0)) (nI o) (σ 41)))) sr ln Lc μ)) rfl rfl rfl (sp_X3_nameOf (σ := (am_up (am_up σ 40 (am_pt1 (σ 3 ((3 * q) + 1)) (am_oaF (σ 40) (ln i 7)) (am_pt1 (σ 3 ((3 * q) + 0)) (nI o) (σ 40)))) 41 (am_pt2 (σ 3 ((3 * q) + 1)) (am_oaF (σ 40) (ln i 7)) (am_pt2 (σ 3 ((3 * q) + 0)) (nI o) (σ 41))))) (μ := μ) d q 2 hq (by decide)) ?_
  refine am_g 4 (if (σ 3 ((3 * q) + 2)) = (-1) then 101 else 87) [some (.ref (75 + i)), some (.ref 35), some (.ref 15), some (.int (nI o)), some (.int (nI q)), some (.int (am_oaF (σ 40) (ln i 7))), some (.int (σ 3 ((3 * q) + 2)))] [] (hG (am_up (am_up σ 40 (am_pt1 (σ 3 ((3 * q) + 1)) (am_oaF (σ 40) (ln i 7)) (am_pt1 (σ 3 ((3 * q) + 0)) (nI o) (σ 40)))) 41 (am_pt2 (σ 3 ((3 * q) + 1)) (am_oaF (σ 40) (ln i 7)) (am_pt2 (σ 3 ((3 * q) + 0)) (nI o) (σ 41)))) sr ln Lc μ) rfl ?_
  rw [if_neg (show ¬ (σ 3 ((3 * q) + 2)) = (-1) from hb)]
  refine am_g 2 89 [some (.ref (75 + i)), some (.ref 35), some (.ref 15), some (.int (nI o)), some (.int (nI q)), some (.int (am_oaF (σ 40) (ln i 7))), some (.int (σ 3 ((3 * q) + 2)))] [.ref (75 + i), .ref 35] (hG (am_up (am_up σ 40 (am_pt1 (σ 3 ((3 * q) + 1)) (am_oaF (σ 40) (ln i 7)) (am_pt1 (σ 3 ((3 * q) + 0)) (nI o) (σ 40)))) 41 (am_pt2 (σ 3 ((3 * q) + 1)) (am_oaF (σ 40) (ln i 7)) (am_pt2 (σ 3 ((3 * q) + 0)) (nI o) (σ 41)))) sr ln Lc μ) rfl ?_
  refine am_lgetR (i := i) (k := 0) rfl (by omega) (by decide) (by rw [hs]; exact ⟨_, rfl⟩) ?_
  refine am_g 2 95 [some (.ref (75 + i)), some (.ref 35), some (.ref 15), some (.int (nI o)), some (.int (nI q)), some (.int (am_oaF (σ 40) (ln i 7))), some (.int (σ 3 ((3 * q) + 2)))] [.int (σ 3 ((3 * q) + 2)), .ref 35, .int (ln i 0), .ref 35] (hG (am_up (am_up σ 40 (am_pt1 (σ 3 ((3 * q) + 1)) (am_oaF (σ 40) (ln i 7)) (am_pt1 (σ 3 ((3 * q) + 0)) (nI o) (σ 40)))) 41 (am_pt2 (σ 3 ((3 * q) + 1)) (am_oaF (σ 40) (ln i 7)) (am_pt2 (σ 3 ((3 * q) + 0)) (nI o) (σ 41)))) sr ln Lc μ) rfl ?_
  refine am_call (y := 36) (vs := [.ref 35, .int (σ 3 ((3 * q) + 2))]) (rest := [.int (ln i 0), .ref 35]) (v := (some (.int (am_oaF (am_pt1 (σ 3 ((3 * q) + 1)) (am_oaF (σ 40) (ln i 7)) (am_pt1 (σ 3 ((3 * q) + 0)) (nI o) (σ 40))) (σ 3 ((3 * q) + 2)))))) (h1 := (hG (am_up (am_up σ 40 (am_pt1 (σ 3 ((3 * q) + 1)) (am_oaF (σ 40) (ln i 7)) (am_pt1 (σ 3 ((3 * q) + 0)) (nI o) (σ 40)))) 41 (am_pt2 (σ 3 ((3 * q) + 1)) (am_oaF (σ 40) (ln i 7)) (am_pt2 (σ 3 ((3 * q) + 0)) (nI o) (σ 41)))) sr ln Lc μ)) rfl rfl rfl (sp_X4_objectAt (σ := (am_up (am_up σ 40 (am_pt1 (σ 3 ((3 * q) + 1)) (am_oaF (σ 40) (ln i 7)) (am_pt1 (σ 3 ((3 * q) + 0)) (nI o) (σ 40)))) 41 (am_pt2 (σ 3 ((3 * q) + 1)) (am_oaF (σ 40) (ln i 7)) (am_pt2 (σ 3 ((3 * q) + 0)) (nI o) (σ 41))))) (μ := μ) (d + 1) _ (am_pl_mono (hro _ (by omega)) (by decide)) rfl) ?_
  refine am_call (y := 38) (vs := [.ref 35, .int (ln i 0), .int (am_oaF (am_pt1 (σ 3 ((3 * q) + 1)) (am_oaF (σ 40) (ln i 7)) (am_pt1 (σ 3 ((3 * q) + 0)) (nI o) (σ 40))) (σ 3 ((3 * q) + 2)))]) (rest := []) (v := none) (h1 := (hG (am_up (am_up σ 40 (am_pt1 (ln i 0) (am_oaF (am_pt1 (σ 3 ((3 * q) + 1)) (am_oaF (σ 40) (ln i 7)) (am_pt1 (σ 3 ((3 * q) + 0)) (nI o) (σ 40))) (σ 3 ((3 * q) + 2))) (am_pt1 (σ 3 ((3 * q) + 1)) (am_oaF (σ 40) (ln i 7)) (am_pt1 (σ 3 ((3 * q) + 0)) (nI o) (σ 40))))) 41 (am_pt2 (ln i 0) (am_oaF (am_pt1 (σ 3 ((3 * q) + 1)) (am_oaF (σ 40) (ln i 7)) (am_pt1 (σ 3 ((3 * q) + 0)) (nI o) (σ 40))) (σ 3 ((3 * q) + 2))) (am_pt2 (σ 3 ((3 * q) + 1)) (am_oaF (σ 40) (ln i 7)) (am_pt2 (σ 3 ((3 * q) + 0)) (nI o) (σ 41))))) sr ln Lc μ)) rfl rfl rfl (sp_X4_put (σ := (am_up (am_up σ 40 (am_pt1 (σ 3 ((3 * q) + 1)) (am_oaF (σ 40) (ln i 7)) (am_pt1 (σ 3 ((3 * q) + 0)) (nI o) (σ 40)))) 41 (am_pt2 (σ 3 ((3 * q) + 1)) (am_oaF (σ 40) (ln i 7)) (am_pt2 (σ 3 ((3 * q) + 0)) (nI o) (σ 41))))) (μ := μ) (d + 1) _ _ h0) ?_
  refine am_g 1 102 [some (.ref (75 + i)), some (.ref 35), some (.ref 15), some (.int (nI o)), some (.int (nI q)), some (.int (am_oaF (σ 40) (ln i 7))), some (.int (σ 3 ((3 * q) + 2)))] [.int 1] (hG (am_up (am_up σ 40 (am_pt1 (ln i 0) (am_oaF (am_pt1 (σ 3 ((3 * q) + 1)) (am_oaF (σ 40) (ln i 7)) (am_pt1 (σ 3 ((3 * q) + 0)) (nI o) (σ 40))) (σ 3 ((3 * q) + 2))) (am_pt1 (σ 3 ((3 * q) + 1)) (am_oaF (σ 40) (ln i 7)) (am_pt1 (σ 3 ((3 * q) + 0)) (nI o) (σ 40))))) 41 (am_pt2 (ln i 0) (am_oaF (am_pt1 (σ 3 ((3 * q) + 1)) (am_oaF (σ 40) (ln i 7)) (am_pt1 (σ 3 ((3 * q) + 0)) (nI o) (σ 40))) (σ 3 ((3 * q) + 2))) (am_pt2 (σ 3 ((3 * q) + 1)) (am_oaF (σ 40) (ln i 7)) (am_pt2 (σ 3 ((3 * q) + 0)) (nI o) (σ 41))))) sr ln Lc μ) rfl ?_
  exact am_ret2 rfl rfl rfl rfl rfl
def pu_put (p v : Int32) (s : (Nat → Int32) × (Nat → Int32)) : (Nat → Int32) × (Nat → Int32) := (am_pt1 p v s.1, am_pt2 p v s.2)
def pu_clA (ro f : Nat → Int32) (v g : Int32) (s : (Nat → Int32) × (Nat → Int32)) : Bool × (Nat → Int32) × (Nat → Int32) :=
  if g = -1 then (false, s) else if ro (3 * g.toNatClampNeg + 2) = -1 then (true, pu_put (ro (3 * g.toNatClampNeg + 1)) (am_oaF s.1 (f 7)) (pu_put (ro (3 * g.toNatClampNeg + 0)) v s)) else (true, pu_put (f 0) (am_oaF (pu_put (ro (3 * g.toNatClampNeg + 1)) (am_oaF s.1 (f 7)) (pu_put (ro (3 * g.toNatClampNeg + 0)) v s)).1 (ro (3 * g.toNatClampNeg + 2))) (pu_put (ro (3 * g.toNatClampNeg + 1)) (am_oaF s.1 (f 7)) (pu_put (ro (3 * g.toNatClampNeg + 0)) v s)))
def pu_actF (kf ab ow ro : Nat → Int32) (k : Nat) (f : Nat → Int32) (s : (Nat → Int32) × (Nat → Int32)) : Bool × (Nat → Int32) × (Nat → Int32) := match k with
  | 0 => (true, pu_put (f 0) (am_oaF s.1 (f 1)) s)
  | 1 => if am_oaF s.1 (f 1) = -1 then (true, pu_put (f 0) (-1) s) else bif am_undF ab (f 2) 9 (kf (am_oaF s.1 (f 1)).toNatClampNeg) then (true, pu_put (f 0) (am_oaF s.1 (f 1)) s) else (false, s)
  | 2 => if am_oaF s.1 (f 1) = -1 then (false, s) else (true, pu_put (f 0) (s.1 (20 + 3 * (am_oaF s.1 (f 1)).toNatClampNeg + (f 2).toNatClampNeg)) s)
  | 3 => if am_oaF s.1 (f 0) = -1 then (false, s) else (true, pu_put (nI (20 + 3 * (am_oaF s.1 (f 0)).toNatClampNeg + (f 2).toNatClampNeg)) (am_oaF s.1 (f 1)) s)
  | 4 => if am_oaF s.1 (f 1) = -1 then (false, s) else pu_clA ro f (am_oaF s.1 (f 1)) (am_aimF ab ow (f 2).toNatClampNeg 9 (kf (am_oaF s.1 (f 1)).toNatClampNeg)) s
  | _ => (true, pu_put (f 0) (f 7) s)
theorem pu_oa_pl {M : Nat} {H : Nat → Int32} (hH : ∀ p, p < 68 → am_pl M (H p)) {x : Int32} (hx : am_pl 68 x) : am_pl M (am_oaF H x) := by
  rcases hx with rfl | ⟨k, hk, rfl⟩
  · rw [am_oaF_no]; exact Or.inl rfl
  · rw [am_oaF_nI (by omega)]; exact hH k hk
theorem sp_act_v (d i : Nat) (hi : i < Lc) (hs : sr i < 6) (hw : am_wl (sr i) (ln i)) (hab : am_wab (σ 1)) (how : ∀ p, p < 24 → am_pl 6 (σ 2 p)) (hro : ∀ p, p < 18 → am_pl 20 (σ 3 p)) (hk4 : ∀ o, o < 16 → am_pl 8 (σ 4 o)) (hH : ∀ p, p < 68 → am_pl 16 (σ 40 p)) {z : Bool} (eb : (pu_actF (σ 4) (σ 1) (σ 2) (σ 3) (sr i) (ln i) (σ 40, σ 41)).1 = z) : am_X xs LL (d + 3) ([19, 11, 50, 86, 6, 44].getD (sr i) 0) [.ref (75 + i), .ref 35] (hG σ sr ln Lc μ) (some (.int (am_b2 z))) (hG (am_up (am_up σ 40 (pu_actF (σ 4) (σ 1) (σ 2) (σ 3) (sr i) (ln i) (σ 40, σ 41)).2.1) 41 (pu_actF (σ 4) (σ 1) (σ 2) (σ 3) (sr i) (ln i) (σ 40, σ 41)).2.2) sr ln Lc μ) := by
  subst eb
  obtain ⟨⟨a, ha, h0⟩, h1, -, -, hn3, -, -, h7, -, -⟩ := hw
  have h0 : am_pl 68 (ln i 0) := Or.inr ⟨a, by omega, h0⟩
  have h1 : am_pl 68 (ln i 1) := am_pl_mono h1 (by decide)
  generalize hq : sr i = s at hs hn3 h7 ⊢
  match s, hs with
  | 0, _ => exact sp_X2_act (d + 1) i hi hq h0 h1
  | 1, _ =>
    rcases pu_oa_pl hH h1 with hv | ⟨o, ho, hv⟩
    · have e : pu_actF (σ 4) (σ 1) (σ 2) (σ 3) 1 (ln i) (σ 40, σ 41) = (true, pu_put (ln i 0) (-1) (σ 40, σ 41)) := if_pos hv
      rw [e]; exact sp_X1_act_z (d + 1) i hi hq h0 h1 hv
    · have hne : ¬ am_oaF (σ 40) (ln i 1) = -1 := by rw [hv]; exact nI_m1 (by omega)
      cases hu : am_undF (σ 1) (ln i 2) 9 (σ 4 o) with
      | true =>
        have e : pu_actF (σ 4) (σ 1) (σ 2) (σ 3) 1 (ln i) (σ 40, σ 41) = (true, pu_put (ln i 0) (nI o) (σ 40, σ 41)) := (if_neg hne).trans (by show (bif am_undF (σ 1) (ln i 2) 9 (σ 4 (am_oaF (σ 40) (ln i 1)).toNatClampNeg) then (true, pu_put (ln i 0) (am_oaF (σ 40) (ln i 1)) (σ 40, σ 41)) else _) = _; rw [hv, nI_clamp (by omega), hu]; rfl)
        rw [e]; exact sp_X1_act_y d i hi hq h0 h1 o ho hv hab hk4 hu
      | false =>
        have e : pu_actF (σ 4) (σ 1) (σ 2) (σ 3) 1 (ln i) (σ 40, σ 41) = (false, σ 40, σ 41) := (if_neg hne).trans (by show (bif am_undF (σ 1) (ln i 2) 9 (σ 4 (am_oaF (σ 40) (ln i 1)).toNatClampNeg) then _ else (false, σ 40, σ 41)) = _; rw [hv, nI_clamp (by omega), hu]; rfl)
        rw [e, am_up_id, am_up_id]; exact sp_X1_act_n d i hi hq h0 h1 o ho hv hab hk4 hu
  | 2, _ =>
    obtain ⟨n, hn, e2⟩ := hn3 (by decide) (by decide)
    rcases pu_oa_pl hH h1 with hv | ⟨o, ho, hv⟩
    · have e : pu_actF (σ 4) (σ 1) (σ 2) (σ 3) 2 (ln i) (σ 40, σ 41) = (false, σ 40, σ 41) := if_pos hv
      rw [e, am_up_id, am_up_id]; exact sp_X6_act_z (d + 1) i hi hq h0 h1 hv
    · have hne : ¬ am_oaF (σ 40) (ln i 1) = -1 := by rw [hv]; exact nI_m1 (by omega)
      have e : pu_actF (σ 4) (σ 1) (σ 2) (σ 3) 2 (ln i) (σ 40, σ 41) = (true, pu_put (ln i 0) (σ 40 (20 + 3 * o + n)) (σ 40, σ 41)) := (if_neg hne).trans (by show (true, pu_put (ln i 0) (σ 40 (20 + 3 * (am_oaF (σ 40) (ln i 1)).toNatClampNeg + (ln i 2).toNatClampNeg)) (σ 40, σ 41)) = _; rw [hv, e2, nI_clamp (by omega), nI_clamp (by omega)])
      rw [e]; exact sp_X6_act_y d i hi hq h0 h1 e2 hn o ho hv
  | 3, _ =>
    obtain ⟨n, hn, e2⟩ := hn3 (by decide) (by decide)
    rcases pu_oa_pl hH h0 with hv | ⟨o, ho, hv⟩
    · have e : pu_actF (σ 4) (σ 1) (σ 2) (σ 3) 3 (ln i) (σ 40, σ 41) = (false, σ 40, σ 41) := if_pos hv
      rw [e, am_up_id, am_up_id]; exact sp_X10_act_z (d + 1) i hi hq h0 h1 hv
    · have hne : ¬ am_oaF (σ 40) (ln i 0) = -1 := by rw [hv]; exact nI_m1 (by omega)
      have e : pu_actF (σ 4) (σ 1) (σ 2) (σ 3) 3 (ln i) (σ 40, σ 41) = (true, pu_put (nI (20 + 3 * o + n)) (am_oaF (σ 40) (ln i 1)) (σ 40, σ 41)) := (if_neg hne).trans (by show (true, pu_put (nI (20 + 3 * (am_oaF (σ 40) (ln i 0)).toNatClampNeg + (ln i 2).toNatClampNeg)) (am_oaF (σ 40) (ln i 1)) (σ 40, σ 41)) = _; rw [hv, e2, nI_clamp (by omega), nI_clamp (by omega)])
      rw [e]; exact sp_X10_act_y d i hi hq h0 h1 e2 hn o ho hv
  | 4, _ =>
    obtain ⟨n, hn, e2⟩ := hn3 (by decide) (by decide)
    obtain ⟨zz, hz, h7⟩ := h7 rfl
    have h7 : am_pl 68 (ln i 7) := Or.inr ⟨zz, by omega, h7⟩
    rcases pu_oa_pl hH h1 with hv | ⟨o, ho, hv⟩
    · have e : pu_actF (σ 4) (σ 1) (σ 2) (σ 3) 4 (ln i) (σ 40, σ 41) = (false, σ 40, σ 41) := if_pos hv
      rw [e, am_up_id, am_up_id]; exact sp_X0_act_z (d + 1) i hi hq h0 h1 h7 e2 hn hab hk4 hv
    · have hne : ¬ am_oaF (σ 40) (ln i 1) = -1 := by rw [hv]; exact nI_m1 (by omega)
      have e : pu_actF (σ 4) (σ 1) (σ 2) (σ 3) 4 (ln i) (σ 40, σ 41) = pu_clA (σ 3) (ln i) (nI o) (am_aimF (σ 1) (σ 2) n 9 (σ 4 o)) (σ 40, σ 41) := (if_neg hne).trans (by show pu_clA (σ 3) (ln i) (am_oaF (σ 40) (ln i 1)) (am_aimF (σ 1) (σ 2) (ln i 2).toNatClampNeg 9 (σ 4 (am_oaF (σ 40) (ln i 1)).toNatClampNeg)) (σ 40, σ 41) = _; rw [hv, e2, nI_clamp (by omega), nI_clamp (by omega)])
      rw [e]
      rcases am_aimF_pl hab how hn 9 _ (hk4 o ho) with hg | ⟨q, hq6, hg⟩
      · have e3 : pu_clA (σ 3) (ln i) (nI o) (am_aimF (σ 1) (σ 2) n 9 (σ 4 o)) (σ 40, σ 41) = (false, σ 40, σ 41) := if_pos hg
        rw [e3, am_up_id, am_up_id]; exact sp_X0_act_n (d + 1) i hi hq h0 h1 h7 e2 hn hab hk4 o ho hv hg
      · have hgn : ¬ am_aimF (σ 1) (σ 2) n 9 (σ 4 o) = -1 := by rw [hg]; exact nI_m1 (by omega)
        by_cases hb : σ 3 (3 * q + 2) = -1
        · have e3 : pu_clA (σ 3) (ln i) (nI o) (am_aimF (σ 1) (σ 2) n 9 (σ 4 o)) (σ 40, σ 41) = (true, pu_put (σ 3 (3 * q + 1)) (am_oaF (σ 40) (ln i 7)) (pu_put (σ 3 (3 * q + 0)) (nI o) (σ 40, σ 41))) := by
            unfold pu_clA
            rw [if_neg hgn, hg, nI_clamp (by omega), if_pos hb]
          rw [e3]; exact sp_X0_act_y0 d i hi hq h0 h1 h7 e2 hn hab hk4 o ho hv hro q hq6 hg hb
        · have e3 : pu_clA (σ 3) (ln i) (nI o) (am_aimF (σ 1) (σ 2) n 9 (σ 4 o)) (σ 40, σ 41) = (true, pu_put (ln i 0) (am_oaF (pu_put (σ 3 (3 * q + 1)) (am_oaF (σ 40) (ln i 7)) (pu_put (σ 3 (3 * q + 0)) (nI o) (σ 40, σ 41))).1 (σ 3 (3 * q + 2))) (pu_put (σ 3 (3 * q + 1)) (am_oaF (σ 40) (ln i 7)) (pu_put (σ 3 (3 * q + 0)) (nI o) (σ 40, σ 41)))) := by
            unfold pu_clA
            rw [if_neg hgn, hg, nI_clamp (by omega), if_neg hb]
          rw [e3]; exact sp_X0_act_y1 d i hi hq h0 h1 h7 e2 hn hab hk4 o ho hv hro q hq6 hg hb
  | 5, _ => exact sp_X5_act (d + 1) i hi hq h0
end XM
