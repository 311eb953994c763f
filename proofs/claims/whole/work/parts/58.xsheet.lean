/-! the class: sheets, the tape fed -/
theorem am_acpR {xs : Nat → Int32} {LL : Nat} {C : Nat → Option am_En} {K : Nat → List Value → am_H → Option Value → am_H → Prop} {pc : Nat} {L : am_L} {h h1 : am_H} {r : Option Value} {h' : am_H} {idx : Nat} {ln0 aa : Nat} {v : Int} {ps : List Nat} {rr q n0 n1 a b c : Nat} {f g : Nat → Int32} {sp dp n : Int32} (hc : C pc = some (.invokestatic idx, ln0, aa, v, [], ps)) (hv : (decide (v = 1), decide (v = 2)) = (false, false)) (hf : am_get h rr = some (.inl (0, n0, .inl f))) (hg : am_get h q = some (.inl (0, n1, .inl g))) (e1 : sp = nI a) (e2 : dp = nI b) (e3 : n = nI c) (h0 : a + c ≤ n0) (h1' : b + c ≤ n1) (hn0 : n0 < 2 ^ 30) (hn1 : n1 < 2 ^ 30) (hp : am_put h q (.inl (0, n1, .inl (va_cpy f g a b c))) = h1) (kk : am_R xs LL C K (pc + 3) L [] h1 r h') : am_R xs LL C K pc L [.int n, .int dp, .ref q, .int sp, .ref rr] h r h' := by
  subst e1; subst e2; subst e3
  have hv1 : decide (v = 1) = false := congrArg Prod.fst hv
  have hv2 : decide (v = 2) = false := congrArg Prod.snd hv
  refine am_R1 (S := (pc + 3, L, [], h1)) hc rfl ?_ kk
  dsimp only [am_step]
  rw [hv1, hv2, cond_false, cond_false, show Nat.ble (am_cats []) 8 = true from rfl, cond_true, hf, hg]
  have c1 := nI_clamp (show a < 2 ^ 31 by omega)
  have c2 := nI_clamp (show b < 2 ^ 31 by omega)
  have c3 := nI_clamp (show c < 2 ^ 31 by omega)
  show (if nI a < 0 ∨ nI b < 0 ∨ nI c < 0 ∨ n0 < (nI a).toNatClampNeg + (nI c).toNatClampNeg ∨ n1 < (nI b).toNatClampNeg + (nI c).toNatClampNeg then none else some (pc + 3, L, [], am_put h q (.inl (0, n1, .inl (va_cpy f g (nI a).toNatClampNeg (nI b).toNatClampNeg (nI c).toNatClampNeg))))) = some (pc + 3, L, [], h1)
  rw [c1, c2, c3, if_neg ?_, hp]
  rintro (q | q | q | q | q)
  · exact nI_pos (by omega) q
  · exact nI_pos (by omega) q
  · exact nI_pos (by omega) q
  · omega
  · omega
/-- whether a sheet of z items has n from a place on -/
def pu_cv (z : Nat) (a n : Int32) : Bool := decide (0 ≤ a ∧ 0 ≤ n ∧ a ≤ nI z ∧ n ≤ nI z - a)
theorem am_roomY {T n : Nat} (hT : T ≤ 20) (h : T + n ≤ 20) : ¬ (20 : Int32) - nI T < nI n := by
  rw [show (20 : Int32) - nI T = nI (20 - T) from pc_sub (a := 20) hT]
  exact nI_nlt (by omega) (by omega)
theorem am_roomN {T n : Nat} (hT : T ≤ 20) (hn : n ≤ 20) (h : 20 < T + n) : (20 : Int32) - nI T < nI n := by
  rw [show (20 : Int32) - nI T = nI (20 - T) from pc_sub (a := 20) hT]
  exact nI_lt (by omega) (by omega)
theorem pu_fillT {g f : Nat → Int32} (T i : Nat) {v : Int32} (hv : v = g (T + i)) : upd (am_fill g f (T + i) T) (T + i) v = am_fill g f (T + (i + 1)) T := by
  funext k
  unfold am_fill upd
  by_cases h : k = T + i
  · subst h; rw [if_pos rfl, if_pos (by omega), hv]
  · rw [if_neg h]
    show (if T ≤ k ∧ k < T + i then g k else f k) = _
    by_cases h2 : T ≤ k ∧ k < T + i
    · rw [if_pos h2, if_pos (by omega)]
    · rw [if_neg h2, if_neg (by omega)]
theorem pu_fillTT (g f : Nat → Int32) (T : Nat) : am_fill g f T T = f := by
  funext k
  exact if_neg (by omega)
theorem am_us_id {σ : Nat → Nat → Int32} {sr : Nat → Nat} {ln : Nat → Nat → Int32} {Lc : Nat} {μ : Nat → Nat → Int32} : hG (am_us σ 8 (σ 8 0)) sr ln Lc μ = hG σ sr ln Lc μ := rfl
section SH
variable {xs : Nat → Int32} {LL : Nat} {σ μ : Nat → Nat → Int32} {sr : Nat → Nat} {ln : Nat → Nat → Int32} {Lc : Nat}
theorem sp_X11_sheetAt_no (d : Nat) (q : Int32) (hq : am_in q 4 = false) : am_X xs LL (d + 1) 129 [.ref 14, .int q] (hG σ sr ln Lc μ) (some (.null)) (hG σ sr ln Lc μ) := by
  refine am_XR (d := d + 0) (C := cd_X11_sheetAt) (L := [some (.ref 14), some (.int q)]) rfl rfl rfl rfl ?_
  refine am_g 2 (if q < 0 then 22 else 4) [some (.ref 14), some (.int q)] [] (hG σ sr ln Lc μ) rfl (am_brR (fun c1 => ?_) (fun c1 => ?_))
  · skip
    refine am_g 1 23 [some (.ref 14), some (.int q)] [.null] (hG σ sr ln Lc μ) rfl ?_
    exact am_ret2 rfl rfl rfl rfl rfl
  · skip
    refine am_g 5 (if 4 ≤ q then 22 else 13) [some (.ref 14), some (.int q)] [] (hG σ sr ln Lc μ) rfl (am_brR (fun c2 => ?_) (fun c2 => ?_))
    · skip
      refine am_g 1 23 [some (.ref 14), some (.int q)] [.null] (hG σ sr ln Lc μ) rfl ?_
      exact am_ret2 rfl rfl rfl rfl rfl
    · skip
      exact absurd hq (by rw [am_inT (n := 4) c1 rfl c2 (by decide)]; decide)
theorem sp_X9_hasRoom_y (d : Nat) {T : Nat} (hT : σ 8 0 = nI T) (hT20 : T ≤ 20) (n : Nat) (hn : T + n ≤ 20) : am_X xs LL (d + 1) 70 [.ref 20, .int (nI n)] (hG σ sr ln Lc μ) (some (.int 1)) (hG σ sr ln Lc μ) := by
  refine am_XR (d := d + 0) (C := cd_X9_hasRoom) (L := [some (.ref 20), some (.int (nI n))]) rfl rfl rfl rfl ?_
  refine am_g 6 10 [some (.ref 20), some (.int (nI n))] [.int (σ 8 0), .int 20, .int (nI n)] (hG σ sr ln Lc μ) rfl ?_
  rw [show (σ 8 0) = (nI T) from hT]
  refine am_g 2 (if (20 - (nI T)) < (nI n) then 18 else 14) [some (.ref 20), some (.int (nI n))] [] (hG σ sr ln Lc μ) rfl ?_
  rw [if_neg (show ¬ (20 - (nI T)) < (nI n) from (am_roomY hT20 hn))]
  refine am_g 2 19 [some (.ref 20), some (.int (nI n))] [.int 1] (hG σ sr ln Lc μ) rfl ?_
  exact am_ret2 rfl rfl rfl rfl rfl
theorem sp_X9_hasRoom_n (d : Nat) {T : Nat} (hT : σ 8 0 = nI T) (hT20 : T ≤ 20) (n : Nat) (hn20 : n ≤ 20) (hn : 20 < T + n) : am_X xs LL (d + 1) 70 [.ref 20, .int (nI n)] (hG σ sr ln Lc μ) (some (.int 0)) (hG σ sr ln Lc μ) := by
  refine am_XR (d := d + 0) (C := cd_X9_hasRoom) (L := [some (.ref 20), some (.int (nI n))]) rfl rfl rfl rfl ?_
  refine am_g 6 10 [some (.ref 20), some (.int (nI n))] [.int (σ 8 0), .int 20, .int (nI n)] (hG σ sr ln Lc μ) rfl ?_
  rw [show (σ 8 0) = (nI T) from hT]
  refine am_g 2 (if (20 - (nI T)) < (nI n) then 18 else 14) [some (.ref 20), some (.int (nI n))] [] (hG σ sr ln Lc μ) rfl ?_
  rw [if_pos (show (20 - (nI T)) < (nI n) from (am_roomN hT20 hn20 hn))]
  refine am_g 1 19 [some (.ref 20), some (.int (nI n))] [.int 0] (hG σ sr ln Lc μ) rfl ?_
  exact am_ret2 rfl rfl rfl rfl rfl
theorem sp_X9_push (d : Nat) {T : Nat} (hT : σ 8 0 = nI T) (hT20 : T < 20) (v : Int32) : am_X xs LL (d + 1) 71 [.ref 20, .int v] (hG σ sr ln Lc μ) none (hG (am_us (am_up σ 7 (upd (σ 7) T (v &&& 255))) 8 (nI (T + 1))) sr ln Lc μ) := by
  refine am_XR (d := d + 0) (C := cd_X9_push) (L := [some (.ref 20), some (.int v)]) rfl rfl rfl rfl ?_
  refine am_g 2 4 [some (.ref 20), some (.int v)] [.int (σ 8 0)] (hG σ sr ln Lc μ) rfl ?_
  rw [show (σ 8 0) = (nI T) from hT]
  refine am_g 1 (if (nI T) < 0 then 43 else 7) [some (.ref 20), some (.int v)] [] (hG σ sr ln Lc μ) rfl ?_
  rw [if_neg (show ¬ (nI T) < 0 from (am_dnlt (a := T) (b := 0) (rfl) (rfl) (by omega) (by omega) (by omega)))]
  refine am_g 2 11 [some (.ref 20), some (.int v)] [.int (σ 8 0)] (hG σ sr ln Lc μ) rfl ?_
  rw [show (σ 8 0) = (nI T) from hT]
  refine am_g 4 (if 20 ≤ (nI T) then 43 else 19) [some (.ref 20), some (.int v)] [] (hG σ sr ln Lc μ) rfl ?_
  rw [if_neg (show ¬ 20 ≤ (nI T) from (am_dnle (a := 20) (b := T) (rfl) (rfl) (by omega) (by omega) (by omega)))]
  refine am_g 4 27 [some (.ref 20), some (.int v)] [.int (σ 8 0), .ref 21] (hG σ sr ln Lc μ) rfl ?_
  rw [show (σ 8 0) = (nI T) from hT]
  refine am_g 3 32 [some (.ref 20), some (.int v)] [.int (v &&& 255), .int (nI T), .ref 21] (hG σ sr ln Lc μ) rfl ?_
  refine am_iastR (n := 20) (f := (σ 7)) (k := T) (h1 := (hG (am_up σ 7 (upd (σ 7) T (v &&& 255))) sr ln Lc μ)) rfl rfl (rfl) (by omega) (by decide) rfl ?_
  refine am_g 3 38 [some (.ref 20), some (.int v)] [.int (σ 8 0), .ref 20] (hG (am_up σ 7 (upd (σ 7) T (v &&& 255))) sr ln Lc μ) rfl ?_
  rw [show (σ 8 0) = (nI T) from hT]
  refine am_g 3 43 [some (.ref 20), some (.int v)] [] (hG (am_us (am_up σ 7 (upd (σ 7) T (v &&& 255))) 8 ((nI T) + 1)) sr ln Lc μ) rfl ?_
  exact am_ret2 rfl rfl rfl rfl (by rw [nI_up])
theorem sp_X9_clear (d : Nat)  : am_X xs LL (d + 1) 72 [.ref 20] (hG σ sr ln Lc μ) none (hG (am_us σ 8 0) sr ln Lc μ) := by
  refine am_XR (d := d + 0) (C := cd_X9_clear) (L := [some (.ref 20)]) rfl rfl rfl rfl ?_
  refine am_g 3 5 [some (.ref 20)] [] (hG (am_us σ 8 0) sr ln Lc μ) rfl ?_
  exact am_ret2 rfl rfl rfl rfl rfl
theorem sp_X11_sheetAt_0 (d : Nat)  : am_X xs LL (d + 1) 129 [.ref 14, .int 0] (hG σ sr ln Lc μ) (some (.ref 39)) (hG σ sr ln Lc μ) := by
  refine am_XR (d := d + 0) (C := cd_X11_sheetAt) (L := [some (.ref 14), some (.int 0)]) rfl rfl rfl rfl ?_
  refine am_g 10 18 [some (.ref 14), some (.int 0)] [.int 0, .ref 38] (hG σ sr ln Lc μ) rfl ?_
  refine am_aaldR (n := 4) (t := 3) (f := fun j => if j < 4 then some (39 + 2 * j) else none) (k := 0) rfl rfl (Or.inr rfl) (rfl) (by decide) (by decide) ?_
  refine am_g 1 23 [some (.ref 14), some (.int 0)] [.ref 39] (hG σ sr ln Lc μ) rfl ?_
  exact am_ret2 rfl rfl rfl rfl rfl
theorem sp_X8_isMissing_0y (d : Nat) (h : σ 51 0 = -1) : am_X xs LL (d + 1) 64 [.ref 39] (hG σ sr ln Lc μ) (some (.int 1)) (hG σ sr ln Lc μ) := by
  refine am_XR (d := d + 0) (C := cd_X8_isMissing) (L := [some (.ref 39)]) rfl rfl rfl rfl ?_
  refine am_g 4 (if (σ 51 0) = (-1) then 8 else 12) [some (.ref 39)] [] (hG σ sr ln Lc μ) rfl ?_
  rw [if_pos (show (σ 51 0) = (-1) from h)]
  refine am_g 2 13 [some (.ref 39)] [.int 1] (hG σ sr ln Lc μ) rfl ?_
  exact am_ret2 rfl rfl rfl rfl rfl
theorem sp_X8_isMissing_0n (d : Nat) (h : ¬ σ 51 0 = -1) : am_X xs LL (d + 1) 64 [.ref 39] (hG σ sr ln Lc μ) (some (.int 0)) (hG σ sr ln Lc μ) := by
  refine am_XR (d := d + 0) (C := cd_X8_isMissing) (L := [some (.ref 39)]) rfl rfl rfl rfl ?_
  refine am_g 4 (if (σ 51 0) = (-1) then 8 else 12) [some (.ref 39)] [] (hG σ sr ln Lc μ) rfl ?_
  rw [if_neg (show ¬ (σ 51 0) = (-1) from h)]
  refine am_g 1 13 [some (.ref 39)] [.int 0] (hG σ sr ln Lc μ) rfl ?_
  exact am_ret2 rfl rfl rfl rfl rfl
theorem sp_X8_covers_0 (d : Nat) {z : Nat} (hz : σ 52 0 = nI z) (hz40 : z ≤ 40) (a n : Int32) {w : Bool} (eb : pu_cv z a n = w) : am_X xs LL (d + 1) 66 [.ref 39, .int a, .int n] (hG σ sr ln Lc μ) (some (.int (am_b2 w))) (hG σ sr ln Lc μ) := by
  refine am_XR (d := d + 0) (C := cd_X8_covers) (L := [some (.ref 39), some (.int a), some (.int n)]) rfl rfl rfl rfl ?_
  refine am_g 2 (if a < 0 then 30 else 4) [some (.ref 39), some (.int a), some (.int n)] [] (hG σ sr ln Lc μ) rfl (am_brR (fun c1 => ?_) (fun c1 => ?_))
  · skip
    refine am_g 1 31 [some (.ref 39), some (.int a), some (.int n)] [.int 0] (hG σ sr ln Lc μ) rfl ?_
    exact am_ret2 rfl rfl rfl (am_b2N eb (fun q => absurd c1 (Int32.not_lt.mpr q.1))) rfl
  · skip
    refine am_g 2 (if n < 0 then 30 else 8) [some (.ref 39), some (.int a), some (.int n)] [] (hG σ sr ln Lc μ) rfl (am_brR (fun c2 => ?_) (fun c2 => ?_))
    · skip
      refine am_g 1 31 [some (.ref 39), some (.int a), some (.int n)] [.int 0] (hG σ sr ln Lc μ) rfl ?_
      exact am_ret2 rfl rfl rfl (am_b2N eb (fun q => absurd c2 (Int32.not_lt.mpr q.2.1))) rfl
    · skip
      refine am_g 3 13 [some (.ref 39), some (.int a), some (.int n)] [.int (σ 52 0), .int a] (hG σ sr ln Lc μ) rfl ?_
      rw [show (σ 52 0) = (nI z) from hz]
      refine am_g 1 (if (nI z) < a then 30 else 16) [some (.ref 39), some (.int a), some (.int n)] [] (hG σ sr ln Lc μ) rfl (am_brR (fun c3 => ?_) (fun c3 => ?_))
      · skip
        refine am_g 1 31 [some (.ref 39), some (.int a), some (.int n)] [.int 0] (hG σ sr ln Lc μ) rfl ?_
        exact am_ret2 rfl rfl rfl (am_b2N eb (fun q => absurd c3 (Int32.not_lt.mpr q.2.2.1))) rfl
      · skip
        refine am_g 3 21 [some (.ref 39), some (.int a), some (.int n)] [.int (σ 52 0), .int n] (hG σ sr ln Lc μ) rfl ?_
        rw [show (σ 52 0) = (nI z) from hz]
        refine am_g 3 (if ((nI z) - a) < n then 30 else 26) [some (.ref 39), some (.int a), some (.int n)] [] (hG σ sr ln Lc μ) rfl (am_brR (fun c4 => ?_) (fun c4 => ?_))
        · skip
          refine am_g 1 31 [some (.ref 39), some (.int a), some (.int n)] [.int 0] (hG σ sr ln Lc μ) rfl ?_
          exact am_ret2 rfl rfl rfl (am_b2N eb (fun q => absurd c4 (Int32.not_lt.mpr q.2.2.2))) rfl
        · skip
          refine am_g 2 31 [some (.ref 39), some (.int a), some (.int n)] [.int 1] (hG σ sr ln Lc μ) rfl ?_
          exact am_ret2 rfl rfl rfl (am_b2Y eb ⟨Int32.not_lt.mp c1, Int32.not_lt.mp c2, Int32.not_lt.mp c3, Int32.not_lt.mp c4⟩) rfl
theorem sp_X8_become_0m (d : Nat) (n : Int32) : am_X xs LL (d + 2) 65 [.ref 39, .int (-1), .int n] (hG σ sr ln Lc μ) none (hG (am_up (am_us (am_us σ 51 (-1)) 52 0) 50 (am_fill (fun _ => 0) (σ 50) 40 0)) sr ln Lc μ) := by
  refine am_XR (d := d + 1) (C := cd_X8_become) (L := [some (.ref 39), some (.int (-1)), some (.int n)]) rfl rfl rfl rfl ?_
  refine am_g 13 24 [some (.ref 39), some (.int (-1)), some (.int n)] [.int 0, .ref 40] (hG (am_us (am_us σ 51 (-1)) 52 0) sr ln Lc μ) rfl ?_
  refine am_call (y := 209) (vs := [.ref 40, .int 0]) (rest := []) (v := none) (h1 := (hG (am_up (am_us (am_us σ 51 (-1)) 52 0) 50 (am_fill (fun _ => 0) (σ 50) 40 0)) sr ln Lc μ)) rfl rfl rfl (sp_fill d _ 40 40 (σ 50) 0 rfl (by decide) rfl) ?_
  exact am_ret2 rfl rfl rfl rfl rfl
theorem sp_X8_become_0q (d : Nat) (k n : Int32) (hk : ¬ k = -1) : am_X xs LL (d + 2) 65 [.ref 39, .int k, .int n] (hG σ sr ln Lc μ) none (hG (am_up (am_us (am_us σ 51 k) 52 n) 50 (am_fill (fun _ => 0) (σ 50) 40 0)) sr ln Lc μ) := by
  refine am_XR (d := d + 1) (C := cd_X8_become) (L := [some (.ref 39), some (.int k), some (.int n)]) rfl rfl rfl rfl ?_
  refine am_g 7 (if k = (-1) then 11 else 15) [some (.ref 39), some (.int k), some (.int n)] [.ref 39] (hG (am_us σ 51 k) sr ln Lc μ) rfl ?_
  rw [if_neg (show ¬ k = (-1) from hk)]
  refine am_g 5 24 [some (.ref 39), some (.int k), some (.int n)] [.int 0, .ref 40] (hG (am_us (am_us σ 51 k) 52 n) sr ln Lc μ) rfl ?_
  refine am_call (y := 209) (vs := [.ref 40, .int 0]) (rest := []) (v := none) (h1 := (hG (am_up (am_us (am_us σ 51 k) 52 n) 50 (am_fill (fun _ => 0) (σ 50) 40 0)) sr ln Lc μ)) rfl rfl rfl (sp_fill d _ 40 40 (σ 50) 0 rfl (by decide) rfl) ?_
  exact am_ret2 rfl rfl rfl rfl rfl
theorem sp_X11_sheet_0m (d : Nat) (n : Int32) : am_X xs LL (d + 3) 117 [.ref 14, .int 0, .int (-1), .int n] (hG σ sr ln Lc μ) (some (.int 1)) (hG (am_up (am_us (am_us σ 51 (-1)) 52 0) 50 (am_fill (fun _ => 0) (σ 50) 40 0)) sr ln Lc μ) := by
  refine am_XR (d := d + 2) (C := cd_X11_sheet) (L := [some (.ref 14), some (.int 0), some (.int (-1)), some (.int n), none]) rfl rfl rfl rfl ?_
  refine am_g 2 2 [some (.ref 14), some (.int 0), some (.int (-1)), some (.int n), none] [.int 0, .ref 14] (hG σ sr ln Lc μ) rfl ?_
  refine am_call (y := 129) (vs := [.ref 14, .int 0]) (rest := []) (v := (some (.ref 39))) (h1 := (hG σ sr ln Lc μ)) rfl rfl rfl (sp_X11_sheetAt_0 (σ := σ) (μ := μ) (d + 1)) ?_
  refine am_g 6 15 [some (.ref 14), some (.int 0), some (.int (-1)), some (.int n), some (.ref 39)] [.int 2, .int (-1), .int (-1)] (hG σ sr ln Lc μ) rfl ?_
  refine am_call (y := 122) (vs := [.int (-1), .int (-1), .int 2]) (rest := []) (v := (some (.int 1))) (h1 := (hG σ sr ln Lc μ)) rfl rfl rfl (sp_X11_isWithin_b (d + 1) _ _ _ _ (show decide ((-1 : Int32) ≤ -1 ∧ (-1 : Int32) ≤ 2) = true from by decide)) ?_
  refine am_g 10 54 [some (.ref 14), some (.int 0), some (.int (-1)), some (.int n), some (.ref 39)] [.int n, .int (-1), .ref 39] (hG σ sr ln Lc μ) rfl ?_
  refine am_call (y := 65) (vs := [.ref 39, .int (-1), .int n]) (rest := []) (v := none) (h1 := (hG (am_up (am_us (am_us σ 51 (-1)) 52 0) 50 (am_fill (fun _ => 0) (σ 50) 40 0)) sr ln Lc μ)) rfl rfl rfl (sp_X8_become_0m d _) ?_
  refine am_g 1 58 [some (.ref 14), some (.int 0), some (.int (-1)), some (.int n), some (.ref 39)] [.int 1] (hG (am_up (am_us (am_us σ 51 (-1)) 52 0) 50 (am_fill (fun _ => 0) (σ 50) 40 0)) sr ln Lc μ) rfl ?_
  exact am_ret2 rfl rfl rfl rfl rfl
theorem sp_X11_sheet_0q (d : Nat) (k n : Int32) (hk3 : am_in1 k 3 = true) (hk : ¬ k = -1) (hn : n ≤ 40) (hn0 : 0 ≤ n) : am_X xs LL (d + 3) 117 [.ref 14, .int 0, .int k, .int n] (hG σ sr ln Lc μ) (some (.int 1)) (hG (am_up (am_us (am_us σ 51 k) 52 n) 50 (am_fill (fun _ => 0) (σ 50) 40 0)) sr ln Lc μ) := by
  refine am_XR (d := d + 2) (C := cd_X11_sheet) (L := [some (.ref 14), some (.int 0), some (.int k), some (.int n), none]) rfl rfl rfl rfl ?_
  refine am_g 2 2 [some (.ref 14), some (.int 0), some (.int k), some (.int n), none] [.int 0, .ref 14] (hG σ sr ln Lc μ) rfl ?_
  refine am_call (y := 129) (vs := [.ref 14, .int 0]) (rest := []) (v := (some (.ref 39))) (h1 := (hG σ sr ln Lc μ)) rfl rfl rfl (sp_X11_sheetAt_0 (σ := σ) (μ := μ) (d + 1)) ?_
  refine am_g 6 15 [some (.ref 14), some (.int 0), some (.int k), some (.int n), some (.ref 39)] [.int 2, .int (-1), .int k] (hG σ sr ln Lc μ) rfl ?_
  refine am_call (y := 122) (vs := [.int k, .int (-1), .int 2]) (rest := []) (v := (some (.int 1))) (h1 := (hG σ sr ln Lc μ)) rfl rfl rfl (sp_X11_isWithin_b (d + 1) _ _ _ _ ((am_wi1 (by decide)).trans hk3)) ?_
  refine am_g 4 (if k = (-1) then 38 else 29) [some (.ref 14), some (.int 0), some (.int k), some (.int n), some (.ref 39)] [] (hG σ sr ln Lc μ) rfl ?_
  rw [if_neg (show ¬ k = (-1) from hk)]
  refine am_g 3 (if n ≤ 40 then 38 else 35) [some (.ref 14), some (.int 0), some (.int k), some (.int n), some (.ref 39)] [] (hG σ sr ln Lc μ) rfl ?_
  rw [if_pos (show n ≤ 40 from hn)]
  refine am_g 3 (if k = (-1) then 50 else 43) [some (.ref 14), some (.int 0), some (.int k), some (.int n), some (.ref 39)] [] (hG σ sr ln Lc μ) rfl ?_
  rw [if_neg (show ¬ k = (-1) from hk)]
  refine am_g 2 (if 0 ≤ n then 50 else 47) [some (.ref 14), some (.int 0), some (.int k), some (.int n), some (.ref 39)] [] (hG σ sr ln Lc μ) rfl ?_
  rw [if_pos (show 0 ≤ n from hn0)]
  refine am_g 3 54 [some (.ref 14), some (.int 0), some (.int k), some (.int n), some (.ref 39)] [.int n, .int k, .ref 39] (hG σ sr ln Lc μ) rfl ?_
  refine am_call (y := 65) (vs := [.ref 39, .int k, .int n]) (rest := []) (v := none) (h1 := (hG (am_up (am_us (am_us σ 51 k) 52 n) 50 (am_fill (fun _ => 0) (σ 50) 40 0)) sr ln Lc μ)) rfl rfl rfl (sp_X8_become_0q d _ _ hk) ?_
  refine am_g 1 58 [some (.ref 14), some (.int 0), some (.int k), some (.int n), some (.ref 39)] [.int 1] (hG (am_up (am_us (am_us σ 51 k) 52 n) 50 (am_fill (fun _ => 0) (σ 50) 40 0)) sr ln Lc μ) rfl ?_
  exact am_ret2 rfl rfl rfl rfl rfl
theorem sp_X11_sheet_0big (d : Nat) (k n : Int32) (hk3 : am_in1 k 3 = true) (hk : ¬ k = -1) (hn : ¬ n ≤ 40) : am_X xs LL (d + 3) 117 [.ref 14, .int 0, .int k, .int n] (hG σ sr ln Lc μ) (some (.int (-2))) (hG σ sr ln Lc μ) := by
  refine am_XR (d := d + 2) (C := cd_X11_sheet) (L := [some (.ref 14), some (.int 0), some (.int k), some (.int n), none]) rfl rfl rfl rfl ?_
  refine am_g 2 2 [some (.ref 14), some (.int 0), some (.int k), some (.int n), none] [.int 0, .ref 14] (hG σ sr ln Lc μ) rfl ?_
  refine am_call (y := 129) (vs := [.ref 14, .int 0]) (rest := []) (v := (some (.ref 39))) (h1 := (hG σ sr ln Lc μ)) rfl rfl rfl (sp_X11_sheetAt_0 (σ := σ) (μ := μ) (d + 1)) ?_
  refine am_g 6 15 [some (.ref 14), some (.int 0), some (.int k), some (.int n), some (.ref 39)] [.int 2, .int (-1), .int k] (hG σ sr ln Lc μ) rfl ?_
  refine am_call (y := 122) (vs := [.int k, .int (-1), .int 2]) (rest := []) (v := (some (.int 1))) (h1 := (hG σ sr ln Lc μ)) rfl rfl rfl (sp_X11_isWithin_b (d + 1) _ _ _ _ ((am_wi1 (by decide)).trans hk3)) ?_
  refine am_g 4 (if k = (-1) then 38 else 29) [some (.ref 14), some (.int 0), some (.int k), some (.int n), some (.ref 39)] [] (hG σ sr ln Lc μ) rfl ?_
  rw [if_neg (show ¬ k = (-1) from hk)]
  refine am_g 3 (if n ≤ 40 then 38 else 35) [some (.ref 14), some (.int 0), some (.int k), some (.int n), some (.ref 39)] [] (hG σ sr ln Lc μ) rfl ?_
  rw [if_neg (show ¬ n ≤ 40 from hn)]
  refine am_g 1 37 [some (.ref 14), some (.int 0), some (.int k), some (.int n), some (.ref 39)] [.int (-2)] (hG σ sr ln Lc μ) rfl ?_
  exact am_ret2 rfl rfl rfl rfl rfl
theorem sp_X11_sheet_0neg (d : Nat) (k n : Int32) (hk3 : am_in1 k 3 = true) (hk : ¬ k = -1) (hn : n ≤ 40) (hn0 : ¬ 0 ≤ n) : am_X xs LL (d + 3) 117 [.ref 14, .int 0, .int k, .int n] (hG σ sr ln Lc μ) (some (.int (-14))) (hG σ sr ln Lc μ) := by
  refine am_XR (d := d + 2) (C := cd_X11_sheet) (L := [some (.ref 14), some (.int 0), some (.int k), some (.int n), none]) rfl rfl rfl rfl ?_
  refine am_g 2 2 [some (.ref 14), some (.int 0), some (.int k), some (.int n), none] [.int 0, .ref 14] (hG σ sr ln Lc μ) rfl ?_
  refine am_call (y := 129) (vs := [.ref 14, .int 0]) (rest := []) (v := (some (.ref 39))) (h1 := (hG σ sr ln Lc μ)) rfl rfl rfl (sp_X11_sheetAt_0 (σ := σ) (μ := μ) (d + 1)) ?_
  refine am_g 6 15 [some (.ref 14), some (.int 0), some (.int k), some (.int n), some (.ref 39)] [.int 2, .int (-1), .int k] (hG σ sr ln Lc μ) rfl ?_
  refine am_call (y := 122) (vs := [.int k, .int (-1), .int 2]) (rest := []) (v := (some (.int 1))) (h1 := (hG σ sr ln Lc μ)) rfl rfl rfl (sp_X11_isWithin_b (d + 1) _ _ _ _ ((am_wi1 (by decide)).trans hk3)) ?_
  refine am_g 4 (if k = (-1) then 38 else 29) [some (.ref 14), some (.int 0), some (.int k), some (.int n), some (.ref 39)] [] (hG σ sr ln Lc μ) rfl ?_
  rw [if_neg (show ¬ k = (-1) from hk)]
  refine am_g 3 (if n ≤ 40 then 38 else 35) [some (.ref 14), some (.int 0), some (.int k), some (.int n), some (.ref 39)] [] (hG σ sr ln Lc μ) rfl ?_
  rw [if_pos (show n ≤ 40 from hn)]
  refine am_g 3 (if k = (-1) then 50 else 43) [some (.ref 14), some (.int 0), some (.int k), some (.int n), some (.ref 39)] [] (hG σ sr ln Lc μ) rfl ?_
  rw [if_neg (show ¬ k = (-1) from hk)]
  refine am_g 2 (if 0 ≤ n then 50 else 47) [some (.ref 14), some (.int 0), some (.int k), some (.int n), some (.ref 39)] [] (hG σ sr ln Lc μ) rfl ?_
  rw [if_neg (show ¬ 0 ≤ n from hn0)]
  refine am_g 1 49 [some (.ref 14), some (.int 0), some (.int k), some (.int n), some (.ref 39)] [.int (-14)] (hG σ sr ln Lc μ) rfl ?_
  exact am_ret2 rfl rfl rfl rfl rfl
theorem sp_X11_sheet_0bad (d : Nat) (k n : Int32) (hk3 : am_in1 k 3 = false) : am_X xs LL (d + 3) 117 [.ref 14, .int 0, .int k, .int n] (hG σ sr ln Lc μ) (some (.int (-2))) (hG σ sr ln Lc μ) := by
  refine am_XR (d := d + 2) (C := cd_X11_sheet) (L := [some (.ref 14), some (.int 0), some (.int k), some (.int n), none]) rfl rfl rfl rfl ?_
  refine am_g 2 2 [some (.ref 14), some (.int 0), some (.int k), some (.int n), none] [.int 0, .ref 14] (hG σ sr ln Lc μ) rfl ?_
  refine am_call (y := 129) (vs := [.ref 14, .int 0]) (rest := []) (v := (some (.ref 39))) (h1 := (hG σ sr ln Lc μ)) rfl rfl rfl (sp_X11_sheetAt_0 (σ := σ) (μ := μ) (d + 1)) ?_
  refine am_g 6 15 [some (.ref 14), some (.int 0), some (.int k), some (.int n), some (.ref 39)] [.int 2, .int (-1), .int k] (hG σ sr ln Lc μ) rfl ?_
  refine am_call (y := 122) (vs := [.int k, .int (-1), .int 2]) (rest := []) (v := (some (.int 0))) (h1 := (hG σ sr ln Lc μ)) rfl rfl rfl (sp_X11_isWithin_b (d + 1) _ _ _ _ ((am_wi1 (by decide)).trans hk3)) ?_
  refine am_g 2 23 [some (.ref 14), some (.int 0), some (.int k), some (.int n), some (.ref 39)] [.int (-2)] (hG σ sr ln Lc μ) rfl ?_
  exact am_ret2 rfl rfl rfl rfl rfl
theorem sp_X11_cell_0m (d : Nat) (i v : Int32) (h : σ 51 0 = -1) : am_X xs LL (d + 2) 118 [.ref 14, .int 0, .int i, .int v] (hG σ sr ln Lc μ) (some (.int (-11))) (hG σ sr ln Lc μ) := by
  refine am_XR (d := d + 1) (C := cd_X11_cell) (L := [some (.ref 14), some (.int 0), some (.int i), some (.int v), none]) rfl rfl rfl rfl ?_
  refine am_g 2 2 [some (.ref 14), some (.int 0), some (.int i), some (.int v), none] [.int 0, .ref 14] (hG σ sr ln Lc μ) rfl ?_
  refine am_call (y := 129) (vs := [.ref 14, .int 0]) (rest := []) (v := (some (.ref 39))) (h1 := (hG σ sr ln Lc μ)) rfl rfl rfl (sp_X11_sheetAt_0 (σ := σ) (μ := μ) d) ?_
  refine am_g 4 17 [some (.ref 14), some (.int 0), some (.int i), some (.int v), some (.ref 39)] [.ref 39] (hG σ sr ln Lc μ) rfl ?_
  refine am_call (y := 64) (vs := [.ref 39]) (rest := []) (v := (some (.int 1))) (h1 := (hG σ sr ln Lc μ)) rfl rfl rfl (sp_X8_isMissing_0y (σ := σ) (μ := μ) d h) ?_
  refine am_g 2 25 [some (.ref 14), some (.int 0), some (.int i), some (.int v), some (.ref 39)] [.int (-11)] (hG σ sr ln Lc μ) rfl ?_
  exact am_ret2 rfl rfl rfl rfl rfl
theorem sp_X11_cell_0o (d : Nat) (i v : Int32) (h : ¬ σ 51 0 = -1) {z : Nat} (hz : σ 52 0 = nI z) (hz40 : z ≤ 40) (hc : pu_cv z i 1 = false) : am_X xs LL (d + 2) 118 [.ref 14, .int 0, .int i, .int v] (hG σ sr ln Lc μ) (some (.int (-12))) (hG σ sr ln Lc μ) := by
  refine am_XR (d := d + 1) (C := cd_X11_cell) (L := [some (.ref 14), some (.int 0), some (.int i), some (.int v), none]) rfl rfl rfl rfl ?_
  refine am_g 2 2 [some (.ref 14), some (.int 0), some (.int i), some (.int v), none] [.int 0, .ref 14] (hG σ sr ln Lc μ) rfl ?_
  refine am_call (y := 129) (vs := [.ref 14, .int 0]) (rest := []) (v := (some (.ref 39))) (h1 := (hG σ sr ln Lc μ)) rfl rfl rfl (sp_X11_sheetAt_0 (σ := σ) (μ := μ) d) ?_
  refine am_g 4 17 [some (.ref 14), some (.int 0), some (.int i), some (.int v), some (.ref 39)] [.ref 39] (hG σ sr ln Lc μ) rfl ?_
  refine am_call (y := 64) (vs := [.ref 39]) (rest := []) (v := (some (.int 0))) (h1 := (hG σ sr ln Lc μ)) rfl rfl rfl (sp_X8_isMissing_0n (σ := σ) (μ := μ) d h) ?_
  refine am_g 4 30 [some (.ref 14), some (.int 0), some (.int i), some (.int v), some (.ref 39)] [.int 1, .int i, .ref 39] (hG σ sr ln Lc μ) rfl ?_
  refine am_call (y := 66) (vs := [.ref 39, .int i, .int 1]) (rest := []) (v := (some (.int 0))) (h1 := (hG σ sr ln Lc μ)) rfl rfl rfl (sp_X8_covers_0 (σ := σ) (μ := μ) d hz (by omega) _ _ hc) ?_
  refine am_g 2 38 [some (.ref 14), some (.int 0), some (.int i), some (.int v), some (.ref 39)] [.int (-12)] (hG σ sr ln Lc μ) rfl ?_
  exact am_ret2 rfl rfl rfl rfl rfl
theorem sp_X8_put_00 (d : Nat) {z : Nat} (hz : σ 52 0 = nI z) (hz40 : z ≤ 40) (i : Nat) (hi : i < z) (v : Int32) (hq : σ 51 0 = 0) : am_X xs LL (d + 1) 68 [.ref 39, .int (nI i), .int v] (hG σ sr ln Lc μ) none (hG (am_up σ 50 (upd (σ 50) i (v.toInt8.toInt32))) sr ln Lc μ) := by
  refine am_XR (d := d + 0) (C := cd_X8_put) (L := [some (.ref 39), some (.int (nI i)), some (.int v)]) rfl rfl rfl rfl ?_
  refine am_g 2 (if (nI i) < 0 then 21 else 4) [some (.ref 39), some (.int (nI i)), some (.int v)] [] (hG σ sr ln Lc μ) rfl ?_
  rw [if_neg (show ¬ (nI i) < 0 from (am_dnlt (a := i) (b := 0) (rfl) (rfl) (by omega) (by omega) (by omega)))]
  refine am_g 3 9 [some (.ref 39), some (.int (nI i)), some (.int v)] [.int (σ 52 0), .int (nI i)] (hG σ sr ln Lc μ) rfl ?_
  rw [show (σ 52 0) = (nI z) from hz]
  refine am_g 1 (if (nI z) ≤ (nI i) then 21 else 12) [some (.ref 39), some (.int (nI i)), some (.int v)] [] (hG σ sr ln Lc μ) rfl ?_
  rw [if_neg (show ¬ (nI z) ≤ (nI i) from (am_dnle (a := z) (b := i) (rfl) (rfl) (by omega) (by omega) (by omega)))]
  refine am_g 5 (if (nI i) < 40 then 22 else 21) [some (.ref 39), some (.int (nI i)), some (.int v)] [] (hG σ sr ln Lc μ) rfl ?_
  rw [if_pos (show (nI i) < 40 from (am_dlt (a := i) (b := 40) (rfl) (rfl) (by omega) (by omega) (by omega)))]
  refine am_g 2 26 [some (.ref 39), some (.int (nI i)), some (.int v)] [.int (σ 51 0)] (hG σ sr ln Lc μ) rfl ?_
  rw [show (σ 51 0) = 0 from hq]
  refine am_g 6 36 [some (.ref 39), some (.int (nI i)), some (.int v)] [.int (v.toInt8.toInt32), .int (nI i), .ref 40] (hG σ sr ln Lc μ) rfl ?_
  refine am_iastR (n := 40) (f := (σ 50)) (k := i) (h1 := (hG (am_up σ 50 (upd (σ 50) i (v.toInt8.toInt32))) sr ln Lc μ)) rfl rfl (rfl) (by omega) (by decide) rfl ?_
  refine am_g 1 66 [some (.ref 39), some (.int (nI i)), some (.int v)] [] (hG (am_up σ 50 (upd (σ 50) i (v.toInt8.toInt32))) sr ln Lc μ) rfl ?_
  exact am_ret2 rfl rfl rfl rfl rfl
theorem sp_X11_cell_0q0 (d : Nat) {z : Nat} (hz : σ 52 0 = nI z) (hz40 : z ≤ 40) (i : Nat) (hi : i < z) (v : Int32) (hq : σ 51 0 = 0) (hc : pu_cv z (nI i) 1 = true) : am_X xs LL (d + 2) 118 [.ref 14, .int 0, .int (nI i), .int v] (hG σ sr ln Lc μ) (some (.int 1)) (hG (am_up σ 50 (upd (σ 50) i (v.toInt8.toInt32))) sr ln Lc μ) := by
  refine am_XR (d := d + 1) (C := cd_X11_cell) (L := [some (.ref 14), some (.int 0), some (.int (nI i)), some (.int v), none]) rfl rfl rfl rfl ?_
  refine am_g 2 2 [some (.ref 14), some (.int 0), some (.int (nI i)), some (.int v), none] [.int 0, .ref 14] (hG σ sr ln Lc μ) rfl ?_
  refine am_call (y := 129) (vs := [.ref 14, .int 0]) (rest := []) (v := (some (.ref 39))) (h1 := (hG σ sr ln Lc μ)) rfl rfl rfl (sp_X11_sheetAt_0 (σ := σ) (μ := μ) d) ?_
  refine am_g 4 17 [some (.ref 14), some (.int 0), some (.int (nI i)), some (.int v), some (.ref 39)] [.ref 39] (hG σ sr ln Lc μ) rfl ?_
  refine am_call (y := 64) (vs := [.ref 39]) (rest := []) (v := (some (.int 0))) (h1 := (hG σ sr ln Lc μ)) rfl rfl rfl (sp_X8_isMissing_0n (σ := σ) (μ := μ) d (by rw [hq]; decide)) ?_
  refine am_g 4 30 [some (.ref 14), some (.int 0), some (.int (nI i)), some (.int v), some (.ref 39)] [.int 1, .int (nI i), .ref 39] (hG σ sr ln Lc μ) rfl ?_
  refine am_call (y := 66) (vs := [.ref 39, .int (nI i), .int 1]) (rest := []) (v := (some (.int 1))) (h1 := (hG σ sr ln Lc μ)) rfl rfl rfl (sp_X8_covers_0 (σ := σ) (μ := μ) d hz (by omega) _ _ hc) ?_
  refine am_g 4 43 [some (.ref 14), some (.int 0), some (.int (nI i)), some (.int v), some (.ref 39)] [.int v, .int (nI i), .ref 39] (hG σ sr ln Lc μ) rfl ?_
  refine am_call (y := 68) (vs := [.ref 39, .int (nI i), .int v]) (rest := []) (v := none) (h1 := (hG (am_up σ 50 (upd (σ 50) i (v.toInt8.toInt32))) sr ln Lc μ)) rfl rfl rfl (sp_X8_put_00 d hz (by omega) i hi _ hq) ?_
  refine am_g 1 47 [some (.ref 14), some (.int 0), some (.int (nI i)), some (.int v), some (.ref 39)] [.int 1] (hG (am_up σ 50 (upd (σ 50) i (v.toInt8.toInt32))) sr ln Lc μ) rfl ?_
  exact am_ret2 rfl rfl rfl rfl rfl
theorem sp_X8_put_01 (d : Nat) {z : Nat} (hz : σ 52 0 = nI z) (hz40 : z ≤ 40) (i : Nat) (hi : i < z) (v : Int32) (hq : σ 51 0 = 1) : am_X xs LL (d + 1) 68 [.ref 39, .int (nI i), .int v] (hG σ sr ln Lc μ) none (hG (am_up σ 50 (upd (σ 50) i (v.toInt16.toInt32))) sr ln Lc μ) := by
  refine am_XR (d := d + 0) (C := cd_X8_put) (L := [some (.ref 39), some (.int (nI i)), some (.int v)]) rfl rfl rfl rfl ?_
  refine am_g 2 (if (nI i) < 0 then 21 else 4) [some (.ref 39), some (.int (nI i)), some (.int v)] [] (hG σ sr ln Lc μ) rfl ?_
  rw [if_neg (show ¬ (nI i) < 0 from (am_dnlt (a := i) (b := 0) (rfl) (rfl) (by omega) (by omega) (by omega)))]
  refine am_g 3 9 [some (.ref 39), some (.int (nI i)), some (.int v)] [.int (σ 52 0), .int (nI i)] (hG σ sr ln Lc μ) rfl ?_
  rw [show (σ 52 0) = (nI z) from hz]
  refine am_g 1 (if (nI z) ≤ (nI i) then 21 else 12) [some (.ref 39), some (.int (nI i)), some (.int v)] [] (hG σ sr ln Lc μ) rfl ?_
  rw [if_neg (show ¬ (nI z) ≤ (nI i) from (am_dnle (a := z) (b := i) (rfl) (rfl) (by omega) (by omega) (by omega)))]
  refine am_g 5 (if (nI i) < 40 then 22 else 21) [some (.ref 39), some (.int (nI i)), some (.int v)] [] (hG σ sr ln Lc μ) rfl ?_
  rw [if_pos (show (nI i) < 40 from (am_dlt (a := i) (b := 40) (rfl) (rfl) (by omega) (by omega) (by omega)))]
  refine am_g 2 26 [some (.ref 39), some (.int (nI i)), some (.int v)] [.int (σ 51 0)] (hG σ sr ln Lc μ) rfl ?_
  rw [show (σ 51 0) = 1 from hq]
  refine am_g 3 44 [some (.ref 39), some (.int (nI i)), some (.int v)] [.int (σ 51 0)] (hG σ sr ln Lc μ) rfl ?_
  rw [show (σ 51 0) = 1 from hq]
  refine am_g 7 55 [some (.ref 39), some (.int (nI i)), some (.int v)] [.int (v.toInt16.toInt32), .int (nI i), .ref 40] (hG σ sr ln Lc μ) rfl ?_
  refine am_iastR (n := 40) (f := (σ 50)) (k := i) (h1 := (hG (am_up σ 50 (upd (σ 50) i (v.toInt16.toInt32))) sr ln Lc μ)) rfl rfl (rfl) (by omega) (by decide) rfl ?_
  refine am_g 1 66 [some (.ref 39), some (.int (nI i)), some (.int v)] [] (hG (am_up σ 50 (upd (σ 50) i (v.toInt16.toInt32))) sr ln Lc μ) rfl ?_
  exact am_ret2 rfl rfl rfl rfl rfl
theorem sp_X11_cell_0q1 (d : Nat) {z : Nat} (hz : σ 52 0 = nI z) (hz40 : z ≤ 40) (i : Nat) (hi : i < z) (v : Int32) (hq : σ 51 0 = 1) (hc : pu_cv z (nI i) 1 = true) : am_X xs LL (d + 2) 118 [.ref 14, .int 0, .int (nI i), .int v] (hG σ sr ln Lc μ) (some (.int 1)) (hG (am_up σ 50 (upd (σ 50) i (v.toInt16.toInt32))) sr ln Lc μ) := by
  refine am_XR (d := d + 1) (C := cd_X11_cell) (L := [some (.ref 14), some (.int 0), some (.int (nI i)), some (.int v), none]) rfl rfl rfl rfl ?_
  refine am_g 2 2 [some (.ref 14), some (.int 0), some (.int (nI i)), some (.int v), none] [.int 0, .ref 14] (hG σ sr ln Lc μ) rfl ?_
  refine am_call (y := 129) (vs := [.ref 14, .int 0]) (rest := []) (v := (some (.ref 39))) (h1 := (hG σ sr ln Lc μ)) rfl rfl rfl (sp_X11_sheetAt_0 (σ := σ) (μ := μ) d) ?_
  refine am_g 4 17 [some (.ref 14), some (.int 0), some (.int (nI i)), some (.int v), some (.ref 39)] [.ref 39] (hG σ sr ln Lc μ) rfl ?_
  refine am_call (y := 64) (vs := [.ref 39]) (rest := []) (v := (some (.int 0))) (h1 := (hG σ sr ln Lc μ)) rfl rfl rfl (sp_X8_isMissing_0n (σ := σ) (μ := μ) d (by rw [hq]; decide)) ?_
  refine am_g 4 30 [some (.ref 14), some (.int 0), some (.int (nI i)), some (.int v), some (.ref 39)] [.int 1, .int (nI i), .ref 39] (hG σ sr ln Lc μ) rfl ?_
  refine am_call (y := 66) (vs := [.ref 39, .int (nI i), .int 1]) (rest := []) (v := (some (.int 1))) (h1 := (hG σ sr ln Lc μ)) rfl rfl rfl (sp_X8_covers_0 (σ := σ) (μ := μ) d hz (by omega) _ _ hc) ?_
  refine am_g 4 43 [some (.ref 14), some (.int 0), some (.int (nI i)), some (.int v), some (.ref 39)] [.int v, .int (nI i), .ref 39] (hG σ sr ln Lc μ) rfl ?_
  refine am_call (y := 68) (vs := [.ref 39, .int (nI i), .int v]) (rest := []) (v := none) (h1 := (hG (am_up σ 50 (upd (σ 50) i (v.toInt16.toInt32))) sr ln Lc μ)) rfl rfl rfl (sp_X8_put_01 d hz (by omega) i hi _ hq) ?_
  refine am_g 1 47 [some (.ref 14), some (.int 0), some (.int (nI i)), some (.int v), some (.ref 39)] [.int 1] (hG (am_up σ 50 (upd (σ 50) i (v.toInt16.toInt32))) sr ln Lc μ) rfl ?_
  exact am_ret2 rfl rfl rfl rfl rfl
theorem sp_X8_put_02 (d : Nat) {z : Nat} (hz : σ 52 0 = nI z) (hz40 : z ≤ 40) (i : Nat) (hi : i < z) (v : Int32) (hq : σ 51 0 = 2) : am_X xs LL (d + 1) 68 [.ref 39, .int (nI i), .int v] (hG σ sr ln Lc μ) none (hG (am_up σ 50 (upd (σ 50) i v)) sr ln Lc μ) := by
  refine am_XR (d := d + 0) (C := cd_X8_put) (L := [some (.ref 39), some (.int (nI i)), some (.int v)]) rfl rfl rfl rfl ?_
  refine am_g 2 (if (nI i) < 0 then 21 else 4) [some (.ref 39), some (.int (nI i)), some (.int v)] [] (hG σ sr ln Lc μ) rfl ?_
  rw [if_neg (show ¬ (nI i) < 0 from (am_dnlt (a := i) (b := 0) (rfl) (rfl) (by omega) (by omega) (by omega)))]
  refine am_g 3 9 [some (.ref 39), some (.int (nI i)), some (.int v)] [.int (σ 52 0), .int (nI i)] (hG σ sr ln Lc μ) rfl ?_
  rw [show (σ 52 0) = (nI z) from hz]
  refine am_g 1 (if (nI z) ≤ (nI i) then 21 else 12) [some (.ref 39), some (.int (nI i)), some (.int v)] [] (hG σ sr ln Lc μ) rfl ?_
  rw [if_neg (show ¬ (nI z) ≤ (nI i) from (am_dnle (a := z) (b := i) (rfl) (rfl) (by omega) (by omega) (by omega)))]
  refine am_g 5 (if (nI i) < 40 then 22 else 21) [some (.ref 39), some (.int (nI i)), some (.int v)] [] (hG σ sr ln Lc μ) rfl ?_
  rw [if_pos (show (nI i) < 40 from (am_dlt (a := i) (b := 40) (rfl) (rfl) (by omega) (by omega) (by omega)))]
  refine am_g 2 26 [some (.ref 39), some (.int (nI i)), some (.int v)] [.int (σ 51 0)] (hG σ sr ln Lc μ) rfl ?_
  rw [show (σ 51 0) = 2 from hq]
  refine am_g 3 44 [some (.ref 39), some (.int (nI i)), some (.int v)] [.int (σ 51 0)] (hG σ sr ln Lc μ) rfl ?_
  rw [show (σ 51 0) = 2 from hq]
  refine am_g 6 65 [some (.ref 39), some (.int (nI i)), some (.int v)] [.int v, .int (nI i), .ref 40] (hG σ sr ln Lc μ) rfl ?_
  refine am_iastR (n := 40) (f := (σ 50)) (k := i) (h1 := (hG (am_up σ 50 (upd (σ 50) i v)) sr ln Lc μ)) rfl rfl (rfl) (by omega) (by decide) rfl ?_
  exact am_ret2 rfl rfl rfl rfl rfl
theorem sp_X11_cell_0q2 (d : Nat) {z : Nat} (hz : σ 52 0 = nI z) (hz40 : z ≤ 40) (i : Nat) (hi : i < z) (v : Int32) (hq : σ 51 0 = 2) (hc : pu_cv z (nI i) 1 = true) : am_X xs LL (d + 2) 118 [.ref 14, .int 0, .int (nI i), .int v] (hG σ sr ln Lc μ) (some (.int 1)) (hG (am_up σ 50 (upd (σ 50) i v)) sr ln Lc μ) := by
  refine am_XR (d := d + 1) (C := cd_X11_cell) (L := [some (.ref 14), some (.int 0), some (.int (nI i)), some (.int v), none]) rfl rfl rfl rfl ?_
  refine am_g 2 2 [some (.ref 14), some (.int 0), some (.int (nI i)), some (.int v), none] [.int 0, .ref 14] (hG σ sr ln Lc μ) rfl ?_
  refine am_call (y := 129) (vs := [.ref 14, .int 0]) (rest := []) (v := (some (.ref 39))) (h1 := (hG σ sr ln Lc μ)) rfl rfl rfl (sp_X11_sheetAt_0 (σ := σ) (μ := μ) d) ?_
  refine am_g 4 17 [some (.ref 14), some (.int 0), some (.int (nI i)), some (.int v), some (.ref 39)] [.ref 39] (hG σ sr ln Lc μ) rfl ?_
  refine am_call (y := 64) (vs := [.ref 39]) (rest := []) (v := (some (.int 0))) (h1 := (hG σ sr ln Lc μ)) rfl rfl rfl (sp_X8_isMissing_0n (σ := σ) (μ := μ) d (by rw [hq]; decide)) ?_
  refine am_g 4 30 [some (.ref 14), some (.int 0), some (.int (nI i)), some (.int v), some (.ref 39)] [.int 1, .int (nI i), .ref 39] (hG σ sr ln Lc μ) rfl ?_
  refine am_call (y := 66) (vs := [.ref 39, .int (nI i), .int 1]) (rest := []) (v := (some (.int 1))) (h1 := (hG σ sr ln Lc μ)) rfl rfl rfl (sp_X8_covers_0 (σ := σ) (μ := μ) d hz (by omega) _ _ hc) ?_
  refine am_g 4 43 [some (.ref 14), some (.int 0), some (.int (nI i)), some (.int v), some (.ref 39)] [.int v, .int (nI i), .ref 39] (hG σ sr ln Lc μ) rfl ?_
  refine am_call (y := 68) (vs := [.ref 39, .int (nI i), .int v]) (rest := []) (v := none) (h1 := (hG (am_up σ 50 (upd (σ 50) i v)) sr ln Lc μ)) rfl rfl rfl (sp_X8_put_02 d hz (by omega) i hi _ hq) ?_
  refine am_g 1 47 [some (.ref 14), some (.int 0), some (.int (nI i)), some (.int v), some (.ref 39)] [.int 1] (hG (am_up σ 50 (upd (σ 50) i v)) sr ln Lc μ) rfl ?_
  exact am_ret2 rfl rfl rfl rfl rfl
theorem sp_X8_itemAt_0 (d : Nat) {z : Nat} (hz : σ 52 0 = nI z) (hz40 : z ≤ 40) (i : Nat) (hi : i < z) : am_X xs LL (d + 1) 67 [.ref 39, .int (nI i)] (hG σ sr ln Lc μ) (some (.int (σ 50 i))) (hG σ sr ln Lc μ) := by
  refine am_XR (d := d + 0) (C := cd_X8_itemAt) (L := [some (.ref 39), some (.int (nI i))]) rfl rfl rfl rfl ?_
  refine am_g 2 (if (nI i) < 0 then 30 else 4) [some (.ref 39), some (.int (nI i))] [] (hG σ sr ln Lc μ) rfl ?_
  rw [if_neg (show ¬ (nI i) < 0 from (am_dnlt (a := i) (b := 0) (rfl) (rfl) (by omega) (by omega) (by omega)))]
  refine am_g 3 9 [some (.ref 39), some (.int (nI i))] [.int (σ 52 0), .int (nI i)] (hG σ sr ln Lc μ) rfl ?_
  rw [show (σ 52 0) = (nI z) from hz]
  refine am_g 1 (if (nI z) ≤ (nI i) then 30 else 12) [some (.ref 39), some (.int (nI i))] [] (hG σ sr ln Lc μ) rfl ?_
  rw [if_neg (show ¬ (nI z) ≤ (nI i) from (am_dnle (a := z) (b := i) (rfl) (rfl) (by omega) (by omega) (by omega)))]
  refine am_g 5 (if 40 ≤ (nI i) then 30 else 21) [some (.ref 39), some (.int (nI i))] [] (hG σ sr ln Lc μ) rfl ?_
  rw [if_neg (show ¬ 40 ≤ (nI i) from (am_dnle (a := 40) (b := i) (rfl) (rfl) (by omega) (by omega) (by omega)))]
  refine am_g 3 26 [some (.ref 39), some (.int (nI i))] [.int (nI i), .ref 40] (hG σ sr ln Lc μ) rfl ?_
  refine am_ialdR (n := 40) (f := (σ 50)) (k := i) rfl rfl (rfl) (by omega) (by decide) ?_
  refine am_g 1 31 [some (.ref 39), some (.int (nI i))] [.int (σ 50 i)] (hG σ sr ln Lc μ) rfl ?_
  exact am_ret2 rfl rfl rfl rfl rfl
theorem sp_X11_taped_0bk (d : Nat) (k a n : Int32) (hs3 : am_in k 3 = false) : am_X xs LL (d + 2) 120 [.ref 14, .int 0, .int k, .int a, .int n] (hG σ sr ln Lc μ) (some (.int (-2))) (hG σ sr ln Lc μ) := by
  refine am_XR (d := d + 1) (C := cd_X11_taped) (L := [some (.ref 14), some (.int 0), some (.int k), some (.int a), some (.int n), none, none]) rfl rfl rfl rfl ?_
  refine am_g 2 2 [some (.ref 14), some (.int 0), some (.int k), some (.int a), some (.int n), none, none] [.int 0, .ref 14] (hG σ sr ln Lc μ) rfl ?_
  refine am_call (y := 129) (vs := [.ref 14, .int 0]) (rest := []) (v := (some (.ref 39))) (h1 := (hG σ sr ln Lc μ)) rfl rfl rfl (sp_X11_sheetAt_0 (σ := σ) (μ := μ) d) ?_
  refine am_g 6 15 [some (.ref 14), some (.int 0), some (.int k), some (.int a), some (.int n), some (.ref 39), none] [.int 2, .int 0, .int k] (hG σ sr ln Lc μ) rfl ?_
  refine am_call (y := 122) (vs := [.int k, .int 0, .int 2]) (rest := []) (v := (some (.int 0))) (h1 := (hG σ sr ln Lc μ)) rfl rfl rfl (sp_X11_isWithin_b d _ _ _ _ ((am_wi (by decide)).trans hs3)) ?_
  refine am_g 2 34 [some (.ref 14), some (.int 0), some (.int k), some (.int a), some (.int n), some (.ref 39), none] [.int (-2)] (hG σ sr ln Lc μ) rfl ?_
  exact am_ret2 rfl rfl rfl rfl rfl
theorem sp_X11_taped_0bn (d : Nat) (k a n : Int32) (hs3 : am_in k 3 = true) (hn21 : am_in n 21 = false) : am_X xs LL (d + 2) 120 [.ref 14, .int 0, .int k, .int a, .int n] (hG σ sr ln Lc μ) (some (.int (-2))) (hG σ sr ln Lc μ) := by
  refine am_XR (d := d + 1) (C := cd_X11_taped) (L := [some (.ref 14), some (.int 0), some (.int k), some (.int a), some (.int n), none, none]) rfl rfl rfl rfl ?_
  refine am_g 2 2 [some (.ref 14), some (.int 0), some (.int k), some (.int a), some (.int n), none, none] [.int 0, .ref 14] (hG σ sr ln Lc μ) rfl ?_
  refine am_call (y := 129) (vs := [.ref 14, .int 0]) (rest := []) (v := (some (.ref 39))) (h1 := (hG σ sr ln Lc μ)) rfl rfl rfl (sp_X11_sheetAt_0 (σ := σ) (μ := μ) d) ?_
  refine am_g 6 15 [some (.ref 14), some (.int 0), some (.int k), some (.int a), some (.int n), some (.ref 39), none] [.int 2, .int 0, .int k] (hG σ sr ln Lc μ) rfl ?_
  refine am_call (y := 122) (vs := [.int k, .int 0, .int 2]) (rest := []) (v := (some (.int 1))) (h1 := (hG σ sr ln Lc μ)) rfl rfl rfl (sp_X11_isWithin_b d _ _ _ _ ((am_wi (by decide)).trans hs3)) ?_
  refine am_g 4 26 [some (.ref 14), some (.int 0), some (.int k), some (.int a), some (.int n), some (.ref 39), none] [.int 20, .int 0, .int n] (hG σ sr ln Lc μ) rfl ?_
  refine am_call (y := 122) (vs := [.int n, .int 0, .int 20]) (rest := []) (v := (some (.int 0))) (h1 := (hG σ sr ln Lc μ)) rfl rfl rfl (sp_X11_isWithin_b d _ _ _ _ ((am_wi (n := 21) (by decide)).trans hn21)) ?_
  refine am_g 2 34 [some (.ref 14), some (.int 0), some (.int k), some (.int a), some (.int n), some (.ref 39), none] [.int (-2)] (hG σ sr ln Lc μ) rfl ?_
  exact am_ret2 rfl rfl rfl rfl rfl
theorem sp_X11_taped_0m (d : Nat) (k a n : Int32) (hs3 : am_in k 3 = true) (hn21 : am_in n 21 = true) (h : σ 51 0 = -1) : am_X xs LL (d + 2) 120 [.ref 14, .int 0, .int k, .int a, .int n] (hG σ sr ln Lc μ) (some (.int (-11))) (hG σ sr ln Lc μ) := by
  refine am_XR (d := d + 1) (C := cd_X11_taped) (L := [some (.ref 14), some (.int 0), some (.int k), some (.int a), some (.int n), none, none]) rfl rfl rfl rfl ?_
  refine am_g 2 2 [some (.ref 14), some (.int 0), some (.int k), some (.int a), some (.int n), none, none] [.int 0, .ref 14] (hG σ sr ln Lc μ) rfl ?_
  refine am_call (y := 129) (vs := [.ref 14, .int 0]) (rest := []) (v := (some (.ref 39))) (h1 := (hG σ sr ln Lc μ)) rfl rfl rfl (sp_X11_sheetAt_0 (σ := σ) (μ := μ) d) ?_
  refine am_g 6 15 [some (.ref 14), some (.int 0), some (.int k), some (.int a), some (.int n), some (.ref 39), none] [.int 2, .int 0, .int k] (hG σ sr ln Lc μ) rfl ?_
  refine am_call (y := 122) (vs := [.int k, .int 0, .int 2]) (rest := []) (v := (some (.int 1))) (h1 := (hG σ sr ln Lc μ)) rfl rfl rfl (sp_X11_isWithin_b d _ _ _ _ ((am_wi (by decide)).trans hs3)) ?_
  refine am_g 4 26 [some (.ref 14), some (.int 0), some (.int k), some (.int a), some (.int n), some (.ref 39), none] [.int 20, .int 0, .int n] (hG σ sr ln Lc μ) rfl ?_
  refine am_call (y := 122) (vs := [.int n, .int 0, .int 20]) (rest := []) (v := (some (.int 1))) (h1 := (hG σ sr ln Lc μ)) rfl rfl rfl (sp_X11_isWithin_b d _ _ _ _ ((am_wi (n := 21) (by decide)).trans hn21)) ?_
  refine am_g 2 37 [some (.ref 14), some (.int 0), some (.int k), some (.int a), some (.int n), some (.ref 39), none] [.ref 39] (hG σ sr ln Lc μ) rfl ?_
  refine am_call (y := 64) (vs := [.ref 39]) (rest := []) (v := (some (.int 1))) (h1 := (hG σ sr ln Lc μ)) rfl rfl rfl (sp_X8_isMissing_0y (σ := σ) (μ := μ) d h) ?_
  refine am_g 2 57 [some (.ref 14), some (.int 0), some (.int k), some (.int a), some (.int n), some (.ref 39), none] [.ref 39] (hG σ sr ln Lc μ) rfl ?_
  refine am_call (y := 64) (vs := [.ref 39]) (rest := []) (v := (some (.int 1))) (h1 := (hG σ sr ln Lc μ)) rfl rfl rfl (sp_X8_isMissing_0y (σ := σ) (μ := μ) d h) ?_
  refine am_g 2 65 [some (.ref 14), some (.int 0), some (.int k), some (.int a), some (.int n), some (.ref 39), none] [.int (-11)] (hG σ sr ln Lc μ) rfl ?_
  exact am_ret2 rfl rfl rfl rfl rfl
theorem sp_X11_taped_0x (d : Nat) (k a n : Int32) (hs3 : am_in k 3 = true) (hn21 : am_in n 21 = true) (h : ¬ σ 51 0 = -1) (hx : ¬ σ 51 0 = k) : am_X xs LL (d + 2) 120 [.ref 14, .int 0, .int k, .int a, .int n] (hG σ sr ln Lc μ) (some (.int (-13))) (hG σ sr ln Lc μ) := by
  refine am_XR (d := d + 1) (C := cd_X11_taped) (L := [some (.ref 14), some (.int 0), some (.int k), some (.int a), some (.int n), none, none]) rfl rfl rfl rfl ?_
  refine am_g 2 2 [some (.ref 14), some (.int 0), some (.int k), some (.int a), some (.int n), none, none] [.int 0, .ref 14] (hG σ sr ln Lc μ) rfl ?_
  refine am_call (y := 129) (vs := [.ref 14, .int 0]) (rest := []) (v := (some (.ref 39))) (h1 := (hG σ sr ln Lc μ)) rfl rfl rfl (sp_X11_sheetAt_0 (σ := σ) (μ := μ) d) ?_
  refine am_g 6 15 [some (.ref 14), some (.int 0), some (.int k), some (.int a), some (.int n), some (.ref 39), none] [.int 2, .int 0, .int k] (hG σ sr ln Lc μ) rfl ?_
  refine am_call (y := 122) (vs := [.int k, .int 0, .int 2]) (rest := []) (v := (some (.int 1))) (h1 := (hG σ sr ln Lc μ)) rfl rfl rfl (sp_X11_isWithin_b d _ _ _ _ ((am_wi (by decide)).trans hs3)) ?_
  refine am_g 4 26 [some (.ref 14), some (.int 0), some (.int k), some (.int a), some (.int n), some (.ref 39), none] [.int 20, .int 0, .int n] (hG σ sr ln Lc μ) rfl ?_
  refine am_call (y := 122) (vs := [.int n, .int 0, .int 20]) (rest := []) (v := (some (.int 1))) (h1 := (hG σ sr ln Lc μ)) rfl rfl rfl (sp_X11_isWithin_b d _ _ _ _ ((am_wi (n := 21) (by decide)).trans hn21)) ?_
  refine am_g 2 37 [some (.ref 14), some (.int 0), some (.int k), some (.int a), some (.int n), some (.ref 39), none] [.ref 39] (hG σ sr ln Lc μ) rfl ?_
  refine am_call (y := 64) (vs := [.ref 39]) (rest := []) (v := (some (.int 0))) (h1 := (hG σ sr ln Lc μ)) rfl rfl rfl (sp_X8_isMissing_0n (σ := σ) (μ := μ) d h) ?_
  refine am_g 5 (if (σ 51 0) = k then 55 else 52) [some (.ref 14), some (.int 0), some (.int k), some (.int a), some (.int n), some (.ref 39), none] [] (hG σ sr ln Lc μ) rfl ?_
  rw [if_neg (show ¬ (σ 51 0) = k from hx)]
  refine am_g 1 54 [some (.ref 14), some (.int 0), some (.int k), some (.int a), some (.int n), some (.ref 39), none] [.int (-13)] (hG σ sr ln Lc μ) rfl ?_
  exact am_ret2 rfl rfl rfl rfl rfl
theorem sp_X11_taped_0o (d : Nat) (k a n : Int32) (hs3 : am_in k 3 = true) (hn21 : am_in n 21 = true) (h : ¬ σ 51 0 = -1) (hx : σ 51 0 = k) {z : Nat} (hz : σ 52 0 = nI z) (hz40 : z ≤ 40) (hn0 : ¬ n ≤ 0) (hc : pu_cv z a n = false) : am_X xs LL (d + 2) 120 [.ref 14, .int 0, .int k, .int a, .int n] (hG σ sr ln Lc μ) (some (.int (-12))) (hG σ sr ln Lc μ) := by
  refine am_XR (d := d + 1) (C := cd_X11_taped) (L := [some (.ref 14), some (.int 0), some (.int k), some (.int a), some (.int n), none, none]) rfl rfl rfl rfl ?_
  refine am_g 2 2 [some (.ref 14), some (.int 0), some (.int k), some (.int a), some (.int n), none, none] [.int 0, .ref 14] (hG σ sr ln Lc μ) rfl ?_
  refine am_call (y := 129) (vs := [.ref 14, .int 0]) (rest := []) (v := (some (.ref 39))) (h1 := (hG σ sr ln Lc μ)) rfl rfl rfl (sp_X11_sheetAt_0 (σ := σ) (μ := μ) d) ?_
  refine am_g 6 15 [some (.ref 14), some (.int 0), some (.int k), some (.int a), some (.int n), some (.ref 39), none] [.int 2, .int 0, .int k] (hG σ sr ln Lc μ) rfl ?_
  refine am_call (y := 122) (vs := [.int k, .int 0, .int 2]) (rest := []) (v := (some (.int 1))) (h1 := (hG σ sr ln Lc μ)) rfl rfl rfl (sp_X11_isWithin_b d _ _ _ _ ((am_wi (by decide)).trans hs3)) ?_
  refine am_g 4 26 [some (.ref 14), some (.int 0), some (.int k), some (.int a), some (.int n), some (.ref 39), none] [.int 20, .int 0, .int n] (hG σ sr ln Lc μ) rfl ?_
  refine am_call (y := 122) (vs := [.int n, .int 0, .int 20]) (rest := []) (v := (some (.int 1))) (h1 := (hG σ sr ln Lc μ)) rfl rfl rfl (sp_X11_isWithin_b d _ _ _ _ ((am_wi (n := 21) (by decide)).trans hn21)) ?_
  refine am_g 2 37 [some (.ref 14), some (.int 0), some (.int k), some (.int a), some (.int n), some (.ref 39), none] [.ref 39] (hG σ sr ln Lc μ) rfl ?_
  refine am_call (y := 64) (vs := [.ref 39]) (rest := []) (v := (some (.int 0))) (h1 := (hG σ sr ln Lc μ)) rfl rfl rfl (sp_X8_isMissing_0n (σ := σ) (μ := μ) d h) ?_
  refine am_g 5 (if (σ 51 0) = k then 55 else 52) [some (.ref 14), some (.int 0), some (.int k), some (.int a), some (.int n), some (.ref 39), none] [] (hG σ sr ln Lc μ) rfl ?_
  rw [if_pos (show (σ 51 0) = k from hx)]
  refine am_g 1 57 [some (.ref 14), some (.int 0), some (.int k), some (.int a), some (.int n), some (.ref 39), none] [.ref 39] (hG σ sr ln Lc μ) rfl ?_
  refine am_call (y := 64) (vs := [.ref 39]) (rest := []) (v := (some (.int 0))) (h1 := (hG σ sr ln Lc μ)) rfl rfl rfl (sp_X8_isMissing_0n (σ := σ) (μ := μ) d h) ?_
  refine am_g 3 (if n ≤ 0 then 85 else 71) [some (.ref 14), some (.int 0), some (.int k), some (.int a), some (.int n), some (.ref 39), none] [] (hG σ sr ln Lc μ) rfl ?_
  rw [if_neg (show ¬ n ≤ 0 from hn0)]
  refine am_g 3 76 [some (.ref 14), some (.int 0), some (.int k), some (.int a), some (.int n), some (.ref 39), none] [.int n, .int a, .ref 39] (hG σ sr ln Lc μ) rfl ?_
  refine am_call (y := 66) (vs := [.ref 39, .int a, .int n]) (rest := []) (v := (some (.int 0))) (h1 := (hG σ sr ln Lc μ)) rfl rfl rfl (sp_X8_covers_0 (σ := σ) (μ := μ) d hz (by omega) _ _ hc) ?_
  refine am_g 2 84 [some (.ref 14), some (.int 0), some (.int k), some (.int a), some (.int n), some (.ref 39), none] [.int (-12)] (hG σ sr ln Lc μ) rfl ?_
  exact am_ret2 rfl rfl rfl rfl rfl
theorem sp_X11_taped_0f0 (d : Nat) (k a : Int32) (n : Nat) (hs3 : am_in k 3 = true) (hn21 : am_in (nI n) 21 = true) (hn20 : n ≤ 20) (h : ¬ σ 51 0 = -1) (hx : σ 51 0 = k) {z : Nat} (hz : σ 52 0 = nI z) (hz40 : z ≤ 40) (hn0 : ¬ nI n ≤ 0) (hc : pu_cv z a (nI n) = true) {T : Nat} (hT : σ 8 0 = nI T) (hT20 : T ≤ 20) (hr : 20 < T + n) : am_X xs LL (d + 2) 120 [.ref 14, .int 0, .int k, .int a, .int (nI n)] (hG σ sr ln Lc μ) (some (.int (-4))) (hG σ sr ln Lc μ) := by
  refine am_XR (d := d + 1) (C := cd_X11_taped) (L := [some (.ref 14), some (.int 0), some (.int k), some (.int a), some (.int (nI n)), none, none]) rfl rfl rfl rfl ?_
  refine am_g 2 2 [some (.ref 14), some (.int 0), some (.int k), some (.int a), some (.int (nI n)), none, none] [.int 0, .ref 14] (hG σ sr ln Lc μ) rfl ?_
  refine am_call (y := 129) (vs := [.ref 14, .int 0]) (rest := []) (v := (some (.ref 39))) (h1 := (hG σ sr ln Lc μ)) rfl rfl rfl (sp_X11_sheetAt_0 (σ := σ) (μ := μ) d) ?_
  refine am_g 6 15 [some (.ref 14), some (.int 0), some (.int k), some (.int a), some (.int (nI n)), some (.ref 39), none] [.int 2, .int 0, .int k] (hG σ sr ln Lc μ) rfl ?_
  refine am_call (y := 122) (vs := [.int k, .int 0, .int 2]) (rest := []) (v := (some (.int 1))) (h1 := (hG σ sr ln Lc μ)) rfl rfl rfl (sp_X11_isWithin_b d _ _ _ _ ((am_wi (by decide)).trans hs3)) ?_
  refine am_g 4 26 [some (.ref 14), some (.int 0), some (.int k), some (.int a), some (.int (nI n)), some (.ref 39), none] [.int 20, .int 0, .int (nI n)] (hG σ sr ln Lc μ) rfl ?_
  refine am_call (y := 122) (vs := [.int (nI n), .int 0, .int 20]) (rest := []) (v := (some (.int 1))) (h1 := (hG σ sr ln Lc μ)) rfl rfl rfl (sp_X11_isWithin_b d _ _ _ _ ((am_wi (n := 21) (by decide)).trans hn21)) ?_
  refine am_g 2 37 [some (.ref 14), some (.int 0), some (.int k), some (.int a), some (.int (nI n)), some (.ref 39), none] [.ref 39] (hG σ sr ln Lc μ) rfl ?_
  refine am_call (y := 64) (vs := [.ref 39]) (rest := []) (v := (some (.int 0))) (h1 := (hG σ sr ln Lc μ)) rfl rfl rfl (sp_X8_isMissing_0n (σ := σ) (μ := μ) d h) ?_
  refine am_g 5 (if (σ 51 0) = k then 55 else 52) [some (.ref 14), some (.int 0), some (.int k), some (.int a), some (.int (nI n)), some (.ref 39), none] [] (hG σ sr ln Lc μ) rfl ?_
  rw [if_pos (show (σ 51 0) = k from hx)]
  refine am_g 1 57 [some (.ref 14), some (.int 0), some (.int k), some (.int a), some (.int (nI n)), some (.ref 39), none] [.ref 39] (hG σ sr ln Lc μ) rfl ?_
  refine am_call (y := 64) (vs := [.ref 39]) (rest := []) (v := (some (.int 0))) (h1 := (hG σ sr ln Lc μ)) rfl rfl rfl (sp_X8_isMissing_0n (σ := σ) (μ := μ) d h) ?_
  refine am_g 3 (if (nI n) ≤ 0 then 85 else 71) [some (.ref 14), some (.int 0), some (.int k), some (.int a), some (.int (nI n)), some (.ref 39), none] [] (hG σ sr ln Lc μ) rfl ?_
  rw [if_neg (show ¬ (nI n) ≤ 0 from hn0)]
  refine am_g 3 76 [some (.ref 14), some (.int 0), some (.int k), some (.int a), some (.int (nI n)), some (.ref 39), none] [.int (nI n), .int a, .ref 39] (hG σ sr ln Lc μ) rfl ?_
  refine am_call (y := 66) (vs := [.ref 39, .int a, .int (nI n)]) (rest := []) (v := (some (.int 1))) (h1 := (hG σ sr ln Lc μ)) rfl rfl rfl (sp_X8_covers_0 (σ := σ) (μ := μ) d hz (by omega) _ _ hc) ?_
  refine am_g 4 91 [some (.ref 14), some (.int 0), some (.int k), some (.int a), some (.int (nI n)), some (.ref 39), none] [.int (nI n), .ref 20] (hG σ sr ln Lc μ) rfl ?_
  refine am_call (y := 70) (vs := [.ref 20, .int (nI n)]) (rest := []) (v := (some (.int 0))) (h1 := (hG σ sr ln Lc μ)) rfl rfl rfl (sp_X9_hasRoom_n (σ := σ) (μ := μ) d hT hT20 _ hn20 hr) ?_
  refine am_g 2 99 [some (.ref 14), some (.int 0), some (.int k), some (.int a), some (.int (nI n)), some (.ref 39), none] [.int (-4)] (hG σ sr ln Lc μ) rfl ?_
  exact am_ret2 rfl rfl rfl rfl rfl
theorem sp_X11_taped_0f1 (d : Nat) (k a : Int32) (n : Nat) (hs3 : am_in k 3 = true) (hn21 : am_in (nI n) 21 = true) (hn20 : n ≤ 20) (h : ¬ σ 51 0 = -1) (hx : σ 51 0 = k) {z : Nat} (hz : σ 52 0 = nI z) (hz40 : z ≤ 40) (hn0 : nI n ≤ 0) {T : Nat} (hT : σ 8 0 = nI T) (hT20 : T ≤ 20) (hr : 20 < T + n) : am_X xs LL (d + 2) 120 [.ref 14, .int 0, .int k, .int a, .int (nI n)] (hG σ sr ln Lc μ) (some (.int (-4))) (hG σ sr ln Lc μ) := by
  refine am_XR (d := d + 1) (C := cd_X11_taped) (L := [some (.ref 14), some (.int 0), some (.int k), some (.int a), some (.int (nI n)), none, none]) rfl rfl rfl rfl ?_
  refine am_g 2 2 [some (.ref 14), some (.int 0), some (.int k), some (.int a), some (.int (nI n)), none, none] [.int 0, .ref 14] (hG σ sr ln Lc μ) rfl ?_
  refine am_call (y := 129) (vs := [.ref 14, .int 0]) (rest := []) (v := (some (.ref 39))) (h1 := (hG σ sr ln Lc μ)) rfl rfl rfl (sp_X11_sheetAt_0 (σ := σ) (μ := μ) d) ?_
  refine am_g 6 15 [some (.ref 14), some (.int 0), some (.int k), some (.int a), some (.int (nI n)), some (.ref 39), none] [.int 2, .int 0, .int k] (hG σ sr ln Lc μ) rfl ?_
  refine am_call (y := 122) (vs := [.int k, .int 0, .int 2]) (rest := []) (v := (some (.int 1))) (h1 := (hG σ sr ln Lc μ)) rfl rfl rfl (sp_X11_isWithin_b d _ _ _ _ ((am_wi (by decide)).trans hs3)) ?_
  refine am_g 4 26 [some (.ref 14), some (.int 0), some (.int k), some (.int a), some (.int (nI n)), some (.ref 39), none] [.int 20, .int 0, .int (nI n)] (hG σ sr ln Lc μ) rfl ?_
  refine am_call (y := 122) (vs := [.int (nI n), .int 0, .int 20]) (rest := []) (v := (some (.int 1))) (h1 := (hG σ sr ln Lc μ)) rfl rfl rfl (sp_X11_isWithin_b d _ _ _ _ ((am_wi (n := 21) (by decide)).trans hn21)) ?_
  refine am_g 2 37 [some (.ref 14), some (.int 0), some (.int k), some (.int a), some (.int (nI n)), some (.ref 39), none] [.ref 39] (hG σ sr ln Lc μ) rfl ?_
  refine am_call (y := 64) (vs := [.ref 39]) (rest := []) (v := (some (.int 0))) (h1 := (hG σ sr ln Lc μ)) rfl rfl rfl (sp_X8_isMissing_0n (σ := σ) (μ := μ) d h) ?_
  refine am_g 5 (if (σ 51 0) = k then 55 else 52) [some (.ref 14), some (.int 0), some (.int k), some (.int a), some (.int (nI n)), some (.ref 39), none] [] (hG σ sr ln Lc μ) rfl ?_
  rw [if_pos (show (σ 51 0) = k from hx)]
  refine am_g 1 57 [some (.ref 14), some (.int 0), some (.int k), some (.int a), some (.int (nI n)), some (.ref 39), none] [.ref 39] (hG σ sr ln Lc μ) rfl ?_
  refine am_call (y := 64) (vs := [.ref 39]) (rest := []) (v := (some (.int 0))) (h1 := (hG σ sr ln Lc μ)) rfl rfl rfl (sp_X8_isMissing_0n (σ := σ) (μ := μ) d h) ?_
  refine am_g 3 (if (nI n) ≤ 0 then 85 else 71) [some (.ref 14), some (.int 0), some (.int k), some (.int a), some (.int (nI n)), some (.ref 39), none] [] (hG σ sr ln Lc μ) rfl ?_
  rw [if_pos (show (nI n) ≤ 0 from hn0)]
  refine am_g 3 91 [some (.ref 14), some (.int 0), some (.int k), some (.int a), some (.int (nI n)), some (.ref 39), none] [.int (nI n), .ref 20] (hG σ sr ln Lc μ) rfl ?_
  refine am_call (y := 70) (vs := [.ref 20, .int (nI n)]) (rest := []) (v := (some (.int 0))) (h1 := (hG σ sr ln Lc μ)) rfl rfl rfl (sp_X9_hasRoom_n (σ := σ) (μ := μ) d hT hT20 _ hn20 hr) ?_
  refine am_g 2 99 [some (.ref 14), some (.int 0), some (.int k), some (.int a), some (.int (nI n)), some (.ref 39), none] [.int (-4)] (hG σ sr ln Lc μ) rfl ?_
  exact am_ret2 rfl rfl rfl rfl rfl
theorem sp_X11_taped_0z (d : Nat) (k a : Int32) (hs3 : am_in k 3 = true) (h : ¬ σ 51 0 = -1) (hx : σ 51 0 = k) {z : Nat} (hz : σ 52 0 = nI z) (hz40 : z ≤ 40) {T : Nat} (hT : σ 8 0 = nI T) (hT20 : T ≤ 20) : am_X xs LL (d + 2) 120 [.ref 14, .int 0, .int k, .int a, .int 0] (hG σ sr ln Lc μ) (some (.int (σ 8 0))) (hG σ sr ln Lc μ) := by
  refine am_XR (d := d + 1) (C := cd_X11_taped) (L := [some (.ref 14), some (.int 0), some (.int k), some (.int a), some (.int 0), none, none]) rfl rfl rfl rfl ?_
  refine am_g 2 2 [some (.ref 14), some (.int 0), some (.int k), some (.int a), some (.int 0), none, none] [.int 0, .ref 14] (hG σ sr ln Lc μ) rfl ?_
  refine am_call (y := 129) (vs := [.ref 14, .int 0]) (rest := []) (v := (some (.ref 39))) (h1 := (hG σ sr ln Lc μ)) rfl rfl rfl (sp_X11_sheetAt_0 (σ := σ) (μ := μ) d) ?_
  refine am_g 6 15 [some (.ref 14), some (.int 0), some (.int k), some (.int a), some (.int 0), some (.ref 39), none] [.int 2, .int 0, .int k] (hG σ sr ln Lc μ) rfl ?_
  refine am_call (y := 122) (vs := [.int k, .int 0, .int 2]) (rest := []) (v := (some (.int 1))) (h1 := (hG σ sr ln Lc μ)) rfl rfl rfl (sp_X11_isWithin_b d _ _ _ _ ((am_wi (by decide)).trans hs3)) ?_
  refine am_g 4 26 [some (.ref 14), some (.int 0), some (.int k), some (.int a), some (.int 0), some (.ref 39), none] [.int 20, .int 0, .int 0] (hG σ sr ln Lc μ) rfl ?_
  refine am_call (y := 122) (vs := [.int 0, .int 0, .int 20]) (rest := []) (v := (some (.int 1))) (h1 := (hG σ sr ln Lc μ)) rfl rfl rfl (sp_X11_isWithin_b d _ _ _ _ (show decide ((0 : Int32) ≤ 0 ∧ (0 : Int32) ≤ 20) = true from by decide)) ?_
  refine am_g 2 37 [some (.ref 14), some (.int 0), some (.int k), some (.int a), some (.int 0), some (.ref 39), none] [.ref 39] (hG σ sr ln Lc μ) rfl ?_
  refine am_call (y := 64) (vs := [.ref 39]) (rest := []) (v := (some (.int 0))) (h1 := (hG σ sr ln Lc μ)) rfl rfl rfl (sp_X8_isMissing_0n (σ := σ) (μ := μ) d h) ?_
  refine am_g 5 (if (σ 51 0) = k then 55 else 52) [some (.ref 14), some (.int 0), some (.int k), some (.int a), some (.int 0), some (.ref 39), none] [] (hG σ sr ln Lc μ) rfl ?_
  rw [if_pos (show (σ 51 0) = k from hx)]
  refine am_g 1 57 [some (.ref 14), some (.int 0), some (.int k), some (.int a), some (.int 0), some (.ref 39), none] [.ref 39] (hG σ sr ln Lc μ) rfl ?_
  refine am_call (y := 64) (vs := [.ref 39]) (rest := []) (v := (some (.int 0))) (h1 := (hG σ sr ln Lc μ)) rfl rfl rfl (sp_X8_isMissing_0n (σ := σ) (μ := μ) d h) ?_
  refine am_g 6 91 [some (.ref 14), some (.int 0), some (.int k), some (.int a), some (.int 0), some (.ref 39), none] [.int 0, .ref 20] (hG σ sr ln Lc μ) rfl ?_
  refine am_call (y := 70) (vs := [.ref 20, .int 0]) (rest := []) (v := (some (.int 1))) (h1 := (hG σ sr ln Lc μ)) rfl rfl rfl (sp_X9_hasRoom_y (σ := σ) (μ := μ) d hT hT20 _ hT20) ?_
  refine am_g 9 139 [some (.ref 14), some (.int 0), some (.int k), some (.int a), some (.int 0), some (.ref 39), some (.int 0)] [.int (σ 8 0)] (hG σ sr ln Lc μ) rfl ?_
  exact am_ret2 rfl rfl rfl rfl rfl
theorem sp_X11_taped_0q (d : Nat) (k : Int32) (a n : Nat) (hs3 : am_in k 3 = true) (hn21 : am_in (nI n) 21 = true) (hn0 : ¬ nI n ≤ 0) (h : ¬ σ 51 0 = -1) (hx : σ 51 0 = k) {z : Nat} (hz : σ 52 0 = nI z) (hz40 : z ≤ 40) (han : a + n ≤ z) (hc : pu_cv z (nI a) (nI n) = true) {T : Nat} (hT : σ 8 0 = nI T) (hT20 : T ≤ 20) (hr : T + n ≤ 20) : am_X xs LL (d + 2) 120 [.ref 14, .int 0, .int k, .int (nI a), .int (nI n)] (hG σ sr ln Lc μ) (some (.int (nI (T + n)))) (hG (am_us (am_up σ 7 (am_fill (fun k => (σ 50 (a + (k - T))) &&& 255) (σ 7) (T + n) T)) 8 (nI (T + n))) sr ln Lc μ) := by
  refine am_XR (d := d + 1) (C := cd_X11_taped) (L := [some (.ref 14), some (.int 0), some (.int k), some (.int (nI a)), some (.int (nI n)), none, none]) rfl rfl rfl rfl ?_
  refine am_g 2 2 [some (.ref 14), some (.int 0), some (.int k), some (.int (nI a)), some (.int (nI n)), none, none] [.int 0, .ref 14] (hG σ sr ln Lc μ) rfl ?_
  refine am_call (y := 129) (vs := [.ref 14, .int 0]) (rest := []) (v := (some (.ref 39))) (h1 := (hG σ sr ln Lc μ)) rfl rfl rfl (sp_X11_sheetAt_0 (σ := σ) (μ := μ) d) ?_
  refine am_g 6 15 [some (.ref 14), some (.int 0), some (.int k), some (.int (nI a)), some (.int (nI n)), some (.ref 39), none] [.int 2, .int 0, .int k] (hG σ sr ln Lc μ) rfl ?_
  refine am_call (y := 122) (vs := [.int k, .int 0, .int 2]) (rest := []) (v := (some (.int 1))) (h1 := (hG σ sr ln Lc μ)) rfl rfl rfl (sp_X11_isWithin_b d _ _ _ _ ((am_wi (by decide)).trans hs3)) ?_
  refine am_g 4 26 [some (.ref 14), some (.int 0), some (.int k), some (.int (nI a)), some (.int (nI n)), some (.ref 39), none] [.int 20, .int 0, .int (nI n)] (hG σ sr ln Lc μ) rfl ?_
  refine am_call (y := 122) (vs := [.int (nI n), .int 0, .int 20]) (rest := []) (v := (some (.int 1))) (h1 := (hG σ sr ln Lc μ)) rfl rfl rfl (sp_X11_isWithin_b d _ _ _ _ ((am_wi (n := 21) (by decide)).trans hn21)) ?_
  refine am_g 2 37 [some (.ref 14), some (.int 0), some (.int k), some (.int (nI a)), some (.int (nI n)), some (.ref 39), none] [.ref 39] (hG σ sr ln Lc μ) rfl ?_
  refine am_call (y := 64) (vs := [.ref 39]) (rest := []) (v := (some (.int 0))) (h1 := (hG σ sr ln Lc μ)) rfl rfl rfl (sp_X8_isMissing_0n (σ := σ) (μ := μ) d h) ?_
  refine am_g 5 (if (σ 51 0) = k then 55 else 52) [some (.ref 14), some (.int 0), some (.int k), some (.int (nI a)), some (.int (nI n)), some (.ref 39), none] [] (hG σ sr ln Lc μ) rfl ?_
  rw [if_pos (show (σ 51 0) = k from hx)]
  refine am_g 1 57 [some (.ref 14), some (.int 0), some (.int k), some (.int (nI a)), some (.int (nI n)), some (.ref 39), none] [.ref 39] (hG σ sr ln Lc μ) rfl ?_
  refine am_call (y := 64) (vs := [.ref 39]) (rest := []) (v := (some (.int 0))) (h1 := (hG σ sr ln Lc μ)) rfl rfl rfl (sp_X8_isMissing_0n (σ := σ) (μ := μ) d h) ?_
  refine am_g 3 (if (nI n) ≤ 0 then 85 else 71) [some (.ref 14), some (.int 0), some (.int k), some (.int (nI a)), some (.int (nI n)), some (.ref 39), none] [] (hG σ sr ln Lc μ) rfl ?_
  rw [if_neg (show ¬ (nI n) ≤ 0 from hn0)]
  refine am_g 3 76 [some (.ref 14), some (.int 0), some (.int k), some (.int (nI a)), some (.int (nI n)), some (.ref 39), none] [.int (nI n), .int (nI a), .ref 39] (hG σ sr ln Lc μ) rfl ?_
  refine am_call (y := 66) (vs := [.ref 39, .int (nI a), .int (nI n)]) (rest := []) (v := (some (.int 1))) (h1 := (hG σ sr ln Lc μ)) rfl rfl rfl (sp_X8_covers_0 (σ := σ) (μ := μ) d hz (by omega) _ _ hc) ?_
  refine am_g 4 91 [some (.ref 14), some (.int 0), some (.int k), some (.int (nI a)), some (.int (nI n)), some (.ref 39), none] [.int (nI n), .ref 20] (hG σ sr ln Lc μ) rfl ?_
  refine am_call (y := 70) (vs := [.ref 20, .int (nI n)]) (rest := []) (v := (some (.int 1))) (h1 := (hG σ sr ln Lc μ)) rfl rfl rfl (sp_X9_hasRoom_y (σ := σ) (μ := μ) d hT hT20 _ hr) ?_
  refine am_g 3 103 [some (.ref 14), some (.int 0), some (.int k), some (.int (nI a)), some (.int (nI n)), some (.ref 39), some (.int 0)] [] (hG σ sr ln Lc μ) rfl ?_
  have lp : ∀ (r i : Nat), i + r = n → am_R xs LL cd_X11_taped (am_X xs LL (d + 1)) 103 [some (.ref 14), some (.int 0), some (.int k), some (.int (nI a)), some (.int (nI n)), some (.ref 39), some (.int (nI i))] [] (hG (am_us (am_up σ 7 (am_fill (fun k => (σ 50 (a + (k - T))) &&& 255) (σ 7) (T + i) T)) 8 (nI (T + i))) sr ln Lc μ) (some (.int (nI (T + n)))) (hG (am_us (am_up σ 7 (am_fill (fun k => (σ 50 (a + (k - T))) &&& 255) (σ 7) (T + n) T)) 8 (nI (T + n))) sr ln Lc μ) := by
    intro r
    induction r with
    | zero =>
      intro i  hi
      have hi2 : i = n := by omega
      rw [hi2]
      refine am_g 3 (if (nI n) ≤ (nI n) then 132 else 110) [some (.ref 14), some (.int 0), some (.int k), some (.int (nI a)), some (.int (nI n)), some (.ref 39), some (.int (nI n))] [] (hG (am_us (am_up σ 7 (am_fill (fun k => (σ 50 (a + (k - T))) &&& 255) (σ 7) (T + n) T)) 8 (nI (T + n))) sr ln Lc μ) rfl ?_
      rw [if_pos (show (nI n) ≤ (nI n) from (am_dle (a := n) (b := n) (rfl) (rfl) (by omega) (by omega) (by omega)))]
      refine am_g 3 139 [some (.ref 14), some (.int 0), some (.int k), some (.int (nI a)), some (.int (nI n)), some (.ref 39), some (.int (nI n))] [.int (nI (T + n))] (hG (am_us (am_up σ 7 (am_fill (fun k => (σ 50 (a + (k - T))) &&& 255) (σ 7) (T + n) T)) 8 (nI (T + n))) sr ln Lc μ) rfl ?_
      exact am_ret2 rfl rfl rfl rfl rfl
    | succ r ih =>
      intro i  hi
      have hi2 : i < n := by omega
      refine am_g 3 (if (nI n) ≤ (nI i) then 132 else 110) [some (.ref 14), some (.int 0), some (.int k), some (.int (nI a)), some (.int (nI n)), some (.ref 39), some (.int (nI i))] [] (hG (am_us (am_up σ 7 (am_fill (fun k => (σ 50 (a + (k - T))) &&& 255) (σ 7) (T + i) T)) 8 (nI (T + i))) sr ln Lc μ) rfl ?_
      rw [if_neg (show ¬ (nI n) ≤ (nI i) from (am_dnle (a := n) (b := i) (rfl) (rfl) (by omega) (by omega) (by omega)))]
      refine am_g 6 120 [some (.ref 14), some (.int 0), some (.int k), some (.int (nI a)), some (.int (nI n)), some (.ref 39), some (.int (nI i))] [.int ((nI a) + (nI i)), .ref 39, .ref 20] (hG (am_us (am_up σ 7 (am_fill (fun k => (σ 50 (a + (k - T))) &&& 255) (σ 7) (T + i) T)) 8 (nI (T + i))) sr ln Lc μ) rfl ?_
      refine am_call (y := 67) (vs := [.ref 39, .int ((nI a) + (nI i))]) (rest := [.ref 20]) (v := (some (.int (σ 50 (a + i))))) (h1 := (hG (am_us (am_up σ 7 (am_fill (fun k => (σ 50 (a + (k - T))) &&& 255) (σ 7) (T + i) T)) 8 (nI (T + i))) sr ln Lc μ)) rfl rfl rfl ((by rw [show ((nI a) + (nI i)) = nI (a + i) from nI_add a i]; exact sp_X8_itemAt_0 (σ := (am_us (am_up σ 7 (am_fill (fun k => (σ 50 (a + (k - T))) &&& 255) (σ 7) (T + i) T)) 8 (nI (T + i)))) (μ := μ) d hz (by omega) (a + i) (by omega))) ?_
      refine am_call (y := 71) (vs := [.ref 20, .int (σ 50 (a + i))]) (rest := []) (v := none) (h1 := (hG (am_us (am_up σ 7 (upd (am_fill (fun k => (σ 50 (a + (k - T))) &&& 255) (σ 7) (T + i) T) (T + i) ((σ 50 (a + i)) &&& 255))) 8 (nI ((T + i) + 1))) sr ln Lc μ)) rfl rfl rfl (sp_X9_push (σ := (am_us (am_up σ 7 (am_fill (fun k => (σ 50 (a + (k - T))) &&& 255) (σ 7) (T + i) T)) 8 (nI (T + i)))) (μ := μ) d (T := T + i) rfl (by omega) _) ?_
      refine am_g 2 103 [some (.ref 14), some (.int 0), some (.int k), some (.int (nI a)), some (.int (nI n)), some (.ref 39), some (.int ((nI i) + 1))] [] (hG (am_us (am_up σ 7 (upd (am_fill (fun k => (σ 50 (a + (k - T))) &&& 255) (σ 7) (T + i) T) (T + i) ((σ 50 (a + i)) &&& 255))) 8 (nI ((T + i) + 1))) sr ln Lc μ) rfl ?_
      rw [nI_up, show upd (am_fill (fun k => (σ 50 (a + (k - T))) &&& 255) (σ 7) (T + i) T) (T + i) ((σ 50 (a + i)) &&& 255) = (am_fill (fun k => (σ 50 (a + (k - T))) &&& 255) (σ 7) (T + (i + 1)) T) from (pu_fillT (g := fun k => (σ 50 (a + (k - T))) &&& 255) (f := σ 7) T i (by show _ = (σ 50 (a + (T + i - T))) &&& 255; rw [Nat.add_sub_cancel_left]))]
      exact ih (i + 1) (by omega)
  have e := lp n 0 (by omega)
  rw [show T + 0 = T from rfl, pu_fillTT, ← hT, am_up_id, am_us_id] at e
  exact e
theorem sp_X11_sheetAt_1 (d : Nat)  : am_X xs LL (d + 1) 129 [.ref 14, .int 1] (hG σ sr ln Lc μ) (some (.ref 41)) (hG σ sr ln Lc μ) := by
  refine am_XR (d := d + 0) (C := cd_X11_sheetAt) (L := [some (.ref 14), some (.int 1)]) rfl rfl rfl rfl ?_
  refine am_g 10 18 [some (.ref 14), some (.int 1)] [.int 1, .ref 38] (hG σ sr ln Lc μ) rfl ?_
  refine am_aaldR (n := 4) (t := 3) (f := fun j => if j < 4 then some (39 + 2 * j) else none) (k := 1) rfl rfl (Or.inr rfl) (rfl) (by decide) (by decide) ?_
  refine am_g 1 23 [some (.ref 14), some (.int 1)] [.ref 41] (hG σ sr ln Lc μ) rfl ?_
  exact am_ret2 rfl rfl rfl rfl rfl
theorem sp_X8_isMissing_1y (d : Nat) (h : σ 54 0 = -1) : am_X xs LL (d + 1) 64 [.ref 41] (hG σ sr ln Lc μ) (some (.int 1)) (hG σ sr ln Lc μ) := by
  refine am_XR (d := d + 0) (C := cd_X8_isMissing) (L := [some (.ref 41)]) rfl rfl rfl rfl ?_
  refine am_g 4 (if (σ 54 0) = (-1) then 8 else 12) [some (.ref 41)] [] (hG σ sr ln Lc μ) rfl ?_
  rw [if_pos (show (σ 54 0) = (-1) from h)]
  refine am_g 2 13 [some (.ref 41)] [.int 1] (hG σ sr ln Lc μ) rfl ?_
  exact am_ret2 rfl rfl rfl rfl rfl
theorem sp_X8_isMissing_1n (d : Nat) (h : ¬ σ 54 0 = -1) : am_X xs LL (d + 1) 64 [.ref 41] (hG σ sr ln Lc μ) (some (.int 0)) (hG σ sr ln Lc μ) := by
  refine am_XR (d := d + 0) (C := cd_X8_isMissing) (L := [some (.ref 41)]) rfl rfl rfl rfl ?_
  refine am_g 4 (if (σ 54 0) = (-1) then 8 else 12) [some (.ref 41)] [] (hG σ sr ln Lc μ) rfl ?_
  rw [if_neg (show ¬ (σ 54 0) = (-1) from h)]
  refine am_g 1 13 [some (.ref 41)] [.int 0] (hG σ sr ln Lc μ) rfl ?_
  exact am_ret2 rfl rfl rfl rfl rfl
theorem sp_X8_covers_1 (d : Nat) {z : Nat} (hz : σ 55 0 = nI z) (hz40 : z ≤ 40) (a n : Int32) {w : Bool} (eb : pu_cv z a n = w) : am_X xs LL (d + 1) 66 [.ref 41, .int a, .int n] (hG σ sr ln Lc μ) (some (.int (am_b2 w))) (hG σ sr ln Lc μ) := by
  refine am_XR (d := d + 0) (C := cd_X8_covers) (L := [some (.ref 41), some (.int a), some (.int n)]) rfl rfl rfl rfl ?_
  refine am_g 2 (if a < 0 then 30 else 4) [some (.ref 41), some (.int a), some (.int n)] [] (hG σ sr ln Lc μ) rfl (am_brR (fun c1 => ?_) (fun c1 => ?_))
  · skip
    refine am_g 1 31 [some (.ref 41), some (.int a), some (.int n)] [.int 0] (hG σ sr ln Lc μ) rfl ?_
    exact am_ret2 rfl rfl rfl (am_b2N eb (fun q => absurd c1 (Int32.not_lt.mpr q.1))) rfl
  · skip
    refine am_g 2 (if n < 0 then 30 else 8) [some (.ref 41), some (.int a), some (.int n)] [] (hG σ sr ln Lc μ) rfl (am_brR (fun c2 => ?_) (fun c2 => ?_))
    · skip
      refine am_g 1 31 [some (.ref 41), some (.int a), some (.int n)] [.int 0] (hG σ sr ln Lc μ) rfl ?_
      exact am_ret2 rfl rfl rfl (am_b2N eb (fun q => absurd c2 (Int32.not_lt.mpr q.2.1))) rfl
    · skip
      refine am_g 3 13 [some (.ref 41), some (.int a), some (.int n)] [.int (σ 55 0), .int a] (hG σ sr ln Lc μ) rfl ?_
      rw [show (σ 55 0) = (nI z) from hz]
      refine am_g 1 (if (nI z) < a then 30 else 16) [some (.ref 41), some (.int a), some (.int n)] [] (hG σ sr ln Lc μ) rfl (am_brR (fun c3 => ?_) (fun c3 => ?_))
      · skip
        refine am_g 1 31 [some (.ref 41), some (.int a), some (.int n)] [.int 0] (hG σ sr ln Lc μ) rfl ?_
        exact am_ret2 rfl rfl rfl (am_b2N eb (fun q => absurd c3 (Int32.not_lt.mpr q.2.2.1))) rfl
      · skip
        refine am_g 3 21 [some (.ref 41), some (.int a), some (.int n)] [.int (σ 55 0), .int n] (hG σ sr ln Lc μ) rfl ?_
        rw [show (σ 55 0) = (nI z) from hz]
        refine am_g 3 (if ((nI z) - a) < n then 30 else 26) [some (.ref 41), some (.int a), some (.int n)] [] (hG σ sr ln Lc μ) rfl (am_brR (fun c4 => ?_) (fun c4 => ?_))
        · skip
          refine am_g 1 31 [some (.ref 41), some (.int a), some (.int n)] [.int 0] (hG σ sr ln Lc μ) rfl ?_
          exact am_ret2 rfl rfl rfl (am_b2N eb (fun q => absurd c4 (Int32.not_lt.mpr q.2.2.2))) rfl
        · skip
          refine am_g 2 31 [some (.ref 41), some (.int a), some (.int n)] [.int 1] (hG σ sr ln Lc μ) rfl ?_
          exact am_ret2 rfl rfl rfl (am_b2Y eb ⟨Int32.not_lt.mp c1, Int32.not_lt.mp c2, Int32.not_lt.mp c3, Int32.not_lt.mp c4⟩) rfl
theorem sp_X8_become_1m (d : Nat) (n : Int32) : am_X xs LL (d + 2) 65 [.ref 41, .int (-1), .int n] (hG σ sr ln Lc μ) none (hG (am_up (am_us (am_us σ 54 (-1)) 55 0) 53 (am_fill (fun _ => 0) (σ 53) 40 0)) sr ln Lc μ) := by
  refine am_XR (d := d + 1) (C := cd_X8_become) (L := [some (.ref 41), some (.int (-1)), some (.int n)]) rfl rfl rfl rfl ?_
  refine am_g 13 24 [some (.ref 41), some (.int (-1)), some (.int n)] [.int 0, .ref 42] (hG (am_us (am_us σ 54 (-1)) 55 0) sr ln Lc μ) rfl ?_
  refine am_call (y := 209) (vs := [.ref 42, .int 0]) (rest := []) (v := none) (h1 := (hG (am_up (am_us (am_us σ 54 (-1)) 55 0) 53 (am_fill (fun _ => 0) (σ 53) 40 0)) sr ln Lc μ)) rfl rfl rfl (sp_fill d _ 42 40 (σ 53) 0 rfl (by decide) rfl) ?_
  exact am_ret2 rfl rfl rfl rfl rfl
theorem sp_X8_become_1q (d : Nat) (k n : Int32) (hk : ¬ k = -1) : am_X xs LL (d + 2) 65 [.ref 41, .int k, .int n] (hG σ sr ln Lc μ) none (hG (am_up (am_us (am_us σ 54 k) 55 n) 53 (am_fill (fun _ => 0) (σ 53) 40 0)) sr ln Lc μ) := by
  refine am_XR (d := d + 1) (C := cd_X8_become) (L := [some (.ref 41), some (.int k), some (.int n)]) rfl rfl rfl rfl ?_
  refine am_g 7 (if k = (-1) then 11 else 15) [some (.ref 41), some (.int k), some (.int n)] [.ref 41] (hG (am_us σ 54 k) sr ln Lc μ) rfl ?_
  rw [if_neg (show ¬ k = (-1) from hk)]
  refine am_g 5 24 [some (.ref 41), some (.int k), some (.int n)] [.int 0, .ref 42] (hG (am_us (am_us σ 54 k) 55 n) sr ln Lc μ) rfl ?_
  refine am_call (y := 209) (vs := [.ref 42, .int 0]) (rest := []) (v := none) (h1 := (hG (am_up (am_us (am_us σ 54 k) 55 n) 53 (am_fill (fun _ => 0) (σ 53) 40 0)) sr ln Lc μ)) rfl rfl rfl (sp_fill d _ 42 40 (σ 53) 0 rfl (by decide) rfl) ?_
  exact am_ret2 rfl rfl rfl rfl rfl
theorem sp_X11_sheet_1m (d : Nat) (n : Int32) : am_X xs LL (d + 3) 117 [.ref 14, .int 1, .int (-1), .int n] (hG σ sr ln Lc μ) (some (.int 1)) (hG (am_up (am_us (am_us σ 54 (-1)) 55 0) 53 (am_fill (fun _ => 0) (σ 53) 40 0)) sr ln Lc μ) := by
  refine am_XR (d := d + 2) (C := cd_X11_sheet) (L := [some (.ref 14), some (.int 1), some (.int (-1)), some (.int n), none]) rfl rfl rfl rfl ?_
  refine am_g 2 2 [some (.ref 14), some (.int 1), some (.int (-1)), some (.int n), none] [.int 1, .ref 14] (hG σ sr ln Lc μ) rfl ?_
  refine am_call (y := 129) (vs := [.ref 14, .int 1]) (rest := []) (v := (some (.ref 41))) (h1 := (hG σ sr ln Lc μ)) rfl rfl rfl (sp_X11_sheetAt_1 (σ := σ) (μ := μ) (d + 1)) ?_
  refine am_g 6 15 [some (.ref 14), some (.int 1), some (.int (-1)), some (.int n), some (.ref 41)] [.int 2, .int (-1), .int (-1)] (hG σ sr ln Lc μ) rfl ?_
  refine am_call (y := 122) (vs := [.int (-1), .int (-1), .int 2]) (rest := []) (v := (some (.int 1))) (h1 := (hG σ sr ln Lc μ)) rfl rfl rfl (sp_X11_isWithin_b (d + 1) _ _ _ _ (show decide ((-1 : Int32) ≤ -1 ∧ (-1 : Int32) ≤ 2) = true from by decide)) ?_
  refine am_g 10 54 [some (.ref 14), some (.int 1), some (.int (-1)), some (.int n), some (.ref 41)] [.int n, .int (-1), .ref 41] (hG σ sr ln Lc μ) rfl ?_
  refine am_call (y := 65) (vs := [.ref 41, .int (-1), .int n]) (rest := []) (v := none) (h1 := (hG (am_up (am_us (am_us σ 54 (-1)) 55 0) 53 (am_fill (fun _ => 0) (σ 53) 40 0)) sr ln Lc μ)) rfl rfl rfl (sp_X8_become_1m d _) ?_
  refine am_g 1 58 [some (.ref 14), some (.int 1), some (.int (-1)), some (.int n), some (.ref 41)] [.int 1] (hG (am_up (am_us (am_us σ 54 (-1)) 55 0) 53 (am_fill (fun _ => 0) (σ 53) 40 0)) sr ln Lc μ) rfl ?_
  exact am_ret2 rfl rfl rfl rfl rfl
theorem sp_X11_sheet_1q (d : Nat) (k n : Int32) (hk3 : am_in1 k 3 = true) (hk : ¬ k = -1) (hn : n ≤ 40) (hn0 : 0 ≤ n) : am_X xs LL (d + 3) 117 [.ref 14, .int 1, .int k, .int n] (hG σ sr ln Lc μ) (some (.int 1)) (hG (am_up (am_us (am_us σ 54 k) 55 n) 53 (am_fill (fun _ => 0) (σ 53) 40 0)) sr ln Lc μ) := by
  refine am_XR (d := d + 2) (C := cd_X11_sheet) (L := [some (.ref 14), some (.int 1), some (.int k), some (.int n), none]) rfl rfl rfl rfl ?_
  refine am_g 2 2 [some (.ref 14), some (.int 1), some (.int k), some (.int n), none] [.int 1, .ref 14] (hG σ sr ln Lc μ) rfl ?_
  refine am_call (y := 129) (vs := [.ref 14, .int 1]) (rest := []) (v := (some (.ref 41))) (h1 := (hG σ sr ln Lc μ)) rfl rfl rfl (sp_X11_sheetAt_1 (σ := σ) (μ := μ) (d + 1)) ?_
  refine am_g 6 15 [some (.ref 14), some (.int 1), some (.int k), some (.int n), some (.ref 41)] [.int 2, .int (-1), .int k] (hG σ sr ln Lc μ) rfl ?_
  refine am_call (y := 122) (vs := [.int k, .int (-1), .int 2]) (rest := []) (v := (some (.int 1))) (h1 := (hG σ sr ln Lc μ)) rfl rfl rfl (sp_X11_isWithin_b (d + 1) _ _ _ _ ((am_wi1 (by decide)).trans hk3)) ?_
  refine am_g 4 (if k = (-1) then 38 else 29) [some (.ref 14), some (.int 1), some (.int k), some (.int n), some (.ref 41)] [] (hG σ sr ln Lc μ) rfl ?_
  rw [if_neg (show ¬ k = (-1) from hk)]
  refine am_g 3 (if n ≤ 40 then 38 else 35) [some (.ref 14), some (.int 1), some (.int k), some (.int n), some (.ref 41)] [] (hG σ sr ln Lc μ) rfl ?_
  rw [if_pos (show n ≤ 40 from hn)]
  refine am_g 3 (if k = (-1) then 50 else 43) [some (.ref 14), some (.int 1), some (.int k), some (.int n), some (.ref 41)] [] (hG σ sr ln Lc μ) rfl ?_
  rw [if_neg (show ¬ k = (-1) from hk)]
  refine am_g 2 (if 0 ≤ n then 50 else 47) [some (.ref 14), some (.int 1), some (.int k), some (.int n), some (.ref 41)] [] (hG σ sr ln Lc μ) rfl ?_
  rw [if_pos (show 0 ≤ n from hn0)]
  refine am_g 3 54 [some (.ref 14), some (.int 1), some (.int k), some (.int n), some (.ref 41)] [.int n, .int k, .ref 41] (hG σ sr ln Lc μ) rfl ?_
  refine am_call (y := 65) (vs := [.ref 41, .int k, .int n]) (rest := []) (v := none) (h1 := (hG (am_up (am_us (am_us σ 54 k) 55 n) 53 (am_fill (fun _ => 0) (σ 53) 40 0)) sr ln Lc μ)) rfl rfl rfl (sp_X8_become_1q d _ _ hk) ?_
  refine am_g 1 58 [some (.ref 14), some (.int 1), some (.int k), some (.int n), some (.ref 41)] [.int 1] (hG (am_up (am_us (am_us σ 54 k) 55 n) 53 (am_fill (fun _ => 0) (σ 53) 40 0)) sr ln Lc μ) rfl ?_
  exact am_ret2 rfl rfl rfl rfl rfl
theorem sp_X11_sheet_1big (d : Nat) (k n : Int32) (hk3 : am_in1 k 3 = true) (hk : ¬ k = -1) (hn : ¬ n ≤ 40) : am_X xs LL (d + 3) 117 [.ref 14, .int 1, .int k, .int n] (hG σ sr ln Lc μ) (some (.int (-2))) (hG σ sr ln Lc μ) := by
  refine am_XR (d := d + 2) (C := cd_X11_sheet) (L := [some (.ref 14), some (.int 1), some (.int k), some (.int n), none]) rfl rfl rfl rfl ?_
  refine am_g 2 2 [some (.ref 14), some (.int 1), some (.int k), some (.int n), none] [.int 1, .ref 14] (hG σ sr ln Lc μ) rfl ?_
  refine am_call (y := 129) (vs := [.ref 14, .int 1]) (rest := []) (v := (some (.ref 41))) (h1 := (hG σ sr ln Lc μ)) rfl rfl rfl (sp_X11_sheetAt_1 (σ := σ) (μ := μ) (d + 1)) ?_
  refine am_g 6 15 [some (.ref 14), some (.int 1), some (.int k), some (.int n), some (.ref 41)] [.int 2, .int (-1), .int k] (hG σ sr ln Lc μ) rfl ?_
  refine am_call (y := 122) (vs := [.int k, .int (-1), .int 2]) (rest := []) (v := (some (.int 1))) (h1 := (hG σ sr ln Lc μ)) rfl rfl rfl (sp_X11_isWithin_b (d + 1) _ _ _ _ ((am_wi1 (by decide)).trans hk3)) ?_
  refine am_g 4 (if k = (-1) then 38 else 29) [some (.ref 14), some (.int 1), some (.int k), some (.int n), some (.ref 41)] [] (hG σ sr ln Lc μ) rfl ?_
  rw [if_neg (show ¬ k = (-1) from hk)]
  refine am_g 3 (if n ≤ 40 then 38 else 35) [some (.ref 14), some (.int 1), some (.int k), some (.int n), some (.ref 41)] [] (hG σ sr ln Lc μ) rfl ?_
  rw [if_neg (show ¬ n ≤ 40 from hn)]
  refine am_g 1 37 [some (.ref 14), some (.int 1), some (.int k), some (.int n), some (.ref 41)] [.int (-2)] (hG σ sr ln Lc μ) rfl ?_
  exact am_ret2 rfl rfl rfl rfl rfl
theorem sp_X11_sheet_1neg (d : Nat) (k n : Int32) (hk3 : am_in1 k 3 = true) (hk : ¬ k = -1) (hn : n ≤ 40) (hn0 : ¬ 0 ≤ n) : am_X xs LL (d + 3) 117 [.ref 14, .int 1, .int k, .int n] (hG σ sr ln Lc μ) (some (.int (-14))) (hG σ sr ln Lc μ) := by
  refine am_XR (d := d + 2) (C := cd_X11_sheet) (L := [some (.ref 14), some (.int 1), some (.int k), some (.int n), none]) rfl rfl rfl rfl ?_
  refine am_g 2 2 [some (.ref 14), some (.int 1), some (.int k), some (.int n), none] [.int 1, .ref 14] (hG σ sr ln Lc μ) rfl ?_
  refine am_call (y := 129) (vs := [.ref 14, .int 1]) (rest := []) (v := (some (.ref 41))) (h1 := (hG σ sr ln Lc μ)) rfl rfl rfl (sp_X11_sheetAt_1 (σ := σ) (μ := μ) (d + 1)) ?_
  refine am_g 6 15 [some (.ref 14), some (.int 1), some (.int k), some (.int n), some (.ref 41)] [.int 2, .int (-1), .int k] (hG σ sr ln Lc μ) rfl ?_
  refine am_call (y := 122) (vs := [.int k, .int (-1), .int 2]) (rest := []) (v := (some (.int 1))) (h1 := (hG σ sr ln Lc μ)) rfl rfl rfl (sp_X11_isWithin_b (d + 1) _ _ _ _ ((am_wi1 (by decide)).trans hk3)) ?_
  refine am_g 4 (if k = (-1) then 38 else 29) [some (.ref 14), some (.int 1), some (.int k), some (.int n), some (.ref 41)] [] (hG σ sr ln Lc μ) rfl ?_
  rw [if_neg (show ¬ k = (-1) from hk)]
  refine am_g 3 (if n ≤ 40 then 38 else 35) [some (.ref 14), some (.int 1), some (.int k), some (.int n), some (.ref 41)] [] (hG σ sr ln Lc μ) rfl ?_
  rw [if_pos (show n ≤ 40 from hn)]
  refine am_g 3 (if k = (-1) then 50 else 43) [some (.ref 14), some (.int 1), some (.int k), some (.int n), some (.ref 41)] [] (hG σ sr ln Lc μ) rfl ?_
  rw [if_neg (show ¬ k = (-1) from hk)]
  refine am_g 2 (if 0 ≤ n then 50 else 47) [some (.ref 14), some (.int 1), some (.int k), some (.int n), some (.ref 41)] [] (hG σ sr ln Lc μ) rfl ?_
  rw [if_neg (show ¬ 0 ≤ n from hn0)]
  refine am_g 1 49 [some (.ref 14), some (.int 1), some (.int k), some (.int n), some (.ref 41)] [.int (-14)] (hG σ sr ln Lc μ) rfl ?_
  exact am_ret2 rfl rfl rfl rfl rfl
theorem sp_X11_sheet_1bad (d : Nat) (k n : Int32) (hk3 : am_in1 k 3 = false) : am_X xs LL (d + 3) 117 [.ref 14, .int 1, .int k, .int n] (hG σ sr ln Lc μ) (some (.int (-2))) (hG σ sr ln Lc μ) := by
  refine am_XR (d := d + 2) (C := cd_X11_sheet) (L := [some (.ref 14), some (.int 1), some (.int k), some (.int n), none]) rfl rfl rfl rfl ?_
  refine am_g 2 2 [some (.ref 14), some (.int 1), some (.int k), some (.int n), none] [.int 1, .ref 14] (hG σ sr ln Lc μ) rfl ?_
  refine am_call (y := 129) (vs := [.ref 14, .int 1]) (rest := []) (v := (some (.ref 41))) (h1 := (hG σ sr ln Lc μ)) rfl rfl rfl (sp_X11_sheetAt_1 (σ := σ) (μ := μ) (d + 1)) ?_
  refine am_g 6 15 [some (.ref 14), some (.int 1), some (.int k), some (.int n), some (.ref 41)] [.int 2, .int (-1), .int k] (hG σ sr ln Lc μ) rfl ?_
  refine am_call (y := 122) (vs := [.int k, .int (-1), .int 2]) (rest := []) (v := (some (.int 0))) (h1 := (hG σ sr ln Lc μ)) rfl rfl rfl (sp_X11_isWithin_b (d + 1) _ _ _ _ ((am_wi1 (by decide)).trans hk3)) ?_
  refine am_g 2 23 [some (.ref 14), some (.int 1), some (.int k), some (.int n), some (.ref 41)] [.int (-2)] (hG σ sr ln Lc μ) rfl ?_
  exact am_ret2 rfl rfl rfl rfl rfl
theorem sp_X11_cell_1m (d : Nat) (i v : Int32) (h : σ 54 0 = -1) : am_X xs LL (d + 2) 118 [.ref 14, .int 1, .int i, .int v] (hG σ sr ln Lc μ) (some (.int (-11))) (hG σ sr ln Lc μ) := by
  refine am_XR (d := d + 1) (C := cd_X11_cell) (L := [some (.ref 14), some (.int 1), some (.int i), some (.int v), none]) rfl rfl rfl rfl ?_
  refine am_g 2 2 [some (.ref 14), some (.int 1), some (.int i), some (.int v), none] [.int 1, .ref 14] (hG σ sr ln Lc μ) rfl ?_
  refine am_call (y := 129) (vs := [.ref 14, .int 1]) (rest := []) (v := (some (.ref 41))) (h1 := (hG σ sr ln Lc μ)) rfl rfl rfl (sp_X11_sheetAt_1 (σ := σ) (μ := μ) d) ?_
  refine am_g 4 17 [some (.ref 14), some (.int 1), some (.int i), some (.int v), some (.ref 41)] [.ref 41] (hG σ sr ln Lc μ) rfl ?_
  refine am_call (y := 64) (vs := [.ref 41]) (rest := []) (v := (some (.int 1))) (h1 := (hG σ sr ln Lc μ)) rfl rfl rfl (sp_X8_isMissing_1y (σ := σ) (μ := μ) d h) ?_
  refine am_g 2 25 [some (.ref 14), some (.int 1), some (.int i), some (.int v), some (.ref 41)] [.int (-11)] (hG σ sr ln Lc μ) rfl ?_
  exact am_ret2 rfl rfl rfl rfl rfl
theorem sp_X11_cell_1o (d : Nat) (i v : Int32) (h : ¬ σ 54 0 = -1) {z : Nat} (hz : σ 55 0 = nI z) (hz40 : z ≤ 40) (hc : pu_cv z i 1 = false) : am_X xs LL (d + 2) 118 [.ref 14, .int 1, .int i, .int v] (hG σ sr ln Lc μ) (some (.int (-12))) (hG σ sr ln Lc μ) := by
  refine am_XR (d := d + 1) (C := cd_X11_cell) (L := [some (.ref 14), some (.int 1), some (.int i), some (.int v), none]) rfl rfl rfl rfl ?_
  refine am_g 2 2 [some (.ref 14), some (.int 1), some (.int i), some (.int v), none] [.int 1, .ref 14] (hG σ sr ln Lc μ) rfl ?_
  refine am_call (y := 129) (vs := [.ref 14, .int 1]) (rest := []) (v := (some (.ref 41))) (h1 := (hG σ sr ln Lc μ)) rfl rfl rfl (sp_X11_sheetAt_1 (σ := σ) (μ := μ) d) ?_
  refine am_g 4 17 [some (.ref 14), some (.int 1), some (.int i), some (.int v), some (.ref 41)] [.ref 41] (hG σ sr ln Lc μ) rfl ?_
  refine am_call (y := 64) (vs := [.ref 41]) (rest := []) (v := (some (.int 0))) (h1 := (hG σ sr ln Lc μ)) rfl rfl rfl (sp_X8_isMissing_1n (σ := σ) (μ := μ) d h) ?_
  refine am_g 4 30 [some (.ref 14), some (.int 1), some (.int i), some (.int v), some (.ref 41)] [.int 1, .int i, .ref 41] (hG σ sr ln Lc μ) rfl ?_
  refine am_call (y := 66) (vs := [.ref 41, .int i, .int 1]) (rest := []) (v := (some (.int 0))) (h1 := (hG σ sr ln Lc μ)) rfl rfl rfl (sp_X8_covers_1 (σ := σ) (μ := μ) d hz (by omega) _ _ hc) ?_
  refine am_g 2 38 [some (.ref 14), some (.int 1), some (.int i), some (.int v), some (.ref 41)] [.int (-12)] (hG σ sr ln Lc μ) rfl ?_
  exact am_ret2 rfl rfl rfl rfl rfl
theorem sp_X8_put_10 (d : Nat) {z : Nat} (hz : σ 55 0 = nI z) (hz40 : z ≤ 40) (i : Nat) (hi : i < z) (v : Int32) (hq : σ 54 0 = 0) : am_X xs LL (d + 1) 68 [.ref 41, .int (nI i), .int v] (hG σ sr ln Lc μ) none (hG (am_up σ 53 (upd (σ 53) i (v.toInt8.toInt32))) sr ln Lc μ) := by
  refine am_XR (d := d + 0) (C := cd_X8_put) (L := [some (.ref 41), some (.int (nI i)), some (.int v)]) rfl rfl rfl rfl ?_
  refine am_g 2 (if (nI i) < 0 then 21 else 4) [some (.ref 41), some (.int (nI i)), some (.int v)] [] (hG σ sr ln Lc μ) rfl ?_
  rw [if_neg (show ¬ (nI i) < 0 from (am_dnlt (a := i) (b := 0) (rfl) (rfl) (by omega) (by omega) (by omega)))]
  refine am_g 3 9 [some (.ref 41), some (.int (nI i)), some (.int v)] [.int (σ 55 0), .int (nI i)] (hG σ sr ln Lc μ) rfl ?_
  rw [show (σ 55 0) = (nI z) from hz]
  refine am_g 1 (if (nI z) ≤ (nI i) then 21 else 12) [some (.ref 41), some (.int (nI i)), some (.int v)] [] (hG σ sr ln Lc μ) rfl ?_
  rw [if_neg (show ¬ (nI z) ≤ (nI i) from (am_dnle (a := z) (b := i) (rfl) (rfl) (by omega) (by omega) (by omega)))]
  refine am_g 5 (if (nI i) < 40 then 22 else 21) [some (.ref 41), some (.int (nI i)), some (.int v)] [] (hG σ sr ln Lc μ) rfl ?_
  rw [if_pos (show (nI i) < 40 from (am_dlt (a := i) (b := 40) (rfl) (rfl) (by omega) (by omega) (by omega)))]
  refine am_g 2 26 [some (.ref 41), some (.int (nI i)), some (.int v)] [.int (σ 54 0)] (hG σ sr ln Lc μ) rfl ?_
  rw [show (σ 54 0) = 0 from hq]
  refine am_g 6 36 [some (.ref 41), some (.int (nI i)), some (.int v)] [.int (v.toInt8.toInt32), .int (nI i), .ref 42] (hG σ sr ln Lc μ) rfl ?_
  refine am_iastR (n := 40) (f := (σ 53)) (k := i) (h1 := (hG (am_up σ 53 (upd (σ 53) i (v.toInt8.toInt32))) sr ln Lc μ)) rfl rfl (rfl) (by omega) (by decide) rfl ?_
  refine am_g 1 66 [some (.ref 41), some (.int (nI i)), some (.int v)] [] (hG (am_up σ 53 (upd (σ 53) i (v.toInt8.toInt32))) sr ln Lc μ) rfl ?_
  exact am_ret2 rfl rfl rfl rfl rfl
theorem sp_X11_cell_1q0 (d : Nat) {z : Nat} (hz : σ 55 0 = nI z) (hz40 : z ≤ 40) (i : Nat) (hi : i < z) (v : Int32) (hq : σ 54 0 = 0) (hc : pu_cv z (nI i) 1 = true) : am_X xs LL (d + 2) 118 [.ref 14, .int 1, .int (nI i), .int v] (hG σ sr ln Lc μ) (some (.int 1)) (hG (am_up σ 53 (upd (σ 53) i (v.toInt8.toInt32))) sr ln Lc μ) := by
  refine am_XR (d := d + 1) (C := cd_X11_cell) (L := [some (.ref 14), some (.int 1), some (.int (nI i)), some (.int v), none]) rfl rfl rfl rfl ?_
  refine am_g 2 2 [some (.ref 14), some (.int 1), some (.int (nI i)), some (.int v), none] [.int 1, .ref 14] (hG σ sr ln Lc μ) rfl ?_
  refine am_call (y := 129) (vs := [.ref 14, .int 1]) (rest := []) (v := (some (.ref 41))) (h1 := (hG σ sr ln Lc μ)) rfl rfl rfl (sp_X11_sheetAt_1 (σ := σ) (μ := μ) d) ?_
  refine am_g 4 17 [some (.ref 14), some (.int 1), some (.int (nI i)), some (.int v), some (.ref 41)] [.ref 41] (hG σ sr ln Lc μ) rfl ?_
  refine am_call (y := 64) (vs := [.ref 41]) (rest := []) (v := (some (.int 0))) (h1 := (hG σ sr ln Lc μ)) rfl rfl rfl (sp_X8_isMissing_1n (σ := σ) (μ := μ) d (by rw [hq]; decide)) ?_
  refine am_g 4 30 [some (.ref 14), some (.int 1), some (.int (nI i)), some (.int v), some (.ref 41)] [.int 1, .int (nI i), .ref 41] (hG σ sr ln Lc μ) rfl ?_
  refine am_call (y := 66) (vs := [.ref 41, .int (nI i), .int 1]) (rest := []) (v := (some (.int 1))) (h1 := (hG σ sr ln Lc μ)) rfl rfl rfl (sp_X8_covers_1 (σ := σ) (μ := μ) d hz (by omega) _ _ hc) ?_
  refine am_g 4 43 [some (.ref 14), some (.int 1), some (.int (nI i)), some (.int v), some (.ref 41)] [.int v, .int (nI i), .ref 41] (hG σ sr ln Lc μ) rfl ?_
  refine am_call (y := 68) (vs := [.ref 41, .int (nI i), .int v]) (rest := []) (v := none) (h1 := (hG (am_up σ 53 (upd (σ 53) i (v.toInt8.toInt32))) sr ln Lc μ)) rfl rfl rfl (sp_X8_put_10 d hz (by omega) i hi _ hq) ?_
  refine am_g 1 47 [some (.ref 14), some (.int 1), some (.int (nI i)), some (.int v), some (.ref 41)] [.int 1] (hG (am_up σ 53 (upd (σ 53) i (v.toInt8.toInt32))) sr ln Lc μ) rfl ?_
  exact am_ret2 rfl rfl rfl rfl rfl
theorem sp_X8_put_11 (d : Nat) {z : Nat} (hz : σ 55 0 = nI z) (hz40 : z ≤ 40) (i : Nat) (hi : i < z) (v : Int32) (hq : σ 54 0 = 1) : am_X xs LL (d + 1) 68 [.ref 41, .int (nI i), .int v] (hG σ sr ln Lc μ) none (hG (am_up σ 53 (upd (σ 53) i (v.toInt16.toInt32))) sr ln Lc μ) := by
  refine am_XR (d := d + 0) (C := cd_X8_put) (L := [some (.ref 41), some (.int (nI i)), some (.int v)]) rfl rfl rfl rfl ?_
  refine am_g 2 (if (nI i) < 0 then 21 else 4) [some (.ref 41), some (.int (nI i)), some (.int v)] [] (hG σ sr ln Lc μ) rfl ?_
  rw [if_neg (show ¬ (nI i) < 0 from (am_dnlt (a := i) (b := 0) (rfl) (rfl) (by omega) (by omega) (by omega)))]
  refine am_g 3 9 [some (.ref 41), some (.int (nI i)), some (.int v)] [.int (σ 55 0), .int (nI i)] (hG σ sr ln Lc μ) rfl ?_
  rw [show (σ 55 0) = (nI z) from hz]
  refine am_g 1 (if (nI z) ≤ (nI i) then 21 else 12) [some (.ref 41), some (.int (nI i)), some (.int v)] [] (hG σ sr ln Lc μ) rfl ?_
  rw [if_neg (show ¬ (nI z) ≤ (nI i) from (am_dnle (a := z) (b := i) (rfl) (rfl) (by omega) (by omega) (by omega)))]
  refine am_g 5 (if (nI i) < 40 then 22 else 21) [some (.ref 41), some (.int (nI i)), some (.int v)] [] (hG σ sr ln Lc μ) rfl ?_
  rw [if_pos (show (nI i) < 40 from (am_dlt (a := i) (b := 40) (rfl) (rfl) (by omega) (by omega) (by omega)))]
  refine am_g 2 26 [some (.ref 41), some (.int (nI i)), some (.int v)] [.int (σ 54 0)] (hG σ sr ln Lc μ) rfl ?_
  rw [show (σ 54 0) = 1 from hq]
  refine am_g 3 44 [some (.ref 41), some (.int (nI i)), some (.int v)] [.int (σ 54 0)] (hG σ sr ln Lc μ) rfl ?_
  rw [show (σ 54 0) = 1 from hq]
  refine am_g 7 55 [some (.ref 41), some (.int (nI i)), some (.int v)] [.int (v.toInt16.toInt32), .int (nI i), .ref 42] (hG σ sr ln Lc μ) rfl ?_
  refine am_iastR (n := 40) (f := (σ 53)) (k := i) (h1 := (hG (am_up σ 53 (upd (σ 53) i (v.toInt16.toInt32))) sr ln Lc μ)) rfl rfl (rfl) (by omega) (by decide) rfl ?_
  refine am_g 1 66 [some (.ref 41), some (.int (nI i)), some (.int v)] [] (hG (am_up σ 53 (upd (σ 53) i (v.toInt16.toInt32))) sr ln Lc μ) rfl ?_
  exact am_ret2 rfl rfl rfl rfl rfl
theorem sp_X11_cell_1q1 (d : Nat) {z : Nat} (hz : σ 55 0 = nI z) (hz40 : z ≤ 40) (i : Nat) (hi : i < z) (v : Int32) (hq : σ 54 0 = 1) (hc : pu_cv z (nI i) 1 = true) : am_X xs LL (d + 2) 118 [.ref 14, .int 1, .int (nI i), .int v] (hG σ sr ln Lc μ) (some (.int 1)) (hG (am_up σ 53 (upd (σ 53) i (v.toInt16.toInt32))) sr ln Lc μ) := by
  refine am_XR (d := d + 1) (C := cd_X11_cell) (L := [some (.ref 14), some (.int 1), some (.int (nI i)), some (.int v), none]) rfl rfl rfl rfl ?_
  refine am_g 2 2 [some (.ref 14), some (.int 1), some (.int (nI i)), some (.int v), none] [.int 1, .ref 14] (hG σ sr ln Lc μ) rfl ?_
  refine am_call (y := 129) (vs := [.ref 14, .int 1]) (rest := []) (v := (some (.ref 41))) (h1 := (hG σ sr ln Lc μ)) rfl rfl rfl (sp_X11_sheetAt_1 (σ := σ) (μ := μ) d) ?_
  refine am_g 4 17 [some (.ref 14), some (.int 1), some (.int (nI i)), some (.int v), some (.ref 41)] [.ref 41] (hG σ sr ln Lc μ) rfl ?_
  refine am_call (y := 64) (vs := [.ref 41]) (rest := []) (v := (some (.int 0))) (h1 := (hG σ sr ln Lc μ)) rfl rfl rfl (sp_X8_isMissing_1n (σ := σ) (μ := μ) d (by rw [hq]; decide)) ?_
  refine am_g 4 30 [some (.ref 14), some (.int 1), some (.int (nI i)), some (.int v), some (.ref 41)] [.int 1, .int (nI i), .ref 41] (hG σ sr ln Lc μ) rfl ?_
  refine am_call (y := 66) (vs := [.ref 41, .int (nI i), .int 1]) (rest := []) (v := (some (.int 1))) (h1 := (hG σ sr ln Lc μ)) rfl rfl rfl (sp_X8_covers_1 (σ := σ) (μ := μ) d hz (by omega) _ _ hc) ?_
  refine am_g 4 43 [some (.ref 14), some (.int 1), some (.int (nI i)), some (.int v), some (.ref 41)] [.int v, .int (nI i), .ref 41] (hG σ sr ln Lc μ) rfl ?_
  refine am_call (y := 68) (vs := [.ref 41, .int (nI i), .int v]) (rest := []) (v := none) (h1 := (hG (am_up σ 53 (upd (σ 53) i (v.toInt16.toInt32))) sr ln Lc μ)) rfl rfl rfl (sp_X8_put_11 d hz (by omega) i hi _ hq) ?_
  refine am_g 1 47 [some (.ref 14), some (.int 1), some (.int (nI i)), some (.int v), some (.ref 41)] [.int 1] (hG (am_up σ 53 (upd (σ 53) i (v.toInt16.toInt32))) sr ln Lc μ) rfl ?_
  exact am_ret2 rfl rfl rfl rfl rfl
theorem sp_X8_put_12 (d : Nat) {z : Nat} (hz : σ 55 0 = nI z) (hz40 : z ≤ 40) (i : Nat) (hi : i < z) (v : Int32) (hq : σ 54 0 = 2) : am_X xs LL (d + 1) 68 [.ref 41, .int (nI i), .int v] (hG σ sr ln Lc μ) none (hG (am_up σ 53 (upd (σ 53) i v)) sr ln Lc μ) := by
  refine am_XR (d := d + 0) (C := cd_X8_put) (L := [some (.ref 41), some (.int (nI i)), some (.int v)]) rfl rfl rfl rfl ?_
  refine am_g 2 (if (nI i) < 0 then 21 else 4) [some (.ref 41), some (.int (nI i)), some (.int v)] [] (hG σ sr ln Lc μ) rfl ?_
  rw [if_neg (show ¬ (nI i) < 0 from (am_dnlt (a := i) (b := 0) (rfl) (rfl) (by omega) (by omega) (by omega)))]
  refine am_g 3 9 [some (.ref 41), some (.int (nI i)), some (.int v)] [.int (σ 55 0), .int (nI i)] (hG σ sr ln Lc μ) rfl ?_
  rw [show (σ 55 0) = (nI z) from hz]
  refine am_g 1 (if (nI z) ≤ (nI i) then 21 else 12) [some (.ref 41), some (.int (nI i)), some (.int v)] [] (hG σ sr ln Lc μ) rfl ?_
  rw [if_neg (show ¬ (nI z) ≤ (nI i) from (am_dnle (a := z) (b := i) (rfl) (rfl) (by omega) (by omega) (by omega)))]
  refine am_g 5 (if (nI i) < 40 then 22 else 21) [some (.ref 41), some (.int (nI i)), some (.int v)] [] (hG σ sr ln Lc μ) rfl ?_
  rw [if_pos (show (nI i) < 40 from (am_dlt (a := i) (b := 40) (rfl) (rfl) (by omega) (by omega) (by omega)))]
  refine am_g 2 26 [some (.ref 41), some (.int (nI i)), some (.int v)] [.int (σ 54 0)] (hG σ sr ln Lc μ) rfl ?_
  rw [show (σ 54 0) = 2 from hq]
  refine am_g 3 44 [some (.ref 41), some (.int (nI i)), some (.int v)] [.int (σ 54 0)] (hG σ sr ln Lc μ) rfl ?_
  rw [show (σ 54 0) = 2 from hq]
  refine am_g 6 65 [some (.ref 41), some (.int (nI i)), some (.int v)] [.int v, .int (nI i), .ref 42] (hG σ sr ln Lc μ) rfl ?_
  refine am_iastR (n := 40) (f := (σ 53)) (k := i) (h1 := (hG (am_up σ 53 (upd (σ 53) i v)) sr ln Lc μ)) rfl rfl (rfl) (by omega) (by decide) rfl ?_
  exact am_ret2 rfl rfl rfl rfl rfl
theorem sp_X11_cell_1q2 (d : Nat) {z : Nat} (hz : σ 55 0 = nI z) (hz40 : z ≤ 40) (i : Nat) (hi : i < z) (v : Int32) (hq : σ 54 0 = 2) (hc : pu_cv z (nI i) 1 = true) : am_X xs LL (d + 2) 118 [.ref 14, .int 1, .int (nI i), .int v] (hG σ sr ln Lc μ) (some (.int 1)) (hG (am_up σ 53 (upd (σ 53) i v)) sr ln Lc μ) := by
  refine am_XR (d := d + 1) (C := cd_X11_cell) (L := [some (.ref 14), some (.int 1), some (.int (nI i)), some (.int v), none]) rfl rfl rfl rfl ?_
  refine am_g 2 2 [some (.ref 14), some (.int 1), some (.int (nI i)), some (.int v), none] [.int 1, .ref 14] (hG σ sr ln Lc μ) rfl ?_
  refine am_call (y := 129) (vs := [.ref 14, .int 1]) (rest := []) (v := (some (.ref 41))) (h1 := (hG σ sr ln Lc μ)) rfl rfl rfl (sp_X11_sheetAt_1 (σ := σ) (μ := μ) d) ?_
  refine am_g 4 17 [some (.ref 14), some (.int 1), some (.int (nI i)), some (.int v), some (.ref 41)] [.ref 41] (hG σ sr ln Lc μ) rfl ?_
  refine am_call (y := 64) (vs := [.ref 41]) (rest := []) (v := (some (.int 0))) (h1 := (hG σ sr ln Lc μ)) rfl rfl rfl (sp_X8_isMissing_1n (σ := σ) (μ := μ) d (by rw [hq]; decide)) ?_
  refine am_g 4 30 [some (.ref 14), some (.int 1), some (.int (nI i)), some (.int v), some (.ref 41)] [.int 1, .int (nI i), .ref 41] (hG σ sr ln Lc μ) rfl ?_
  refine am_call (y := 66) (vs := [.ref 41, .int (nI i), .int 1]) (rest := []) (v := (some (.int 1))) (h1 := (hG σ sr ln Lc μ)) rfl rfl rfl (sp_X8_covers_1 (σ := σ) (μ := μ) d hz (by omega) _ _ hc) ?_
  refine am_g 4 43 [some (.ref 14), some (.int 1), some (.int (nI i)), some (.int v), some (.ref 41)] [.int v, .int (nI i), .ref 41] (hG σ sr ln Lc μ) rfl ?_
  refine am_call (y := 68) (vs := [.ref 41, .int (nI i), .int v]) (rest := []) (v := none) (h1 := (hG (am_up σ 53 (upd (σ 53) i v)) sr ln Lc μ)) rfl rfl rfl (sp_X8_put_12 d hz (by omega) i hi _ hq) ?_
  refine am_g 1 47 [some (.ref 14), some (.int 1), some (.int (nI i)), some (.int v), some (.ref 41)] [.int 1] (hG (am_up σ 53 (upd (σ 53) i v)) sr ln Lc μ) rfl ?_
  exact am_ret2 rfl rfl rfl rfl rfl
theorem sp_X8_itemAt_1 (d : Nat) {z : Nat} (hz : σ 55 0 = nI z) (hz40 : z ≤ 40) (i : Nat) (hi : i < z) : am_X xs LL (d + 1) 67 [.ref 41, .int (nI i)] (hG σ sr ln Lc μ) (some (.int (σ 53 i))) (hG σ sr ln Lc μ) := by
  refine am_XR (d := d + 0) (C := cd_X8_itemAt) (L := [some (.ref 41), some (.int (nI i))]) rfl rfl rfl rfl ?_
  refine am_g 2 (if (nI i) < 0 then 30 else 4) [some (.ref 41), some (.int (nI i))] [] (hG σ sr ln Lc μ) rfl ?_
  rw [if_neg (show ¬ (nI i) < 0 from (am_dnlt (a := i) (b := 0) (rfl) (rfl) (by omega) (by omega) (by omega)))]
  refine am_g 3 9 [some (.ref 41), some (.int (nI i))] [.int (σ 55 0), .int (nI i)] (hG σ sr ln Lc μ) rfl ?_
  rw [show (σ 55 0) = (nI z) from hz]
  refine am_g 1 (if (nI z) ≤ (nI i) then 30 else 12) [some (.ref 41), some (.int (nI i))] [] (hG σ sr ln Lc μ) rfl ?_
  rw [if_neg (show ¬ (nI z) ≤ (nI i) from (am_dnle (a := z) (b := i) (rfl) (rfl) (by omega) (by omega) (by omega)))]
  refine am_g 5 (if 40 ≤ (nI i) then 30 else 21) [some (.ref 41), some (.int (nI i))] [] (hG σ sr ln Lc μ) rfl ?_
  rw [if_neg (show ¬ 40 ≤ (nI i) from (am_dnle (a := 40) (b := i) (rfl) (rfl) (by omega) (by omega) (by omega)))]
  refine am_g 3 26 [some (.ref 41), some (.int (nI i))] [.int (nI i), .ref 42] (hG σ sr ln Lc μ) rfl ?_
  refine am_ialdR (n := 40) (f := (σ 53)) (k := i) rfl rfl (rfl) (by omega) (by decide) ?_
  refine am_g 1 31 [some (.ref 41), some (.int (nI i))] [.int (σ 53 i)] (hG σ sr ln Lc μ) rfl ?_
  exact am_ret2 rfl rfl rfl rfl rfl
theorem sp_X11_taped_1bk (d : Nat) (k a n : Int32) (hs3 : am_in k 3 = false) : am_X xs LL (d + 2) 120 [.ref 14, .int 1, .int k, .int a, .int n] (hG σ sr ln Lc μ) (some (.int (-2))) (hG σ sr ln Lc μ) := by
  refine am_XR (d := d + 1) (C := cd_X11_taped) (L := [some (.ref 14), some (.int 1), some (.int k), some (.int a), some (.int n), none, none]) rfl rfl rfl rfl ?_
  refine am_g 2 2 [some (.ref 14), some (.int 1), some (.int k), some (.int a), some (.int n), none, none] [.int 1, .ref 14] (hG σ sr ln Lc μ) rfl ?_
  refine am_call (y := 129) (vs := [.ref 14, .int 1]) (rest := []) (v := (some (.ref 41))) (h1 := (hG σ sr ln Lc μ)) rfl rfl rfl (sp_X11_sheetAt_1 (σ := σ) (μ := μ) d) ?_
  refine am_g 6 15 [some (.ref 14), some (.int 1), some (.int k), some (.int a), some (.int n), some (.ref 41), none] [.int 2, .int 0, .int k] (hG σ sr ln Lc μ) rfl ?_
  refine am_call (y := 122) (vs := [.int k, .int 0, .int 2]) (rest := []) (v := (some (.int 0))) (h1 := (hG σ sr ln Lc μ)) rfl rfl rfl (sp_X11_isWithin_b d _ _ _ _ ((am_wi (by decide)).trans hs3)) ?_
  refine am_g 2 34 [some (.ref 14), some (.int 1), some (.int k), some (.int a), some (.int n), some (.ref 41), none] [.int (-2)] (hG σ sr ln Lc μ) rfl ?_
  exact am_ret2 rfl rfl rfl rfl rfl
theorem sp_X11_taped_1bn (d : Nat) (k a n : Int32) (hs3 : am_in k 3 = true) (hn21 : am_in n 21 = false) : am_X xs LL (d + 2) 120 [.ref 14, .int 1, .int k, .int a, .int n] (hG σ sr ln Lc μ) (some (.int (-2))) (hG σ sr ln Lc μ) := by
  refine am_XR (d := d + 1) (C := cd_X11_taped) (L := [some (.ref 14), some (.int 1), some (.int k), some (.int a), some (.int n), none, none]) rfl rfl rfl rfl ?_
  refine am_g 2 2 [some (.ref 14), some (.int 1), some (.int k), some (.int a), some (.int n), none, none] [.int 1, .ref 14] (hG σ sr ln Lc μ) rfl ?_
  refine am_call (y := 129) (vs := [.ref 14, .int 1]) (rest := []) (v := (some (.ref 41))) (h1 := (hG σ sr ln Lc μ)) rfl rfl rfl (sp_X11_sheetAt_1 (σ := σ) (μ := μ) d) ?_
  refine am_g 6 15 [some (.ref 14), some (.int 1), some (.int k), some (.int a), some (.int n), some (.ref 41), none] [.int 2, .int 0, .int k] (hG σ sr ln Lc μ) rfl ?_
  refine am_call (y := 122) (vs := [.int k, .int 0, .int 2]) (rest := []) (v := (some (.int 1))) (h1 := (hG σ sr ln Lc μ)) rfl rfl rfl (sp_X11_isWithin_b d _ _ _ _ ((am_wi (by decide)).trans hs3)) ?_
  refine am_g 4 26 [some (.ref 14), some (.int 1), some (.int k), some (.int a), some (.int n), some (.ref 41), none] [.int 20, .int 0, .int n] (hG σ sr ln Lc μ) rfl ?_
  refine am_call (y := 122) (vs := [.int n, .int 0, .int 20]) (rest := []) (v := (some (.int 0))) (h1 := (hG σ sr ln Lc μ)) rfl rfl rfl (sp_X11_isWithin_b d _ _ _ _ ((am_wi (n := 21) (by decide)).trans hn21)) ?_
  refine am_g 2 34 [some (.ref 14), some (.int 1), some (.int k), some (.int a), some (.int n), some (.ref 41), none] [.int (-2)] (hG σ sr ln Lc μ) rfl ?_
  exact am_ret2 rfl rfl rfl rfl rfl
theorem sp_X11_taped_1m (d : Nat) (k a n : Int32) (hs3 : am_in k 3 = true) (hn21 : am_in n 21 = true) (h : σ 54 0 = -1) : am_X xs LL (d + 2) 120 [.ref 14, .int 1, .int k, .int a, .int n] (hG σ sr ln Lc μ) (some (.int (-11))) (hG σ sr ln Lc μ) := by
  refine am_XR (d := d + 1) (C := cd_X11_taped) (L := [some (.ref 14), some (.int 1), some (.int k), some (.int a), some (.int n), none, none]) rfl rfl rfl rfl ?_
  refine am_g 2 2 [some (.ref 14), some (.int 1), some (.int k), some (.int a), some (.int n), none, none] [.int 1, .ref 14] (hG σ sr ln Lc μ) rfl ?_
  refine am_call (y := 129) (vs := [.ref 14, .int 1]) (rest := []) (v := (some (.ref 41))) (h1 := (hG σ sr ln Lc μ)) rfl rfl rfl (sp_X11_sheetAt_1 (σ := σ) (μ := μ) d) ?_
  refine am_g 6 15 [some (.ref 14), some (.int 1), some (.int k), some (.int a), some (.int n), some (.ref 41), none] [.int 2, .int 0, .int k] (hG σ sr ln Lc μ) rfl ?_
  refine am_call (y := 122) (vs := [.int k, .int 0, .int 2]) (rest := []) (v := (some (.int 1))) (h1 := (hG σ sr ln Lc μ)) rfl rfl rfl (sp_X11_isWithin_b d _ _ _ _ ((am_wi (by decide)).trans hs3)) ?_
  refine am_g 4 26 [some (.ref 14), some (.int 1), some (.int k), some (.int a), some (.int n), some (.ref 41), none] [.int 20, .int 0, .int n] (hG σ sr ln Lc μ) rfl ?_
  refine am_call (y := 122) (vs := [.int n, .int 0, .int 20]) (rest := []) (v := (some (.int 1))) (h1 := (hG σ sr ln Lc μ)) rfl rfl rfl (sp_X11_isWithin_b d _ _ _ _ ((am_wi (n := 21) (by decide)).trans hn21)) ?_
  refine am_g 2 37 [some (.ref 14), some (.int 1), some (.int k), some (.int a), some (.int n), some (.ref 41), none] [.ref 41] (hG σ sr ln Lc μ) rfl ?_
  refine am_call (y := 64) (vs := [.ref 41]) (rest := []) (v := (some (.int 1))) (h1 := (hG σ sr ln Lc μ)) rfl rfl rfl (sp_X8_isMissing_1y (σ := σ) (μ := μ) d h) ?_
  refine am_g 2 57 [some (.ref 14), some (.int 1), some (.int k), some (.int a), some (.int n), some (.ref 41), none] [.ref 41] (hG σ sr ln Lc μ) rfl ?_
  refine am_call (y := 64) (vs := [.ref 41]) (rest := []) (v := (some (.int 1))) (h1 := (hG σ sr ln Lc μ)) rfl rfl rfl (sp_X8_isMissing_1y (σ := σ) (μ := μ) d h) ?_
  refine am_g 2 65 [some (.ref 14), some (.int 1), some (.int k), some (.int a), some (.int n), some (.ref 41), none] [.int (-11)] (hG σ sr ln Lc μ) rfl ?_
  exact am_ret2 rfl rfl rfl rfl rfl
theorem sp_X11_taped_1x (d : Nat) (k a n : Int32) (hs3 : am_in k 3 = true) (hn21 : am_in n 21 = true) (h : ¬ σ 54 0 = -1) (hx : ¬ σ 54 0 = k) : am_X xs LL (d + 2) 120 [.ref 14, .int 1, .int k, .int a, .int n] (hG σ sr ln Lc μ) (some (.int (-13))) (hG σ sr ln Lc μ) := by
  refine am_XR (d := d + 1) (C := cd_X11_taped) (L := [some (.ref 14), some (.int 1), some (.int k), some (.int a), some (.int n), none, none]) rfl rfl rfl rfl ?_
  refine am_g 2 2 [some (.ref 14), some (.int 1), some (.int k), some (.int a), some (.int n), none, none] [.int 1, .ref 14] (hG σ sr ln Lc μ) rfl ?_
  refine am_call (y := 129) (vs := [.ref 14, .int 1]) (rest := []) (v := (some (.ref 41))) (h1 := (hG σ sr ln Lc μ)) rfl rfl rfl (sp_X11_sheetAt_1 (σ := σ) (μ := μ) d) ?_
  refine am_g 6 15 [some (.ref 14), some (.int 1), some (.int k), some (.int a), some (.int n), some (.ref 41), none] [.int 2, .int 0, .int k] (hG σ sr ln Lc μ) rfl ?_
  refine am_call (y := 122) (vs := [.int k, .int 0, .int 2]) (rest := []) (v := (some (.int 1))) (h1 := (hG σ sr ln Lc μ)) rfl rfl rfl (sp_X11_isWithin_b d _ _ _ _ ((am_wi (by decide)).trans hs3)) ?_
  refine am_g 4 26 [some (.ref 14), some (.int 1), some (.int k), some (.int a), some (.int n), some (.ref 41), none] [.int 20, .int 0, .int n] (hG σ sr ln Lc μ) rfl ?_
  refine am_call (y := 122) (vs := [.int n, .int 0, .int 20]) (rest := []) (v := (some (.int 1))) (h1 := (hG σ sr ln Lc μ)) rfl rfl rfl (sp_X11_isWithin_b d _ _ _ _ ((am_wi (n := 21) (by decide)).trans hn21)) ?_
  refine am_g 2 37 [some (.ref 14), some (.int 1), some (.int k), some (.int a), some (.int n), some (.ref 41), none] [.ref 41] (hG σ sr ln Lc μ) rfl ?_
  refine am_call (y := 64) (vs := [.ref 41]) (rest := []) (v := (some (.int 0))) (h1 := (hG σ sr ln Lc μ)) rfl rfl rfl (sp_X8_isMissing_1n (σ := σ) (μ := μ) d h) ?_
  refine am_g 5 (if (σ 54 0) = k then 55 else 52) [some (.ref 14), some (.int 1), some (.int k), some (.int a), some (.int n), some (.ref 41), none] [] (hG σ sr ln Lc μ) rfl ?_
  rw [if_neg (show ¬ (σ 54 0) = k from hx)]
  refine am_g 1 54 [some (.ref 14), some (.int 1), some (.int k), some (.int a), some (.int n), some (.ref 41), none] [.int (-13)] (hG σ sr ln Lc μ) rfl ?_
  exact am_ret2 rfl rfl rfl rfl rfl
theorem sp_X11_taped_1o (d : Nat) (k a n : Int32) (hs3 : am_in k 3 = true) (hn21 : am_in n 21 = true) (h : ¬ σ 54 0 = -1) (hx : σ 54 0 = k) {z : Nat} (hz : σ 55 0 = nI z) (hz40 : z ≤ 40) (hn0 : ¬ n ≤ 0) (hc : pu_cv z a n = false) : am_X xs LL (d + 2) 120 [.ref 14, .int 1, .int k, .int a, .int n] (hG σ sr ln Lc μ) (some (.int (-12))) (hG σ sr ln Lc μ) := by
  refine am_XR (d := d + 1) (C := cd_X11_taped) (L := [some (.ref 14), some (.int 1), some (.int k), some (.int a), some (.int n), none, none]) rfl rfl rfl rfl ?_
  refine am_g 2 2 [some (.ref 14), some (.int 1), some (.int k), some (.int a), some (.int n), none, none] [.int 1, .ref 14] (hG σ sr ln Lc μ) rfl ?_
  refine am_call (y := 129) (vs := [.ref 14, .int 1]) (rest := []) (v := (some (.ref 41))) (h1 := (hG σ sr ln Lc μ)) rfl rfl rfl (sp_X11_sheetAt_1 (σ := σ) (μ := μ) d) ?_
  refine am_g 6 15 [some (.ref 14), some (.int 1), some (.int k), some (.int a), some (.int n), some (.ref 41), none] [.int 2, .int 0, .int k] (hG σ sr ln Lc μ) rfl ?_
  refine am_call (y := 122) (vs := [.int k, .int 0, .int 2]) (rest := []) (v := (some (.int 1))) (h1 := (hG σ sr ln Lc μ)) rfl rfl rfl (sp_X11_isWithin_b d _ _ _ _ ((am_wi (by decide)).trans hs3)) ?_
  refine am_g 4 26 [some (.ref 14), some (.int 1), some (.int k), some (.int a), some (.int n), some (.ref 41), none] [.int 20, .int 0, .int n] (hG σ sr ln Lc μ) rfl ?_
  refine am_call (y := 122) (vs := [.int n, .int 0, .int 20]) (rest := []) (v := (some (.int 1))) (h1 := (hG σ sr ln Lc μ)) rfl rfl rfl (sp_X11_isWithin_b d _ _ _ _ ((am_wi (n := 21) (by decide)).trans hn21)) ?_
  refine am_g 2 37 [some (.ref 14), some (.int 1), some (.int k), some (.int a), some (.int n), some (.ref 41), none] [.ref 41] (hG σ sr ln Lc μ) rfl ?_
  refine am_call (y := 64) (vs := [.ref 41]) (rest := []) (v := (some (.int 0))) (h1 := (hG σ sr ln Lc μ)) rfl rfl rfl (sp_X8_isMissing_1n (σ := σ) (μ := μ) d h) ?_
  refine am_g 5 (if (σ 54 0) = k then 55 else 52) [some (.ref 14), some (.int 1), some (.int k), some (.int a), some (.int n), some (.ref 41), none] [] (hG σ sr ln Lc μ) rfl ?_
  rw [if_pos (show (σ 54 0) = k from hx)]
  refine am_g 1 57 [some (.ref 14), some (.int 1), some (.int k), some (.int a), some (.int n), some (.ref 41), none] [.ref 41] (hG σ sr ln Lc μ) rfl ?_
  refine am_call (y := 64) (vs := [.ref 41]) (rest := []) (v := (some (.int 0))) (h1 := (hG σ sr ln Lc μ)) rfl rfl rfl (sp_X8_isMissing_1n (σ := σ) (μ := μ) d h) ?_
  refine am_g 3 (if n ≤ 0 then 85 else 71) [some (.ref 14), some (.int 1), some (.int k), some (.int a), some (.int n), some (.ref 41), none] [] (hG σ sr ln Lc μ) rfl ?_
  rw [if_neg (show ¬ n ≤ 0 from hn0)]
  refine am_g 3 76 [some (.ref 14), some (.int 1), some (.int k), some (.int a), some (.int n), some (.ref 41), none] [.int n, .int a, .ref 41] (hG σ sr ln Lc μ) rfl ?_
  refine am_call (y := 66) (vs := [.ref 41, .int a, .int n]) (rest := []) (v := (some (.int 0))) (h1 := (hG σ sr ln Lc μ)) rfl rfl rfl (sp_X8_covers_1 (σ := σ) (μ := μ) d hz (by omega) _ _ hc) ?_
  refine am_g 2 84 [some (.ref 14), some (.int 1), some (.int k), some (.int a), some (.int n), some (.ref 41), none] [.int (-12)] (hG σ sr ln Lc μ) rfl ?_
  exact am_ret2 rfl rfl rfl rfl rfl
theorem sp_X11_taped_1f0 (d : Nat) (k a : Int32) (n : Nat) (hs3 : am_in k 3 = true) (hn21 : am_in (nI n) 21 = true) (hn20 : n ≤ 20) (h : ¬ σ 54 0 = -1) (hx : σ 54 0 = k) {z : Nat} (hz : σ 55 0 = nI z) (hz40 : z ≤ 40) (hn0 : ¬ nI n ≤ 0) (hc : pu_cv z a (nI n) = true) {T : Nat} (hT : σ 8 0 = nI T) (hT20 : T ≤ 20) (hr : 20 < T + n) : am_X xs LL (d + 2) 120 [.ref 14, .int 1, .int k, .int a, .int (nI n)] (hG σ sr ln Lc μ) (some (.int (-4))) (hG σ sr ln Lc μ) := by
  refine am_XR (d := d + 1) (C := cd_X11_taped) (L := [some (.ref 14), some (.int 1), some (.int k), some (.int a), some (.int (nI n)), none, none]) rfl rfl rfl rfl ?_
  refine am_g 2 2 [some (.ref 14), some (.int 1), some (.int k), some (.int a), some (.int (nI n)), none, none] [.int 1, .ref 14] (hG σ sr ln Lc μ) rfl ?_
  refine am_call (y := 129) (vs := [.ref 14, .int 1]) (rest := []) (v := (some (.ref 41))) (h1 := (hG σ sr ln Lc μ)) rfl rfl rfl (sp_X11_sheetAt_1 (σ := σ) (μ := μ) d) ?_
  refine am_g 6 15 [some (.ref 14), some (.int 1), some (.int k), some (.int a), some (.int (nI n)), some (.ref 41), none] [.int 2, .int 0, .int k] (hG σ sr ln Lc μ) rfl ?_
  refine am_call (y := 122) (vs := [.int k, .int 0, .int 2]) (rest := []) (v := (some (.int 1))) (h1 := (hG σ sr ln Lc μ)) rfl rfl rfl (sp_X11_isWithin_b d _ _ _ _ ((am_wi (by decide)).trans hs3)) ?_
  refine am_g 4 26 [some (.ref 14), some (.int 1), some (.int k), some (.int a), some (.int (nI n)), some (.ref 41), none] [.int 20, .int 0, .int (nI n)] (hG σ sr ln Lc μ) rfl ?_
  refine am_call (y := 122) (vs := [.int (nI n), .int 0, .int 20]) (rest := []) (v := (some (.int 1))) (h1 := (hG σ sr ln Lc μ)) rfl rfl rfl (sp_X11_isWithin_b d _ _ _ _ ((am_wi (n := 21) (by decide)).trans hn21)) ?_
  refine am_g 2 37 [some (.ref 14), some (.int 1), some (.int k), some (.int a), some (.int (nI n)), some (.ref 41), none] [.ref 41] (hG σ sr ln Lc μ) rfl ?_
  refine am_call (y := 64) (vs := [.ref 41]) (rest := []) (v := (some (.int 0))) (h1 := (hG σ sr ln Lc μ)) rfl rfl rfl (sp_X8_isMissing_1n (σ := σ) (μ := μ) d h) ?_
  refine am_g 5 (if (σ 54 0) = k then 55 else 52) [some (.ref 14), some (.int 1), some (.int k), some (.int a), some (.int (nI n)), some (.ref 41), none] [] (hG σ sr ln Lc μ) rfl ?_
  rw [if_pos (show (σ 54 0) = k from hx)]
  refine am_g 1 57 [some (.ref 14), some (.int 1), some (.int k), some (.int a), some (.int (nI n)), some (.ref 41), none] [.ref 41] (hG σ sr ln Lc μ) rfl ?_
  refine am_call (y := 64) (vs := [.ref 41]) (rest := []) (v := (some (.int 0))) (h1 := (hG σ sr ln Lc μ)) rfl rfl rfl (sp_X8_isMissing_1n (σ := σ) (μ := μ) d h) ?_
  refine am_g 3 (if (nI n) ≤ 0 then 85 else 71) [some (.ref 14), some (.int 1), some (.int k), some (.int a), some (.int (nI n)), some (.ref 41), none] [] (hG σ sr ln Lc μ) rfl ?_
  rw [if_neg (show ¬ (nI n) ≤ 0 from hn0)]
  refine am_g 3 76 [some (.ref 14), some (.int 1), some (.int k), some (.int a), some (.int (nI n)), some (.ref 41), none] [.int (nI n), .int a, .ref 41] (hG σ sr ln Lc μ) rfl ?_
  refine am_call (y := 66) (vs := [.ref 41, .int a, .int (nI n)]) (rest := []) (v := (some (.int 1))) (h1 := (hG σ sr ln Lc μ)) rfl rfl rfl (sp_X8_covers_1 (σ := σ) (μ := μ) d hz (by omega) _ _ hc) ?_
  refine am_g 4 91 [some (.ref 14), some (.int 1), some (.int k), some (.int a), some (.int (nI n)), some (.ref 41), none] [.int (nI n), .ref 20] (hG σ sr ln Lc μ) rfl ?_
  refine am_call (y := 70) (vs := [.ref 20, .int (nI n)]) (rest := []) (v := (some (.int 0))) (h1 := (hG σ sr ln Lc μ)) rfl rfl rfl (sp_X9_hasRoom_n (σ := σ) (μ := μ) d hT hT20 _ hn20 hr) ?_
  refine am_g 2 99 [some (.ref 14), some (.int 1), some (.int k), some (.int a), some (.int (nI n)), some (.ref 41), none] [.int (-4)] (hG σ sr ln Lc μ) rfl ?_
  exact am_ret2 rfl rfl rfl rfl rfl
theorem sp_X11_taped_1f1 (d : Nat) (k a : Int32) (n : Nat) (hs3 : am_in k 3 = true) (hn21 : am_in (nI n) 21 = true) (hn20 : n ≤ 20) (h : ¬ σ 54 0 = -1) (hx : σ 54 0 = k) {z : Nat} (hz : σ 55 0 = nI z) (hz40 : z ≤ 40) (hn0 : nI n ≤ 0) {T : Nat} (hT : σ 8 0 = nI T) (hT20 : T ≤ 20) (hr : 20 < T + n) : am_X xs LL (d + 2) 120 [.ref 14, .int 1, .int k, .int a, .int (nI n)] (hG σ sr ln Lc μ) (some (.int (-4))) (hG σ sr ln Lc μ) := by
  refine am_XR (d := d + 1) (C := cd_X11_taped) (L := [some (.ref 14), some (.int 1), some (.int k), some (.int a), some (.int (nI n)), none, none]) rfl rfl rfl rfl ?_
  refine am_g 2 2 [some (.ref 14), some (.int 1), some (.int k), some (.int a), some (.int (nI n)), none, none] [.int 1, .ref 14] (hG σ sr ln Lc μ) rfl ?_
  refine am_call (y := 129) (vs := [.ref 14, .int 1]) (rest := []) (v := (some (.ref 41))) (h1 := (hG σ sr ln Lc μ)) rfl rfl rfl (sp_X11_sheetAt_1 (σ := σ) (μ := μ) d) ?_
  refine am_g 6 15 [some (.ref 14), some (.int 1), some (.int k), some (.int a), some (.int (nI n)), some (.ref 41), none] [.int 2, .int 0, .int k] (hG σ sr ln Lc μ) rfl ?_
  refine am_call (y := 122) (vs := [.int k, .int 0, .int 2]) (rest := []) (v := (some (.int 1))) (h1 := (hG σ sr ln Lc μ)) rfl rfl rfl (sp_X11_isWithin_b d _ _ _ _ ((am_wi (by decide)).trans hs3)) ?_
  refine am_g 4 26 [some (.ref 14), some (.int 1), some (.int k), some (.int a), some (.int (nI n)), some (.ref 41), none] [.int 20, .int 0, .int (nI n)] (hG σ sr ln Lc μ) rfl ?_
  refine am_call (y := 122) (vs := [.int (nI n), .int 0, .int 20]) (rest := []) (v := (some (.int 1))) (h1 := (hG σ sr ln Lc μ)) rfl rfl rfl (sp_X11_isWithin_b d _ _ _ _ ((am_wi (n := 21) (by decide)).trans hn21)) ?_
  refine am_g 2 37 [some (.ref 14), some (.int 1), some (.int k), some (.int a), some (.int (nI n)), some (.ref 41), none] [.ref 41] (hG σ sr ln Lc μ) rfl ?_
  refine am_call (y := 64) (vs := [.ref 41]) (rest := []) (v := (some (.int 0))) (h1 := (hG σ sr ln Lc μ)) rfl rfl rfl (sp_X8_isMissing_1n (σ := σ) (μ := μ) d h) ?_
  refine am_g 5 (if (σ 54 0) = k then 55 else 52) [some (.ref 14), some (.int 1), some (.int k), some (.int a), some (.int (nI n)), some (.ref 41), none] [] (hG σ sr ln Lc μ) rfl ?_
  rw [if_pos (show (σ 54 0) = k from hx)]
  refine am_g 1 57 [some (.ref 14), some (.int 1), some (.int k), some (.int a), some (.int (nI n)), some (.ref 41), none] [.ref 41] (hG σ sr ln Lc μ) rfl ?_
  refine am_call (y := 64) (vs := [.ref 41]) (rest := []) (v := (some (.int 0))) (h1 := (hG σ sr ln Lc μ)) rfl rfl rfl (sp_X8_isMissing_1n (σ := σ) (μ := μ) d h) ?_
  refine am_g 3 (if (nI n) ≤ 0 then 85 else 71) [some (.ref 14), some (.int 1), some (.int k), some (.int a), some (.int (nI n)), some (.ref 41), none] [] (hG σ sr ln Lc μ) rfl ?_
  rw [if_pos (show (nI n) ≤ 0 from hn0)]
  refine am_g 3 91 [some (.ref 14), some (.int 1), some (.int k), some (.int a), some (.int (nI n)), some (.ref 41), none] [.int (nI n), .ref 20] (hG σ sr ln Lc μ) rfl ?_
  refine am_call (y := 70) (vs := [.ref 20, .int (nI n)]) (rest := []) (v := (some (.int 0))) (h1 := (hG σ sr ln Lc μ)) rfl rfl rfl (sp_X9_hasRoom_n (σ := σ) (μ := μ) d hT hT20 _ hn20 hr) ?_
  refine am_g 2 99 [some (.ref 14), some (.int 1), some (.int k), some (.int a), some (.int (nI n)), some (.ref 41), none] [.int (-4)] (hG σ sr ln Lc μ) rfl ?_
  exact am_ret2 rfl rfl rfl rfl rfl
theorem sp_X11_taped_1z (d : Nat) (k a : Int32) (hs3 : am_in k 3 = true) (h : ¬ σ 54 0 = -1) (hx : σ 54 0 = k) {z : Nat} (hz : σ 55 0 = nI z) (hz40 : z ≤ 40) {T : Nat} (hT : σ 8 0 = nI T) (hT20 : T ≤ 20) : am_X xs LL (d + 2) 120 [.ref 14, .int 1, .int k, .int a, .int 0] (hG σ sr ln Lc μ) (some (.int (σ 8 0))) (hG σ sr ln Lc μ) := by
  refine am_XR (d := d + 1) (C := cd_X11_taped) (L := [some (.ref 14), some (.int 1), some (.int k), some (.int a), some (.int 0), none, none]) rfl rfl rfl rfl ?_
  refine am_g 2 2 [some (.ref 14), some (.int 1), some (.int k), some (.int a), some (.int 0), none, none] [.int 1, .ref 14] (hG σ sr ln Lc μ) rfl ?_
  refine am_call (y := 129) (vs := [.ref 14, .int 1]) (rest := []) (v := (some (.ref 41))) (h1 := (hG σ sr ln Lc μ)) rfl rfl rfl (sp_X11_sheetAt_1 (σ := σ) (μ := μ) d) ?_
  refine am_g 6 15 [some (.ref 14), some (.int 1), some (.int k), some (.int a), some (.int 0), some (.ref 41), none] [.int 2, .int 0, .int k] (hG σ sr ln Lc μ) rfl ?_
  refine am_call (y := 122) (vs := [.int k, .int 0, .int 2]) (rest := []) (v := (some (.int 1))) (h1 := (hG σ sr ln Lc μ)) rfl rfl rfl (sp_X11_isWithin_b d _ _ _ _ ((am_wi (by decide)).trans hs3)) ?_
  refine am_g 4 26 [some (.ref 14), some (.int 1), some (.int k), some (.int a), some (.int 0), some (.ref 41), none] [.int 20, .int 0, .int 0] (hG σ sr ln Lc μ) rfl ?_
  refine am_call (y := 122) (vs := [.int 0, .int 0, .int 20]) (rest := []) (v := (some (.int 1))) (h1 := (hG σ sr ln Lc μ)) rfl rfl rfl (sp_X11_isWithin_b d _ _ _ _ (show decide ((0 : Int32) ≤ 0 ∧ (0 : Int32) ≤ 20) = true from by decide)) ?_
  refine am_g 2 37 [some (.ref 14), some (.int 1), some (.int k), some (.int a), some (.int 0), some (.ref 41), none] [.ref 41] (hG σ sr ln Lc μ) rfl ?_
  refine am_call (y := 64) (vs := [.ref 41]) (rest := []) (v := (some (.int 0))) (h1 := (hG σ sr ln Lc μ)) rfl rfl rfl (sp_X8_isMissing_1n (σ := σ) (μ := μ) d h) ?_
  refine am_g 5 (if (σ 54 0) = k then 55 else 52) [some (.ref 14), some (.int 1), some (.int k), some (.int a), some (.int 0), some (.ref 41), none] [] (hG σ sr ln Lc μ) rfl ?_
  rw [if_pos (show (σ 54 0) = k from hx)]
  refine am_g 1 57 [some (.ref 14), some (.int 1), some (.int k), some (.int a), some (.int 0), some (.ref 41), none] [.ref 41] (hG σ sr ln Lc μ) rfl ?_
  refine am_call (y := 64) (vs := [.ref 41]) (rest := []) (v := (some (.int 0))) (h1 := (hG σ sr ln Lc μ)) rfl rfl rfl (sp_X8_isMissing_1n (σ := σ) (μ := μ) d h) ?_
  refine am_g 6 91 [some (.ref 14), some (.int 1), some (.int k), some (.int a), some (.int 0), some (.ref 41), none] [.int 0, .ref 20] (hG σ sr ln Lc μ) rfl ?_
  refine am_call (y := 70) (vs := [.ref 20, .int 0]) (rest := []) (v := (some (.int 1))) (h1 := (hG σ sr ln Lc μ)) rfl rfl rfl (sp_X9_hasRoom_y (σ := σ) (μ := μ) d hT hT20 _ hT20) ?_
  refine am_g 9 139 [some (.ref 14), some (.int 1), some (.int k), some (.int a), some (.int 0), some (.ref 41), some (.int 0)] [.int (σ 8 0)] (hG σ sr ln Lc μ) rfl ?_
  exact am_ret2 rfl rfl rfl rfl rfl
theorem sp_X11_taped_1q (d : Nat) (k : Int32) (a n : Nat) (hs3 : am_in k 3 = true) (hn21 : am_in (nI n) 21 = true) (hn0 : ¬ nI n ≤ 0) (h : ¬ σ 54 0 = -1) (hx : σ 54 0 = k) {z : Nat} (hz : σ 55 0 = nI z) (hz40 : z ≤ 40) (han : a + n ≤ z) (hc : pu_cv z (nI a) (nI n) = true) {T : Nat} (hT : σ 8 0 = nI T) (hT20 : T ≤ 20) (hr : T + n ≤ 20) : am_X xs LL (d + 2) 120 [.ref 14, .int 1, .int k, .int (nI a), .int (nI n)] (hG σ sr ln Lc μ) (some (.int (nI (T + n)))) (hG (am_us (am_up σ 7 (am_fill (fun k => (σ 53 (a + (k - T))) &&& 255) (σ 7) (T + n) T)) 8 (nI (T + n))) sr ln Lc μ) := by
  refine am_XR (d := d + 1) (C := cd_X11_taped) (L := [some (.ref 14), some (.int 1), some (.int k), some (.int (nI a)), some (.int (nI n)), none, none]) rfl rfl rfl rfl ?_
  refine am_g 2 2 [some (.ref 14), some (.int 1), some (.int k), some (.int (nI a)), some (.int (nI n)), none, none] [.int 1, .ref 14] (hG σ sr ln Lc μ) rfl ?_
  refine am_call (y := 129) (vs := [.ref 14, .int 1]) (rest := []) (v := (some (.ref 41))) (h1 := (hG σ sr ln Lc μ)) rfl rfl rfl (sp_X11_sheetAt_1 (σ := σ) (μ := μ) d) ?_
  refine am_g 6 15 [some (.ref 14), some (.int 1), some (.int k), some (.int (nI a)), some (.int (nI n)), some (.ref 41), none] [.int 2, .int 0, .int k] (hG σ sr ln Lc μ) rfl ?_
  refine am_call (y := 122) (vs := [.int k, .int 0, .int 2]) (rest := []) (v := (some (.int 1))) (h1 := (hG σ sr ln Lc μ)) rfl rfl rfl (sp_X11_isWithin_b d _ _ _ _ ((am_wi (by decide)).trans hs3)) ?_
  refine am_g 4 26 [some (.ref 14), some (.int 1), some (.int k), some (.int (nI a)), some (.int (nI n)), some (.ref 41), none] [.int 20, .int 0, .int (nI n)] (hG σ sr ln Lc μ) rfl ?_
  refine am_call (y := 122) (vs := [.int (nI n), .int 0, .int 20]) (rest := []) (v := (some (.int 1))) (h1 := (hG σ sr ln Lc μ)) rfl rfl rfl (sp_X11_isWithin_b d _ _ _ _ ((am_wi (n := 21) (by decide)).trans hn21)) ?_
  refine am_g 2 37 [some (.ref 14), some (.int 1), some (.int k), some (.int (nI a)), some (.int (nI n)), some (.ref 41), none] [.ref 41] (hG σ sr ln Lc μ) rfl ?_
  refine am_call (y := 64) (vs := [.ref 41]) (rest := []) (v := (some (.int 0))) (h1 := (hG σ sr ln Lc μ)) rfl rfl rfl (sp_X8_isMissing_1n (σ := σ) (μ := μ) d h) ?_
  refine am_g 5 (if (σ 54 0) = k then 55 else 52) [some (.ref 14), some (.int 1), some (.int k), some (.int (nI a)), some (.int (nI n)), some (.ref 41), none] [] (hG σ sr ln Lc μ) rfl ?_
  rw [if_pos (show (σ 54 0) = k from hx)]
  refine am_g 1 57 [some (.ref 14), some (.int 1), some (.int k), some (.int (nI a)), some (.int (nI n)), some (.ref 41), none] [.ref 41] (hG σ sr ln Lc μ) rfl ?_
  refine am_call (y := 64) (vs := [.ref 41]) (rest := []) (v := (some (.int 0))) (h1 := (hG σ sr ln Lc μ)) rfl rfl rfl (sp_X8_isMissing_1n (σ := σ) (μ := μ) d h) ?_
  refine am_g 3 (if (nI n) ≤ 0 then 85 else 71) [some (.ref 14), some (.int 1), some (.int k), some (.int (nI a)), some (.int (nI n)), some (.ref 41), none] [] (hG σ sr ln Lc μ) rfl ?_
  rw [if_neg (show ¬ (nI n) ≤ 0 from hn0)]
  refine am_g 3 76 [some (.ref 14), some (.int 1), some (.int k), some (.int (nI a)), some (.int (nI n)), some (.ref 41), none] [.int (nI n), .int (nI a), .ref 41] (hG σ sr ln Lc μ) rfl ?_
  refine am_call (y := 66) (vs := [.ref 41, .int (nI a), .int (nI n)]) (rest := []) (v := (some (.int 1))) (h1 := (hG σ sr ln Lc μ)) rfl rfl rfl (sp_X8_covers_1 (σ := σ) (μ := μ) d hz (by omega) _ _ hc) ?_
  refine am_g 4 91 [some (.ref 14), some (.int 1), some (.int k), some (.int (nI a)), some (.int (nI n)), some (.ref 41), none] [.int (nI n), .ref 20] (hG σ sr ln Lc μ) rfl ?_
  refine am_call (y := 70) (vs := [.ref 20, .int (nI n)]) (rest := []) (v := (some (.int 1))) (h1 := (hG σ sr ln Lc μ)) rfl rfl rfl (sp_X9_hasRoom_y (σ := σ) (μ := μ) d hT hT20 _ hr) ?_
  refine am_g 3 103 [some (.ref 14), some (.int 1), some (.int k), some (.int (nI a)), some (.int (nI n)), some (.ref 41), some (.int 0)] [] (hG σ sr ln Lc μ) rfl ?_
  have lp : ∀ (r i : Nat), i + r = n → am_R xs LL cd_X11_taped (am_X xs LL (d + 1)) 103 [some (.ref 14), some (.int 1), some (.int k), some (.int (nI a)), some (.int (nI n)), some (.ref 41), some (.int (nI i))] [] (hG (am_us (am_up σ 7 (am_fill (fun k => (σ 53 (a + (k - T))) &&& 255) (σ 7) (T + i) T)) 8 (nI (T + i))) sr ln Lc μ) (some (.int (nI (T + n)))) (hG (am_us (am_up σ 7 (am_fill (fun k => (σ 53 (a + (k - T))) &&& 255) (σ 7) (T + n) T)) 8 (nI (T + n))) sr ln Lc μ) := by
    intro r
    induction r with
    | zero =>
      intro i  hi
      have hi2 : i = n := by omega
      rw [hi2]
      refine am_g 3 (if (nI n) ≤ (nI n) then 132 else 110) [some (.ref 14), some (.int 1), some (.int k), some (.int (nI a)), some (.int (nI n)), some (.ref 41), some (.int (nI n))] [] (hG (am_us (am_up σ 7 (am_fill (fun k => (σ 53 (a + (k - T))) &&& 255) (σ 7) (T + n) T)) 8 (nI (T + n))) sr ln Lc μ) rfl ?_
      rw [if_pos (show (nI n) ≤ (nI n) from (am_dle (a := n) (b := n) (rfl) (rfl) (by omega) (by omega) (by omega)))]
      refine am_g 3 139 [some (.ref 14), some (.int 1), some (.int k), some (.int (nI a)), some (.int (nI n)), some (.ref 41), some (.int (nI n))] [.int (nI (T + n))] (hG (am_us (am_up σ 7 (am_fill (fun k => (σ 53 (a + (k - T))) &&& 255) (σ 7) (T + n) T)) 8 (nI (T + n))) sr ln Lc μ) rfl ?_
      exact am_ret2 rfl rfl rfl rfl rfl
    | succ r ih =>
      intro i  hi
      have hi2 : i < n := by omega
      refine am_g 3 (if (nI n) ≤ (nI i) then 132 else 110) [some (.ref 14), some (.int 1), some (.int k), some (.int (nI a)), some (.int (nI n)), some (.ref 41), some (.int (nI i))] [] (hG (am_us (am_up σ 7 (am_fill (fun k => (σ 53 (a + (k - T))) &&& 255) (σ 7) (T + i) T)) 8 (nI (T + i))) sr ln Lc μ) rfl ?_
      rw [if_neg (show ¬ (nI n) ≤ (nI i) from (am_dnle (a := n) (b := i) (rfl) (rfl) (by omega) (by omega) (by omega)))]
      refine am_g 6 120 [some (.ref 14), some (.int 1), some (.int k), some (.int (nI a)), some (.int (nI n)), some (.ref 41), some (.int (nI i))] [.int ((nI a) + (nI i)), .ref 41, .ref 20] (hG (am_us (am_up σ 7 (am_fill (fun k => (σ 53 (a + (k - T))) &&& 255) (σ 7) (T + i) T)) 8 (nI (T + i))) sr ln Lc μ) rfl ?_
      refine am_call (y := 67) (vs := [.ref 41, .int ((nI a) + (nI i))]) (rest := [.ref 20]) (v := (some (.int (σ 53 (a + i))))) (h1 := (hG (am_us (am_up σ 7 (am_fill (fun k => (σ 53 (a + (k - T))) &&& 255) (σ 7) (T + i) T)) 8 (nI (T + i))) sr ln Lc μ)) rfl rfl rfl ((by rw [show ((nI a) + (nI i)) = nI (a + i) from nI_add a i]; exact sp_X8_itemAt_1 (σ := (am_us (am_up σ 7 (am_fill (fun k => (σ 53 (a + (k - T))) &&& 255) (σ 7) (T + i) T)) 8 (nI (T + i)))) (μ := μ) d hz (by omega) (a + i) (by omega))) ?_
      refine am_call (y := 71) (vs := [.ref 20, .int (σ 53 (a + i))]) (rest := []) (v := none) (h1 := (hG (am_us (am_up σ 7 (upd (am_fill (fun k => (σ 53 (a + (k - T))) &&& 255) (σ 7) (T + i) T) (T + i) ((σ 53 (a + i)) &&& 255))) 8 (nI ((T + i) + 1))) sr ln Lc μ)) rfl rfl rfl (sp_X9_push (σ := (am_us (am_up σ 7 (am_fill (fun k => (σ 53 (a + (k - T))) &&& 255) (σ 7) (T + i) T)) 8 (nI (T + i)))) (μ := μ) d (T := T + i) rfl (by omega) _) ?_
      refine am_g 2 103 [some (.ref 14), some (.int 1), some (.int k), some (.int (nI a)), some (.int (nI n)), some (.ref 41), some (.int ((nI i) + 1))] [] (hG (am_us (am_up σ 7 (upd (am_fill (fun k => (σ 53 (a + (k - T))) &&& 255) (σ 7) (T + i) T) (T + i) ((σ 53 (a + i)) &&& 255))) 8 (nI ((T + i) + 1))) sr ln Lc μ) rfl ?_
      rw [nI_up, show upd (am_fill (fun k => (σ 53 (a + (k - T))) &&& 255) (σ 7) (T + i) T) (T + i) ((σ 53 (a + i)) &&& 255) = (am_fill (fun k => (σ 53 (a + (k - T))) &&& 255) (σ 7) (T + (i + 1)) T) from (pu_fillT (g := fun k => (σ 53 (a + (k - T))) &&& 255) (f := σ 7) T i (by show _ = (σ 53 (a + (T + i - T))) &&& 255; rw [Nat.add_sub_cancel_left]))]
      exact ih (i + 1) (by omega)
  have e := lp n 0 (by omega)
  rw [show T + 0 = T from rfl, pu_fillTT, ← hT, am_up_id, am_us_id] at e
  exact e
theorem sp_X11_sheetAt_2 (d : Nat)  : am_X xs LL (d + 1) 129 [.ref 14, .int 2] (hG σ sr ln Lc μ) (some (.ref 43)) (hG σ sr ln Lc μ) := by
  refine am_XR (d := d + 0) (C := cd_X11_sheetAt) (L := [some (.ref 14), some (.int 2)]) rfl rfl rfl rfl ?_
  refine am_g 10 18 [some (.ref 14), some (.int 2)] [.int 2, .ref 38] (hG σ sr ln Lc μ) rfl ?_
  refine am_aaldR (n := 4) (t := 3) (f := fun j => if j < 4 then some (39 + 2 * j) else none) (k := 2) rfl rfl (Or.inr rfl) (rfl) (by decide) (by decide) ?_
  refine am_g 1 23 [some (.ref 14), some (.int 2)] [.ref 43] (hG σ sr ln Lc μ) rfl ?_
  exact am_ret2 rfl rfl rfl rfl rfl
theorem sp_X8_isMissing_2y (d : Nat) (h : σ 57 0 = -1) : am_X xs LL (d + 1) 64 [.ref 43] (hG σ sr ln Lc μ) (some (.int 1)) (hG σ sr ln Lc μ) := by
  refine am_XR (d := d + 0) (C := cd_X8_isMissing) (L := [some (.ref 43)]) rfl rfl rfl rfl ?_
  refine am_g 4 (if (σ 57 0) = (-1) then 8 else 12) [some (.ref 43)] [] (hG σ sr ln Lc μ) rfl ?_
  rw [if_pos (show (σ 57 0) = (-1) from h)]
  refine am_g 2 13 [some (.ref 43)] [.int 1] (hG σ sr ln Lc μ) rfl ?_
  exact am_ret2 rfl rfl rfl rfl rfl
theorem sp_X8_isMissing_2n (d : Nat) (h : ¬ σ 57 0 = -1) : am_X xs LL (d + 1) 64 [.ref 43] (hG σ sr ln Lc μ) (some (.int 0)) (hG σ sr ln Lc μ) := by
  refine am_XR (d := d + 0) (C := cd_X8_isMissing) (L := [some (.ref 43)]) rfl rfl rfl rfl ?_
  refine am_g 4 (if (σ 57 0) = (-1) then 8 else 12) [some (.ref 43)] [] (hG σ sr ln Lc μ) rfl ?_
  rw [if_neg (show ¬ (σ 57 0) = (-1) from h)]
  refine am_g 1 13 [some (.ref 43)] [.int 0] (hG σ sr ln Lc μ) rfl ?_
  exact am_ret2 rfl rfl rfl rfl rfl
theorem sp_X8_covers_2 (d : Nat) {z : Nat} (hz : σ 58 0 = nI z) (hz40 : z ≤ 40) (a n : Int32) {w : Bool} (eb : pu_cv z a n = w) : am_X xs LL (d + 1) 66 [.ref 43, .int a, .int n] (hG σ sr ln Lc μ) (some (.int (am_b2 w))) (hG σ sr ln Lc μ) := by
  refine am_XR (d := d + 0) (C := cd_X8_covers) (L := [some (.ref 43), some (.int a), some (.int n)]) rfl rfl rfl rfl ?_
  refine am_g 2 (if a < 0 then 30 else 4) [some (.ref 43), some (.int a), some (.int n)] [] (hG σ sr ln Lc μ) rfl (am_brR (fun c1 => ?_) (fun c1 => ?_))
  · skip
    refine am_g 1 31 [some (.ref 43), some (.int a), some (.int n)] [.int 0] (hG σ sr ln Lc μ) rfl ?_
    exact am_ret2 rfl rfl rfl (am_b2N eb (fun q => absurd c1 (Int32.not_lt.mpr q.1))) rfl
  · skip
    refine am_g 2 (if n < 0 then 30 else 8) [some (.ref 43), some (.int a), some (.int n)] [] (hG σ sr ln Lc μ) rfl (am_brR (fun c2 => ?_) (fun c2 => ?_))
    · skip
      refine am_g 1 31 [some (.ref 43), some (.int a), some (.int n)] [.int 0] (hG σ sr ln Lc μ) rfl ?_
      exact am_ret2 rfl rfl rfl (am_b2N eb (fun q => absurd c2 (Int32.not_lt.mpr q.2.1))) rfl
    · skip
      refine am_g 3 13 [some (.ref 43), some (.int a), some (.int n)] [.int (σ 58 0), .int a] (hG σ sr ln Lc μ) rfl ?_
      rw [show (σ 58 0) = (nI z) from hz]
      refine am_g 1 (if (nI z) < a then 30 else 16) [some (.ref 43), some (.int a), some (.int n)] [] (hG σ sr ln Lc μ) rfl (am_brR (fun c3 => ?_) (fun c3 => ?_))
      · skip
        refine am_g 1 31 [some (.ref 43), some (.int a), some (.int n)] [.int 0] (hG σ sr ln Lc μ) rfl ?_
        exact am_ret2 rfl rfl rfl (am_b2N eb (fun q => absurd c3 (Int32.not_lt.mpr q.2.2.1))) rfl
      · skip
        refine am_g 3 21 [some (.ref 43), some (.int a), some (.int n)] [.int (σ 58 0), .int n] (hG σ sr ln Lc μ) rfl ?_
        rw [show (σ 58 0) = (nI z) from hz]
        refine am_g 3 (if ((nI z) - a) < n then 30 else 26) [some (.ref 43), some (.int a), some (.int n)] [] (hG σ sr ln Lc μ) rfl (am_brR (fun c4 => ?_) (fun c4 => ?_))
        · skip
          refine am_g 1 31 [some (.ref 43), some (.int a), some (.int n)] [.int 0] (hG σ sr ln Lc μ) rfl ?_
          exact am_ret2 rfl rfl rfl (am_b2N eb (fun q => absurd c4 (Int32.not_lt.mpr q.2.2.2))) rfl
        · skip
          refine am_g 2 31 [some (.ref 43), some (.int a), some (.int n)] [.int 1] (hG σ sr ln Lc μ) rfl ?_
          exact am_ret2 rfl rfl rfl (am_b2Y eb ⟨Int32.not_lt.mp c1, Int32.not_lt.mp c2, Int32.not_lt.mp c3, Int32.not_lt.mp c4⟩) rfl
theorem sp_X8_become_2m (d : Nat) (n : Int32) : am_X xs LL (d + 2) 65 [.ref 43, .int (-1), .int n] (hG σ sr ln Lc μ) none (hG (am_up (am_us (am_us σ 57 (-1)) 58 0) 56 (am_fill (fun _ => 0) (σ 56) 40 0)) sr ln Lc μ) := by
  refine am_XR (d := d + 1) (C := cd_X8_become) (L := [some (.ref 43), some (.int (-1)), some (.int n)]) rfl rfl rfl rfl ?_
  refine am_g 13 24 [some (.ref 43), some (.int (-1)), some (.int n)] [.int 0, .ref 44] (hG (am_us (am_us σ 57 (-1)) 58 0) sr ln Lc μ) rfl ?_
  refine am_call (y := 209) (vs := [.ref 44, .int 0]) (rest := []) (v := none) (h1 := (hG (am_up (am_us (am_us σ 57 (-1)) 58 0) 56 (am_fill (fun _ => 0) (σ 56) 40 0)) sr ln Lc μ)) rfl rfl rfl (sp_fill d _ 44 40 (σ 56) 0 rfl (by decide) rfl) ?_
  exact am_ret2 rfl rfl rfl rfl rfl
theorem sp_X8_become_2q (d : Nat) (k n : Int32) (hk : ¬ k = -1) : am_X xs LL (d + 2) 65 [.ref 43, .int k, .int n] (hG σ sr ln Lc μ) none (hG (am_up (am_us (am_us σ 57 k) 58 n) 56 (am_fill (fun _ => 0) (σ 56) 40 0)) sr ln Lc μ) := by
  refine am_XR (d := d + 1) (C := cd_X8_become) (L := [some (.ref 43), some (.int k), some (.int n)]) rfl rfl rfl rfl ?_
  refine am_g 7 (if k = (-1) then 11 else 15) [some (.ref 43), some (.int k), some (.int n)] [.ref 43] (hG (am_us σ 57 k) sr ln Lc μ) rfl ?_
  rw [if_neg (show ¬ k = (-1) from hk)]
  refine am_g 5 24 [some (.ref 43), some (.int k), some (.int n)] [.int 0, .ref 44] (hG (am_us (am_us σ 57 k) 58 n) sr ln Lc μ) rfl ?_
  refine am_call (y := 209) (vs := [.ref 44, .int 0]) (rest := []) (v := none) (h1 := (hG (am_up (am_us (am_us σ 57 k) 58 n) 56 (am_fill (fun _ => 0) (σ 56) 40 0)) sr ln Lc μ)) rfl rfl rfl (sp_fill d _ 44 40 (σ 56) 0 rfl (by decide) rfl) ?_
  exact am_ret2 rfl rfl rfl rfl rfl
theorem sp_X11_sheet_2m (d : Nat) (n : Int32) : am_X xs LL (d + 3) 117 [.ref 14, .int 2, .int (-1), .int n] (hG σ sr ln Lc μ) (some (.int 1)) (hG (am_up (am_us (am_us σ 57 (-1)) 58 0) 56 (am_fill (fun _ => 0) (σ 56) 40 0)) sr ln Lc μ) := by
  refine am_XR (d := d + 2) (C := cd_X11_sheet) (L := [some (.ref 14), some (.int 2), some (.int (-1)), some (.int n), none]) rfl rfl rfl rfl ?_
  refine am_g 2 2 [some (.ref 14), some (.int 2), some (.int (-1)), some (.int n), none] [.int 2, .ref 14] (hG σ sr ln Lc μ) rfl ?_
  refine am_call (y := 129) (vs := [.ref 14, .int 2]) (rest := []) (v := (some (.ref 43))) (h1 := (hG σ sr ln Lc μ)) rfl rfl rfl (sp_X11_sheetAt_2 (σ := σ) (μ := μ) (d + 1)) ?_
  refine am_g 6 15 [some (.ref 14), some (.int 2), some (.int (-1)), some (.int n), some (.ref 43)] [.int 2, .int (-1), .int (-1)] (hG σ sr ln Lc μ) rfl ?_
  refine am_call (y := 122) (vs := [.int (-1), .int (-1), .int 2]) (rest := []) (v := (some (.int 1))) (h1 := (hG σ sr ln Lc μ)) rfl rfl rfl (sp_X11_isWithin_b (d + 1) _ _ _ _ (show decide ((-1 : Int32) ≤ -1 ∧ (-1 : Int32) ≤ 2) = true from by decide)) ?_
  refine am_g 10 54 [some (.ref 14), some (.int 2), some (.int (-1)), some (.int n), some (.ref 43)] [.int n, .int (-1), .ref 43] (hG σ sr ln Lc μ) rfl ?_
  refine am_call (y := 65) (vs := [.ref 43, .int (-1), .int n]) (rest := []) (v := none) (h1 := (hG (am_up (am_us (am_us σ 57 (-1)) 58 0) 56 (am_fill (fun _ => 0) (σ 56) 40 0)) sr ln Lc μ)) rfl rfl rfl (sp_X8_become_2m d _) ?_
  refine am_g 1 58 [some (.ref 14), some (.int 2), some (.int (-1)), some (.int n), some (.ref 43)] [.int 1] (hG (am_up (am_us (am_us σ 57 (-1)) 58 0) 56 (am_fill (fun _ => 0) (σ 56) 40 0)) sr ln Lc μ) rfl ?_
  exact am_ret2 rfl rfl rfl rfl rfl
theorem sp_X11_sheet_2q (d : Nat) (k n : Int32) (hk3 : am_in1 k 3 = true) (hk : ¬ k = -1) (hn : n ≤ 40) (hn0 : 0 ≤ n) : am_X xs LL (d + 3) 117 [.ref 14, .int 2, .int k, .int n] (hG σ sr ln Lc μ) (some (.int 1)) (hG (am_up (am_us (am_us σ 57 k) 58 n) 56 (am_fill (fun _ => 0) (σ 56) 40 0)) sr ln Lc μ) := by
  refine am_XR (d := d + 2) (C := cd_X11_sheet) (L := [some (.ref 14), some (.int 2), some (.int k), some (.int n), none]) rfl rfl rfl rfl ?_
  refine am_g 2 2 [some (.ref 14), some (.int 2), some (.int k), some (.int n), none] [.int 2, .ref 14] (hG σ sr ln Lc μ) rfl ?_
  refine am_call (y := 129) (vs := [.ref 14, .int 2]) (rest := []) (v := (some (.ref 43))) (h1 := (hG σ sr ln Lc μ)) rfl rfl rfl (sp_X11_sheetAt_2 (σ := σ) (μ := μ) (d + 1)) ?_
  refine am_g 6 15 [some (.ref 14), some (.int 2), some (.int k), some (.int n), some (.ref 43)] [.int 2, .int (-1), .int k] (hG σ sr ln Lc μ) rfl ?_
  refine am_call (y := 122) (vs := [.int k, .int (-1), .int 2]) (rest := []) (v := (some (.int 1))) (h1 := (hG σ sr ln Lc μ)) rfl rfl rfl (sp_X11_isWithin_b (d + 1) _ _ _ _ ((am_wi1 (by decide)).trans hk3)) ?_
  refine am_g 4 (if k = (-1) then 38 else 29) [some (.ref 14), some (.int 2), some (.int k), some (.int n), some (.ref 43)] [] (hG σ sr ln Lc μ) rfl ?_
  rw [if_neg (show ¬ k = (-1) from hk)]
  refine am_g 3 (if n ≤ 40 then 38 else 35) [some (.ref 14), some (.int 2), some (.int k), some (.int n), some (.ref 43)] [] (hG σ sr ln Lc μ) rfl ?_
  rw [if_pos (show n ≤ 40 from hn)]
  refine am_g 3 (if k = (-1) then 50 else 43) [some (.ref 14), some (.int 2), some (.int k), some (.int n), some (.ref 43)] [] (hG σ sr ln Lc μ) rfl ?_
  rw [if_neg (show ¬ k = (-1) from hk)]
  refine am_g 2 (if 0 ≤ n then 50 else 47) [some (.ref 14), some (.int 2), some (.int k), some (.int n), some (.ref 43)] [] (hG σ sr ln Lc μ) rfl ?_
  rw [if_pos (show 0 ≤ n from hn0)]
  refine am_g 3 54 [some (.ref 14), some (.int 2), some (.int k), some (.int n), some (.ref 43)] [.int n, .int k, .ref 43] (hG σ sr ln Lc μ) rfl ?_
  refine am_call (y := 65) (vs := [.ref 43, .int k, .int n]) (rest := []) (v := none) (h1 := (hG (am_up (am_us (am_us σ 57 k) 58 n) 56 (am_fill (fun _ => 0) (σ 56) 40 0)) sr ln Lc μ)) rfl rfl rfl (sp_X8_become_2q d _ _ hk) ?_
  refine am_g 1 58 [some (.ref 14), some (.int 2), some (.int k), some (.int n), some (.ref 43)] [.int 1] (hG (am_up (am_us (am_us σ 57 k) 58 n) 56 (am_fill (fun _ => 0) (σ 56) 40 0)) sr ln Lc μ) rfl ?_
  exact am_ret2 rfl rfl rfl rfl rfl
theorem sp_X11_sheet_2big (d : Nat) (k n : Int32) (hk3 : am_in1 k 3 = true) (hk : ¬ k = -1) (hn : ¬ n ≤ 40) : am_X xs LL (d + 3) 117 [.ref 14, .int 2, .int k, .int n] (hG σ sr ln Lc μ) (some (.int (-2))) (hG σ sr ln Lc μ) := by
  refine am_XR (d := d + 2) (C := cd_X11_sheet) (L := [some (.ref 14), some (.int 2), some (.int k), some (.int n), none]) rfl rfl rfl rfl ?_
  refine am_g 2 2 [some (.ref 14), some (.int 2), some (.int k), some (.int n), none] [.int 2, .ref 14] (hG σ sr ln Lc μ) rfl ?_
  refine am_call (y := 129) (vs := [.ref 14, .int 2]) (rest := []) (v := (some (.ref 43))) (h1 := (hG σ sr ln Lc μ)) rfl rfl rfl (sp_X11_sheetAt_2 (σ := σ) (μ := μ) (d + 1)) ?_
  refine am_g 6 15 [some (.ref 14), some (.int 2), some (.int k), some (.int n), some (.ref 43)] [.int 2, .int (-1), .int k] (hG σ sr ln Lc μ) rfl ?_
  refine am_call (y := 122) (vs := [.int k, .int (-1), .int 2]) (rest := []) (v := (some (.int 1))) (h1 := (hG σ sr ln Lc μ)) rfl rfl rfl (sp_X11_isWithin_b (d + 1) _ _ _ _ ((am_wi1 (by decide)).trans hk3)) ?_
  refine am_g 4 (if k = (-1) then 38 else 29) [some (.ref 14), some (.int 2), some (.int k), some (.int n), some (.ref 43)] [] (hG σ sr ln Lc μ) rfl ?_
  rw [if_neg (show ¬ k = (-1) from hk)]
  refine am_g 3 (if n ≤ 40 then 38 else 35) [some (.ref 14), some (.int 2), some (.int k), some (.int n), some (.ref 43)] [] (hG σ sr ln Lc μ) rfl ?_
  rw [if_neg (show ¬ n ≤ 40 from hn)]
  refine am_g 1 37 [some (.ref 14), some (.int 2), some (.int k), some (.int n), some (.ref 43)] [.int (-2)] (hG σ sr ln Lc μ) rfl ?_
  exact am_ret2 rfl rfl rfl rfl rfl
theorem sp_X11_sheet_2neg (d : Nat) (k n : Int32) (hk3 : am_in1 k 3 = true) (hk : ¬ k = -1) (hn : n ≤ 40) (hn0 : ¬ 0 ≤ n) : am_X xs LL (d + 3) 117 [.ref 14, .int 2, .int k, .int n] (hG σ sr ln Lc μ) (some (.int (-14))) (hG σ sr ln Lc μ) := by
  refine am_XR (d := d + 2) (C := cd_X11_sheet) (L := [some (.ref 14), some (.int 2), some (.int k), some (.int n), none]) rfl rfl rfl rfl ?_
  refine am_g 2 2 [some (.ref 14), some (.int 2), some (.int k), some (.int n), none] [.int 2, .ref 14] (hG σ sr ln Lc μ) rfl ?_
  refine am_call (y := 129) (vs := [.ref 14, .int 2]) (rest := []) (v := (some (.ref 43))) (h1 := (hG σ sr ln Lc μ)) rfl rfl rfl (sp_X11_sheetAt_2 (σ := σ) (μ := μ) (d + 1)) ?_
  refine am_g 6 15 [some (.ref 14), some (.int 2), some (.int k), some (.int n), some (.ref 43)] [.int 2, .int (-1), .int k] (hG σ sr ln Lc μ) rfl ?_
  refine am_call (y := 122) (vs := [.int k, .int (-1), .int 2]) (rest := []) (v := (some (.int 1))) (h1 := (hG σ sr ln Lc μ)) rfl rfl rfl (sp_X11_isWithin_b (d + 1) _ _ _ _ ((am_wi1 (by decide)).trans hk3)) ?_
  refine am_g 4 (if k = (-1) then 38 else 29) [some (.ref 14), some (.int 2), some (.int k), some (.int n), some (.ref 43)] [] (hG σ sr ln Lc μ) rfl ?_
  rw [if_neg (show ¬ k = (-1) from hk)]
  refine am_g 3 (if n ≤ 40 then 38 else 35) [some (.ref 14), some (.int 2), some (.int k), some (.int n), some (.ref 43)] [] (hG σ sr ln Lc μ) rfl ?_
  rw [if_pos (show n ≤ 40 from hn)]
  refine am_g 3 (if k = (-1) then 50 else 43) [some (.ref 14), some (.int 2), some (.int k), some (.int n), some (.ref 43)] [] (hG σ sr ln Lc μ) rfl ?_
  rw [if_neg (show ¬ k = (-1) from hk)]
  refine am_g 2 (if 0 ≤ n then 50 else 47) [some (.ref 14), some (.int 2), some (.int k), some (.int n), some (.ref 43)] [] (hG σ sr ln Lc μ) rfl ?_
  rw [if_neg (show ¬ 0 ≤ n from hn0)]
  refine am_g 1 49 [some (.ref 14), some (.int 2), some (.int k), some (.int n), some (.ref 43)] [.int (-14)] (hG σ sr ln Lc μ) rfl ?_
  exact am_ret2 rfl rfl rfl rfl rfl
theorem sp_X11_sheet_2bad (d : Nat) (k n : Int32) (hk3 : am_in1 k 3 = false) : am_X xs LL (d + 3) 117 [.ref 14, .int 2, .int k, .int n] (hG σ sr ln Lc μ) (some (.int (-2))) (hG σ sr ln Lc μ) := by
  refine am_XR (d := d + 2) (C := cd_X11_sheet) (L := [some (.ref 14), some (.int 2), some (.int k), some (.int n), none]) rfl rfl rfl rfl ?_
  refine am_g 2 2 [some (.ref 14), some (.int 2), some (.int k), some (.int n), none] [.int 2, .ref 14] (hG σ sr ln Lc μ) rfl ?_
  refine am_call (y := 129) (vs := [.ref 14, .int 2]) (rest := []) (v := (some (.ref 43))) (h1 := (hG σ sr ln Lc μ)) rfl rfl rfl (sp_X11_sheetAt_2 (σ := σ) (μ := μ) (d + 1)) ?_
  refine am_g 6 15 [some (.ref 14), some (.int 2), some (.int k), some (.int n), some (.ref 43)] [.int 2, .int (-1), .int k] (hG σ sr ln Lc μ) rfl ?_
  refine am_call (y := 122) (vs := [.int k, .int (-1), .int 2]) (rest := []) (v := (some (.int 0))) (h1 := (hG σ sr ln Lc μ)) rfl rfl rfl (sp_X11_isWithin_b (d + 1) _ _ _ _ ((am_wi1 (by decide)).trans hk3)) ?_
  refine am_g 2 23 [some (.ref 14), some (.int 2), some (.int k), some (.int n), some (.ref 43)] [.int (-2)] (hG σ sr ln Lc μ) rfl ?_
  exact am_ret2 rfl rfl rfl rfl rfl
theorem sp_X11_cell_2m (d : Nat) (i v : Int32) (h : σ 57 0 = -1) : am_X xs LL (d + 2) 118 [.ref 14, .int 2, .int i, .int v] (hG σ sr ln Lc μ) (some (.int (-11))) (hG σ sr ln Lc μ) := by
  refine am_XR (d := d + 1) (C := cd_X11_cell) (L := [some (.ref 14), some (.int 2), some (.int i), some (.int v), none]) rfl rfl rfl rfl ?_
  refine am_g 2 2 [some (.ref 14), some (.int 2), some (.int i), some (.int v), none] [.int 2, .ref 14] (hG σ sr ln Lc μ) rfl ?_
  refine am_call (y := 129) (vs := [.ref 14, .int 2]) (rest := []) (v := (some (.ref 43))) (h1 := (hG σ sr ln Lc μ)) rfl rfl rfl (sp_X11_sheetAt_2 (σ := σ) (μ := μ) d) ?_
  refine am_g 4 17 [some (.ref 14), some (.int 2), some (.int i), some (.int v), some (.ref 43)] [.ref 43] (hG σ sr ln Lc μ) rfl ?_
  refine am_call (y := 64) (vs := [.ref 43]) (rest := []) (v := (some (.int 1))) (h1 := (hG σ sr ln Lc μ)) rfl rfl rfl (sp_X8_isMissing_2y (σ := σ) (μ := μ) d h) ?_
  refine am_g 2 25 [some (.ref 14), some (.int 2), some (.int i), some (.int v), some (.ref 43)] [.int (-11)] (hG σ sr ln Lc μ) rfl ?_
  exact am_ret2 rfl rfl rfl rfl rfl
theorem sp_X11_cell_2o (d : Nat) (i v : Int32) (h : ¬ σ 57 0 = -1) {z : Nat} (hz : σ 58 0 = nI z) (hz40 : z ≤ 40) (hc : pu_cv z i 1 = false) : am_X xs LL (d + 2) 118 [.ref 14, .int 2, .int i, .int v] (hG σ sr ln Lc μ) (some (.int (-12))) (hG σ sr ln Lc μ) := by
  refine am_XR (d := d + 1) (C := cd_X11_cell) (L := [some (.ref 14), some (.int 2), some (.int i), some (.int v), none]) rfl rfl rfl rfl ?_
  refine am_g 2 2 [some (.ref 14), some (.int 2), some (.int i), some (.int v), none] [.int 2, .ref 14] (hG σ sr ln Lc μ) rfl ?_
  refine am_call (y := 129) (vs := [.ref 14, .int 2]) (rest := []) (v := (some (.ref 43))) (h1 := (hG σ sr ln Lc μ)) rfl rfl rfl (sp_X11_sheetAt_2 (σ := σ) (μ := μ) d) ?_
  refine am_g 4 17 [some (.ref 14), some (.int 2), some (.int i), some (.int v), some (.ref 43)] [.ref 43] (hG σ sr ln Lc μ) rfl ?_
  refine am_call (y := 64) (vs := [.ref 43]) (rest := []) (v := (some (.int 0))) (h1 := (hG σ sr ln Lc μ)) rfl rfl rfl (sp_X8_isMissing_2n (σ := σ) (μ := μ) d h) ?_
  refine am_g 4 30 [some (.ref 14), some (.int 2), some (.int i), some (.int v), some (.ref 43)] [.int 1, .int i, .ref 43] (hG σ sr ln Lc μ) rfl ?_
  refine am_call (y := 66) (vs := [.ref 43, .int i, .int 1]) (rest := []) (v := (some (.int 0))) (h1 := (hG σ sr ln Lc μ)) rfl rfl rfl (sp_X8_covers_2 (σ := σ) (μ := μ) d hz (by omega) _ _ hc) ?_
  refine am_g 2 38 [some (.ref 14), some (.int 2), some (.int i), some (.int v), some (.ref 43)] [.int (-12)] (hG σ sr ln Lc μ) rfl ?_
  exact am_ret2 rfl rfl rfl rfl rfl
theorem sp_X8_put_20 (d : Nat) {z : Nat} (hz : σ 58 0 = nI z) (hz40 : z ≤ 40) (i : Nat) (hi : i < z) (v : Int32) (hq : σ 57 0 = 0) : am_X xs LL (d + 1) 68 [.ref 43, .int (nI i), .int v] (hG σ sr ln Lc μ) none (hG (am_up σ 56 (upd (σ 56) i (v.toInt8.toInt32))) sr ln Lc μ) := by
  refine am_XR (d := d + 0) (C := cd_X8_put) (L := [some (.ref 43), some (.int (nI i)), some (.int v)]) rfl rfl rfl rfl ?_
  refine am_g 2 (if (nI i) < 0 then 21 else 4) [some (.ref 43), some (.int (nI i)), some (.int v)] [] (hG σ sr ln Lc μ) rfl ?_
  rw [if_neg (show ¬ (nI i) < 0 from (am_dnlt (a := i) (b := 0) (rfl) (rfl) (by omega) (by omega) (by omega)))]
  refine am_g 3 9 [some (.ref 43), some (.int (nI i)), some (.int v)] [.int (σ 58 0), .int (nI i)] (hG σ sr ln Lc μ) rfl ?_
  rw [show (σ 58 0) = (nI z) from hz]
  refine am_g 1 (if (nI z) ≤ (nI i) then 21 else 12) [some (.ref 43), some (.int (nI i)), some (.int v)] [] (hG σ sr ln Lc μ) rfl ?_
  rw [if_neg (show ¬ (nI z) ≤ (nI i) from (am_dnle (a := z) (b := i) (rfl) (rfl) (by omega) (by omega) (by omega)))]
  refine am_g 5 (if (nI i) < 40 then 22 else 21) [some (.ref 43), some (.int (nI i)), some (.int v)] [] (hG σ sr ln Lc μ) rfl ?_
  rw [if_pos (show (nI i) < 40 from (am_dlt (a := i) (b := 40) (rfl) (rfl) (by omega) (by omega) (by omega)))]
  refine am_g 2 26 [some (.ref 43), some (.int (nI i)), some (.int v)] [.int (σ 57 0)] (hG σ sr ln Lc μ) rfl ?_
  rw [show (σ 57 0) = 0 from hq]
  refine am_g 6 36 [some (.ref 43), some (.int (nI i)), some (.int v)] [.int (v.toInt8.toInt32), .int (nI i), .ref 44] (hG σ sr ln Lc μ) rfl ?_
  refine am_iastR (n := 40) (f := (σ 56)) (k := i) (h1 := (hG (am_up σ 56 (upd (σ 56) i (v.toInt8.toInt32))) sr ln Lc μ)) rfl rfl (rfl) (by omega) (by decide) rfl ?_
  refine am_g 1 66 [some (.ref 43), some (.int (nI i)), some (.int v)] [] (hG (am_up σ 56 (upd (σ 56) i (v.toInt8.toInt32))) sr ln Lc μ) rfl ?_
  exact am_ret2 rfl rfl rfl rfl rfl
theorem sp_X11_cell_2q0 (d : Nat) {z : Nat} (hz : σ 58 0 = nI z) (hz40 : z ≤ 40) (i : Nat) (hi : i < z) (v : Int32) (hq : σ 57 0 = 0) (hc : pu_cv z (nI i) 1 = true) : am_X xs LL (d + 2) 118 [.ref 14, .int 2, .int (nI i), .int v] (hG σ sr ln Lc μ) (some (.int 1)) (hG (am_up σ 56 (upd (σ 56) i (v.toInt8.toInt32))) sr ln Lc μ) := by
  refine am_XR (d := d + 1) (C := cd_X11_cell) (L := [some (.ref 14), some (.int 2), some (.int (nI i)), some (.int v), none]) rfl rfl rfl rfl ?_
  refine am_g 2 2 [some (.ref 14), some (.int 2), some (.int (nI i)), some (.int v), none] [.int 2, .ref 14] (hG σ sr ln Lc μ) rfl ?_
  refine am_call (y := 129) (vs := [.ref 14, .int 2]) (rest := []) (v := (some (.ref 43))) (h1 := (hG σ sr ln Lc μ)) rfl rfl rfl (sp_X11_sheetAt_2 (σ := σ) (μ := μ) d) ?_
  refine am_g 4 17 [some (.ref 14), some (.int 2), some (.int (nI i)), some (.int v), some (.ref 43)] [.ref 43] (hG σ sr ln Lc μ) rfl ?_
  refine am_call (y := 64) (vs := [.ref 43]) (rest := []) (v := (some (.int 0))) (h1 := (hG σ sr ln Lc μ)) rfl rfl rfl (sp_X8_isMissing_2n (σ := σ) (μ := μ) d (by rw [hq]; decide)) ?_
  refine am_g 4 30 [some (.ref 14), some (.int 2), some (.int (nI i)), some (.int v), some (.ref 43)] [.int 1, .int (nI i), .ref 43] (hG σ sr ln Lc μ) rfl ?_
  refine am_call (y := 66) (vs := [.ref 43, .int (nI i), .int 1]) (rest := []) (v := (some (.int 1))) (h1 := (hG σ sr ln Lc μ)) rfl rfl rfl (sp_X8_covers_2 (σ := σ) (μ := μ) d hz (by omega) _ _ hc) ?_
  refine am_g 4 43 [some (.ref 14), some (.int 2), some (.int (nI i)), some (.int v), some (.ref 43)] [.int v, .int (nI i), .ref 43] (hG σ sr ln Lc μ) rfl ?_
  refine am_call (y := 68) (vs := [.ref 43, .int (nI i), .int v]) (rest := []) (v := none) (h1 := (hG (am_up σ 56 (upd (σ 56) i (v.toInt8.toInt32))) sr ln Lc μ)) rfl rfl rfl (sp_X8_put_20 d hz (by omega) i hi _ hq) ?_
  refine am_g 1 47 [some (.ref 14), some (.int 2), some (.int (nI i)), some (.int v), some (.ref 43)] [.int 1] (hG (am_up σ 56 (upd (σ 56) i (v.toInt8.toInt32))) sr ln Lc μ) rfl ?_
  exact am_ret2 rfl rfl rfl rfl rfl
theorem sp_X8_put_21 (d : Nat) {z : Nat} (hz : σ 58 0 = nI z) (hz40 : z ≤ 40) (i : Nat) (hi : i < z) (v : Int32) (hq : σ 57 0 = 1) : am_X xs LL (d + 1) 68 [.ref 43, .int (nI i), .int v] (hG σ sr ln Lc μ) none (hG (am_up σ 56 (upd (σ 56) i (v.toInt16.toInt32))) sr ln Lc μ) := by
  refine am_XR (d := d + 0) (C := cd_X8_put) (L := [some (.ref 43), some (.int (nI i)), some (.int v)]) rfl rfl rfl rfl ?_
  refine am_g 2 (if (nI i) < 0 then 21 else 4) [some (.ref 43), some (.int (nI i)), some (.int v)] [] (hG σ sr ln Lc μ) rfl ?_
  rw [if_neg (show ¬ (nI i) < 0 from (am_dnlt (a := i) (b := 0) (rfl) (rfl) (by omega) (by omega) (by omega)))]
  refine am_g 3 9 [some (.ref 43), some (.int (nI i)), some (.int v)] [.int (σ 58 0), .int (nI i)] (hG σ sr ln Lc μ) rfl ?_
  rw [show (σ 58 0) = (nI z) from hz]
  refine am_g 1 (if (nI z) ≤ (nI i) then 21 else 12) [some (.ref 43), some (.int (nI i)), some (.int v)] [] (hG σ sr ln Lc μ) rfl ?_
  rw [if_neg (show ¬ (nI z) ≤ (nI i) from (am_dnle (a := z) (b := i) (rfl) (rfl) (by omega) (by omega) (by omega)))]
  refine am_g 5 (if (nI i) < 40 then 22 else 21) [some (.ref 43), some (.int (nI i)), some (.int v)] [] (hG σ sr ln Lc μ) rfl ?_
  rw [if_pos (show (nI i) < 40 from (am_dlt (a := i) (b := 40) (rfl) (rfl) (by omega) (by omega) (by omega)))]
  refine am_g 2 26 [some (.ref 43), some (.int (nI i)), some (.int v)] [.int (σ 57 0)] (hG σ sr ln Lc μ) rfl ?_
  rw [show (σ 57 0) = 1 from hq]
  refine am_g 3 44 [some (.ref 43), some (.int (nI i)), some (.int v)] [.int (σ 57 0)] (hG σ sr ln Lc μ) rfl ?_
  rw [show (σ 57 0) = 1 from hq]
  refine am_g 7 55 [some (.ref 43), some (.int (nI i)), some (.int v)] [.int (v.toInt16.toInt32), .int (nI i), .ref 44] (hG σ sr ln Lc μ) rfl ?_
  refine am_iastR (n := 40) (f := (σ 56)) (k := i) (h1 := (hG (am_up σ 56 (upd (σ 56) i (v.toInt16.toInt32))) sr ln Lc μ)) rfl rfl (rfl) (by omega) (by decide) rfl ?_
  refine am_g 1 66 [some (.ref 43), some (.int (nI i)), some (.int v)] [] (hG (am_up σ 56 (upd (σ 56) i (v.toInt16.toInt32))) sr ln Lc μ) rfl ?_
  exact am_ret2 rfl rfl rfl rfl rfl
theorem sp_X11_cell_2q1 (d : Nat) {z : Nat} (hz : σ 58 0 = nI z) (hz40 : z ≤ 40) (i : Nat) (hi : i < z) (v : Int32) (hq : σ 57 0 = 1) (hc : pu_cv z (nI i) 1 = true) : am_X xs LL (d + 2) 118 [.ref 14, .int 2, .int (nI i), .int v] (hG σ sr ln Lc μ) (some (.int 1)) (hG (am_up σ 56 (upd (σ 56) i (v.toInt16.toInt32))) sr ln Lc μ) := by
  refine am_XR (d := d + 1) (C := cd_X11_cell) (L := [some (.ref 14), some (.int 2), some (.int (nI i)), some (.int v), none]) rfl rfl rfl rfl ?_
  refine am_g 2 2 [some (.ref 14), some (.int 2), some (.int (nI i)), some (.int v), none] [.int 2, .ref 14] (hG σ sr ln Lc μ) rfl ?_
  refine am_call (y := 129) (vs := [.ref 14, .int 2]) (rest := []) (v := (some (.ref 43))) (h1 := (hG σ sr ln Lc μ)) rfl rfl rfl (sp_X11_sheetAt_2 (σ := σ) (μ := μ) d) ?_
  refine am_g 4 17 [some (.ref 14), some (.int 2), some (.int (nI i)), some (.int v), some (.ref 43)] [.ref 43] (hG σ sr ln Lc μ) rfl ?_
  refine am_call (y := 64) (vs := [.ref 43]) (rest := []) (v := (some (.int 0))) (h1 := (hG σ sr ln Lc μ)) rfl rfl rfl (sp_X8_isMissing_2n (σ := σ) (μ := μ) d (by rw [hq]; decide)) ?_
  refine am_g 4 30 [some (.ref 14), some (.int 2), some (.int (nI i)), some (.int v), some (.ref 43)] [.int 1, .int (nI i), .ref 43] (hG σ sr ln Lc μ) rfl ?_
  refine am_call (y := 66) (vs := [.ref 43, .int (nI i), .int 1]) (rest := []) (v := (some (.int 1))) (h1 := (hG σ sr ln Lc μ)) rfl rfl rfl (sp_X8_covers_2 (σ := σ) (μ := μ) d hz (by omega) _ _ hc) ?_
  refine am_g 4 43 [some (.ref 14), some (.int 2), some (.int (nI i)), some (.int v), some (.ref 43)] [.int v, .int (nI i), .ref 43] (hG σ sr ln Lc μ) rfl ?_
  refine am_call (y := 68) (vs := [.ref 43, .int (nI i), .int v]) (rest := []) (v := none) (h1 := (hG (am_up σ 56 (upd (σ 56) i (v.toInt16.toInt32))) sr ln Lc μ)) rfl rfl rfl (sp_X8_put_21 d hz (by omega) i hi _ hq) ?_
  refine am_g 1 47 [some (.ref 14), some (.int 2), some (.int (nI i)), some (.int v), some (.ref 43)] [.int 1] (hG (am_up σ 56 (upd (σ 56) i (v.toInt16.toInt32))) sr ln Lc μ) rfl ?_
  exact am_ret2 rfl rfl rfl rfl rfl
theorem sp_X8_put_22 (d : Nat) {z : Nat} (hz : σ 58 0 = nI z) (hz40 : z ≤ 40) (i : Nat) (hi : i < z) (v : Int32) (hq : σ 57 0 = 2) : am_X xs LL (d + 1) 68 [.ref 43, .int (nI i), .int v] (hG σ sr ln Lc μ) none (hG (am_up σ 56 (upd (σ 56) i v)) sr ln Lc μ) := by
  refine am_XR (d := d + 0) (C := cd_X8_put) (L := [some (.ref 43), some (.int (nI i)), some (.int v)]) rfl rfl rfl rfl ?_
  refine am_g 2 (if (nI i) < 0 then 21 else 4) [some (.ref 43), some (.int (nI i)), some (.int v)] [] (hG σ sr ln Lc μ) rfl ?_
  rw [if_neg (show ¬ (nI i) < 0 from (am_dnlt (a := i) (b := 0) (rfl) (rfl) (by omega) (by omega) (by omega)))]
  refine am_g 3 9 [some (.ref 43), some (.int (nI i)), some (.int v)] [.int (σ 58 0), .int (nI i)] (hG σ sr ln Lc μ) rfl ?_
  rw [show (σ 58 0) = (nI z) from hz]
  refine am_g 1 (if (nI z) ≤ (nI i) then 21 else 12) [some (.ref 43), some (.int (nI i)), some (.int v)] [] (hG σ sr ln Lc μ) rfl ?_
  rw [if_neg (show ¬ (nI z) ≤ (nI i) from (am_dnle (a := z) (b := i) (rfl) (rfl) (by omega) (by omega) (by omega)))]
  refine am_g 5 (if (nI i) < 40 then 22 else 21) [some (.ref 43), some (.int (nI i)), some (.int v)] [] (hG σ sr ln Lc μ) rfl ?_
  rw [if_pos (show (nI i) < 40 from (am_dlt (a := i) (b := 40) (rfl) (rfl) (by omega) (by omega) (by omega)))]
  refine am_g 2 26 [some (.ref 43), some (.int (nI i)), some (.int v)] [.int (σ 57 0)] (hG σ sr ln Lc μ) rfl ?_
  rw [show (σ 57 0) = 2 from hq]
  refine am_g 3 44 [some (.ref 43), some (.int (nI i)), some (.int v)] [.int (σ 57 0)] (hG σ sr ln Lc μ) rfl ?_
  rw [show (σ 57 0) = 2 from hq]
  refine am_g 6 65 [some (.ref 43), some (.int (nI i)), some (.int v)] [.int v, .int (nI i), .ref 44] (hG σ sr ln Lc μ) rfl ?_
  refine am_iastR (n := 40) (f := (σ 56)) (k := i) (h1 := (hG (am_up σ 56 (upd (σ 56) i v)) sr ln Lc μ)) rfl rfl (rfl) (by omega) (by decide) rfl ?_
  exact am_ret2 rfl rfl rfl rfl rfl
theorem sp_X11_cell_2q2 (d : Nat) {z : Nat} (hz : σ 58 0 = nI z) (hz40 : z ≤ 40) (i : Nat) (hi : i < z) (v : Int32) (hq : σ 57 0 = 2) (hc : pu_cv z (nI i) 1 = true) : am_X xs LL (d + 2) 118 [.ref 14, .int 2, .int (nI i), .int v] (hG σ sr ln Lc μ) (some (.int 1)) (hG (am_up σ 56 (upd (σ 56) i v)) sr ln Lc μ) := by
  refine am_XR (d := d + 1) (C := cd_X11_cell) (L := [some (.ref 14), some (.int 2), some (.int (nI i)), some (.int v), none]) rfl rfl rfl rfl ?_
  refine am_g 2 2 [some (.ref 14), some (.int 2), some (.int (nI i)), some (.int v), none] [.int 2, .ref 14] (hG σ sr ln Lc μ) rfl ?_
  refine am_call (y := 129) (vs := [.ref 14, .int 2]) (rest := []) (v := (some (.ref 43))) (h1 := (hG σ sr ln Lc μ)) rfl rfl rfl (sp_X11_sheetAt_2 (σ := σ) (μ := μ) d) ?_
  refine am_g 4 17 [some (.ref 14), some (.int 2), some (.int (nI i)), some (.int v), some (.ref 43)] [.ref 43] (hG σ sr ln Lc μ) rfl ?_
  refine am_call (y := 64) (vs := [.ref 43]) (rest := []) (v := (some (.int 0))) (h1 := (hG σ sr ln Lc μ)) rfl rfl rfl (sp_X8_isMissing_2n (σ := σ) (μ := μ) d (by rw [hq]; decide)) ?_
  refine am_g 4 30 [some (.ref 14), some (.int 2), some (.int (nI i)), some (.int v), some (.ref 43)] [.int 1, .int (nI i), .ref 43] (hG σ sr ln Lc μ) rfl ?_
  refine am_call (y := 66) (vs := [.ref 43, .int (nI i), .int 1]) (rest := []) (v := (some (.int 1))) (h1 := (hG σ sr ln Lc μ)) rfl rfl rfl (sp_X8_covers_2 (σ := σ) (μ := μ) d hz (by omega) _ _ hc) ?_
  refine am_g 4 43 [some (.ref 14), some (.int 2), some (.int (nI i)), some (.int v), some (.ref 43)] [.int v, .int (nI i), .ref 43] (hG σ sr ln Lc μ) rfl ?_
  refine am_call (y := 68) (vs := [.ref 43, .int (nI i), .int v]) (rest := []) (v := none) (h1 := (hG (am_up σ 56 (upd (σ 56) i v)) sr ln Lc μ)) rfl rfl rfl (sp_X8_put_22 d hz (by omega) i hi _ hq) ?_
  refine am_g 1 47 [some (.ref 14), some (.int 2), some (.int (nI i)), some (.int v), some (.ref 43)] [.int 1] (hG (am_up σ 56 (upd (σ 56) i v)) sr ln Lc μ) rfl ?_
  exact am_ret2 rfl rfl rfl rfl rfl
theorem sp_X8_itemAt_2 (d : Nat) {z : Nat} (hz : σ 58 0 = nI z) (hz40 : z ≤ 40) (i : Nat) (hi : i < z) : am_X xs LL (d + 1) 67 [.ref 43, .int (nI i)] (hG σ sr ln Lc μ) (some (.int (σ 56 i))) (hG σ sr ln Lc μ) := by
  refine am_XR (d := d + 0) (C := cd_X8_itemAt) (L := [some (.ref 43), some (.int (nI i))]) rfl rfl rfl rfl ?_
  refine am_g 2 (if (nI i) < 0 then 30 else 4) [some (.ref 43), some (.int (nI i))] [] (hG σ sr ln Lc μ) rfl ?_
  rw [if_neg (show ¬ (nI i) < 0 from (am_dnlt (a := i) (b := 0) (rfl) (rfl) (by omega) (by omega) (by omega)))]
  refine am_g 3 9 [some (.ref 43), some (.int (nI i))] [.int (σ 58 0), .int (nI i)] (hG σ sr ln Lc μ) rfl ?_
  rw [show (σ 58 0) = (nI z) from hz]
  refine am_g 1 (if (nI z) ≤ (nI i) then 30 else 12) [some (.ref 43), some (.int (nI i))] [] (hG σ sr ln Lc μ) rfl ?_
  rw [if_neg (show ¬ (nI z) ≤ (nI i) from (am_dnle (a := z) (b := i) (rfl) (rfl) (by omega) (by omega) (by omega)))]
  refine am_g 5 (if 40 ≤ (nI i) then 30 else 21) [some (.ref 43), some (.int (nI i))] [] (hG σ sr ln Lc μ) rfl ?_
  rw [if_neg (show ¬ 40 ≤ (nI i) from (am_dnle (a := 40) (b := i) (rfl) (rfl) (by omega) (by omega) (by omega)))]
  refine am_g 3 26 [some (.ref 43), some (.int (nI i))] [.int (nI i), .ref 44] (hG σ sr ln Lc μ) rfl ?_
  refine am_ialdR (n := 40) (f := (σ 56)) (k := i) rfl rfl (rfl) (by omega) (by decide) ?_
  refine am_g 1 31 [some (.ref 43), some (.int (nI i))] [.int (σ 56 i)] (hG σ sr ln Lc μ) rfl ?_
  exact am_ret2 rfl rfl rfl rfl rfl
theorem sp_X11_taped_2bk (d : Nat) (k a n : Int32) (hs3 : am_in k 3 = false) : am_X xs LL (d + 2) 120 [.ref 14, .int 2, .int k, .int a, .int n] (hG σ sr ln Lc μ) (some (.int (-2))) (hG σ sr ln Lc μ) := by
  refine am_XR (d := d + 1) (C := cd_X11_taped) (L := [some (.ref 14), some (.int 2), some (.int k), some (.int a), some (.int n), none, none]) rfl rfl rfl rfl ?_
  refine am_g 2 2 [some (.ref 14), some (.int 2), some (.int k), some (.int a), some (.int n), none, none] [.int 2, .ref 14] (hG σ sr ln Lc μ) rfl ?_
  refine am_call (y := 129) (vs := [.ref 14, .int 2]) (rest := []) (v := (some (.ref 43))) (h1 := (hG σ sr ln Lc μ)) rfl rfl rfl (sp_X11_sheetAt_2 (σ := σ) (μ := μ) d) ?_
  refine am_g 6 15 [some (.ref 14), some (.int 2), some (.int k), some (.int a), some (.int n), some (.ref 43), none] [.int 2, .int 0, .int k] (hG σ sr ln Lc μ) rfl ?_
  refine am_call (y := 122) (vs := [.int k, .int 0, .int 2]) (rest := []) (v := (some (.int 0))) (h1 := (hG σ sr ln Lc μ)) rfl rfl rfl (sp_X11_isWithin_b d _ _ _ _ ((am_wi (by decide)).trans hs3)) ?_
  refine am_g 2 34 [some (.ref 14), some (.int 2), some (.int k), some (.int a), some (.int n), some (.ref 43), none] [.int (-2)] (hG σ sr ln Lc μ) rfl ?_
  exact am_ret2 rfl rfl rfl rfl rfl
theorem sp_X11_taped_2bn (d : Nat) (k a n : Int32) (hs3 : am_in k 3 = true) (hn21 : am_in n 21 = false) : am_X xs LL (d + 2) 120 [.ref 14, .int 2, .int k, .int a, .int n] (hG σ sr ln Lc μ) (some (.int (-2))) (hG σ sr ln Lc μ) := by
  refine am_XR (d := d + 1) (C := cd_X11_taped) (L := [some (.ref 14), some (.int 2), some (.int k), some (.int a), some (.int n), none, none]) rfl rfl rfl rfl ?_
  refine am_g 2 2 [some (.ref 14), some (.int 2), some (.int k), some (.int a), some (.int n), none, none] [.int 2, .ref 14] (hG σ sr ln Lc μ) rfl ?_
  refine am_call (y := 129) (vs := [.ref 14, .int 2]) (rest := []) (v := (some (.ref 43))) (h1 := (hG σ sr ln Lc μ)) rfl rfl rfl (sp_X11_sheetAt_2 (σ := σ) (μ := μ) d) ?_
  refine am_g 6 15 [some (.ref 14), some (.int 2), some (.int k), some (.int a), some (.int n), some (.ref 43), none] [.int 2, .int 0, .int k] (hG σ sr ln Lc μ) rfl ?_
  refine am_call (y := 122) (vs := [.int k, .int 0, .int 2]) (rest := []) (v := (some (.int 1))) (h1 := (hG σ sr ln Lc μ)) rfl rfl rfl (sp_X11_isWithin_b d _ _ _ _ ((am_wi (by decide)).trans hs3)) ?_
  refine am_g 4 26 [some (.ref 14), some (.int 2), some (.int k), some (.int a), some (.int n), some (.ref 43), none] [.int 20, .int 0, .int n] (hG σ sr ln Lc μ) rfl ?_
  refine am_call (y := 122) (vs := [.int n, .int 0, .int 20]) (rest := []) (v := (some (.int 0))) (h1 := (hG σ sr ln Lc μ)) rfl rfl rfl (sp_X11_isWithin_b d _ _ _ _ ((am_wi (n := 21) (by decide)).trans hn21)) ?_
  refine am_g 2 34 [some (.ref 14), some (.int 2), some (.int k), some (.int a), some (.int n), some (.ref 43), none] [.int (-2)] (hG σ sr ln Lc μ) rfl ?_
  exact am_ret2 rfl rfl rfl rfl rfl
theorem sp_X11_taped_2m (d : Nat) (k a n : Int32) (hs3 : am_in k 3 = true) (hn21 : am_in n 21 = true) (h : σ 57 0 = -1) : am_X xs LL (d + 2) 120 [.ref 14, .int 2, .int k, .int a, .int n] (hG σ sr ln Lc μ) (some (.int (-11))) (hG σ sr ln Lc μ) := by
  refine am_XR (d := d + 1) (C := cd_X11_taped) (L := [some (.ref 14), some (.int 2), some (.int k), some (.int a), some (.int n), none, none]) rfl rfl rfl rfl ?_
  refine am_g 2 2 [some (.ref 14), some (.int 2), some (.int k), some (.int a), some (.int n), none, none] [.int 2, .ref 14] (hG σ sr ln Lc μ) rfl ?_
  refine am_call (y := 129) (vs := [.ref 14, .int 2]) (rest := []) (v := (some (.ref 43))) (h1 := (hG σ sr ln Lc μ)) rfl rfl rfl (sp_X11_sheetAt_2 (σ := σ) (μ := μ) d) ?_
  refine am_g 6 15 [some (.ref 14), some (.int 2), some (.int k), some (.int a), some (.int n), some (.ref 43), none] [.int 2, .int 0, .int k] (hG σ sr ln Lc μ) rfl ?_
  refine am_call (y := 122) (vs := [.int k, .int 0, .int 2]) (rest := []) (v := (some (.int 1))) (h1 := (hG σ sr ln Lc μ)) rfl rfl rfl (sp_X11_isWithin_b d _ _ _ _ ((am_wi (by decide)).trans hs3)) ?_
  refine am_g 4 26 [some (.ref 14), some (.int 2), some (.int k), some (.int a), some (.int n), some (.ref 43), none] [.int 20, .int 0, .int n] (hG σ sr ln Lc μ) rfl ?_
  refine am_call (y := 122) (vs := [.int n, .int 0, .int 20]) (rest := []) (v := (some (.int 1))) (h1 := (hG σ sr ln Lc μ)) rfl rfl rfl (sp_X11_isWithin_b d _ _ _ _ ((am_wi (n := 21) (by decide)).trans hn21)) ?_
  refine am_g 2 37 [some (.ref 14), some (.int 2), some (.int k), some (.int a), some (.int n), some (.ref 43), none] [.ref 43] (hG σ sr ln Lc μ) rfl ?_
  refine am_call (y := 64) (vs := [.ref 43]) (rest := []) (v := (some (.int 1))) (h1 := (hG σ sr ln Lc μ)) rfl rfl rfl (sp_X8_isMissing_2y (σ := σ) (μ := μ) d h) ?_
  refine am_g 2 57 [some (.ref 14), some (.int 2), some (.int k), some (.int a), some (.int n), some (.ref 43), none] [.ref 43] (hG σ sr ln Lc μ) rfl ?_
  refine am_call (y := 64) (vs := [.ref 43]) (rest := []) (v := (some (.int 1))) (h1 := (hG σ sr ln Lc μ)) rfl rfl rfl (sp_X8_isMissing_2y (σ := σ) (μ := μ) d h) ?_
  refine am_g 2 65 [some (.ref 14), some (.int 2), some (.int k), some (.int a), some (.int n), some (.ref 43), none] [.int (-11)] (hG σ sr ln Lc μ) rfl ?_
  exact am_ret2 rfl rfl rfl rfl rfl
theorem sp_X11_taped_2x (d : Nat) (k a n : Int32) (hs3 : am_in k 3 = true) (hn21 : am_in n 21 = true) (h : ¬ σ 57 0 = -1) (hx : ¬ σ 57 0 = k) : am_X xs LL (d + 2) 120 [.ref 14, .int 2, .int k, .int a, .int n] (hG σ sr ln Lc μ) (some (.int (-13))) (hG σ sr ln Lc μ) := by
  refine am_XR (d := d + 1) (C := cd_X11_taped) (L := [some (.ref 14), some (.int 2), some (.int k), some (.int a), some (.int n), none, none]) rfl rfl rfl rfl ?_
  refine am_g 2 2 [some (.ref 14), some (.int 2), some (.int k), some (.int a), some (.int n), none, none] [.int 2, .ref 14] (hG σ sr ln Lc μ) rfl ?_
  refine am_call (y := 129) (vs := [.ref 14, .int 2]) (rest := []) (v := (some (.ref 43))) (h1 := (hG σ sr ln Lc μ)) rfl rfl rfl (sp_X11_sheetAt_2 (σ := σ) (μ := μ) d) ?_
  refine am_g 6 15 [some (.ref 14), some (.int 2), some (.int k), some (.int a), some (.int n), some (.ref 43), none] [.int 2, .int 0, .int k] (hG σ sr ln Lc μ) rfl ?_
  refine am_call (y := 122) (vs := [.int k, .int 0, .int 2]) (rest := []) (v := (some (.int 1))) (h1 := (hG σ sr ln Lc μ)) rfl rfl rfl (sp_X11_isWithin_b d _ _ _ _ ((am_wi (by decide)).trans hs3)) ?_
  refine am_g 4 26 [some (.ref 14), some (.int 2), some (.int k), some (.int a), some (.int n), some (.ref 43), none] [.int 20, .int 0, .int n] (hG σ sr ln Lc μ) rfl ?_
  refine am_call (y := 122) (vs := [.int n, .int 0, .int 20]) (rest := []) (v := (some (.int 1))) (h1 := (hG σ sr ln Lc μ)) rfl rfl rfl (sp_X11_isWithin_b d _ _ _ _ ((am_wi (n := 21) (by decide)).trans hn21)) ?_
  refine am_g 2 37 [some (.ref 14), some (.int 2), some (.int k), some (.int a), some (.int n), some (.ref 43), none] [.ref 43] (hG σ sr ln Lc μ) rfl ?_
  refine am_call (y := 64) (vs := [.ref 43]) (rest := []) (v := (some (.int 0))) (h1 := (hG σ sr ln Lc μ)) rfl rfl rfl (sp_X8_isMissing_2n (σ := σ) (μ := μ) d h) ?_
  refine am_g 5 (if (σ 57 0) = k then 55 else 52) [some (.ref 14), some (.int 2), some (.int k), some (.int a), some (.int n), some (.ref 43), none] [] (hG σ sr ln Lc μ) rfl ?_
  rw [if_neg (show ¬ (σ 57 0) = k from hx)]
  refine am_g 1 54 [some (.ref 14), some (.int 2), some (.int k), some (.int a), some (.int n), some (.ref 43), none] [.int (-13)] (hG σ sr ln Lc μ) rfl ?_
  exact am_ret2 rfl rfl rfl rfl rfl
theorem sp_X11_taped_2o (d : Nat) (k a n : Int32) (hs3 : am_in k 3 = true) (hn21 : am_in n 21 = true) (h : ¬ σ 57 0 = -1) (hx : σ 57 0 = k) {z : Nat} (hz : σ 58 0 = nI z) (hz40 : z ≤ 40) (hn0 : ¬ n ≤ 0) (hc : pu_cv z a n = false) : am_X xs LL (d + 2) 120 [.ref 14, .int 2, .int k, .int a, .int n] (hG σ sr ln Lc μ) (some (.int (-12))) (hG σ sr ln Lc μ) := by
  refine am_XR (d := d + 1) (C := cd_X11_taped) (L := [some (.ref 14), some (.int 2), some (.int k), some (.int a), some (.int n), none, none]) rfl rfl rfl rfl ?_
  refine am_g 2 2 [some (.ref 14), some (.int 2), some (.int k), some (.int a), some (.int n), none, none] [.int 2, .ref 14] (hG σ sr ln Lc μ) rfl ?_
  refine am_call (y := 129) (vs := [.ref 14, .int 2]) (rest := []) (v := (some (.ref 43))) (h1 := (hG σ sr ln Lc μ)) rfl rfl rfl (sp_X11_sheetAt_2 (σ := σ) (μ := μ) d) ?_
  refine am_g 6 15 [some (.ref 14), some (.int 2), some (.int k), some (.int a), some (.int n), some (.ref 43), none] [.int 2, .int 0, .int k] (hG σ sr ln Lc μ) rfl ?_
  refine am_call (y := 122) (vs := [.int k, .int 0, .int 2]) (rest := []) (v := (some (.int 1))) (h1 := (hG σ sr ln Lc μ)) rfl rfl rfl (sp_X11_isWithin_b d _ _ _ _ ((am_wi (by decide)).trans hs3)) ?_
  refine am_g 4 26 [some (.ref 14), some (.int 2), some (.int k), some (.int a), some (.int n), some (.ref 43), none] [.int 20, .int 0, .int n] (hG σ sr ln Lc μ) rfl ?_
  refine am_call (y := 122) (vs := [.int n, .int 0, .int 20]) (rest := []) (v := (some (.int 1))) (h1 := (hG σ sr ln Lc μ)) rfl rfl rfl (sp_X11_isWithin_b d _ _ _ _ ((am_wi (n := 21) (by decide)).trans hn21)) ?_
  refine am_g 2 37 [some (.ref 14), some (.int 2), some (.int k), some (.int a), some (.int n), some (.ref 43), none] [.ref 43] (hG σ sr ln Lc μ) rfl ?_
  refine am_call (y := 64) (vs := [.ref 43]) (rest := []) (v := (some (.int 0))) (h1 := (hG σ sr ln Lc μ)) rfl rfl rfl (sp_X8_isMissing_2n (σ := σ) (μ := μ) d h) ?_
  refine am_g 5 (if (σ 57 0) = k then 55 else 52) [some (.ref 14), some (.int 2), some (.int k), some (.int a), some (.int n), some (.ref 43), none] [] (hG σ sr ln Lc μ) rfl ?_
  rw [if_pos (show (σ 57 0) = k from hx)]
  refine am_g 1 57 [some (.ref 14), some (.int 2), some (.int k), some (.int a), some (.int n), some (.ref 43), none] [.ref 43] (hG σ sr ln Lc μ) rfl ?_
  refine am_call (y := 64) (vs := [.ref 43]) (rest := []) (v := (some (.int 0))) (h1 := (hG σ sr ln Lc μ)) rfl rfl rfl (sp_X8_isMissing_2n (σ := σ) (μ := μ) d h) ?_
  refine am_g 3 (if n ≤ 0 then 85 else 71) [some (.ref 14), some (.int 2), some (.int k), some (.int a), some (.int n), some (.ref 43), none] [] (hG σ sr ln Lc μ) rfl ?_
  rw [if_neg (show ¬ n ≤ 0 from hn0)]
  refine am_g 3 76 [some (.ref 14), some (.int 2), some (.int k), some (.int a), some (.int n), some (.ref 43), none] [.int n, .int a, .ref 43] (hG σ sr ln Lc μ) rfl ?_
  refine am_call (y := 66) (vs := [.ref 43, .int a, .int n]) (rest := []) (v := (some (.int 0))) (h1 := (hG σ sr ln Lc μ)) rfl rfl rfl (sp_X8_covers_2 (σ := σ) (μ := μ) d hz (by omega) _ _ hc) ?_
  refine am_g 2 84 [some (.ref 14), some (.int 2), some (.int k), some (.int a), some (.int n), some (.ref 43), none] [.int (-12)] (hG σ sr ln Lc μ) rfl ?_
  exact am_ret2 rfl rfl rfl rfl rfl
theorem sp_X11_taped_2f0 (d : Nat) (k a : Int32) (n : Nat) (hs3 : am_in k 3 = true) (hn21 : am_in (nI n) 21 = true) (hn20 : n ≤ 20) (h : ¬ σ 57 0 = -1) (hx : σ 57 0 = k) {z : Nat} (hz : σ 58 0 = nI z) (hz40 : z ≤ 40) (hn0 : ¬ nI n ≤ 0) (hc : pu_cv z a (nI n) = true) {T : Nat} (hT : σ 8 0 = nI T) (hT20 : T ≤ 20) (hr : 20 < T + n) : am_X xs LL (d + 2) 120 [.ref 14, .int 2, .int k, .int a, .int (nI n)] (hG σ sr ln Lc μ) (some (.int (-4))) (hG σ sr ln Lc μ) := by
  refine am_XR (d := d + 1) (C := cd_X11_taped) (L := [some (.ref 14), some (.int 2), some (.int k), some (.int a), some (.int (nI n)), none, none]) rfl rfl rfl rfl ?_
  refine am_g 2 2 [some (.ref 14), some (.int 2), some (.int k), some (.int a), some (.int (nI n)), none, none] [.int 2, .ref 14] (hG σ sr ln Lc μ) rfl ?_
  refine am_call (y := 129) (vs := [.ref 14, .int 2]) (rest := []) (v := (some (.ref 43))) (h1 := (hG σ sr ln Lc μ)) rfl rfl rfl (sp_X11_sheetAt_2 (σ := σ) (μ := μ) d) ?_
  refine am_g 6 15 [some (.ref 14), some (.int 2), some (.int k), some (.int a), some (.int (nI n)), some (.ref 43), none] [.int 2, .int 0, .int k] (hG σ sr ln Lc μ) rfl ?_
  refine am_call (y := 122) (vs := [.int k, .int 0, .int 2]) (rest := []) (v := (some (.int 1))) (h1 := (hG σ sr ln Lc μ)) rfl rfl rfl (sp_X11_isWithin_b d _ _ _ _ ((am_wi (by decide)).trans hs3)) ?_
  refine am_g 4 26 [some (.ref 14), some (.int 2), some (.int k), some (.int a), some (.int (nI n)), some (.ref 43), none] [.int 20, .int 0, .int (nI n)] (hG σ sr ln Lc μ) rfl ?_
  refine am_call (y := 122) (vs := [.int (nI n), .int 0, .int 20]) (rest := []) (v := (some (.int 1))) (h1 := (hG σ sr ln Lc μ)) rfl rfl rfl (sp_X11_isWithin_b d _ _ _ _ ((am_wi (n := 21) (by decide)).trans hn21)) ?_
  refine am_g 2 37 [some (.ref 14), some (.int 2), some (.int k), some (.int a), some (.int (nI n)), some (.ref 43), none] [.ref 43] (hG σ sr ln Lc μ) rfl ?_
  refine am_call (y := 64) (vs := [.ref 43]) (rest := []) (v := (some (.int 0))) (h1 := (hG σ sr ln Lc μ)) rfl rfl rfl (sp_X8_isMissing_2n (σ := σ) (μ := μ) d h) ?_
  refine am_g 5 (if (σ 57 0) = k then 55 else 52) [some (.ref 14), some (.int 2), some (.int k), some (.int a), some (.int (nI n)), some (.ref 43), none] [] (hG σ sr ln Lc μ) rfl ?_
  rw [if_pos (show (σ 57 0) = k from hx)]
  refine am_g 1 57 [some (.ref 14), some (.int 2), some (.int k), some (.int a), some (.int (nI n)), some (.ref 43), none] [.ref 43] (hG σ sr ln Lc μ) rfl ?_
  refine am_call (y := 64) (vs := [.ref 43]) (rest := []) (v := (some (.int 0))) (h1 := (hG σ sr ln Lc μ)) rfl rfl rfl (sp_X8_isMissing_2n (σ := σ) (μ := μ) d h) ?_
  refine am_g 3 (if (nI n) ≤ 0 then 85 else 71) [some (.ref 14), some (.int 2), some (.int k), some (.int a), some (.int (nI n)), some (.ref 43), none] [] (hG σ sr ln Lc μ) rfl ?_
  rw [if_neg (show ¬ (nI n) ≤ 0 from hn0)]
  refine am_g 3 76 [some (.ref 14), some (.int 2), some (.int k), some (.int a), some (.int (nI n)), some (.ref 43), none] [.int (nI n), .int a, .ref 43] (hG σ sr ln Lc μ) rfl ?_
  refine am_call (y := 66) (vs := [.ref 43, .int a, .int (nI n)]) (rest := []) (v := (some (.int 1))) (h1 := (hG σ sr ln Lc μ)) rfl rfl rfl (sp_X8_covers_2 (σ := σ) (μ := μ) d hz (by omega) _ _ hc) ?_
  refine am_g 4 91 [some (.ref 14), some (.int 2), some (.int k), some (.int a), some (.int (nI n)), some (.ref 43), none] [.int (nI n), .ref 20] (hG σ sr ln Lc μ) rfl ?_
  refine am_call (y := 70) (vs := [.ref 20, .int (nI n)]) (rest := []) (v := (some (.int 0))) (h1 := (hG σ sr ln Lc μ)) rfl rfl rfl (sp_X9_hasRoom_n (σ := σ) (μ := μ) d hT hT20 _ hn20 hr) ?_
  refine am_g 2 99 [some (.ref 14), some (.int 2), some (.int k), some (.int a), some (.int (nI n)), some (.ref 43), none] [.int (-4)] (hG σ sr ln Lc μ) rfl ?_
  exact am_ret2 rfl rfl rfl rfl rfl
theorem sp_X11_taped_2f1 (d : Nat) (k a : Int32) (n : Nat) (hs3 : am_in k 3 = true) (hn21 : am_in (nI n) 21 = true) (hn20 : n ≤ 20) (h : ¬ σ 57 0 = -1) (hx : σ 57 0 = k) {z : Nat} (hz : σ 58 0 = nI z) (hz40 : z ≤ 40) (hn0 : nI n ≤ 0) {T : Nat} (hT : σ 8 0 = nI T) (hT20 : T ≤ 20) (hr : 20 < T + n) : am_X xs LL (d + 2) 120 [.ref 14, .int 2, .int k, .int a, .int (nI n)] (hG σ sr ln Lc μ) (some (.int (-4))) (hG σ sr ln Lc μ) := by
  refine am_XR (d := d + 1) (C := cd_X11_taped) (L := [some (.ref 14), some (.int 2), some (.int k), some (.int a), some (.int (nI n)), none, none]) rfl rfl rfl rfl ?_
  refine am_g 2 2 [some (.ref 14), some (.int 2), some (.int k), some (.int a), some (.int (nI n)), none, none] [.int 2, .ref 14] (hG σ sr ln Lc μ) rfl ?_
  refine am_call (y := 129) (vs := [.ref 14, .int 2]) (rest := []) (v := (some (.ref 43))) (h1 := (hG σ sr ln Lc μ)) rfl rfl rfl (sp_X11_sheetAt_2 (σ := σ) (μ := μ) d) ?_
  refine am_g 6 15 [some (.ref 14), some (.int 2), some (.int k), some (.int a), some (.int (nI n)), some (.ref 43), none] [.int 2, .int 0, .int k] (hG σ sr ln Lc μ) rfl ?_
  refine am_call (y := 122) (vs := [.int k, .int 0, .int 2]) (rest := []) (v := (some (.int 1))) (h1 := (hG σ sr ln Lc μ)) rfl rfl rfl (sp_X11_isWithin_b d _ _ _ _ ((am_wi (by decide)).trans hs3)) ?_
  refine am_g 4 26 [some (.ref 14), some (.int 2), some (.int k), some (.int a), some (.int (nI n)), some (.ref 43), none] [.int 20, .int 0, .int (nI n)] (hG σ sr ln Lc μ) rfl ?_
  refine am_call (y := 122) (vs := [.int (nI n), .int 0, .int 20]) (rest := []) (v := (some (.int 1))) (h1 := (hG σ sr ln Lc μ)) rfl rfl rfl (sp_X11_isWithin_b d _ _ _ _ ((am_wi (n := 21) (by decide)).trans hn21)) ?_
  refine am_g 2 37 [some (.ref 14), some (.int 2), some (.int k), some (.int a), some (.int (nI n)), some (.ref 43), none] [.ref 43] (hG σ sr ln Lc μ) rfl ?_
  refine am_call (y := 64) (vs := [.ref 43]) (rest := []) (v := (some (.int 0))) (h1 := (hG σ sr ln Lc μ)) rfl rfl rfl (sp_X8_isMissing_2n (σ := σ) (μ := μ) d h) ?_
  refine am_g 5 (if (σ 57 0) = k then 55 else 52) [some (.ref 14), some (.int 2), some (.int k), some (.int a), some (.int (nI n)), some (.ref 43), none] [] (hG σ sr ln Lc μ) rfl ?_
  rw [if_pos (show (σ 57 0) = k from hx)]
  refine am_g 1 57 [some (.ref 14), some (.int 2), some (.int k), some (.int a), some (.int (nI n)), some (.ref 43), none] [.ref 43] (hG σ sr ln Lc μ) rfl ?_
  refine am_call (y := 64) (vs := [.ref 43]) (rest := []) (v := (some (.int 0))) (h1 := (hG σ sr ln Lc μ)) rfl rfl rfl (sp_X8_isMissing_2n (σ := σ) (μ := μ) d h) ?_
  refine am_g 3 (if (nI n) ≤ 0 then 85 else 71) [some (.ref 14), some (.int 2), some (.int k), some (.int a), some (.int (nI n)), some (.ref 43), none] [] (hG σ sr ln Lc μ) rfl ?_
  rw [if_pos (show (nI n) ≤ 0 from hn0)]
  refine am_g 3 91 [some (.ref 14), some (.int 2), some (.int k), some (.int a), some (.int (nI n)), some (.ref 43), none] [.int (nI n), .ref 20] (hG σ sr ln Lc μ) rfl ?_
  refine am_call (y := 70) (vs := [.ref 20, .int (nI n)]) (rest := []) (v := (some (.int 0))) (h1 := (hG σ sr ln Lc μ)) rfl rfl rfl (sp_X9_hasRoom_n (σ := σ) (μ := μ) d hT hT20 _ hn20 hr) ?_
  refine am_g 2 99 [some (.ref 14), some (.int 2), some (.int k), some (.int a), some (.int (nI n)), some (.ref 43), none] [.int (-4)] (hG σ sr ln Lc μ) rfl ?_
  exact am_ret2 rfl rfl rfl rfl rfl
theorem sp_X11_taped_2z (d : Nat) (k a : Int32) (hs3 : am_in k 3 = true) (h : ¬ σ 57 0 = -1) (hx : σ 57 0 = k) {z : Nat} (hz : σ 58 0 = nI z) (hz40 : z ≤ 40) {T : Nat} (hT : σ 8 0 = nI T) (hT20 : T ≤ 20) : am_X xs LL (d + 2) 120 [.ref 14, .int 2, .int k, .int a, .int 0] (hG σ sr ln Lc μ) (some (.int (σ 8 0))) (hG σ sr ln Lc μ) := by
  refine am_XR (d := d + 1) (C := cd_X11_taped) (L := [some (.ref 14), some (.int 2), some (.int k), some (.int a), some (.int 0), none, none]) rfl rfl rfl rfl ?_
  refine am_g 2 2 [some (.ref 14), some (.int 2), some (.int k), some (.int a), some (.int 0), none, none] [.int 2, .ref 14] (hG σ sr ln Lc μ) rfl ?_
  refine am_call (y := 129) (vs := [.ref 14, .int 2]) (rest := []) (v := (some (.ref 43))) (h1 := (hG σ sr ln Lc μ)) rfl rfl rfl (sp_X11_sheetAt_2 (σ := σ) (μ := μ) d) ?_
  refine am_g 6 15 [some (.ref 14), some (.int 2), some (.int k), some (.int a), some (.int 0), some (.ref 43), none] [.int 2, .int 0, .int k] (hG σ sr ln Lc μ) rfl ?_
  refine am_call (y := 122) (vs := [.int k, .int 0, .int 2]) (rest := []) (v := (some (.int 1))) (h1 := (hG σ sr ln Lc μ)) rfl rfl rfl (sp_X11_isWithin_b d _ _ _ _ ((am_wi (by decide)).trans hs3)) ?_
  refine am_g 4 26 [some (.ref 14), some (.int 2), some (.int k), some (.int a), some (.int 0), some (.ref 43), none] [.int 20, .int 0, .int 0] (hG σ sr ln Lc μ) rfl ?_
  refine am_call (y := 122) (vs := [.int 0, .int 0, .int 20]) (rest := []) (v := (some (.int 1))) (h1 := (hG σ sr ln Lc μ)) rfl rfl rfl (sp_X11_isWithin_b d _ _ _ _ (show decide ((0 : Int32) ≤ 0 ∧ (0 : Int32) ≤ 20) = true from by decide)) ?_
  refine am_g 2 37 [some (.ref 14), some (.int 2), some (.int k), some (.int a), some (.int 0), some (.ref 43), none] [.ref 43] (hG σ sr ln Lc μ) rfl ?_
  refine am_call (y := 64) (vs := [.ref 43]) (rest := []) (v := (some (.int 0))) (h1 := (hG σ sr ln Lc μ)) rfl rfl rfl (sp_X8_isMissing_2n (σ := σ) (μ := μ) d h) ?_
  refine am_g 5 (if (σ 57 0) = k then 55 else 52) [some (.ref 14), some (.int 2), some (.int k), some (.int a), some (.int 0), some (.ref 43), none] [] (hG σ sr ln Lc μ) rfl ?_
  rw [if_pos (show (σ 57 0) = k from hx)]
  refine am_g 1 57 [some (.ref 14), some (.int 2), some (.int k), some (.int a), some (.int 0), some (.ref 43), none] [.ref 43] (hG σ sr ln Lc μ) rfl ?_
  refine am_call (y := 64) (vs := [.ref 43]) (rest := []) (v := (some (.int 0))) (h1 := (hG σ sr ln Lc μ)) rfl rfl rfl (sp_X8_isMissing_2n (σ := σ) (μ := μ) d h) ?_
  refine am_g 6 91 [some (.ref 14), some (.int 2), some (.int k), some (.int a), some (.int 0), some (.ref 43), none] [.int 0, .ref 20] (hG σ sr ln Lc μ) rfl ?_
  refine am_call (y := 70) (vs := [.ref 20, .int 0]) (rest := []) (v := (some (.int 1))) (h1 := (hG σ sr ln Lc μ)) rfl rfl rfl (sp_X9_hasRoom_y (σ := σ) (μ := μ) d hT hT20 _ hT20) ?_
  refine am_g 9 139 [some (.ref 14), some (.int 2), some (.int k), some (.int a), some (.int 0), some (.ref 43), some (.int 0)] [.int (σ 8 0)] (hG σ sr ln Lc μ) rfl ?_
  exact am_ret2 rfl rfl rfl rfl rfl
theorem sp_X11_taped_2q (d : Nat) (k : Int32) (a n : Nat) (hs3 : am_in k 3 = true) (hn21 : am_in (nI n) 21 = true) (hn0 : ¬ nI n ≤ 0) (h : ¬ σ 57 0 = -1) (hx : σ 57 0 = k) {z : Nat} (hz : σ 58 0 = nI z) (hz40 : z ≤ 40) (han : a + n ≤ z) (hc : pu_cv z (nI a) (nI n) = true) {T : Nat} (hT : σ 8 0 = nI T) (hT20 : T ≤ 20) (hr : T + n ≤ 20) : am_X xs LL (d + 2) 120 [.ref 14, .int 2, .int k, .int (nI a), .int (nI n)] (hG σ sr ln Lc μ) (some (.int (nI (T + n)))) (hG (am_us (am_up σ 7 (am_fill (fun k => (σ 56 (a + (k - T))) &&& 255) (σ 7) (T + n) T)) 8 (nI (T + n))) sr ln Lc μ) := by
  refine am_XR (d := d + 1) (C := cd_X11_taped) (L := [some (.ref 14), some (.int 2), some (.int k), some (.int (nI a)), some (.int (nI n)), none, none]) rfl rfl rfl rfl ?_
  refine am_g 2 2 [some (.ref 14), some (.int 2), some (.int k), some (.int (nI a)), some (.int (nI n)), none, none] [.int 2, .ref 14] (hG σ sr ln Lc μ) rfl ?_
  refine am_call (y := 129) (vs := [.ref 14, .int 2]) (rest := []) (v := (some (.ref 43))) (h1 := (hG σ sr ln Lc μ)) rfl rfl rfl (sp_X11_sheetAt_2 (σ := σ) (μ := μ) d) ?_
  refine am_g 6 15 [some (.ref 14), some (.int 2), some (.int k), some (.int (nI a)), some (.int (nI n)), some (.ref 43), none] [.int 2, .int 0, .int k] (hG σ sr ln Lc μ) rfl ?_
  refine am_call (y := 122) (vs := [.int k, .int 0, .int 2]) (rest := []) (v := (some (.int 1))) (h1 := (hG σ sr ln Lc μ)) rfl rfl rfl (sp_X11_isWithin_b d _ _ _ _ ((am_wi (by decide)).trans hs3)) ?_
  refine am_g 4 26 [some (.ref 14), some (.int 2), some (.int k), some (.int (nI a)), some (.int (nI n)), some (.ref 43), none] [.int 20, .int 0, .int (nI n)] (hG σ sr ln Lc μ) rfl ?_
  refine am_call (y := 122) (vs := [.int (nI n), .int 0, .int 20]) (rest := []) (v := (some (.int 1))) (h1 := (hG σ sr ln Lc μ)) rfl rfl rfl (sp_X11_isWithin_b d _ _ _ _ ((am_wi (n := 21) (by decide)).trans hn21)) ?_
  refine am_g 2 37 [some (.ref 14), some (.int 2), some (.int k), some (.int (nI a)), some (.int (nI n)), some (.ref 43), none] [.ref 43] (hG σ sr ln Lc μ) rfl ?_
  refine am_call (y := 64) (vs := [.ref 43]) (rest := []) (v := (some (.int 0))) (h1 := (hG σ sr ln Lc μ)) rfl rfl rfl (sp_X8_isMissing_2n (σ := σ) (μ := μ) d h) ?_
  refine am_g 5 (if (σ 57 0) = k then 55 else 52) [some (.ref 14), some (.int 2), some (.int k), some (.int (nI a)), some (.int (nI n)), some (.ref 43), none] [] (hG σ sr ln Lc μ) rfl ?_
  rw [if_pos (show (σ 57 0) = k from hx)]
  refine am_g 1 57 [some (.ref 14), some (.int 2), some (.int k), some (.int (nI a)), some (.int (nI n)), some (.ref 43), none] [.ref 43] (hG σ sr ln Lc μ) rfl ?_
  refine am_call (y := 64) (vs := [.ref 43]) (rest := []) (v := (some (.int 0))) (h1 := (hG σ sr ln Lc μ)) rfl rfl rfl (sp_X8_isMissing_2n (σ := σ) (μ := μ) d h) ?_
  refine am_g 3 (if (nI n) ≤ 0 then 85 else 71) [some (.ref 14), some (.int 2), some (.int k), some (.int (nI a)), some (.int (nI n)), some (.ref 43), none] [] (hG σ sr ln Lc μ) rfl ?_
  rw [if_neg (show ¬ (nI n) ≤ 0 from hn0)]
  refine am_g 3 76 [some (.ref 14), some (.int 2), some (.int k), some (.int (nI a)), some (.int (nI n)), some (.ref 43), none] [.int (nI n), .int (nI a), .ref 43] (hG σ sr ln Lc μ) rfl ?_
  refine am_call (y := 66) (vs := [.ref 43, .int (nI a), .int (nI n)]) (rest := []) (v := (some (.int 1))) (h1 := (hG σ sr ln Lc μ)) rfl rfl rfl (sp_X8_covers_2 (σ := σ) (μ := μ) d hz (by omega) _ _ hc) ?_
  refine am_g 4 91 [some (.ref 14), some (.int 2), some (.int k), some (.int (nI a)), some (.int (nI n)), some (.ref 43), none] [.int (nI n), .ref 20] (hG σ sr ln Lc μ) rfl ?_
  refine am_call (y := 70) (vs := [.ref 20, .int (nI n)]) (rest := []) (v := (some (.int 1))) (h1 := (hG σ sr ln Lc μ)) rfl rfl rfl (sp_X9_hasRoom_y (σ := σ) (μ := μ) d hT hT20 _ hr) ?_
  refine am_g 3 103 [some (.ref 14), some (.int 2), some (.int k), some (.int (nI a)), some (.int (nI n)), some (.ref 43), some (.int 0)] [] (hG σ sr ln Lc μ) rfl ?_
  have lp : ∀ (r i : Nat), i + r = n → am_R xs LL cd_X11_taped (am_X xs LL (d + 1)) 103 [some (.ref 14), some (.int 2), some (.int k), some (.int (nI a)), some (.int (nI n)), some (.ref 43), some (.int (nI i))] [] (hG (am_us (am_up σ 7 (am_fill (fun k => (σ 56 (a + (k - T))) &&& 255) (σ 7) (T + i) T)) 8 (nI (T + i))) sr ln Lc μ) (some (.int (nI (T + n)))) (hG (am_us (am_up σ 7 (am_fill (fun k => (σ 56 (a + (k - T))) &&& 255) (σ 7) (T + n) T)) 8 (nI (T + n))) sr ln Lc μ) := by
    intro r
    induction r with
    | zero =>
      intro i  hi
      have hi2 : i = n := by omega
      rw [hi2]
      refine am_g 3 (if (nI n) ≤ (nI n) then 132 else 110) [some (.ref 14), some (.int 2), some (.int k), some (.int (nI a)), some (.int (nI n)), some (.ref 43), some (.int (nI n))] [] (hG (am_us (am_up σ 7 (am_fill (fun k => (σ 56 (a + (k - T))) &&& 255) (σ 7) (T + n) T)) 8 (nI (T + n))) sr ln Lc μ) rfl ?_
      rw [if_pos (show (nI n) ≤ (nI n) from (am_dle (a := n) (b := n) (rfl) (rfl) (by omega) (by omega) (by omega)))]
      refine am_g 3 139 [some (.ref 14), some (.int 2), some (.int k), some (.int (nI a)), some (.int (nI n)), some (.ref 43), some (.int (nI n))] [.int (nI (T + n))] (hG (am_us (am_up σ 7 (am_fill (fun k => (σ 56 (a + (k - T))) &&& 255) (σ 7) (T + n) T)) 8 (nI (T + n))) sr ln Lc μ) rfl ?_
      exact am_ret2 rfl rfl rfl rfl rfl
    | succ r ih =>
      intro i  hi
      have hi2 : i < n := by omega
      refine am_g 3 (if (nI n) ≤ (nI i) then 132 else 110) [some (.ref 14), some (.int 2), some (.int k), some (.int (nI a)), some (.int (nI n)), some (.ref 43), some (.int (nI i))] [] (hG (am_us (am_up σ 7 (am_fill (fun k => (σ 56 (a + (k - T))) &&& 255) (σ 7) (T + i) T)) 8 (nI (T + i))) sr ln Lc μ) rfl ?_
      rw [if_neg (show ¬ (nI n) ≤ (nI i) from (am_dnle (a := n) (b := i) (rfl) (rfl) (by omega) (by omega) (by omega)))]
      refine am_g 6 120 [some (.ref 14), some (.int 2), some (.int k), some (.int (nI a)), some (.int (nI n)), some (.ref 43), some (.int (nI i))] [.int ((nI a) + (nI i)), .ref 43, .ref 20] (hG (am_us (am_up σ 7 (am_fill (fun k => (σ 56 (a + (k - T))) &&& 255) (σ 7) (T + i) T)) 8 (nI (T + i))) sr ln Lc μ) rfl ?_
      refine am_call (y := 67) (vs := [.ref 43, .int ((nI a) + (nI i))]) (rest := [.ref 20]) (v := (some (.int (σ 56 (a + i))))) (h1 := (hG (am_us (am_up σ 7 (am_fill (fun k => (σ 56 (a + (k - T))) &&& 255) (σ 7) (T + i) T)) 8 (nI (T + i))) sr ln Lc μ)) rfl rfl rfl ((by rw [show ((nI a) + (nI i)) = nI (a + i) from nI_add a i]; exact sp_X8_itemAt_2 (σ := (am_us (am_up σ 7 (am_fill (fun k => (σ 56 (a + (k - T))) &&& 255) (σ 7) (T + i) T)) 8 (nI (T + i)))) (μ := μ) d hz (by omega) (a + i) (by omega))) ?_
      refine am_call (y := 71) (vs := [.ref 20, .int (σ 56 (a + i))]) (rest := []) (v := none) (h1 := (hG (am_us (am_up σ 7 (upd (am_fill (fun k => (σ 56 (a + (k - T))) &&& 255) (σ 7) (T + i) T) (T + i) ((σ 56 (a + i)) &&& 255))) 8 (nI ((T + i) + 1))) sr ln Lc μ)) rfl rfl rfl (sp_X9_push (σ := (am_us (am_up σ 7 (am_fill (fun k => (σ 56 (a + (k - T))) &&& 255) (σ 7) (T + i) T)) 8 (nI (T + i)))) (μ := μ) d (T := T + i) rfl (by omega) _) ?_
      refine am_g 2 103 [some (.ref 14), some (.int 2), some (.int k), some (.int (nI a)), some (.int (nI n)), some (.ref 43), some (.int ((nI i) + 1))] [] (hG (am_us (am_up σ 7 (upd (am_fill (fun k => (σ 56 (a + (k - T))) &&& 255) (σ 7) (T + i) T) (T + i) ((σ 56 (a + i)) &&& 255))) 8 (nI ((T + i) + 1))) sr ln Lc μ) rfl ?_
      rw [nI_up, show upd (am_fill (fun k => (σ 56 (a + (k - T))) &&& 255) (σ 7) (T + i) T) (T + i) ((σ 56 (a + i)) &&& 255) = (am_fill (fun k => (σ 56 (a + (k - T))) &&& 255) (σ 7) (T + (i + 1)) T) from (pu_fillT (g := fun k => (σ 56 (a + (k - T))) &&& 255) (f := σ 7) T i (by show _ = (σ 56 (a + (T + i - T))) &&& 255; rw [Nat.add_sub_cancel_left]))]
      exact ih (i + 1) (by omega)
  have e := lp n 0 (by omega)
  rw [show T + 0 = T from rfl, pu_fillTT, ← hT, am_up_id, am_us_id] at e
  exact e
theorem sp_X11_sheetAt_3 (d : Nat)  : am_X xs LL (d + 1) 129 [.ref 14, .int 3] (hG σ sr ln Lc μ) (some (.ref 45)) (hG σ sr ln Lc μ) := by
  refine am_XR (d := d + 0) (C := cd_X11_sheetAt) (L := [some (.ref 14), some (.int 3)]) rfl rfl rfl rfl ?_
  refine am_g 10 18 [some (.ref 14), some (.int 3)] [.int 3, .ref 38] (hG σ sr ln Lc μ) rfl ?_
  refine am_aaldR (n := 4) (t := 3) (f := fun j => if j < 4 then some (39 + 2 * j) else none) (k := 3) rfl rfl (Or.inr rfl) (rfl) (by decide) (by decide) ?_
  refine am_g 1 23 [some (.ref 14), some (.int 3)] [.ref 45] (hG σ sr ln Lc μ) rfl ?_
  exact am_ret2 rfl rfl rfl rfl rfl
theorem sp_X8_isMissing_3y (d : Nat) (h : σ 60 0 = -1) : am_X xs LL (d + 1) 64 [.ref 45] (hG σ sr ln Lc μ) (some (.int 1)) (hG σ sr ln Lc μ) := by
  refine am_XR (d := d + 0) (C := cd_X8_isMissing) (L := [some (.ref 45)]) rfl rfl rfl rfl ?_
  refine am_g 4 (if (σ 60 0) = (-1) then 8 else 12) [some (.ref 45)] [] (hG σ sr ln Lc μ) rfl ?_
  rw [if_pos (show (σ 60 0) = (-1) from h)]
  refine am_g 2 13 [some (.ref 45)] [.int 1] (hG σ sr ln Lc μ) rfl ?_
  exact am_ret2 rfl rfl rfl rfl rfl
theorem sp_X8_isMissing_3n (d : Nat) (h : ¬ σ 60 0 = -1) : am_X xs LL (d + 1) 64 [.ref 45] (hG σ sr ln Lc μ) (some (.int 0)) (hG σ sr ln Lc μ) := by
  refine am_XR (d := d + 0) (C := cd_X8_isMissing) (L := [some (.ref 45)]) rfl rfl rfl rfl ?_
  refine am_g 4 (if (σ 60 0) = (-1) then 8 else 12) [some (.ref 45)] [] (hG σ sr ln Lc μ) rfl ?_
  rw [if_neg (show ¬ (σ 60 0) = (-1) from h)]
  refine am_g 1 13 [some (.ref 45)] [.int 0] (hG σ sr ln Lc μ) rfl ?_
  exact am_ret2 rfl rfl rfl rfl rfl
theorem sp_X8_covers_3 (d : Nat) {z : Nat} (hz : σ 61 0 = nI z) (hz40 : z ≤ 40) (a n : Int32) {w : Bool} (eb : pu_cv z a n = w) : am_X xs LL (d + 1) 66 [.ref 45, .int a, .int n] (hG σ sr ln Lc μ) (some (.int (am_b2 w))) (hG σ sr ln Lc μ) := by
  refine am_XR (d := d + 0) (C := cd_X8_covers) (L := [some (.ref 45), some (.int a), some (.int n)]) rfl rfl rfl rfl ?_
  refine am_g 2 (if a < 0 then 30 else 4) [some (.ref 45), some (.int a), some (.int n)] [] (hG σ sr ln Lc μ) rfl (am_brR (fun c1 => ?_) (fun c1 => ?_))
  · skip
    refine am_g 1 31 [some (.ref 45), some (.int a), some (.int n)] [.int 0] (hG σ sr ln Lc μ) rfl ?_
    exact am_ret2 rfl rfl rfl (am_b2N eb (fun q => absurd c1 (Int32.not_lt.mpr q.1))) rfl
  · skip
    refine am_g 2 (if n < 0 then 30 else 8) [some (.ref 45), some (.int a), some (.int n)] [] (hG σ sr ln Lc μ) rfl (am_brR (fun c2 => ?_) (fun c2 => ?_))
    · skip
      refine am_g 1 31 [some (.ref 45), some (.int a), some (.int n)] [.int 0] (hG σ sr ln Lc μ) rfl ?_
      exact am_ret2 rfl rfl rfl (am_b2N eb (fun q => absurd c2 (Int32.not_lt.mpr q.2.1))) rfl
    · skip
      refine am_g 3 13 [some (.ref 45), some (.int a), some (.int n)] [.int (σ 61 0), .int a] (hG σ sr ln Lc μ) rfl ?_
      rw [show (σ 61 0) = (nI z) from hz]
      refine am_g 1 (if (nI z) < a then 30 else 16) [some (.ref 45), some (.int a), some (.int n)] [] (hG σ sr ln Lc μ) rfl (am_brR (fun c3 => ?_) (fun c3 => ?_))
      · skip
        refine am_g 1 31 [some (.ref 45), some (.int a), some (.int n)] [.int 0] (hG σ sr ln Lc μ) rfl ?_
        exact am_ret2 rfl rfl rfl (am_b2N eb (fun q => absurd c3 (Int32.not_lt.mpr q.2.2.1))) rfl
      · skip
        refine am_g 3 21 [some (.ref 45), some (.int a), some (.int n)] [.int (σ 61 0), .int n] (hG σ sr ln Lc μ) rfl ?_
        rw [show (σ 61 0) = (nI z) from hz]
        refine am_g 3 (if ((nI z) - a) < n then 30 else 26) [some (.ref 45), some (.int a), some (.int n)] [] (hG σ sr ln Lc μ) rfl (am_brR (fun c4 => ?_) (fun c4 => ?_))
        · skip
          refine am_g 1 31 [some (.ref 45), some (.int a), some (.int n)] [.int 0] (hG σ sr ln Lc μ) rfl ?_
          exact am_ret2 rfl rfl rfl (am_b2N eb (fun q => absurd c4 (Int32.not_lt.mpr q.2.2.2))) rfl
        · skip
          refine am_g 2 31 [some (.ref 45), some (.int a), some (.int n)] [.int 1] (hG σ sr ln Lc μ) rfl ?_
          exact am_ret2 rfl rfl rfl (am_b2Y eb ⟨Int32.not_lt.mp c1, Int32.not_lt.mp c2, Int32.not_lt.mp c3, Int32.not_lt.mp c4⟩) rfl
theorem sp_X8_become_3m (d : Nat) (n : Int32) : am_X xs LL (d + 2) 65 [.ref 45, .int (-1), .int n] (hG σ sr ln Lc μ) none (hG (am_up (am_us (am_us σ 60 (-1)) 61 0) 59 (am_fill (fun _ => 0) (σ 59) 40 0)) sr ln Lc μ) := by
  refine am_XR (d := d + 1) (C := cd_X8_become) (L := [some (.ref 45), some (.int (-1)), some (.int n)]) rfl rfl rfl rfl ?_
  refine am_g 13 24 [some (.ref 45), some (.int (-1)), some (.int n)] [.int 0, .ref 46] (hG (am_us (am_us σ 60 (-1)) 61 0) sr ln Lc μ) rfl ?_
  refine am_call (y := 209) (vs := [.ref 46, .int 0]) (rest := []) (v := none) (h1 := (hG (am_up (am_us (am_us σ 60 (-1)) 61 0) 59 (am_fill (fun _ => 0) (σ 59) 40 0)) sr ln Lc μ)) rfl rfl rfl (sp_fill d _ 46 40 (σ 59) 0 rfl (by decide) rfl) ?_
  exact am_ret2 rfl rfl rfl rfl rfl
theorem sp_X8_become_3q (d : Nat) (k n : Int32) (hk : ¬ k = -1) : am_X xs LL (d + 2) 65 [.ref 45, .int k, .int n] (hG σ sr ln Lc μ) none (hG (am_up (am_us (am_us σ 60 k) 61 n) 59 (am_fill (fun _ => 0) (σ 59) 40 0)) sr ln Lc μ) := by
  refine am_XR (d := d + 1) (C := cd_X8_become) (L := [some (.ref 45), some (.int k), some (.int n)]) rfl rfl rfl rfl ?_
  refine am_g 7 (if k = (-1) then 11 else 15) [some (.ref 45), some (.int k), some (.int n)] [.ref 45] (hG (am_us σ 60 k) sr ln Lc μ) rfl ?_
  rw [if_neg (show ¬ k = (-1) from hk)]
  refine am_g 5 24 [some (.ref 45), some (.int k), some (.int n)] [.int 0, .ref 46] (hG (am_us (am_us σ 60 k) 61 n) sr ln Lc μ) rfl ?_
  refine am_call (y := 209) (vs := [.ref 46, .int 0]) (rest := []) (v := none) (h1 := (hG (am_up (am_us (am_us σ 60 k) 61 n) 59 (am_fill (fun _ => 0) (σ 59) 40 0)) sr ln Lc μ)) rfl rfl rfl (sp_fill d _ 46 40 (σ 59) 0 rfl (by decide) rfl) ?_
  exact am_ret2 rfl rfl rfl rfl rfl
theorem sp_X11_sheet_3m (d : Nat) (n : Int32) : am_X xs LL (d + 3) 117 [.ref 14, .int 3, .int (-1), .int n] (hG σ sr ln Lc μ) (some (.int 1)) (hG (am_up (am_us (am_us σ 60 (-1)) 61 0) 59 (am_fill (fun _ => 0) (σ 59) 40 0)) sr ln Lc μ) := by
  refine am_XR (d := d + 2) (C := cd_X11_sheet) (L := [some (.ref 14), some (.int 3), some (.int (-1)), some (.int n), none]) rfl rfl rfl rfl ?_
  refine am_g 2 2 [some (.ref 14), some (.int 3), some (.int (-1)), some (.int n), none] [.int 3, .ref 14] (hG σ sr ln Lc μ) rfl ?_
  refine am_call (y := 129) (vs := [.ref 14, .int 3]) (rest := []) (v := (some (.ref 45))) (h1 := (hG σ sr ln Lc μ)) rfl rfl rfl (sp_X11_sheetAt_3 (σ := σ) (μ := μ) (d + 1)) ?_
  refine am_g 6 15 [some (.ref 14), some (.int 3), some (.int (-1)), some (.int n), some (.ref 45)] [.int 2, .int (-1), .int (-1)] (hG σ sr ln Lc μ) rfl ?_
  refine am_call (y := 122) (vs := [.int (-1), .int (-1), .int 2]) (rest := []) (v := (some (.int 1))) (h1 := (hG σ sr ln Lc μ)) rfl rfl rfl (sp_X11_isWithin_b (d + 1) _ _ _ _ (show decide ((-1 : Int32) ≤ -1 ∧ (-1 : Int32) ≤ 2) = true from by decide)) ?_
  refine am_g 10 54 [some (.ref 14), some (.int 3), some (.int (-1)), some (.int n), some (.ref 45)] [.int n, .int (-1), .ref 45] (hG σ sr ln Lc μ) rfl ?_
  refine am_call (y := 65) (vs := [.ref 45, .int (-1), .int n]) (rest := []) (v := none) (h1 := (hG (am_up (am_us (am_us σ 60 (-1)) 61 0) 59 (am_fill (fun _ => 0) (σ 59) 40 0)) sr ln Lc μ)) rfl rfl rfl (sp_X8_become_3m d _) ?_
  refine am_g 1 58 [some (.ref 14), some (.int 3), some (.int (-1)), some (.int n), some (.ref 45)] [.int 1] (hG (am_up (am_us (am_us σ 60 (-1)) 61 0) 59 (am_fill (fun _ => 0) (σ 59) 40 0)) sr ln Lc μ) rfl ?_
  exact am_ret2 rfl rfl rfl rfl rfl
theorem sp_X11_sheet_3q (d : Nat) (k n : Int32) (hk3 : am_in1 k 3 = true) (hk : ¬ k = -1) (hn : n ≤ 40) (hn0 : 0 ≤ n) : am_X xs LL (d + 3) 117 [.ref 14, .int 3, .int k, .int n] (hG σ sr ln Lc μ) (some (.int 1)) (hG (am_up (am_us (am_us σ 60 k) 61 n) 59 (am_fill (fun _ => 0) (σ 59) 40 0)) sr ln Lc μ) := by
  refine am_XR (d := d + 2) (C := cd_X11_sheet) (L := [some (.ref 14), some (.int 3), some (.int k), some (.int n), none]) rfl rfl rfl rfl ?_
  refine am_g 2 2 [some (.ref 14), some (.int 3), some (.int k), some (.int n), none] [.int 3, .ref 14] (hG σ sr ln Lc μ) rfl ?_
  refine am_call (y := 129) (vs := [.ref 14, .int 3]) (rest := []) (v := (some (.ref 45))) (h1 := (hG σ sr ln Lc μ)) rfl rfl rfl (sp_X11_sheetAt_3 (σ := σ) (μ := μ) (d + 1)) ?_
  refine am_g 6 15 [some (.ref 14), some (.int 3), some (.int k), some (.int n), some (.ref 45)] [.int 2, .int (-1), .int k] (hG σ sr ln Lc μ) rfl ?_
  refine am_call (y := 122) (vs := [.int k, .int (-1), .int 2]) (rest := []) (v := (some (.int 1))) (h1 := (hG σ sr ln Lc μ)) rfl rfl rfl (sp_X11_isWithin_b (d + 1) _ _ _ _ ((am_wi1 (by decide)).trans hk3)) ?_
  refine am_g 4 (if k = (-1) then 38 else 29) [some (.ref 14), some (.int 3), some (.int k), some (.int n), some (.ref 45)] [] (hG σ sr ln Lc μ) rfl ?_
  rw [if_neg (show ¬ k = (-1) from hk)]
  refine am_g 3 (if n ≤ 40 then 38 else 35) [some (.ref 14), some (.int 3), some (.int k), some (.int n), some (.ref 45)] [] (hG σ sr ln Lc μ) rfl ?_
  rw [if_pos (show n ≤ 40 from hn)]
  refine am_g 3 (if k = (-1) then 50 else 43) [some (.ref 14), some (.int 3), some (.int k), some (.int n), some (.ref 45)] [] (hG σ sr ln Lc μ) rfl ?_
  rw [if_neg (show ¬ k = (-1) from hk)]
  refine am_g 2 (if 0 ≤ n then 50 else 47) [some (.ref 14), some (.int 3), some (.int k), some (.int n), some (.ref 45)] [] (hG σ sr ln Lc μ) rfl ?_
  rw [if_pos (show 0 ≤ n from hn0)]
  refine am_g 3 54 [some (.ref 14), some (.int 3), some (.int k), some (.int n), some (.ref 45)] [.int n, .int k, .ref 45] (hG σ sr ln Lc μ) rfl ?_
  refine am_call (y := 65) (vs := [.ref 45, .int k, .int n]) (rest := []) (v := none) (h1 := (hG (am_up (am_us (am_us σ 60 k) 61 n) 59 (am_fill (fun _ => 0) (σ 59) 40 0)) sr ln Lc μ)) rfl rfl rfl (sp_X8_become_3q d _ _ hk) ?_
  refine am_g 1 58 [some (.ref 14), some (.int 3), some (.int k), some (.int n), some (.ref 45)] [.int 1] (hG (am_up (am_us (am_us σ 60 k) 61 n) 59 (am_fill (fun _ => 0) (σ 59) 40 0)) sr ln Lc μ) rfl ?_
  exact am_ret2 rfl rfl rfl rfl rfl
theorem sp_X11_sheet_3big (d : Nat) (k n : Int32) (hk3 : am_in1 k 3 = true) (hk : ¬ k = -1) (hn : ¬ n ≤ 40) : am_X xs LL (d + 3) 117 [.ref 14, .int 3, .int k, .int n] (hG σ sr ln Lc μ) (some (.int (-2))) (hG σ sr ln Lc μ) := by
  refine am_XR (d := d + 2) (C := cd_X11_sheet) (L := [some (.ref 14), some (.int 3), some (.int k), some (.int n), none]) rfl rfl rfl rfl ?_
  refine am_g 2 2 [some (.ref 14), some (.int 3), some (.int k), some (.int n), none] [.int 3, .ref 14] (hG σ sr ln Lc μ) rfl ?_
  refine am_call (y := 129) (vs := [.ref 14, .int 3]) (rest := []) (v := (some (.ref 45))) (h1 := (hG σ sr ln Lc μ)) rfl rfl rfl (sp_X11_sheetAt_3 (σ := σ) (μ := μ) (d + 1)) ?_
  refine am_g 6 15 [some (.ref 14), some (.int 3), some (.int k), some (.int n), some (.ref 45)] [.int 2, .int (-1), .int k] (hG σ sr ln Lc μ) rfl ?_
  refine am_call (y := 122) (vs := [.int k, .int (-1), .int 2]) (rest := []) (v := (some (.int 1))) (h1 := (hG σ sr ln Lc μ)) rfl rfl rfl (sp_X11_isWithin_b (d + 1) _ _ _ _ ((am_wi1 (by decide)).trans hk3)) ?_
  refine am_g 4 (if k = (-1) then 38 else 29) [some (.ref 14), some (.int 3), some (.int k), some (.int n), some (.ref 45)] [] (hG σ sr ln Lc μ) rfl ?_
  rw [if_neg (show ¬ k = (-1) from hk)]
  refine am_g 3 (if n ≤ 40 then 38 else 35) [some (.ref 14), some (.int 3), some (.int k), some (.int n), some (.ref 45)] [] (hG σ sr ln Lc μ) rfl ?_
  rw [if_neg (show ¬ n ≤ 40 from hn)]
  refine am_g 1 37 [some (.ref 14), some (.int 3), some (.int k), some (.int n), some (.ref 45)] [.int (-2)] (hG σ sr ln Lc μ) rfl ?_
  exact am_ret2 rfl rfl rfl rfl rfl
theorem sp_X11_sheet_3neg (d : Nat) (k n : Int32) (hk3 : am_in1 k 3 = true) (hk : ¬ k = -1) (hn : n ≤ 40) (hn0 : ¬ 0 ≤ n) : am_X xs LL (d + 3) 117 [.ref 14, .int 3, .int k, .int n] (hG σ sr ln Lc μ) (some (.int (-14))) (hG σ sr ln Lc μ) := by
  refine am_XR (d := d + 2) (C := cd_X11_sheet) (L := [some (.ref 14), some (.int 3), some (.int k), some (.int n), none]) rfl rfl rfl rfl ?_
  refine am_g 2 2 [some (.ref 14), some (.int 3), some (.int k), some (.int n), none] [.int 3, .ref 14] (hG σ sr ln Lc μ) rfl ?_
  refine am_call (y := 129) (vs := [.ref 14, .int 3]) (rest := []) (v := (some (.ref 45))) (h1 := (hG σ sr ln Lc μ)) rfl rfl rfl (sp_X11_sheetAt_3 (σ := σ) (μ := μ) (d + 1)) ?_
  refine am_g 6 15 [some (.ref 14), some (.int 3), some (.int k), some (.int n), some (.ref 45)] [.int 2, .int (-1), .int k] (hG σ sr ln Lc μ) rfl ?_
  refine am_call (y := 122) (vs := [.int k, .int (-1), .int 2]) (rest := []) (v := (some (.int 1))) (h1 := (hG σ sr ln Lc μ)) rfl rfl rfl (sp_X11_isWithin_b (d + 1) _ _ _ _ ((am_wi1 (by decide)).trans hk3)) ?_
  refine am_g 4 (if k = (-1) then 38 else 29) [some (.ref 14), some (.int 3), some (.int k), some (.int n), some (.ref 45)] [] (hG σ sr ln Lc μ) rfl ?_
  rw [if_neg (show ¬ k = (-1) from hk)]
  refine am_g 3 (if n ≤ 40 then 38 else 35) [some (.ref 14), some (.int 3), some (.int k), some (.int n), some (.ref 45)] [] (hG σ sr ln Lc μ) rfl ?_
  rw [if_pos (show n ≤ 40 from hn)]
  refine am_g 3 (if k = (-1) then 50 else 43) [some (.ref 14), some (.int 3), some (.int k), some (.int n), some (.ref 45)] [] (hG σ sr ln Lc μ) rfl ?_
  rw [if_neg (show ¬ k = (-1) from hk)]
  refine am_g 2 (if 0 ≤ n then 50 else 47) [some (.ref 14), some (.int 3), some (.int k), some (.int n), some (.ref 45)] [] (hG σ sr ln Lc μ) rfl ?_
  rw [if_neg (show ¬ 0 ≤ n from hn0)]
  refine am_g 1 49 [some (.ref 14), some (.int 3), some (.int k), some (.int n), some (.ref 45)] [.int (-14)] (hG σ sr ln Lc μ) rfl ?_
  exact am_ret2 rfl rfl rfl rfl rfl
theorem sp_X11_sheet_3bad (d : Nat) (k n : Int32) (hk3 : am_in1 k 3 = false) : am_X xs LL (d + 3) 117 [.ref 14, .int 3, .int k, .int n] (hG σ sr ln Lc μ) (some (.int (-2))) (hG σ sr ln Lc μ) := by
  refine am_XR (d := d + 2) (C := cd_X11_sheet) (L := [some (.ref 14), some (.int 3), some (.int k), some (.int n), none]) rfl rfl rfl rfl ?_
  refine am_g 2 2 [some (.ref 14), some (.int 3), some (.int k), some (.int n), none] [.int 3, .ref 14] (hG σ sr ln Lc μ) rfl ?_
  refine am_call (y := 129) (vs := [.ref 14, .int 3]) (rest := []) (v := (some (.ref 45))) (h1 := (hG σ sr ln Lc μ)) rfl rfl rfl (sp_X11_sheetAt_3 (σ := σ) (μ := μ) (d + 1)) ?_
  refine am_g 6 15 [some (.ref 14), some (.int 3), some (.int k), some (.int n), some (.ref 45)] [.int 2, .int (-1), .int k] (hG σ sr ln Lc μ) rfl ?_
  refine am_call (y := 122) (vs := [.int k, .int (-1), .int 2]) (rest := []) (v := (some (.int 0))) (h1 := (hG σ sr ln Lc μ)) rfl rfl rfl (sp_X11_isWithin_b (d + 1) _ _ _ _ ((am_wi1 (by decide)).trans hk3)) ?_
  refine am_g 2 23 [some (.ref 14), some (.int 3), some (.int k), some (.int n), some (.ref 45)] [.int (-2)] (hG σ sr ln Lc μ) rfl ?_
  exact am_ret2 rfl rfl rfl rfl rfl
theorem sp_X11_cell_3m (d : Nat) (i v : Int32) (h : σ 60 0 = -1) : am_X xs LL (d + 2) 118 [.ref 14, .int 3, .int i, .int v] (hG σ sr ln Lc μ) (some (.int (-11))) (hG σ sr ln Lc μ) := by
  refine am_XR (d := d + 1) (C := cd_X11_cell) (L := [some (.ref 14), some (.int 3), some (.int i), some (.int v), none]) rfl rfl rfl rfl ?_
  refine am_g 2 2 [some (.ref 14), some (.int 3), some (.int i), some (.int v), none] [.int 3, .ref 14] (hG σ sr ln Lc μ) rfl ?_
  refine am_call (y := 129) (vs := [.ref 14, .int 3]) (rest := []) (v := (some (.ref 45))) (h1 := (hG σ sr ln Lc μ)) rfl rfl rfl (sp_X11_sheetAt_3 (σ := σ) (μ := μ) d) ?_
  refine am_g 4 17 [some (.ref 14), some (.int 3), some (.int i), some (.int v), some (.ref 45)] [.ref 45] (hG σ sr ln Lc μ) rfl ?_
  refine am_call (y := 64) (vs := [.ref 45]) (rest := []) (v := (some (.int 1))) (h1 := (hG σ sr ln Lc μ)) rfl rfl rfl (sp_X8_isMissing_3y (σ := σ) (μ := μ) d h) ?_
  refine am_g 2 25 [some (.ref 14), some (.int 3), some (.int i), some (.int v), some (.ref 45)] [.int (-11)] (hG σ sr ln Lc μ) rfl ?_
  exact am_ret2 rfl rfl rfl rfl rfl
theorem sp_X11_cell_3o (d : Nat) (i v : Int32) (h : ¬ σ 60 0 = -1) {z : Nat} (hz : σ 61 0 = nI z) (hz40 : z ≤ 40) (hc : pu_cv z i 1 = false) : am_X xs LL (d + 2) 118 [.ref 14, .int 3, .int i, .int v] (hG σ sr ln Lc μ) (some (.int (-12))) (hG σ sr ln Lc μ) := by
  refine am_XR (d := d + 1) (C := cd_X11_cell) (L := [some (.ref 14), some (.int 3), some (.int i), some (.int v), none]) rfl rfl rfl rfl ?_
  refine am_g 2 2 [some (.ref 14), some (.int 3), some (.int i), some (.int v), none] [.int 3, .ref 14] (hG σ sr ln Lc μ) rfl ?_
  refine am_call (y := 129) (vs := [.ref 14, .int 3]) (rest := []) (v := (some (.ref 45))) (h1 := (hG σ sr ln Lc μ)) rfl rfl rfl (sp_X11_sheetAt_3 (σ := σ) (μ := μ) d) ?_
  refine am_g 4 17 [some (.ref 14), some (.int 3), some (.int i), some (.int v), some (.ref 45)] [.ref 45] (hG σ sr ln Lc μ) rfl ?_
  refine am_call (y := 64) (vs := [.ref 45]) (rest := []) (v := (some (.int 0))) (h1 := (hG σ sr ln Lc μ)) rfl rfl rfl (sp_X8_isMissing_3n (σ := σ) (μ := μ) d h) ?_
  refine am_g 4 30 [some (.ref 14), some (.int 3), some (.int i), some (.int v), some (.ref 45)] [.int 1, .int i, .ref 45] (hG σ sr ln Lc μ) rfl ?_
  refine am_call (y := 66) (vs := [.ref 45, .int i, .int 1]) (rest := []) (v := (some (.int 0))) (h1 := (hG σ sr ln Lc μ)) rfl rfl rfl (sp_X8_covers_3 (σ := σ) (μ := μ) d hz (by omega) _ _ hc) ?_
  refine am_g 2 38 [some (.ref 14), some (.int 3), some (.int i), some (.int v), some (.ref 45)] [.int (-12)] (hG σ sr ln Lc μ) rfl ?_
  exact am_ret2 rfl rfl rfl rfl rfl
theorem sp_X8_put_30 (d : Nat) {z : Nat} (hz : σ 61 0 = nI z) (hz40 : z ≤ 40) (i : Nat) (hi : i < z) (v : Int32) (hq : σ 60 0 = 0) : am_X xs LL (d + 1) 68 [.ref 45, .int (nI i), .int v] (hG σ sr ln Lc μ) none (hG (am_up σ 59 (upd (σ 59) i (v.toInt8.toInt32))) sr ln Lc μ) := by
  refine am_XR (d := d + 0) (C := cd_X8_put) (L := [some (.ref 45), some (.int (nI i)), some (.int v)]) rfl rfl rfl rfl ?_
  refine am_g 2 (if (nI i) < 0 then 21 else 4) [some (.ref 45), some (.int (nI i)), some (.int v)] [] (hG σ sr ln Lc μ) rfl ?_
  rw [if_neg (show ¬ (nI i) < 0 from (am_dnlt (a := i) (b := 0) (rfl) (rfl) (by omega) (by omega) (by omega)))]
  refine am_g 3 9 [some (.ref 45), some (.int (nI i)), some (.int v)] [.int (σ 61 0), .int (nI i)] (hG σ sr ln Lc μ) rfl ?_
  rw [show (σ 61 0) = (nI z) from hz]
  refine am_g 1 (if (nI z) ≤ (nI i) then 21 else 12) [some (.ref 45), some (.int (nI i)), some (.int v)] [] (hG σ sr ln Lc μ) rfl ?_
  rw [if_neg (show ¬ (nI z) ≤ (nI i) from (am_dnle (a := z) (b := i) (rfl) (rfl) (by omega) (by omega) (by omega)))]
  refine am_g 5 (if (nI i) < 40 then 22 else 21) [some (.ref 45), some (.int (nI i)), some (.int v)] [] (hG σ sr ln Lc μ) rfl ?_
  rw [if_pos (show (nI i) < 40 from (am_dlt (a := i) (b := 40) (rfl) (rfl) (by omega) (by omega) (by omega)))]
  refine am_g 2 26 [some (.ref 45), some (.int (nI i)), some (.int v)] [.int (σ 60 0)] (hG σ sr ln Lc μ) rfl ?_
  rw [show (σ 60 0) = 0 from hq]
  refine am_g 6 36 [some (.ref 45), some (.int (nI i)), some (.int v)] [.int (v.toInt8.toInt32), .int (nI i), .ref 46] (hG σ sr ln Lc μ) rfl ?_
  refine am_iastR (n := 40) (f := (σ 59)) (k := i) (h1 := (hG (am_up σ 59 (upd (σ 59) i (v.toInt8.toInt32))) sr ln Lc μ)) rfl rfl (rfl) (by omega) (by decide) rfl ?_
  refine am_g 1 66 [some (.ref 45), some (.int (nI i)), some (.int v)] [] (hG (am_up σ 59 (upd (σ 59) i (v.toInt8.toInt32))) sr ln Lc μ) rfl ?_
  exact am_ret2 rfl rfl rfl rfl rfl
theorem sp_X11_cell_3q0 (d : Nat) {z : Nat} (hz : σ 61 0 = nI z) (hz40 : z ≤ 40) (i : Nat) (hi : i < z) (v : Int32) (hq : σ 60 0 = 0) (hc : pu_cv z (nI i) 1 = true) : am_X xs LL (d + 2) 118 [.ref 14, .int 3, .int (nI i), .int v] (hG σ sr ln Lc μ) (some (.int 1)) (hG (am_up σ 59 (upd (σ 59) i (v.toInt8.toInt32))) sr ln Lc μ) := by
  refine am_XR (d := d + 1) (C := cd_X11_cell) (L := [some (.ref 14), some (.int 3), some (.int (nI i)), some (.int v), none]) rfl rfl rfl rfl ?_
  refine am_g 2 2 [some (.ref 14), some (.int 3), some (.int (nI i)), some (.int v), none] [.int 3, .ref 14] (hG σ sr ln Lc μ) rfl ?_
  refine am_call (y := 129) (vs := [.ref 14, .int 3]) (rest := []) (v := (some (.ref 45))) (h1 := (hG σ sr ln Lc μ)) rfl rfl rfl (sp_X11_sheetAt_3 (σ := σ) (μ := μ) d) ?_
  refine am_g 4 17 [some (.ref 14), some (.int 3), some (.int (nI i)), some (.int v), some (.ref 45)] [.ref 45] (hG σ sr ln Lc μ) rfl ?_
  refine am_call (y := 64) (vs := [.ref 45]) (rest := []) (v := (some (.int 0))) (h1 := (hG σ sr ln Lc μ)) rfl rfl rfl (sp_X8_isMissing_3n (σ := σ) (μ := μ) d (by rw [hq]; decide)) ?_
  refine am_g 4 30 [some (.ref 14), some (.int 3), some (.int (nI i)), some (.int v), some (.ref 45)] [.int 1, .int (nI i), .ref 45] (hG σ sr ln Lc μ) rfl ?_
  refine am_call (y := 66) (vs := [.ref 45, .int (nI i), .int 1]) (rest := []) (v := (some (.int 1))) (h1 := (hG σ sr ln Lc μ)) rfl rfl rfl (sp_X8_covers_3 (σ := σ) (μ := μ) d hz (by omega) _ _ hc) ?_
  refine am_g 4 43 [some (.ref 14), some (.int 3), some (.int (nI i)), some (.int v), some (.ref 45)] [.int v, .int (nI i), .ref 45] (hG σ sr ln Lc μ) rfl ?_
  refine am_call (y := 68) (vs := [.ref 45, .int (nI i), .int v]) (rest := []) (v := none) (h1 := (hG (am_up σ 59 (upd (σ 59) i (v.toInt8.toInt32))) sr ln Lc μ)) rfl rfl rfl (sp_X8_put_30 d hz (by omega) i hi _ hq) ?_
  refine am_g 1 47 [some (.ref 14), some (.int 3), some (.int (nI i)), some (.int v), some (.ref 45)] [.int 1] (hG (am_up σ 59 (upd (σ 59) i (v.toInt8.toInt32))) sr ln Lc μ) rfl ?_
  exact am_ret2 rfl rfl rfl rfl rfl
theorem sp_X8_put_31 (d : Nat) {z : Nat} (hz : σ 61 0 = nI z) (hz40 : z ≤ 40) (i : Nat) (hi : i < z) (v : Int32) (hq : σ 60 0 = 1) : am_X xs LL (d + 1) 68 [.ref 45, .int (nI i), .int v] (hG σ sr ln Lc μ) none (hG (am_up σ 59 (upd (σ 59) i (v.toInt16.toInt32))) sr ln Lc μ) := by
  refine am_XR (d := d + 0) (C := cd_X8_put) (L := [some (.ref 45), some (.int (nI i)), some (.int v)]) rfl rfl rfl rfl ?_
  refine am_g 2 (if (nI i) < 0 then 21 else 4) [some (.ref 45), some (.int (nI i)), some (.int v)] [] (hG σ sr ln Lc μ) rfl ?_
  rw [if_neg (show ¬ (nI i) < 0 from (am_dnlt (a := i) (b := 0) (rfl) (rfl) (by omega) (by omega) (by omega)))]
  refine am_g 3 9 [some (.ref 45), some (.int (nI i)), some (.int v)] [.int (σ 61 0), .int (nI i)] (hG σ sr ln Lc μ) rfl ?_
  rw [show (σ 61 0) = (nI z) from hz]
  refine am_g 1 (if (nI z) ≤ (nI i) then 21 else 12) [some (.ref 45), some (.int (nI i)), some (.int v)] [] (hG σ sr ln Lc μ) rfl ?_
  rw [if_neg (show ¬ (nI z) ≤ (nI i) from (am_dnle (a := z) (b := i) (rfl) (rfl) (by omega) (by omega) (by omega)))]
  refine am_g 5 (if (nI i) < 40 then 22 else 21) [some (.ref 45), some (.int (nI i)), some (.int v)] [] (hG σ sr ln Lc μ) rfl ?_
  rw [if_pos (show (nI i) < 40 from (am_dlt (a := i) (b := 40) (rfl) (rfl) (by omega) (by omega) (by omega)))]
  refine am_g 2 26 [some (.ref 45), some (.int (nI i)), some (.int v)] [.int (σ 60 0)] (hG σ sr ln Lc μ) rfl ?_
  rw [show (σ 60 0) = 1 from hq]
  refine am_g 3 44 [some (.ref 45), some (.int (nI i)), some (.int v)] [.int (σ 60 0)] (hG σ sr ln Lc μ) rfl ?_
  rw [show (σ 60 0) = 1 from hq]
  refine am_g 7 55 [some (.ref 45), some (.int (nI i)), some (.int v)] [.int (v.toInt16.toInt32), .int (nI i), .ref 46] (hG σ sr ln Lc μ) rfl ?_
  refine am_iastR (n := 40) (f := (σ 59)) (k := i) (h1 := (hG (am_up σ 59 (upd (σ 59) i (v.toInt16.toInt32))) sr ln Lc μ)) rfl rfl (rfl) (by omega) (by decide) rfl ?_
  refine am_g 1 66 [some (.ref 45), some (.int (nI i)), some (.int v)] [] (hG (am_up σ 59 (upd (σ 59) i (v.toInt16.toInt32))) sr ln Lc μ) rfl ?_
  exact am_ret2 rfl rfl rfl rfl rfl
theorem sp_X11_cell_3q1 (d : Nat) {z : Nat} (hz : σ 61 0 = nI z) (hz40 : z ≤ 40) (i : Nat) (hi : i < z) (v : Int32) (hq : σ 60 0 = 1) (hc : pu_cv z (nI i) 1 = true) : am_X xs LL (d + 2) 118 [.ref 14, .int 3, .int (nI i), .int v] (hG σ sr ln Lc μ) (some (.int 1)) (hG (am_up σ 59 (upd (σ 59) i (v.toInt16.toInt32))) sr ln Lc μ) := by
  refine am_XR (d := d + 1) (C := cd_X11_cell) (L := [some (.ref 14), some (.int 3), some (.int (nI i)), some (.int v), none]) rfl rfl rfl rfl ?_
  refine am_g 2 2 [some (.ref 14), some (.int 3), some (.int (nI i)), some (.int v), none] [.int 3, .ref 14] (hG σ sr ln Lc μ) rfl ?_
  refine am_call (y := 129) (vs := [.ref 14, .int 3]) (rest := []) (v := (some (.ref 45))) (h1 := (hG σ sr ln Lc μ)) rfl rfl rfl (sp_X11_sheetAt_3 (σ := σ) (μ := μ) d) ?_
  refine am_g 4 17 [some (.ref 14), some (.int 3), some (.int (nI i)), some (.int v), some (.ref 45)] [.ref 45] (hG σ sr ln Lc μ) rfl ?_
  refine am_call (y := 64) (vs := [.ref 45]) (rest := []) (v := (some (.int 0))) (h1 := (hG σ sr ln Lc μ)) rfl rfl rfl (sp_X8_isMissing_3n (σ := σ) (μ := μ) d (by rw [hq]; decide)) ?_
  refine am_g 4 30 [some (.ref 14), some (.int 3), some (.int (nI i)), some (.int v), some (.ref 45)] [.int 1, .int (nI i), .ref 45] (hG σ sr ln Lc μ) rfl ?_
  refine am_call (y := 66) (vs := [.ref 45, .int (nI i), .int 1]) (rest := []) (v := (some (.int 1))) (h1 := (hG σ sr ln Lc μ)) rfl rfl rfl (sp_X8_covers_3 (σ := σ) (μ := μ) d hz (by omega) _ _ hc) ?_
  refine am_g 4 43 [some (.ref 14), some (.int 3), some (.int (nI i)), some (.int v), some (.ref 45)] [.int v, .int (nI i), .ref 45] (hG σ sr ln Lc μ) rfl ?_
  refine am_call (y := 68) (vs := [.ref 45, .int (nI i), .int v]) (rest := []) (v := none) (h1 := (hG (am_up σ 59 (upd (σ 59) i (v.toInt16.toInt32))) sr ln Lc μ)) rfl rfl rfl (sp_X8_put_31 d hz (by omega) i hi _ hq) ?_
  refine am_g 1 47 [some (.ref 14), some (.int 3), some (.int (nI i)), some (.int v), some (.ref 45)] [.int 1] (hG (am_up σ 59 (upd (σ 59) i (v.toInt16.toInt32))) sr ln Lc μ) rfl ?_
  exact am_ret2 rfl rfl rfl rfl rfl
theorem sp_X8_put_32 (d : Nat) {z : Nat} (hz : σ 61 0 = nI z) (hz40 : z ≤ 40) (i : Nat) (hi : i < z) (v : Int32) (hq : σ 60 0 = 2) : am_X xs LL (d + 1) 68 [.ref 45, .int (nI i), .int v] (hG σ sr ln Lc μ) none (hG (am_up σ 59 (upd (σ 59) i v)) sr ln Lc μ) := by
  refine am_XR (d := d + 0) (C := cd_X8_put) (L := [some (.ref 45), some (.int (nI i)), some (.int v)]) rfl rfl rfl rfl ?_
  refine am_g 2 (if (nI i) < 0 then 21 else 4) [some (.ref 45), some (.int (nI i)), some (.int v)] [] (hG σ sr ln Lc μ) rfl ?_
  rw [if_neg (show ¬ (nI i) < 0 from (am_dnlt (a := i) (b := 0) (rfl) (rfl) (by omega) (by omega) (by omega)))]
  refine am_g 3 9 [some (.ref 45), some (.int (nI i)), some (.int v)] [.int (σ 61 0), .int (nI i)] (hG σ sr ln Lc μ) rfl ?_
  rw [show (σ 61 0) = (nI z) from hz]
  refine am_g 1 (if (nI z) ≤ (nI i) then 21 else 12) [some (.ref 45), some (.int (nI i)), some (.int v)] [] (hG σ sr ln Lc μ) rfl ?_
  rw [if_neg (show ¬ (nI z) ≤ (nI i) from (am_dnle (a := z) (b := i) (rfl) (rfl) (by omega) (by omega) (by omega)))]
  refine am_g 5 (if (nI i) < 40 then 22 else 21) [some (.ref 45), some (.int (nI i)), some (.int v)] [] (hG σ sr ln Lc μ) rfl ?_
  rw [if_pos (show (nI i) < 40 from (am_dlt (a := i) (b := 40) (rfl) (rfl) (by omega) (by omega) (by omega)))]
  refine am_g 2 26 [some (.ref 45), some (.int (nI i)), some (.int v)] [.int (σ 60 0)] (hG σ sr ln Lc μ) rfl ?_
  rw [show (σ 60 0) = 2 from hq]
  refine am_g 3 44 [some (.ref 45), some (.int (nI i)), some (.int v)] [.int (σ 60 0)] (hG σ sr ln Lc μ) rfl ?_
  rw [show (σ 60 0) = 2 from hq]
  refine am_g 6 65 [some (.ref 45), some (.int (nI i)), some (.int v)] [.int v, .int (nI i), .ref 46] (hG σ sr ln Lc μ) rfl ?_
  refine am_iastR (n := 40) (f := (σ 59)) (k := i) (h1 := (hG (am_up σ 59 (upd (σ 59) i v)) sr ln Lc μ)) rfl rfl (rfl) (by omega) (by decide) rfl ?_
  exact am_ret2 rfl rfl rfl rfl rfl
theorem sp_X11_cell_3q2 (d : Nat) {z : Nat} (hz : σ 61 0 = nI z) (hz40 : z ≤ 40) (i : Nat) (hi : i < z) (v : Int32) (hq : σ 60 0 = 2) (hc : pu_cv z (nI i) 1 = true) : am_X xs LL (d + 2) 118 [.ref 14, .int 3, .int (nI i), .int v] (hG σ sr ln Lc μ) (some (.int 1)) (hG (am_up σ 59 (upd (σ 59) i v)) sr ln Lc μ) := by
  refine am_XR (d := d + 1) (C := cd_X11_cell) (L := [some (.ref 14), some (.int 3), some (.int (nI i)), some (.int v), none]) rfl rfl rfl rfl ?_
  refine am_g 2 2 [some (.ref 14), some (.int 3), some (.int (nI i)), some (.int v), none] [.int 3, .ref 14] (hG σ sr ln Lc μ) rfl ?_
  refine am_call (y := 129) (vs := [.ref 14, .int 3]) (rest := []) (v := (some (.ref 45))) (h1 := (hG σ sr ln Lc μ)) rfl rfl rfl (sp_X11_sheetAt_3 (σ := σ) (μ := μ) d) ?_
  refine am_g 4 17 [some (.ref 14), some (.int 3), some (.int (nI i)), some (.int v), some (.ref 45)] [.ref 45] (hG σ sr ln Lc μ) rfl ?_
  refine am_call (y := 64) (vs := [.ref 45]) (rest := []) (v := (some (.int 0))) (h1 := (hG σ sr ln Lc μ)) rfl rfl rfl (sp_X8_isMissing_3n (σ := σ) (μ := μ) d (by rw [hq]; decide)) ?_
  refine am_g 4 30 [some (.ref 14), some (.int 3), some (.int (nI i)), some (.int v), some (.ref 45)] [.int 1, .int (nI i), .ref 45] (hG σ sr ln Lc μ) rfl ?_
  refine am_call (y := 66) (vs := [.ref 45, .int (nI i), .int 1]) (rest := []) (v := (some (.int 1))) (h1 := (hG σ sr ln Lc μ)) rfl rfl rfl (sp_X8_covers_3 (σ := σ) (μ := μ) d hz (by omega) _ _ hc) ?_
  refine am_g 4 43 [some (.ref 14), some (.int 3), some (.int (nI i)), some (.int v), some (.ref 45)] [.int v, .int (nI i), .ref 45] (hG σ sr ln Lc μ) rfl ?_
  refine am_call (y := 68) (vs := [.ref 45, .int (nI i), .int v]) (rest := []) (v := none) (h1 := (hG (am_up σ 59 (upd (σ 59) i v)) sr ln Lc μ)) rfl rfl rfl (sp_X8_put_32 d hz (by omega) i hi _ hq) ?_
  refine am_g 1 47 [some (.ref 14), some (.int 3), some (.int (nI i)), some (.int v), some (.ref 45)] [.int 1] (hG (am_up σ 59 (upd (σ 59) i v)) sr ln Lc μ) rfl ?_
  exact am_ret2 rfl rfl rfl rfl rfl
theorem sp_X8_itemAt_3 (d : Nat) {z : Nat} (hz : σ 61 0 = nI z) (hz40 : z ≤ 40) (i : Nat) (hi : i < z) : am_X xs LL (d + 1) 67 [.ref 45, .int (nI i)] (hG σ sr ln Lc μ) (some (.int (σ 59 i))) (hG σ sr ln Lc μ) := by
  refine am_XR (d := d + 0) (C := cd_X8_itemAt) (L := [some (.ref 45), some (.int (nI i))]) rfl rfl rfl rfl ?_
  refine am_g 2 (if (nI i) < 0 then 30 else 4) [some (.ref 45), some (.int (nI i))] [] (hG σ sr ln Lc μ) rfl ?_
  rw [if_neg (show ¬ (nI i) < 0 from (am_dnlt (a := i) (b := 0) (rfl) (rfl) (by omega) (by omega) (by omega)))]
  refine am_g 3 9 [some (.ref 45), some (.int (nI i))] [.int (σ 61 0), .int (nI i)] (hG σ sr ln Lc μ) rfl ?_
  rw [show (σ 61 0) = (nI z) from hz]
  refine am_g 1 (if (nI z) ≤ (nI i) then 30 else 12) [some (.ref 45), some (.int (nI i))] [] (hG σ sr ln Lc μ) rfl ?_
  rw [if_neg (show ¬ (nI z) ≤ (nI i) from (am_dnle (a := z) (b := i) (rfl) (rfl) (by omega) (by omega) (by omega)))]
  refine am_g 5 (if 40 ≤ (nI i) then 30 else 21) [some (.ref 45), some (.int (nI i))] [] (hG σ sr ln Lc μ) rfl ?_
  rw [if_neg (show ¬ 40 ≤ (nI i) from (am_dnle (a := 40) (b := i) (rfl) (rfl) (by omega) (by omega) (by omega)))]
  refine am_g 3 26 [some (.ref 45), some (.int (nI i))] [.int (nI i), .ref 46] (hG σ sr ln Lc μ) rfl ?_
  refine am_ialdR (n := 40) (f := (σ 59)) (k := i) rfl rfl (rfl) (by omega) (by decide) ?_
  refine am_g 1 31 [some (.ref 45), some (.int (nI i))] [.int (σ 59 i)] (hG σ sr ln Lc μ) rfl ?_
  exact am_ret2 rfl rfl rfl rfl rfl
theorem sp_X11_taped_3bk (d : Nat) (k a n : Int32) (hs3 : am_in k 3 = false) : am_X xs LL (d + 2) 120 [.ref 14, .int 3, .int k, .int a, .int n] (hG σ sr ln Lc μ) (some (.int (-2))) (hG σ sr ln Lc μ) := by
  refine am_XR (d := d + 1) (C := cd_X11_taped) (L := [some (.ref 14), some (.int 3), some (.int k), some (.int a), some (.int n), none, none]) rfl rfl rfl rfl ?_
  refine am_g 2 2 [some (.ref 14), some (.int 3), some (.int k), some (.int a), some (.int n), none, none] [.int 3, .ref 14] (hG σ sr ln Lc μ) rfl ?_
  refine am_call (y := 129) (vs := [.ref 14, .int 3]) (rest := []) (v := (some (.ref 45))) (h1 := (hG σ sr ln Lc μ)) rfl rfl rfl (sp_X11_sheetAt_3 (σ := σ) (μ := μ) d) ?_
  refine am_g 6 15 [some (.ref 14), some (.int 3), some (.int k), some (.int a), some (.int n), some (.ref 45), none] [.int 2, .int 0, .int k] (hG σ sr ln Lc μ) rfl ?_
  refine am_call (y := 122) (vs := [.int k, .int 0, .int 2]) (rest := []) (v := (some (.int 0))) (h1 := (hG σ sr ln Lc μ)) rfl rfl rfl (sp_X11_isWithin_b d _ _ _ _ ((am_wi (by decide)).trans hs3)) ?_
  refine am_g 2 34 [some (.ref 14), some (.int 3), some (.int k), some (.int a), some (.int n), some (.ref 45), none] [.int (-2)] (hG σ sr ln Lc μ) rfl ?_
  exact am_ret2 rfl rfl rfl rfl rfl
theorem sp_X11_taped_3bn (d : Nat) (k a n : Int32) (hs3 : am_in k 3 = true) (hn21 : am_in n 21 = false) : am_X xs LL (d + 2) 120 [.ref 14, .int 3, .int k, .int a, .int n] (hG σ sr ln Lc μ) (some (.int (-2))) (hG σ sr ln Lc μ) := by
  refine am_XR (d := d + 1) (C := cd_X11_taped) (L := [some (.ref 14), some (.int 3), some (.int k), some (.int a), some (.int n), none, none]) rfl rfl rfl rfl ?_
  refine am_g 2 2 [some (.ref 14), some (.int 3), some (.int k), some (.int a), some (.int n), none, none] [.int 3, .ref 14] (hG σ sr ln Lc μ) rfl ?_
  refine am_call (y := 129) (vs := [.ref 14, .int 3]) (rest := []) (v := (some (.ref 45))) (h1 := (hG σ sr ln Lc μ)) rfl rfl rfl (sp_X11_sheetAt_3 (σ := σ) (μ := μ) d) ?_
  refine am_g 6 15 [some (.ref 14), some (.int 3), some (.int k), some (.int a), some (.int n), some (.ref 45), none] [.int 2, .int 0, .int k] (hG σ sr ln Lc μ) rfl ?_
  refine am_call (y := 122) (vs := [.int k, .int 0, .int 2]) (rest := []) (v := (some (.int 1))) (h1 := (hG σ sr ln Lc μ)) rfl rfl rfl (sp_X11_isWithin_b d _ _ _ _ ((am_wi (by decide)).trans hs3)) ?_
  refine am_g 4 26 [some (.ref 14), some (.int 3), some (.int k), some (.int a), some (.int n), some (.ref 45), none] [.int 20, .int 0, .int n] (hG σ sr ln Lc μ) rfl ?_
  refine am_call (y := 122) (vs := [.int n, .int 0, .int 20]) (rest := []) (v := (some (.int 0))) (h1 := (hG σ sr ln Lc μ)) rfl rfl rfl (sp_X11_isWithin_b d _ _ _ _ ((am_wi (n := 21) (by decide)).trans hn21)) ?_
  refine am_g 2 34 [some (.ref 14), some (.int 3), some (.int k), some (.int a), some (.int n), some (.ref 45), none] [.int (-2)] (hG σ sr ln Lc μ) rfl ?_
  exact am_ret2 rfl rfl rfl rfl rfl
theorem sp_X11_taped_3m (d : Nat) (k a n : Int32) (hs3 : am_in k 3 = true) (hn21 : am_in n 21 = true) (h : σ 60 0 = -1) : am_X xs LL (d + 2) 120 [.ref 14, .int 3, .int k, .int a, .int n] (hG σ sr ln Lc μ) (some (.int (-11))) (hG σ sr ln Lc μ) := by
  refine am_XR (d := d + 1) (C := cd_X11_taped) (L := [some (.ref 14), some (.int 3), some (.int k), some (.int a), some (.int n), none, none]) rfl rfl rfl rfl ?_
  refine am_g 2 2 [some (.ref 14), some (.int 3), some (.int k), some (.int a), some (.int n), none, none] [.int 3, .ref 14] (hG σ sr ln Lc μ) rfl ?_
  refine am_call (y := 129) (vs := [.ref 14, .int 3]) (rest := []) (v := (some (.ref 45))) (h1 := (hG σ sr ln Lc μ)) rfl rfl rfl (sp_X11_sheetAt_3 (σ := σ) (μ := μ) d) ?_
  refine am_g 6 15 [some (.ref 14), some (.int 3), some (.int k), some (.int a), some (.int n), some (.ref 45), none] [.int 2, .int 0, .int k] (hG σ sr ln Lc μ) rfl ?_
  refine am_call (y := 122) (vs := [.int k, .int 0, .int 2]) (rest := []) (v := (some (.int 1))) (h1 := (hG σ sr ln Lc μ)) rfl rfl rfl (sp_X11_isWithin_b d _ _ _ _ ((am_wi (by decide)).trans hs3)) ?_
  refine am_g 4 26 [some (.ref 14), some (.int 3), some (.int k), some (.int a), some (.int n), some (.ref 45), none] [.int 20, .int 0, .int n] (hG σ sr ln Lc μ) rfl ?_
  refine am_call (y := 122) (vs := [.int n, .int 0, .int 20]) (rest := []) (v := (some (.int 1))) (h1 := (hG σ sr ln Lc μ)) rfl rfl rfl (sp_X11_isWithin_b d _ _ _ _ ((am_wi (n := 21) (by decide)).trans hn21)) ?_
  refine am_g 2 37 [some (.ref 14), some (.int 3), some (.int k), some (.int a), some (.int n), some (.ref 45), none] [.ref 45] (hG σ sr ln Lc μ) rfl ?_
  refine am_call (y := 64) (vs := [.ref 45]) (rest := []) (v := (some (.int 1))) (h1 := (hG σ sr ln Lc μ)) rfl rfl rfl (sp_X8_isMissing_3y (σ := σ) (μ := μ) d h) ?_
  refine am_g 2 57 [some (.ref 14), some (.int 3), some (.int k), some (.int a), some (.int n), some (.ref 45), none] [.ref 45] (hG σ sr ln Lc μ) rfl ?_
  refine am_call (y := 64) (vs := [.ref 45]) (rest := []) (v := (some (.int 1))) (h1 := (hG σ sr ln Lc μ)) rfl rfl rfl (sp_X8_isMissing_3y (σ := σ) (μ := μ) d h) ?_
  refine am_g 2 65 [some (.ref 14), some (.int 3), some (.int k), some (.int a), some (.int n), some (.ref 45), none] [.int (-11)] (hG σ sr ln Lc μ) rfl ?_
  exact am_ret2 rfl rfl rfl rfl rfl
theorem sp_X11_taped_3x (d : Nat) (k a n : Int32) (hs3 : am_in k 3 = true) (hn21 : am_in n 21 = true) (h : ¬ σ 60 0 = -1) (hx : ¬ σ 60 0 = k) : am_X xs LL (d + 2) 120 [.ref 14, .int 3, .int k, .int a, .int n] (hG σ sr ln Lc μ) (some (.int (-13))) (hG σ sr ln Lc μ) := by
  refine am_XR (d := d + 1) (C := cd_X11_taped) (L := [some (.ref 14), some (.int 3), some (.int k), some (.int a), some (.int n), none, none]) rfl rfl rfl rfl ?_
  refine am_g 2 2 [some (.ref 14), some (.int 3), some (.int k), some (.int a), some (.int n), none, none] [.int 3, .ref 14] (hG σ sr ln Lc μ) rfl ?_
  refine am_call (y := 129) (vs := [.ref 14, .int 3]) (rest := []) (v := (some (.ref 45))) (h1 := (hG σ sr ln Lc μ)) rfl rfl rfl (sp_X11_sheetAt_3 (σ := σ) (μ := μ) d) ?_
  refine am_g 6 15 [some (.ref 14), some (.int 3), some (.int k), some (.int a), some (.int n), some (.ref 45), none] [.int 2, .int 0, .int k] (hG σ sr ln Lc μ) rfl ?_
  refine am_call (y := 122) (vs := [.int k, .int 0, .int 2]) (rest := []) (v := (some (.int 1))) (h1 := (hG σ sr ln Lc μ)) rfl rfl rfl (sp_X11_isWithin_b d _ _ _ _ ((am_wi (by decide)).trans hs3)) ?_
  refine am_g 4 26 [some (.ref 14), some (.int 3), some (.int k), some (.int a), some (.int n), some (.ref 45), none] [.int 20, .int 0, .int n] (hG σ sr ln Lc μ) rfl ?_
  refine am_call (y := 122) (vs := [.int n, .int 0, .int 20]) (rest := []) (v := (some (.int 1))) (h1 := (hG σ sr ln Lc μ)) rfl rfl rfl (sp_X11_isWithin_b d _ _ _ _ ((am_wi (n := 21) (by decide)).trans hn21)) ?_
  refine am_g 2 37 [some (.ref 14), some (.int 3), some (.int k), some (.int a), some (.int n), some (.ref 45), none] [.ref 45] (hG σ sr ln Lc μ) rfl ?_
  refine am_call (y := 64) (vs := [.ref 45]) (rest := []) (v := (some (.int 0))) (h1 := (hG σ sr ln Lc μ)) rfl rfl rfl (sp_X8_isMissing_3n (σ := σ) (μ := μ) d h) ?_
  refine am_g 5 (if (σ 60 0) = k then 55 else 52) [some (.ref 14), some (.int 3), some (.int k), some (.int a), some (.int n), some (.ref 45), none] [] (hG σ sr ln Lc μ) rfl ?_
  rw [if_neg (show ¬ (σ 60 0) = k from hx)]
  refine am_g 1 54 [some (.ref 14), some (.int 3), some (.int k), some (.int a), some (.int n), some (.ref 45), none] [.int (-13)] (hG σ sr ln Lc μ) rfl ?_
  exact am_ret2 rfl rfl rfl rfl rfl
theorem sp_X11_taped_3o (d : Nat) (k a n : Int32) (hs3 : am_in k 3 = true) (hn21 : am_in n 21 = true) (h : ¬ σ 60 0 = -1) (hx : σ 60 0 = k) {z : Nat} (hz : σ 61 0 = nI z) (hz40 : z ≤ 40) (hn0 : ¬ n ≤ 0) (hc : pu_cv z a n = false) : am_X xs LL (d + 2) 120 [.ref 14, .int 3, .int k, .int a, .int n] (hG σ sr ln Lc μ) (some (.int (-12))) (hG σ sr ln Lc μ) := by
  refine am_XR (d := d + 1) (C := cd_X11_taped) (L := [some (.ref 14), some (.int 3), some (.int k), some (.int a), some (.int n), none, none]) rfl rfl rfl rfl ?_
  refine am_g 2 2 [some (.ref 14), some (.int 3), some (.int k), some (.int a), some (.int n), none, none] [.int 3, .ref 14] (hG σ sr ln Lc μ) rfl ?_
  refine am_call (y := 129) (vs := [.ref 14, .int 3]) (rest := []) (v := (some (.ref 45))) (h1 := (hG σ sr ln Lc μ)) rfl rfl rfl (sp_X11_sheetAt_3 (σ := σ) (μ := μ) d) ?_
  refine am_g 6 15 [some (.ref 14), some (.int 3), some (.int k), some (.int a), some (.int n), some (.ref 45), none] [.int 2, .int 0, .int k] (hG σ sr ln Lc μ) rfl ?_
  refine am_call (y := 122) (vs := [.int k, .int 0, .int 2]) (rest := []) (v := (some (.int 1))) (h1 := (hG σ sr ln Lc μ)) rfl rfl rfl (sp_X11_isWithin_b d _ _ _ _ ((am_wi (by decide)).trans hs3)) ?_
  refine am_g 4 26 [some (.ref 14), some (.int 3), some (.int k), some (.int a), some (.int n), some (.ref 45), none] [.int 20, .int 0, .int n] (hG σ sr ln Lc μ) rfl ?_
  refine am_call (y := 122) (vs := [.int n, .int 0, .int 20]) (rest := []) (v := (some (.int 1))) (h1 := (hG σ sr ln Lc μ)) rfl rfl rfl (sp_X11_isWithin_b d _ _ _ _ ((am_wi (n := 21) (by decide)).trans hn21)) ?_
  refine am_g 2 37 [some (.ref 14), some (.int 3), some (.int k), some (.int a), some (.int n), some (.ref 45), none] [.ref 45] (hG σ sr ln Lc μ) rfl ?_
  refine am_call (y := 64) (vs := [.ref 45]) (rest := []) (v := (some (.int 0))) (h1 := (hG σ sr ln Lc μ)) rfl rfl rfl (sp_X8_isMissing_3n (σ := σ) (μ := μ) d h) ?_
  refine am_g 5 (if (σ 60 0) = k then 55 else 52) [some (.ref 14), some (.int 3), some (.int k), some (.int a), some (.int n), some (.ref 45), none] [] (hG σ sr ln Lc μ) rfl ?_
  rw [if_pos (show (σ 60 0) = k from hx)]
  refine am_g 1 57 [some (.ref 14), some (.int 3), some (.int k), some (.int a), some (.int n), some (.ref 45), none] [.ref 45] (hG σ sr ln Lc μ) rfl ?_
  refine am_call (y := 64) (vs := [.ref 45]) (rest := []) (v := (some (.int 0))) (h1 := (hG σ sr ln Lc μ)) rfl rfl rfl (sp_X8_isMissing_3n (σ := σ) (μ := μ) d h) ?_
  refine am_g 3 (if n ≤ 0 then 85 else 71) [some (.ref 14), some (.int 3), some (.int k), some (.int a), some (.int n), some (.ref 45), none] [] (hG σ sr ln Lc μ) rfl ?_
  rw [if_neg (show ¬ n ≤ 0 from hn0)]
  refine am_g 3 76 [some (.ref 14), some (.int 3), some (.int k), some (.int a), some (.int n), some (.ref 45), none] [.int n, .int a, .ref 45] (hG σ sr ln Lc μ) rfl ?_
  refine am_call (y := 66) (vs := [.ref 45, .int a, .int n]) (rest := []) (v := (some (.int 0))) (h1 := (hG σ sr ln Lc μ)) rfl rfl rfl (sp_X8_covers_3 (σ := σ) (μ := μ) d hz (by omega) _ _ hc) ?_
  refine am_g 2 84 [some (.ref 14), some (.int 3), some (.int k), some (.int a), some (.int n), some (.ref 45), none] [.int (-12)] (hG σ sr ln Lc μ) rfl ?_
  exact am_ret2 rfl rfl rfl rfl rfl
theorem sp_X11_taped_3f0 (d : Nat) (k a : Int32) (n : Nat) (hs3 : am_in k 3 = true) (hn21 : am_in (nI n) 21 = true) (hn20 : n ≤ 20) (h : ¬ σ 60 0 = -1) (hx : σ 60 0 = k) {z : Nat} (hz : σ 61 0 = nI z) (hz40 : z ≤ 40) (hn0 : ¬ nI n ≤ 0) (hc : pu_cv z a (nI n) = true) {T : Nat} (hT : σ 8 0 = nI T) (hT20 : T ≤ 20) (hr : 20 < T + n) : am_X xs LL (d + 2) 120 [.ref 14, .int 3, .int k, .int a, .int (nI n)] (hG σ sr ln Lc μ) (some (.int (-4))) (hG σ sr ln Lc μ) := by
  refine am_XR (d := d + 1) (C := cd_X11_taped) (L := [some (.ref 14), some (.int 3), some (.int k), some (.int a), some (.int (nI n)), none, none]) rfl rfl rfl rfl ?_
  refine am_g 2 2 [some (.ref 14), some (.int 3), some (.int k), some (.int a), some (.int (nI n)), none, none] [.int 3, .ref 14] (hG σ sr ln Lc μ) rfl ?_
  refine am_call (y := 129) (vs := [.ref 14, .int 3]) (rest := []) (v := (some (.ref 45))) (h1 := (hG σ sr ln Lc μ)) rfl rfl rfl (sp_X11_sheetAt_3 (σ := σ) (μ := μ) d) ?_
  refine am_g 6 15 [some (.ref 14), some (.int 3), some (.int k), some (.int a), some (.int (nI n)), some (.ref 45), none] [.int 2, .int 0, .int k] (hG σ sr ln Lc μ) rfl ?_
  refine am_call (y := 122) (vs := [.int k, .int 0, .int 2]) (rest := []) (v := (some (.int 1))) (h1 := (hG σ sr ln Lc μ)) rfl rfl rfl (sp_X11_isWithin_b d _ _ _ _ ((am_wi (by decide)).trans hs3)) ?_
  refine am_g 4 26 [some (.ref 14), some (.int 3), some (.int k), some (.int a), some (.int (nI n)), some (.ref 45), none] [.int 20, .int 0, .int (nI n)] (hG σ sr ln Lc μ) rfl ?_
  refine am_call (y := 122) (vs := [.int (nI n), .int 0, .int 20]) (rest := []) (v := (some (.int 1))) (h1 := (hG σ sr ln Lc μ)) rfl rfl rfl (sp_X11_isWithin_b d _ _ _ _ ((am_wi (n := 21) (by decide)).trans hn21)) ?_
  refine am_g 2 37 [some (.ref 14), some (.int 3), some (.int k), some (.int a), some (.int (nI n)), some (.ref 45), none] [.ref 45] (hG σ sr ln Lc μ) rfl ?_
  refine am_call (y := 64) (vs := [.ref 45]) (rest := []) (v := (some (.int 0))) (h1 := (hG σ sr ln Lc μ)) rfl rfl rfl (sp_X8_isMissing_3n (σ := σ) (μ := μ) d h) ?_
  refine am_g 5 (if (σ 60 0) = k then 55 else 52) [some (.ref 14), some (.int 3), some (.int k), some (.int a), some (.int (nI n)), some (.ref 45), none] [] (hG σ sr ln Lc μ) rfl ?_
  rw [if_pos (show (σ 60 0) = k from hx)]
  refine am_g 1 57 [some (.ref 14), some (.int 3), some (.int k), some (.int a), some (.int (nI n)), some (.ref 45), none] [.ref 45] (hG σ sr ln Lc μ) rfl ?_
  refine am_call (y := 64) (vs := [.ref 45]) (rest := []) (v := (some (.int 0))) (h1 := (hG σ sr ln Lc μ)) rfl rfl rfl (sp_X8_isMissing_3n (σ := σ) (μ := μ) d h) ?_
  refine am_g 3 (if (nI n) ≤ 0 then 85 else 71) [some (.ref 14), some (.int 3), some (.int k), some (.int a), some (.int (nI n)), some (.ref 45), none] [] (hG σ sr ln Lc μ) rfl ?_
  rw [if_neg (show ¬ (nI n) ≤ 0 from hn0)]
  refine am_g 3 76 [some (.ref 14), some (.int 3), some (.int k), some (.int a), some (.int (nI n)), some (.ref 45), none] [.int (nI n), .int a, .ref 45] (hG σ sr ln Lc μ) rfl ?_
  refine am_call (y := 66) (vs := [.ref 45, .int a, .int (nI n)]) (rest := []) (v := (some (.int 1))) (h1 := (hG σ sr ln Lc μ)) rfl rfl rfl (sp_X8_covers_3 (σ := σ) (μ := μ) d hz (by omega) _ _ hc) ?_
  refine am_g 4 91 [some (.ref 14), some (.int 3), some (.int k), some (.int a), some (.int (nI n)), some (.ref 45), none] [.int (nI n), .ref 20] (hG σ sr ln Lc μ) rfl ?_
  refine am_call (y := 70) (vs := [.ref 20, .int (nI n)]) (rest := []) (v := (some (.int 0))) (h1 := (hG σ sr ln Lc μ)) rfl rfl rfl (sp_X9_hasRoom_n (σ := σ) (μ := μ) d hT hT20 _ hn20 hr) ?_
  refine am_g 2 99 [some (.ref 14), some (.int 3), some (.int k), some (.int a), some (.int (nI n)), some (.ref 45), none] [.int (-4)] (hG σ sr ln Lc μ) rfl ?_
  exact am_ret2 rfl rfl rfl rfl rfl
theorem sp_X11_taped_3f1 (d : Nat) (k a : Int32) (n : Nat) (hs3 : am_in k 3 = true) (hn21 : am_in (nI n) 21 = true) (hn20 : n ≤ 20) (h : ¬ σ 60 0 = -1) (hx : σ 60 0 = k) {z : Nat} (hz : σ 61 0 = nI z) (hz40 : z ≤ 40) (hn0 : nI n ≤ 0) {T : Nat} (hT : σ 8 0 = nI T) (hT20 : T ≤ 20) (hr : 20 < T + n) : am_X xs LL (d + 2) 120 [.ref 14, .int 3, .int k, .int a, .int (nI n)] (hG σ sr ln Lc μ) (some (.int (-4))) (hG σ sr ln Lc μ) := by
  refine am_XR (d := d + 1) (C := cd_X11_taped) (L := [some (.ref 14), some (.int 3), some (.int k), some (.int a), some (.int (nI n)), none, none]) rfl rfl rfl rfl ?_
  refine am_g 2 2 [some (.ref 14), some (.int 3), some (.int k), some (.int a), some (.int (nI n)), none, none] [.int 3, .ref 14] (hG σ sr ln Lc μ) rfl ?_
  refine am_call (y := 129) (vs := [.ref 14, .int 3]) (rest := []) (v := (some (.ref 45))) (h1 := (hG σ sr ln Lc μ)) rfl rfl rfl (sp_X11_sheetAt_3 (σ := σ) (μ := μ) d) ?_
  refine am_g 6 15 [some (.ref 14), some (.int 3), some (.int k), some (.int a), some (.int (nI n)), some (.ref 45), none] [.int 2, .int 0, .int k] (hG σ sr ln Lc μ) rfl ?_
  refine am_call (y := 122) (vs := [.int k, .int 0, .int 2]) (rest := []) (v := (some (.int 1))) (h1 := (hG σ sr ln Lc μ)) rfl rfl rfl (sp_X11_isWithin_b d _ _ _ _ ((am_wi (by decide)).trans hs3)) ?_
  refine am_g 4 26 [some (.ref 14), some (.int 3), some (.int k), some (.int a), some (.int (nI n)), some (.ref 45), none] [.int 20, .int 0, .int (nI n)] (hG σ sr ln Lc μ) rfl ?_
  refine am_call (y := 122) (vs := [.int (nI n), .int 0, .int 20]) (rest := []) (v := (some (.int 1))) (h1 := (hG σ sr ln Lc μ)) rfl rfl rfl (sp_X11_isWithin_b d _ _ _ _ ((am_wi (n := 21) (by decide)).trans hn21)) ?_
  refine am_g 2 37 [some (.ref 14), some (.int 3), some (.int k), some (.int a), some (.int (nI n)), some (.ref 45), none] [.ref 45] (hG σ sr ln Lc μ) rfl ?_
  refine am_call (y := 64) (vs := [.ref 45]) (rest := []) (v := (some (.int 0))) (h1 := (hG σ sr ln Lc μ)) rfl rfl rfl (sp_X8_isMissing_3n (σ := σ) (μ := μ) d h) ?_
  refine am_g 5 (if (σ 60 0) = k then 55 else 52) [some (.ref 14), some (.int 3), some (.int k), some (.int a), some (.int (nI n)), some (.ref 45), none] [] (hG σ sr ln Lc μ) rfl ?_
  rw [if_pos (show (σ 60 0) = k from hx)]
  refine am_g 1 57 [some (.ref 14), some (.int 3), some (.int k), some (.int a), some (.int (nI n)), some (.ref 45), none] [.ref 45] (hG σ sr ln Lc μ) rfl ?_
  refine am_call (y := 64) (vs := [.ref 45]) (rest := []) (v := (some (.int 0))) (h1 := (hG σ sr ln Lc μ)) rfl rfl rfl (sp_X8_isMissing_3n (σ := σ) (μ := μ) d h) ?_
  refine am_g 3 (if (nI n) ≤ 0 then 85 else 71) [some (.ref 14), some (.int 3), some (.int k), some (.int a), some (.int (nI n)), some (.ref 45), none] [] (hG σ sr ln Lc μ) rfl ?_
  rw [if_pos (show (nI n) ≤ 0 from hn0)]
  refine am_g 3 91 [some (.ref 14), some (.int 3), some (.int k), some (.int a), some (.int (nI n)), some (.ref 45), none] [.int (nI n), .ref 20] (hG σ sr ln Lc μ) rfl ?_
  refine am_call (y := 70) (vs := [.ref 20, .int (nI n)]) (rest := []) (v := (some (.int 0))) (h1 := (hG σ sr ln Lc μ)) rfl rfl rfl (sp_X9_hasRoom_n (σ := σ) (μ := μ) d hT hT20 _ hn20 hr) ?_
  refine am_g 2 99 [some (.ref 14), some (.int 3), some (.int k), some (.int a), some (.int (nI n)), some (.ref 45), none] [.int (-4)] (hG σ sr ln Lc μ) rfl ?_
  exact am_ret2 rfl rfl rfl rfl rfl
theorem sp_X11_taped_3z (d : Nat) (k a : Int32) (hs3 : am_in k 3 = true) (h : ¬ σ 60 0 = -1) (hx : σ 60 0 = k) {z : Nat} (hz : σ 61 0 = nI z) (hz40 : z ≤ 40) {T : Nat} (hT : σ 8 0 = nI T) (hT20 : T ≤ 20) : am_X xs LL (d + 2) 120 [.ref 14, .int 3, .int k, .int a, .int 0] (hG σ sr ln Lc μ) (some (.int (σ 8 0))) (hG σ sr ln Lc μ) := by
  refine am_XR (d := d + 1) (C := cd_X11_taped) (L := [some (.ref 14), some (.int 3), some (.int k), some (.int a), some (.int 0), none, none]) rfl rfl rfl rfl ?_
  refine am_g 2 2 [some (.ref 14), some (.int 3), some (.int k), some (.int a), some (.int 0), none, none] [.int 3, .ref 14] (hG σ sr ln Lc μ) rfl ?_
  refine am_call (y := 129) (vs := [.ref 14, .int 3]) (rest := []) (v := (some (.ref 45))) (h1 := (hG σ sr ln Lc μ)) rfl rfl rfl (sp_X11_sheetAt_3 (σ := σ) (μ := μ) d) ?_
  refine am_g 6 15 [some (.ref 14), some (.int 3), some (.int k), some (.int a), some (.int 0), some (.ref 45), none] [.int 2, .int 0, .int k] (hG σ sr ln Lc μ) rfl ?_
  refine am_call (y := 122) (vs := [.int k, .int 0, .int 2]) (rest := []) (v := (some (.int 1))) (h1 := (hG σ sr ln Lc μ)) rfl rfl rfl (sp_X11_isWithin_b d _ _ _ _ ((am_wi (by decide)).trans hs3)) ?_
  refine am_g 4 26 [some (.ref 14), some (.int 3), some (.int k), some (.int a), some (.int 0), some (.ref 45), none] [.int 20, .int 0, .int 0] (hG σ sr ln Lc μ) rfl ?_
  refine am_call (y := 122) (vs := [.int 0, .int 0, .int 20]) (rest := []) (v := (some (.int 1))) (h1 := (hG σ sr ln Lc μ)) rfl rfl rfl (sp_X11_isWithin_b d _ _ _ _ (show decide ((0 : Int32) ≤ 0 ∧ (0 : Int32) ≤ 20) = true from by decide)) ?_
  refine am_g 2 37 [some (.ref 14), some (.int 3), some (.int k), some (.int a), some (.int 0), some (.ref 45), none] [.ref 45] (hG σ sr ln Lc μ) rfl ?_
  refine am_call (y := 64) (vs := [.ref 45]) (rest := []) (v := (some (.int 0))) (h1 := (hG σ sr ln Lc μ)) rfl rfl rfl (sp_X8_isMissing_3n (σ := σ) (μ := μ) d h) ?_
  refine am_g 5 (if (σ 60 0) = k then 55 else 52) [some (.ref 14), some (.int 3), some (.int k), some (.int a), some (.int 0), some (.ref 45), none] [] (hG σ sr ln Lc μ) rfl ?_
  rw [if_pos (show (σ 60 0) = k from hx)]
  refine am_g 1 57 [some (.ref 14), some (.int 3), some (.int k), some (.int a), some (.int 0), some (.ref 45), none] [.ref 45] (hG σ sr ln Lc μ) rfl ?_
  refine am_call (y := 64) (vs := [.ref 45]) (rest := []) (v := (some (.int 0))) (h1 := (hG σ sr ln Lc μ)) rfl rfl rfl (sp_X8_isMissing_3n (σ := σ) (μ := μ) d h) ?_
  refine am_g 6 91 [some (.ref 14), some (.int 3), some (.int k), some (.int a), some (.int 0), some (.ref 45), none] [.int 0, .ref 20] (hG σ sr ln Lc μ) rfl ?_
  refine am_call (y := 70) (vs := [.ref 20, .int 0]) (rest := []) (v := (some (.int 1))) (h1 := (hG σ sr ln Lc μ)) rfl rfl rfl (sp_X9_hasRoom_y (σ := σ) (μ := μ) d hT hT20 _ hT20) ?_
  refine am_g 9 139 [some (.ref 14), some (.int 3), some (.int k), some (.int a), some (.int 0), some (.ref 45), some (.int 0)] [.int (σ 8 0)] (hG σ sr ln Lc μ) rfl ?_
  exact am_ret2 rfl rfl rfl rfl rfl
theorem sp_X11_taped_3q (d : Nat) (k : Int32) (a n : Nat) (hs3 : am_in k 3 = true) (hn21 : am_in (nI n) 21 = true) (hn0 : ¬ nI n ≤ 0) (h : ¬ σ 60 0 = -1) (hx : σ 60 0 = k) {z : Nat} (hz : σ 61 0 = nI z) (hz40 : z ≤ 40) (han : a + n ≤ z) (hc : pu_cv z (nI a) (nI n) = true) {T : Nat} (hT : σ 8 0 = nI T) (hT20 : T ≤ 20) (hr : T + n ≤ 20) : am_X xs LL (d + 2) 120 [.ref 14, .int 3, .int k, .int (nI a), .int (nI n)] (hG σ sr ln Lc μ) (some (.int (nI (T + n)))) (hG (am_us (am_up σ 7 (am_fill (fun k => (σ 59 (a + (k - T))) &&& 255) (σ 7) (T + n) T)) 8 (nI (T + n))) sr ln Lc μ) := by
  refine am_XR (d := d + 1) (C := cd_X11_taped) (L := [some (.ref 14), some (.int 3), some (.int k), some (.int (nI a)), some (.int (nI n)), none, none]) rfl rfl rfl rfl ?_
  refine am_g 2 2 [some (.ref 14), some (.int 3), some (.int k), some (.int (nI a)), some (.int (nI n)), none, none] [.int 3, .ref 14] (hG σ sr ln Lc μ) rfl ?_
  refine am_call (y := 129) (vs := [.ref 14, .int 3]) (rest := []) (v := (some (.ref 45))) (h1 := (hG σ sr ln Lc μ)) rfl rfl rfl (sp_X11_sheetAt_3 (σ := σ) (μ := μ) d) ?_
  refine am_g 6 15 [some (.ref 14), some (.int 3), some (.int k), some (.int (nI a)), some (.int (nI n)), some (.ref 45), none] [.int 2, .int 0, .int k] (hG σ sr ln Lc μ) rfl ?_
  refine am_call (y := 122) (vs := [.int k, .int 0, .int 2]) (rest := []) (v := (some (.int 1))) (h1 := (hG σ sr ln Lc μ)) rfl rfl rfl (sp_X11_isWithin_b d _ _ _ _ ((am_wi (by decide)).trans hs3)) ?_
  refine am_g 4 26 [some (.ref 14), some (.int 3), some (.int k), some (.int (nI a)), some (.int (nI n)), some (.ref 45), none] [.int 20, .int 0, .int (nI n)] (hG σ sr ln Lc μ) rfl ?_
  refine am_call (y := 122) (vs := [.int (nI n), .int 0, .int 20]) (rest := []) (v := (some (.int 1))) (h1 := (hG σ sr ln Lc μ)) rfl rfl rfl (sp_X11_isWithin_b d _ _ _ _ ((am_wi (n := 21) (by decide)).trans hn21)) ?_
  refine am_g 2 37 [some (.ref 14), some (.int 3), some (.int k), some (.int (nI a)), some (.int (nI n)), some (.ref 45), none] [.ref 45] (hG σ sr ln Lc μ) rfl ?_
  refine am_call (y := 64) (vs := [.ref 45]) (rest := []) (v := (some (.int 0))) (h1 := (hG σ sr ln Lc μ)) rfl rfl rfl (sp_X8_isMissing_3n (σ := σ) (μ := μ) d h) ?_
  refine am_g 5 (if (σ 60 0) = k then 55 else 52) [some (.ref 14), some (.int 3), some (.int k), some (.int (nI a)), some (.int (nI n)), some (.ref 45), none] [] (hG σ sr ln Lc μ) rfl ?_
  rw [if_pos (show (σ 60 0) = k from hx)]
  refine am_g 1 57 [some (.ref 14), some (.int 3), some (.int k), some (.int (nI a)), some (.int (nI n)), some (.ref 45), none] [.ref 45] (hG σ sr ln Lc μ) rfl ?_
  refine am_call (y := 64) (vs := [.ref 45]) (rest := []) (v := (some (.int 0))) (h1 := (hG σ sr ln Lc μ)) rfl rfl rfl (sp_X8_isMissing_3n (σ := σ) (μ := μ) d h) ?_
  refine am_g 3 (if (nI n) ≤ 0 then 85 else 71) [some (.ref 14), some (.int 3), some (.int k), some (.int (nI a)), some (.int (nI n)), some (.ref 45), none] [] (hG σ sr ln Lc μ) rfl ?_
  rw [if_neg (show ¬ (nI n) ≤ 0 from hn0)]
  refine am_g 3 76 [some (.ref 14), some (.int 3), some (.int k), some (.int (nI a)), some (.int (nI n)), some (.ref 45), none] [.int (nI n), .int (nI a), .ref 45] (hG σ sr ln Lc μ) rfl ?_
  refine am_call (y := 66) (vs := [.ref 45, .int (nI a), .int (nI n)]) (rest := []) (v := (some (.int 1))) (h1 := (hG σ sr ln Lc μ)) rfl rfl rfl (sp_X8_covers_3 (σ := σ) (μ := μ) d hz (by omega) _ _ hc) ?_
  refine am_g 4 91 [some (.ref 14), some (.int 3), some (.int k), some (.int (nI a)), some (.int (nI n)), some (.ref 45), none] [.int (nI n), .ref 20] (hG σ sr ln Lc μ) rfl ?_
  refine am_call (y := 70) (vs := [.ref 20, .int (nI n)]) (rest := []) (v := (some (.int 1))) (h1 := (hG σ sr ln Lc μ)) rfl rfl rfl (sp_X9_hasRoom_y (σ := σ) (μ := μ) d hT hT20 _ hr) ?_
  refine am_g 3 103 [some (.ref 14), some (.int 3), some (.int k), some (.int (nI a)), some (.int (nI n)), some (.ref 45), some (.int 0)] [] (hG σ sr ln Lc μ) rfl ?_
  have lp : ∀ (r i : Nat), i + r = n → am_R xs LL cd_X11_taped (am_X xs LL (d + 1)) 103 [some (.ref 14), some (.int 3), some (.int k), some (.int (nI a)), some (.int (nI n)), some (.ref 45), some (.int (nI i))] [] (hG (am_us (am_up σ 7 (am_fill (fun k => (σ 59 (a + (k - T))) &&& 255) (σ 7) (T + i) T)) 8 (nI (T + i))) sr ln Lc μ) (some (.int (nI (T + n)))) (hG (am_us (am_up σ 7 (am_fill (fun k => (σ 59 (a + (k - T))) &&& 255) (σ 7) (T + n) T)) 8 (nI (T + n))) sr ln Lc μ) := by
    intro r
    induction r with
    | zero =>
      intro i  hi
      have hi2 : i = n := by omega
      rw [hi2]
      refine am_g 3 (if (nI n) ≤ (nI n) then 132 else 110) [some (.ref 14), some (.int 3), some (.int k), some (.int (nI a)), some (.int (nI n)), some (.ref 45), some (.int (nI n))] [] (hG (am_us (am_up σ 7 (am_fill (fun k => (σ 59 (a + (k - T))) &&& 255) (σ 7) (T + n) T)) 8 (nI (T + n))) sr ln Lc μ) rfl ?_
      rw [if_pos (show (nI n) ≤ (nI n) from (am_dle (a := n) (b := n) (rfl) (rfl) (by omega) (by omega) (by omega)))]
      refine am_g 3 139 [some (.ref 14), some (.int 3), some (.int k), some (.int (nI a)), some (.int (nI n)), some (.ref 45), some (.int (nI n))] [.int (nI (T + n))] (hG (am_us (am_up σ 7 (am_fill (fun k => (σ 59 (a + (k - T))) &&& 255) (σ 7) (T + n) T)) 8 (nI (T + n))) sr ln Lc μ) rfl ?_
      exact am_ret2 rfl rfl rfl rfl rfl
    | succ r ih =>
      intro i  hi
      have hi2 : i < n := by omega
      refine am_g 3 (if (nI n) ≤ (nI i) then 132 else 110) [some (.ref 14), some (.int 3), some (.int k), some (.int (nI a)), some (.int (nI n)), some (.ref 45), some (.int (nI i))] [] (hG (am_us (am_up σ 7 (am_fill (fun k => (σ 59 (a + (k - T))) &&& 255) (σ 7) (T + i) T)) 8 (nI (T + i))) sr ln Lc μ) rfl ?_
      rw [if_neg (show ¬ (nI n) ≤ (nI i) from (am_dnle (a := n) (b := i) (rfl) (rfl) (by omega) (by omega) (by omega)))]
      refine am_g 6 120 [some (.ref 14), some (.int 3), some (.int k), some (.int (nI a)), some (.int (nI n)), some (.ref 45), some (.int (nI i))] [.int ((nI a) + (nI i)), .ref 45, .ref 20] (hG (am_us (am_up σ 7 (am_fill (fun k => (σ 59 (a + (k - T))) &&& 255) (σ 7) (T + i) T)) 8 (nI (T + i))) sr ln Lc μ) rfl ?_
      refine am_call (y := 67) (vs := [.ref 45, .int ((nI a) + (nI i))]) (rest := [.ref 20]) (v := (some (.int (σ 59 (a + i))))) (h1 := (hG (am_us (am_up σ 7 (am_fill (fun k => (σ 59 (a + (k - T))) &&& 255) (σ 7) (T + i) T)) 8 (nI (T + i))) sr ln Lc μ)) rfl rfl rfl ((by rw [show ((nI a) + (nI i)) = nI (a + i) from nI_add a i]; exact sp_X8_itemAt_3 (σ := (am_us (am_up σ 7 (am_fill (fun k => (σ 59 (a + (k - T))) &&& 255) (σ 7) (T + i) T)) 8 (nI (T + i)))) (μ := μ) d hz (by omega) (a + i) (by omega))) ?_
      refine am_call (y := 71) (vs := [.ref 20, .int (σ 59 (a + i))]) (rest := []) (v := none) (h1 := (hG (am_us (am_up σ 7 (upd (am_fill (fun k => (σ 59 (a + (k - T))) &&& 255) (σ 7) (T + i) T) (T + i) ((σ 59 (a + i)) &&& 255))) 8 (nI ((T + i) + 1))) sr ln Lc μ)) rfl rfl rfl (sp_X9_push (σ := (am_us (am_up σ 7 (am_fill (fun k => (σ 59 (a + (k - T))) &&& 255) (σ 7) (T + i) T)) 8 (nI (T + i)))) (μ := μ) d (T := T + i) rfl (by omega) _) ?_
      refine am_g 2 103 [some (.ref 14), some (.int 3), some (.int k), some (.int (nI a)), some (.int (nI n)), some (.ref 45), some (.int ((nI i) + 1))] [] (hG (am_us (am_up σ 7 (upd (am_fill (fun k => (σ 59 (a + (k - T))) &&& 255) (σ 7) (T + i) T) (T + i) ((σ 59 (a + i)) &&& 255))) 8 (nI ((T + i) + 1))) sr ln Lc μ) rfl ?_
      rw [nI_up, show upd (am_fill (fun k => (σ 59 (a + (k - T))) &&& 255) (σ 7) (T + i) T) (T + i) ((σ 59 (a + i)) &&& 255) = (am_fill (fun k => (σ 59 (a + (k - T))) &&& 255) (σ 7) (T + (i + 1)) T) from (pu_fillT (g := fun k => (σ 59 (a + (k - T))) &&& 255) (f := σ 7) T i (by show _ = (σ 59 (a + (T + i - T))) &&& 255; rw [Nat.add_sub_cancel_left]))]
      exact ih (i + 1) (by omega)
  have e := lp n 0 (by omega)
  rw [show T + 0 = T from rfl, pu_fillTT, ← hT, am_up_id, am_us_id] at e
  exact e
theorem sp_X11_copy_0b (d : Nat) (i t j n : Int32) (ht : am_in t 4 = false) : am_X xs LL (d + 2) 119 [.ref 14, .int 0, .int i, .int t, .int j, .int n] (hG σ sr ln Lc μ) (some (.int (-2))) (hG σ sr ln Lc μ) := by
  refine am_XR (d := d + 1) (C := cd_X11_copy) (L := [some (.ref 14), some (.int 0), some (.int i), some (.int t), some (.int j), some (.int n), none, none]) rfl rfl rfl rfl ?_
  refine am_g 2 2 [some (.ref 14), some (.int 0), some (.int i), some (.int t), some (.int j), some (.int n), none, none] [.int 0, .ref 14] (hG σ sr ln Lc μ) rfl ?_
  refine am_call (y := 129) (vs := [.ref 14, .int 0]) (rest := []) (v := (some (.ref 39))) (h1 := (hG σ sr ln Lc μ)) rfl rfl rfl (sp_X11_sheetAt_0 (σ := σ) (μ := μ) d) ?_
  refine am_g 3 9 [some (.ref 14), some (.int 0), some (.int i), some (.int t), some (.int j), some (.int n), some (.ref 39), none] [.int t, .ref 14] (hG σ sr ln Lc μ) rfl ?_
  refine am_call (y := 129) (vs := [.ref 14, .int t]) (rest := []) (v := (some (.null))) (h1 := (hG σ sr ln Lc μ)) rfl rfl rfl (sp_X11_sheetAt_no (σ := σ) (μ := μ) d _ ht) ?_
  refine am_g 6 26 [some (.ref 14), some (.int 0), some (.int i), some (.int t), some (.int j), some (.int n), some (.ref 39), some (.null)] [.int (-2)] (hG σ sr ln Lc μ) rfl ?_
  exact am_ret2 rfl rfl rfl rfl rfl
theorem sp_X11_copy_b0 (d : Nat) (t i j n : Int32) (ht : am_in t 4 = false) : am_X xs LL (d + 2) 119 [.ref 14, .int t, .int i, .int 0, .int j, .int n] (hG σ sr ln Lc μ) (some (.int (-2))) (hG σ sr ln Lc μ) := by
  refine am_XR (d := d + 1) (C := cd_X11_copy) (L := [some (.ref 14), some (.int t), some (.int i), some (.int 0), some (.int j), some (.int n), none, none]) rfl rfl rfl rfl ?_
  refine am_g 2 2 [some (.ref 14), some (.int t), some (.int i), some (.int 0), some (.int j), some (.int n), none, none] [.int t, .ref 14] (hG σ sr ln Lc μ) rfl ?_
  refine am_call (y := 129) (vs := [.ref 14, .int t]) (rest := []) (v := (some (.null))) (h1 := (hG σ sr ln Lc μ)) rfl rfl rfl (sp_X11_sheetAt_no (σ := σ) (μ := μ) d _ ht) ?_
  refine am_g 3 9 [some (.ref 14), some (.int t), some (.int i), some (.int 0), some (.int j), some (.int n), some (.null), none] [.int 0, .ref 14] (hG σ sr ln Lc μ) rfl ?_
  refine am_call (y := 129) (vs := [.ref 14, .int 0]) (rest := []) (v := (some (.ref 39))) (h1 := (hG σ sr ln Lc μ)) rfl rfl rfl (sp_X11_sheetAt_0 (σ := σ) (μ := μ) d) ?_
  refine am_g 4 26 [some (.ref 14), some (.int t), some (.int i), some (.int 0), some (.int j), some (.int n), some (.null), some (.ref 39)] [.int (-2)] (hG σ sr ln Lc μ) rfl ?_
  exact am_ret2 rfl rfl rfl rfl rfl
theorem sp_X11_copy_00m (d : Nat) (i j n : Int32) (h : σ 51 0 = -1) : am_X xs LL (d + 2) 119 [.ref 14, .int 0, .int i, .int 0, .int j, .int n] (hG σ sr ln Lc μ) (some (.int (-11))) (hG σ sr ln Lc μ) := by
  refine am_XR (d := d + 1) (C := cd_X11_copy) (L := [some (.ref 14), some (.int 0), some (.int i), some (.int 0), some (.int j), some (.int n), none, none]) rfl rfl rfl rfl ?_
  refine am_g 2 2 [some (.ref 14), some (.int 0), some (.int i), some (.int 0), some (.int j), some (.int n), none, none] [.int 0, .ref 14] (hG σ sr ln Lc μ) rfl ?_
  refine am_call (y := 129) (vs := [.ref 14, .int 0]) (rest := []) (v := (some (.ref 39))) (h1 := (hG σ sr ln Lc μ)) rfl rfl rfl (sp_X11_sheetAt_0 (σ := σ) (μ := μ) d) ?_
  refine am_g 3 9 [some (.ref 14), some (.int 0), some (.int i), some (.int 0), some (.int j), some (.int n), some (.ref 39), none] [.int 0, .ref 14] (hG σ sr ln Lc μ) rfl ?_
  refine am_call (y := 129) (vs := [.ref 14, .int 0]) (rest := []) (v := (some (.ref 39))) (h1 := (hG σ sr ln Lc μ)) rfl rfl rfl (sp_X11_sheetAt_0 (σ := σ) (μ := μ) d) ?_
  refine am_g 6 29 [some (.ref 14), some (.int 0), some (.int i), some (.int 0), some (.int j), some (.int n), some (.ref 39), some (.ref 39)] [.ref 39] (hG σ sr ln Lc μ) rfl ?_
  refine am_call (y := 64) (vs := [.ref 39]) (rest := []) (v := (some (.int 1))) (h1 := (hG σ sr ln Lc μ)) rfl rfl rfl (sp_X8_isMissing_0y (σ := σ) (μ := μ) d h) ?_
  refine am_g 2 45 [some (.ref 14), some (.int 0), some (.int i), some (.int 0), some (.int j), some (.int n), some (.ref 39), some (.ref 39)] [.int (-11)] (hG σ sr ln Lc μ) rfl ?_
  exact am_ret2 rfl rfl rfl rfl rfl
theorem sp_X11_copy_00o (d : Nat) (i j n : Int32) (h : ¬ σ 51 0 = -1) {z : Nat} (hz : σ 52 0 = nI z) (hz40 : z ≤ 40) (hc : (pu_cv z i n && pu_cv z j n) = false) : am_X xs LL (d + 2) 119 [.ref 14, .int 0, .int i, .int 0, .int j, .int n] (hG σ sr ln Lc μ) (some (.int (-12))) (hG σ sr ln Lc μ) := by
  refine am_XR (d := d + 1) (C := cd_X11_copy) (L := [some (.ref 14), some (.int 0), some (.int i), some (.int 0), some (.int j), some (.int n), none, none]) rfl rfl rfl rfl ?_
  refine am_g 2 2 [some (.ref 14), some (.int 0), some (.int i), some (.int 0), some (.int j), some (.int n), none, none] [.int 0, .ref 14] (hG σ sr ln Lc μ) rfl ?_
  refine am_call (y := 129) (vs := [.ref 14, .int 0]) (rest := []) (v := (some (.ref 39))) (h1 := (hG σ sr ln Lc μ)) rfl rfl rfl (sp_X11_sheetAt_0 (σ := σ) (μ := μ) d) ?_
  refine am_g 3 9 [some (.ref 14), some (.int 0), some (.int i), some (.int 0), some (.int j), some (.int n), some (.ref 39), none] [.int 0, .ref 14] (hG σ sr ln Lc μ) rfl ?_
  refine am_call (y := 129) (vs := [.ref 14, .int 0]) (rest := []) (v := (some (.ref 39))) (h1 := (hG σ sr ln Lc μ)) rfl rfl rfl (sp_X11_sheetAt_0 (σ := σ) (μ := μ) d) ?_
  refine am_g 6 29 [some (.ref 14), some (.int 0), some (.int i), some (.int 0), some (.int j), some (.int n), some (.ref 39), some (.ref 39)] [.ref 39] (hG σ sr ln Lc μ) rfl ?_
  refine am_call (y := 64) (vs := [.ref 39]) (rest := []) (v := (some (.int 0))) (h1 := (hG σ sr ln Lc μ)) rfl rfl rfl (sp_X8_isMissing_0n (σ := σ) (μ := μ) d h) ?_
  refine am_g 2 37 [some (.ref 14), some (.int 0), some (.int i), some (.int 0), some (.int j), some (.int n), some (.ref 39), some (.ref 39)] [.ref 39] (hG σ sr ln Lc μ) rfl ?_
  refine am_call (y := 64) (vs := [.ref 39]) (rest := []) (v := (some (.int 0))) (h1 := (hG σ sr ln Lc μ)) rfl rfl rfl (sp_X8_isMissing_0n (σ := σ) (μ := μ) d h) ?_
  refine am_g 6 (if (σ 51 0) = (σ 51 0) then 62 else 59) [some (.ref 14), some (.int 0), some (.int i), some (.int 0), some (.int j), some (.int n), some (.ref 39), some (.ref 39)] [] (hG σ sr ln Lc μ) rfl ?_
  rw [if_pos (show (σ 51 0) = (σ 51 0) from rfl)]
  refine am_g 3 67 [some (.ref 14), some (.int 0), some (.int i), some (.int 0), some (.int j), some (.int n), some (.ref 39), some (.ref 39)] [.int n, .int i, .ref 39] (hG σ sr ln Lc μ) rfl ?_
  cases e1 : pu_cv z i n with
  | false =>
    refine am_call (y := 66) (vs := [.ref 39, .int i, .int n]) (rest := []) (v := (some (.int 0))) (h1 := (hG σ sr ln Lc μ)) rfl rfl rfl (sp_X8_covers_0 (σ := σ) (μ := μ) d hz (by omega) _ _ e1) ?_
    refine am_g 2 87 [some (.ref 14), some (.int 0), some (.int i), some (.int 0), some (.int j), some (.int n), some (.ref 39), some (.ref 39)] [.int (-12)] (hG σ sr ln Lc μ) rfl ?_
    exact am_ret2 rfl rfl rfl rfl rfl
  | true =>
    refine am_call (y := 66) (vs := [.ref 39, .int i, .int n]) (rest := []) (v := (some (.int 1))) (h1 := (hG σ sr ln Lc μ)) rfl rfl rfl (sp_X8_covers_0 (σ := σ) (μ := μ) d hz (by omega) _ _ e1) ?_
    refine am_g 4 79 [some (.ref 14), some (.int 0), some (.int i), some (.int 0), some (.int j), some (.int n), some (.ref 39), some (.ref 39)] [.int n, .int j, .ref 39] (hG σ sr ln Lc μ) rfl ?_
    cases e2 : pu_cv z j n with
    | false =>
      refine am_call (y := 66) (vs := [.ref 39, .int j, .int n]) (rest := []) (v := (some (.int 0))) (h1 := (hG σ sr ln Lc μ)) rfl rfl rfl (sp_X8_covers_0 (σ := σ) (μ := μ) d hz (by omega) _ _ e2) ?_
      refine am_g 2 87 [some (.ref 14), some (.int 0), some (.int i), some (.int 0), some (.int j), some (.int n), some (.ref 39), some (.ref 39)] [.int (-12)] (hG σ sr ln Lc μ) rfl ?_
      exact am_ret2 rfl rfl rfl rfl rfl
    | true =>
      refine am_call (y := 66) (vs := [.ref 39, .int j, .int n]) (rest := []) (v := (some (.int 1))) (h1 := (hG σ sr ln Lc μ)) rfl rfl rfl (sp_X8_covers_0 (σ := σ) (μ := μ) d hz (by omega) _ _ e2) ?_
      refine am_g 1 88 [some (.ref 14), some (.int 0), some (.int i), some (.int 0), some (.int j), some (.int n), some (.ref 39), some (.ref 39)] [] (hG σ sr ln Lc μ) rfl ?_
      rw [e1, e2] at hc
      cases hc
theorem sp_X11_copy_00q (d : Nat) (a b c : Nat) (h : ¬ σ 51 0 = -1) {z : Nat} (hz : σ 52 0 = nI z) (hz40 : z ≤ 40) (hac : a + c ≤ z) (hbc : b + c ≤ z) (hc1 : pu_cv z (nI a) (nI c) = true) (hc2 : pu_cv z (nI b) (nI c) = true) : am_X xs LL (d + 2) 119 [.ref 14, .int 0, .int (nI a), .int 0, .int (nI b), .int (nI c)] (hG σ sr ln Lc μ) (some (.int (nI c))) (hG (am_up σ 50 (va_cpy (σ 50) (σ 50) a b c)) sr ln Lc μ) := by
  refine am_XR (d := d + 1) (C := cd_X11_copy) (L := [some (.ref 14), some (.int 0), some (.int (nI a)), some (.int 0), some (.int (nI b)), some (.int (nI c)), none, none]) rfl rfl rfl rfl ?_
  refine am_g 2 2 [some (.ref 14), some (.int 0), some (.int (nI a)), some (.int 0), some (.int (nI b)), some (.int (nI c)), none, none] [.int 0, .ref 14] (hG σ sr ln Lc μ) rfl ?_
  refine am_call (y := 129) (vs := [.ref 14, .int 0]) (rest := []) (v := (some (.ref 39))) (h1 := (hG σ sr ln Lc μ)) rfl rfl rfl (sp_X11_sheetAt_0 (σ := σ) (μ := μ) d) ?_
  refine am_g 3 9 [some (.ref 14), some (.int 0), some (.int (nI a)), some (.int 0), some (.int (nI b)), some (.int (nI c)), some (.ref 39), none] [.int 0, .ref 14] (hG σ sr ln Lc μ) rfl ?_
  refine am_call (y := 129) (vs := [.ref 14, .int 0]) (rest := []) (v := (some (.ref 39))) (h1 := (hG σ sr ln Lc μ)) rfl rfl rfl (sp_X11_sheetAt_0 (σ := σ) (μ := μ) d) ?_
  refine am_g 6 29 [some (.ref 14), some (.int 0), some (.int (nI a)), some (.int 0), some (.int (nI b)), some (.int (nI c)), some (.ref 39), some (.ref 39)] [.ref 39] (hG σ sr ln Lc μ) rfl ?_
  refine am_call (y := 64) (vs := [.ref 39]) (rest := []) (v := (some (.int 0))) (h1 := (hG σ sr ln Lc μ)) rfl rfl rfl (sp_X8_isMissing_0n (σ := σ) (μ := μ) d h) ?_
  refine am_g 2 37 [some (.ref 14), some (.int 0), some (.int (nI a)), some (.int 0), some (.int (nI b)), some (.int (nI c)), some (.ref 39), some (.ref 39)] [.ref 39] (hG σ sr ln Lc μ) rfl ?_
  refine am_call (y := 64) (vs := [.ref 39]) (rest := []) (v := (some (.int 0))) (h1 := (hG σ sr ln Lc μ)) rfl rfl rfl (sp_X8_isMissing_0n (σ := σ) (μ := μ) d h) ?_
  refine am_g 6 (if (σ 51 0) = (σ 51 0) then 62 else 59) [some (.ref 14), some (.int 0), some (.int (nI a)), some (.int 0), some (.int (nI b)), some (.int (nI c)), some (.ref 39), some (.ref 39)] [] (hG σ sr ln Lc μ) rfl ?_
  rw [if_pos (show (σ 51 0) = (σ 51 0) from rfl)]
  refine am_g 3 67 [some (.ref 14), some (.int 0), some (.int (nI a)), some (.int 0), some (.int (nI b)), some (.int (nI c)), some (.ref 39), some (.ref 39)] [.int (nI c), .int (nI a), .ref 39] (hG σ sr ln Lc μ) rfl ?_
  refine am_call (y := 66) (vs := [.ref 39, .int (nI a), .int (nI c)]) (rest := []) (v := (some (.int 1))) (h1 := (hG σ sr ln Lc μ)) rfl rfl rfl (sp_X8_covers_0 (σ := σ) (μ := μ) d hz (by omega) _ _ hc1) ?_
  refine am_g 4 79 [some (.ref 14), some (.int 0), some (.int (nI a)), some (.int 0), some (.int (nI b)), some (.int (nI c)), some (.ref 39), some (.ref 39)] [.int (nI c), .int (nI b), .ref 39] (hG σ sr ln Lc μ) rfl ?_
  refine am_call (y := 66) (vs := [.ref 39, .int (nI b), .int (nI c)]) (rest := []) (v := (some (.int 1))) (h1 := (hG σ sr ln Lc μ)) rfl rfl rfl (sp_X8_covers_0 (σ := σ) (μ := μ) d hz (by omega) _ _ hc2) ?_
  refine am_g 8 103 [some (.ref 14), some (.int 0), some (.int (nI a)), some (.int 0), some (.int (nI b)), some (.int (nI c)), some (.ref 39), some (.ref 39)] [.int (nI c), .int (nI b), .ref 40, .int (nI a), .ref 40] (hG σ sr ln Lc μ) rfl ?_
  refine am_acpR (f := (σ 50)) (g := (σ 50)) (a := a) (b := b) (c := c) (n0 := 40) (n1 := 40) (h1 := (hG (am_up σ 50 (va_cpy (σ 50) (σ 50) a b c)) sr ln Lc μ)) rfl rfl rfl rfl rfl rfl rfl (by omega) (by omega) (by decide) (by decide) rfl ?_
  refine am_g 1 108 [some (.ref 14), some (.int 0), some (.int (nI a)), some (.int 0), some (.int (nI b)), some (.int (nI c)), some (.ref 39), some (.ref 39)] [.int (nI c)] (hG (am_up σ 50 (va_cpy (σ 50) (σ 50) a b c)) sr ln Lc μ) rfl ?_
  exact am_ret2 rfl rfl rfl rfl rfl
theorem sp_X11_copy_01m (d : Nat) (i j n : Int32) (h : σ 51 0 = -1) : am_X xs LL (d + 2) 119 [.ref 14, .int 0, .int i, .int 1, .int j, .int n] (hG σ sr ln Lc μ) (some (.int (-11))) (hG σ sr ln Lc μ) := by
  refine am_XR (d := d + 1) (C := cd_X11_copy) (L := [some (.ref 14), some (.int 0), some (.int i), some (.int 1), some (.int j), some (.int n), none, none]) rfl rfl rfl rfl ?_
  refine am_g 2 2 [some (.ref 14), some (.int 0), some (.int i), some (.int 1), some (.int j), some (.int n), none, none] [.int 0, .ref 14] (hG σ sr ln Lc μ) rfl ?_
  refine am_call (y := 129) (vs := [.ref 14, .int 0]) (rest := []) (v := (some (.ref 39))) (h1 := (hG σ sr ln Lc μ)) rfl rfl rfl (sp_X11_sheetAt_0 (σ := σ) (μ := μ) d) ?_
  refine am_g 3 9 [some (.ref 14), some (.int 0), some (.int i), some (.int 1), some (.int j), some (.int n), some (.ref 39), none] [.int 1, .ref 14] (hG σ sr ln Lc μ) rfl ?_
  refine am_call (y := 129) (vs := [.ref 14, .int 1]) (rest := []) (v := (some (.ref 41))) (h1 := (hG σ sr ln Lc μ)) rfl rfl rfl (sp_X11_sheetAt_1 (σ := σ) (μ := μ) d) ?_
  refine am_g 6 29 [some (.ref 14), some (.int 0), some (.int i), some (.int 1), some (.int j), some (.int n), some (.ref 39), some (.ref 41)] [.ref 39] (hG σ sr ln Lc μ) rfl ?_
  refine am_call (y := 64) (vs := [.ref 39]) (rest := []) (v := (some (.int 1))) (h1 := (hG σ sr ln Lc μ)) rfl rfl rfl (sp_X8_isMissing_0y (σ := σ) (μ := μ) d h) ?_
  refine am_g 2 45 [some (.ref 14), some (.int 0), some (.int i), some (.int 1), some (.int j), some (.int n), some (.ref 39), some (.ref 41)] [.int (-11)] (hG σ sr ln Lc μ) rfl ?_
  exact am_ret2 rfl rfl rfl rfl rfl
theorem sp_X11_copy_01m2 (d : Nat) (i j n : Int32) (h : ¬ σ 51 0 = -1) (h2 : σ 54 0 = -1) : am_X xs LL (d + 2) 119 [.ref 14, .int 0, .int i, .int 1, .int j, .int n] (hG σ sr ln Lc μ) (some (.int (-11))) (hG σ sr ln Lc μ) := by
  refine am_XR (d := d + 1) (C := cd_X11_copy) (L := [some (.ref 14), some (.int 0), some (.int i), some (.int 1), some (.int j), some (.int n), none, none]) rfl rfl rfl rfl ?_
  refine am_g 2 2 [some (.ref 14), some (.int 0), some (.int i), some (.int 1), some (.int j), some (.int n), none, none] [.int 0, .ref 14] (hG σ sr ln Lc μ) rfl ?_
  refine am_call (y := 129) (vs := [.ref 14, .int 0]) (rest := []) (v := (some (.ref 39))) (h1 := (hG σ sr ln Lc μ)) rfl rfl rfl (sp_X11_sheetAt_0 (σ := σ) (μ := μ) d) ?_
  refine am_g 3 9 [some (.ref 14), some (.int 0), some (.int i), some (.int 1), some (.int j), some (.int n), some (.ref 39), none] [.int 1, .ref 14] (hG σ sr ln Lc μ) rfl ?_
  refine am_call (y := 129) (vs := [.ref 14, .int 1]) (rest := []) (v := (some (.ref 41))) (h1 := (hG σ sr ln Lc μ)) rfl rfl rfl (sp_X11_sheetAt_1 (σ := σ) (μ := μ) d) ?_
  refine am_g 6 29 [some (.ref 14), some (.int 0), some (.int i), some (.int 1), some (.int j), some (.int n), some (.ref 39), some (.ref 41)] [.ref 39] (hG σ sr ln Lc μ) rfl ?_
  refine am_call (y := 64) (vs := [.ref 39]) (rest := []) (v := (some (.int 0))) (h1 := (hG σ sr ln Lc μ)) rfl rfl rfl (sp_X8_isMissing_0n (σ := σ) (μ := μ) d h) ?_
  refine am_g 2 37 [some (.ref 14), some (.int 0), some (.int i), some (.int 1), some (.int j), some (.int n), some (.ref 39), some (.ref 41)] [.ref 41] (hG σ sr ln Lc μ) rfl ?_
  refine am_call (y := 64) (vs := [.ref 41]) (rest := []) (v := (some (.int 1))) (h1 := (hG σ sr ln Lc μ)) rfl rfl rfl (sp_X8_isMissing_1y (σ := σ) (μ := μ) d h2) ?_
  refine am_g 2 45 [some (.ref 14), some (.int 0), some (.int i), some (.int 1), some (.int j), some (.int n), some (.ref 39), some (.ref 41)] [.int (-11)] (hG σ sr ln Lc μ) rfl ?_
  exact am_ret2 rfl rfl rfl rfl rfl
theorem sp_X11_copy_01x (d : Nat) (i j n : Int32) (h : ¬ σ 51 0 = -1) (h2 : ¬ σ 54 0 = -1) (hx : ¬ σ 51 0 = σ 54 0) : am_X xs LL (d + 2) 119 [.ref 14, .int 0, .int i, .int 1, .int j, .int n] (hG σ sr ln Lc μ) (some (.int (-13))) (hG σ sr ln Lc μ) := by
  refine am_XR (d := d + 1) (C := cd_X11_copy) (L := [some (.ref 14), some (.int 0), some (.int i), some (.int 1), some (.int j), some (.int n), none, none]) rfl rfl rfl rfl ?_
  refine am_g 2 2 [some (.ref 14), some (.int 0), some (.int i), some (.int 1), some (.int j), some (.int n), none, none] [.int 0, .ref 14] (hG σ sr ln Lc μ) rfl ?_
  refine am_call (y := 129) (vs := [.ref 14, .int 0]) (rest := []) (v := (some (.ref 39))) (h1 := (hG σ sr ln Lc μ)) rfl rfl rfl (sp_X11_sheetAt_0 (σ := σ) (μ := μ) d) ?_
  refine am_g 3 9 [some (.ref 14), some (.int 0), some (.int i), some (.int 1), some (.int j), some (.int n), some (.ref 39), none] [.int 1, .ref 14] (hG σ sr ln Lc μ) rfl ?_
  refine am_call (y := 129) (vs := [.ref 14, .int 1]) (rest := []) (v := (some (.ref 41))) (h1 := (hG σ sr ln Lc μ)) rfl rfl rfl (sp_X11_sheetAt_1 (σ := σ) (μ := μ) d) ?_
  refine am_g 6 29 [some (.ref 14), some (.int 0), some (.int i), some (.int 1), some (.int j), some (.int n), some (.ref 39), some (.ref 41)] [.ref 39] (hG σ sr ln Lc μ) rfl ?_
  refine am_call (y := 64) (vs := [.ref 39]) (rest := []) (v := (some (.int 0))) (h1 := (hG σ sr ln Lc μ)) rfl rfl rfl (sp_X8_isMissing_0n (σ := σ) (μ := μ) d h) ?_
  refine am_g 2 37 [some (.ref 14), some (.int 0), some (.int i), some (.int 1), some (.int j), some (.int n), some (.ref 39), some (.ref 41)] [.ref 41] (hG σ sr ln Lc μ) rfl ?_
  refine am_call (y := 64) (vs := [.ref 41]) (rest := []) (v := (some (.int 0))) (h1 := (hG σ sr ln Lc μ)) rfl rfl rfl (sp_X8_isMissing_1n (σ := σ) (μ := μ) d h2) ?_
  refine am_g 6 (if (σ 51 0) = (σ 54 0) then 62 else 59) [some (.ref 14), some (.int 0), some (.int i), some (.int 1), some (.int j), some (.int n), some (.ref 39), some (.ref 41)] [] (hG σ sr ln Lc μ) rfl ?_
  rw [if_neg (show ¬ (σ 51 0) = (σ 54 0) from hx)]
  refine am_g 1 61 [some (.ref 14), some (.int 0), some (.int i), some (.int 1), some (.int j), some (.int n), some (.ref 39), some (.ref 41)] [.int (-13)] (hG σ sr ln Lc μ) rfl ?_
  exact am_ret2 rfl rfl rfl rfl rfl
theorem sp_X11_copy_01o (d : Nat) (i j n : Int32) (h : ¬ σ 51 0 = -1) (h2 : ¬ σ 54 0 = -1) (hx : σ 51 0 = σ 54 0) {z : Nat} (hz : σ 52 0 = nI z) (hz40 : z ≤ 40) {y : Nat} (hy : σ 55 0 = nI y) (hy40 : y ≤ 40) (hc : (pu_cv z i n && pu_cv y j n) = false) : am_X xs LL (d + 2) 119 [.ref 14, .int 0, .int i, .int 1, .int j, .int n] (hG σ sr ln Lc μ) (some (.int (-12))) (hG σ sr ln Lc μ) := by
  refine am_XR (d := d + 1) (C := cd_X11_copy) (L := [some (.ref 14), some (.int 0), some (.int i), some (.int 1), some (.int j), some (.int n), none, none]) rfl rfl rfl rfl ?_
  refine am_g 2 2 [some (.ref 14), some (.int 0), some (.int i), some (.int 1), some (.int j), some (.int n), none, none] [.int 0, .ref 14] (hG σ sr ln Lc μ) rfl ?_
  refine am_call (y := 129) (vs := [.ref 14, .int 0]) (rest := []) (v := (some (.ref 39))) (h1 := (hG σ sr ln Lc μ)) rfl rfl rfl (sp_X11_sheetAt_0 (σ := σ) (μ := μ) d) ?_
  refine am_g 3 9 [some (.ref 14), some (.int 0), some (.int i), some (.int 1), some (.int j), some (.int n), some (.ref 39), none] [.int 1, .ref 14] (hG σ sr ln Lc μ) rfl ?_
  refine am_call (y := 129) (vs := [.ref 14, .int 1]) (rest := []) (v := (some (.ref 41))) (h1 := (hG σ sr ln Lc μ)) rfl rfl rfl (sp_X11_sheetAt_1 (σ := σ) (μ := μ) d) ?_
  refine am_g 6 29 [some (.ref 14), some (.int 0), some (.int i), some (.int 1), some (.int j), some (.int n), some (.ref 39), some (.ref 41)] [.ref 39] (hG σ sr ln Lc μ) rfl ?_
  refine am_call (y := 64) (vs := [.ref 39]) (rest := []) (v := (some (.int 0))) (h1 := (hG σ sr ln Lc μ)) rfl rfl rfl (sp_X8_isMissing_0n (σ := σ) (μ := μ) d h) ?_
  refine am_g 2 37 [some (.ref 14), some (.int 0), some (.int i), some (.int 1), some (.int j), some (.int n), some (.ref 39), some (.ref 41)] [.ref 41] (hG σ sr ln Lc μ) rfl ?_
  refine am_call (y := 64) (vs := [.ref 41]) (rest := []) (v := (some (.int 0))) (h1 := (hG σ sr ln Lc μ)) rfl rfl rfl (sp_X8_isMissing_1n (σ := σ) (μ := μ) d h2) ?_
  refine am_g 6 (if (σ 51 0) = (σ 54 0) then 62 else 59) [some (.ref 14), some (.int 0), some (.int i), some (.int 1), some (.int j), some (.int n), some (.ref 39), some (.ref 41)] [] (hG σ sr ln Lc μ) rfl ?_
  rw [if_pos (show (σ 51 0) = (σ 54 0) from hx)]
  refine am_g 3 67 [some (.ref 14), some (.int 0), some (.int i), some (.int 1), some (.int j), some (.int n), some (.ref 39), some (.ref 41)] [.int n, .int i, .ref 39] (hG σ sr ln Lc μ) rfl ?_
  cases e1 : pu_cv z i n with
  | false =>
    refine am_call (y := 66) (vs := [.ref 39, .int i, .int n]) (rest := []) (v := (some (.int 0))) (h1 := (hG σ sr ln Lc μ)) rfl rfl rfl (sp_X8_covers_0 (σ := σ) (μ := μ) d hz (by omega) _ _ e1) ?_
    refine am_g 2 87 [some (.ref 14), some (.int 0), some (.int i), some (.int 1), some (.int j), some (.int n), some (.ref 39), some (.ref 41)] [.int (-12)] (hG σ sr ln Lc μ) rfl ?_
    exact am_ret2 rfl rfl rfl rfl rfl
  | true =>
    refine am_call (y := 66) (vs := [.ref 39, .int i, .int n]) (rest := []) (v := (some (.int 1))) (h1 := (hG σ sr ln Lc μ)) rfl rfl rfl (sp_X8_covers_0 (σ := σ) (μ := μ) d hz (by omega) _ _ e1) ?_
    refine am_g 4 79 [some (.ref 14), some (.int 0), some (.int i), some (.int 1), some (.int j), some (.int n), some (.ref 39), some (.ref 41)] [.int n, .int j, .ref 41] (hG σ sr ln Lc μ) rfl ?_
    cases e2 : pu_cv y j n with
    | false =>
      refine am_call (y := 66) (vs := [.ref 41, .int j, .int n]) (rest := []) (v := (some (.int 0))) (h1 := (hG σ sr ln Lc μ)) rfl rfl rfl (sp_X8_covers_1 (σ := σ) (μ := μ) d hy (by omega) _ _ e2) ?_
      refine am_g 2 87 [some (.ref 14), some (.int 0), some (.int i), some (.int 1), some (.int j), some (.int n), some (.ref 39), some (.ref 41)] [.int (-12)] (hG σ sr ln Lc μ) rfl ?_
      exact am_ret2 rfl rfl rfl rfl rfl
    | true =>
      refine am_call (y := 66) (vs := [.ref 41, .int j, .int n]) (rest := []) (v := (some (.int 1))) (h1 := (hG σ sr ln Lc μ)) rfl rfl rfl (sp_X8_covers_1 (σ := σ) (μ := μ) d hy (by omega) _ _ e2) ?_
      refine am_g 1 88 [some (.ref 14), some (.int 0), some (.int i), some (.int 1), some (.int j), some (.int n), some (.ref 39), some (.ref 41)] [] (hG σ sr ln Lc μ) rfl ?_
      rw [e1, e2] at hc
      cases hc
theorem sp_X11_copy_01q (d : Nat) (a b c : Nat) (h : ¬ σ 51 0 = -1) (h2 : ¬ σ 54 0 = -1) (hx : σ 51 0 = σ 54 0) {z : Nat} (hz : σ 52 0 = nI z) (hz40 : z ≤ 40) {y : Nat} (hy : σ 55 0 = nI y) (hy40 : y ≤ 40) (hac : a + c ≤ z) (hbc : b + c ≤ y) (hc1 : pu_cv z (nI a) (nI c) = true) (hc2 : pu_cv y (nI b) (nI c) = true) : am_X xs LL (d + 2) 119 [.ref 14, .int 0, .int (nI a), .int 1, .int (nI b), .int (nI c)] (hG σ sr ln Lc μ) (some (.int (nI c))) (hG (am_up σ 53 (va_cpy (σ 50) (σ 53) a b c)) sr ln Lc μ) := by
  refine am_XR (d := d + 1) (C := cd_X11_copy) (L := [some (.ref 14), some (.int 0), some (.int (nI a)), some (.int 1), some (.int (nI b)), some (.int (nI c)), none, none]) rfl rfl rfl rfl ?_
  refine am_g 2 2 [some (.ref 14), some (.int 0), some (.int (nI a)), some (.int 1), some (.int (nI b)), some (.int (nI c)), none, none] [.int 0, .ref 14] (hG σ sr ln Lc μ) rfl ?_
  refine am_call (y := 129) (vs := [.ref 14, .int 0]) (rest := []) (v := (some (.ref 39))) (h1 := (hG σ sr ln Lc μ)) rfl rfl rfl (sp_X11_sheetAt_0 (σ := σ) (μ := μ) d) ?_
  refine am_g 3 9 [some (.ref 14), some (.int 0), some (.int (nI a)), some (.int 1), some (.int (nI b)), some (.int (nI c)), some (.ref 39), none] [.int 1, .ref 14] (hG σ sr ln Lc μ) rfl ?_
  refine am_call (y := 129) (vs := [.ref 14, .int 1]) (rest := []) (v := (some (.ref 41))) (h1 := (hG σ sr ln Lc μ)) rfl rfl rfl (sp_X11_sheetAt_1 (σ := σ) (μ := μ) d) ?_
  refine am_g 6 29 [some (.ref 14), some (.int 0), some (.int (nI a)), some (.int 1), some (.int (nI b)), some (.int (nI c)), some (.ref 39), some (.ref 41)] [.ref 39] (hG σ sr ln Lc μ) rfl ?_
  refine am_call (y := 64) (vs := [.ref 39]) (rest := []) (v := (some (.int 0))) (h1 := (hG σ sr ln Lc μ)) rfl rfl rfl (sp_X8_isMissing_0n (σ := σ) (μ := μ) d h) ?_
  refine am_g 2 37 [some (.ref 14), some (.int 0), some (.int (nI a)), some (.int 1), some (.int (nI b)), some (.int (nI c)), some (.ref 39), some (.ref 41)] [.ref 41] (hG σ sr ln Lc μ) rfl ?_
  refine am_call (y := 64) (vs := [.ref 41]) (rest := []) (v := (some (.int 0))) (h1 := (hG σ sr ln Lc μ)) rfl rfl rfl (sp_X8_isMissing_1n (σ := σ) (μ := μ) d h2) ?_
  refine am_g 6 (if (σ 51 0) = (σ 54 0) then 62 else 59) [some (.ref 14), some (.int 0), some (.int (nI a)), some (.int 1), some (.int (nI b)), some (.int (nI c)), some (.ref 39), some (.ref 41)] [] (hG σ sr ln Lc μ) rfl ?_
  rw [if_pos (show (σ 51 0) = (σ 54 0) from hx)]
  refine am_g 3 67 [some (.ref 14), some (.int 0), some (.int (nI a)), some (.int 1), some (.int (nI b)), some (.int (nI c)), some (.ref 39), some (.ref 41)] [.int (nI c), .int (nI a), .ref 39] (hG σ sr ln Lc μ) rfl ?_
  refine am_call (y := 66) (vs := [.ref 39, .int (nI a), .int (nI c)]) (rest := []) (v := (some (.int 1))) (h1 := (hG σ sr ln Lc μ)) rfl rfl rfl (sp_X8_covers_0 (σ := σ) (μ := μ) d hz (by omega) _ _ hc1) ?_
  refine am_g 4 79 [some (.ref 14), some (.int 0), some (.int (nI a)), some (.int 1), some (.int (nI b)), some (.int (nI c)), some (.ref 39), some (.ref 41)] [.int (nI c), .int (nI b), .ref 41] (hG σ sr ln Lc μ) rfl ?_
  refine am_call (y := 66) (vs := [.ref 41, .int (nI b), .int (nI c)]) (rest := []) (v := (some (.int 1))) (h1 := (hG σ sr ln Lc μ)) rfl rfl rfl (sp_X8_covers_1 (σ := σ) (μ := μ) d hy (by omega) _ _ hc2) ?_
  refine am_g 8 103 [some (.ref 14), some (.int 0), some (.int (nI a)), some (.int 1), some (.int (nI b)), some (.int (nI c)), some (.ref 39), some (.ref 41)] [.int (nI c), .int (nI b), .ref 42, .int (nI a), .ref 40] (hG σ sr ln Lc μ) rfl ?_
  refine am_acpR (f := (σ 50)) (g := (σ 53)) (a := a) (b := b) (c := c) (n0 := 40) (n1 := 40) (h1 := (hG (am_up σ 53 (va_cpy (σ 50) (σ 53) a b c)) sr ln Lc μ)) rfl rfl rfl rfl rfl rfl rfl (by omega) (by omega) (by decide) (by decide) rfl ?_
  refine am_g 1 108 [some (.ref 14), some (.int 0), some (.int (nI a)), some (.int 1), some (.int (nI b)), some (.int (nI c)), some (.ref 39), some (.ref 41)] [.int (nI c)] (hG (am_up σ 53 (va_cpy (σ 50) (σ 53) a b c)) sr ln Lc μ) rfl ?_
  exact am_ret2 rfl rfl rfl rfl rfl
theorem sp_X11_copy_02m (d : Nat) (i j n : Int32) (h : σ 51 0 = -1) : am_X xs LL (d + 2) 119 [.ref 14, .int 0, .int i, .int 2, .int j, .int n] (hG σ sr ln Lc μ) (some (.int (-11))) (hG σ sr ln Lc μ) := by
  refine am_XR (d := d + 1) (C := cd_X11_copy) (L := [some (.ref 14), some (.int 0), some (.int i), some (.int 2), some (.int j), some (.int n), none, none]) rfl rfl rfl rfl ?_
  refine am_g 2 2 [some (.ref 14), some (.int 0), some (.int i), some (.int 2), some (.int j), some (.int n), none, none] [.int 0, .ref 14] (hG σ sr ln Lc μ) rfl ?_
  refine am_call (y := 129) (vs := [.ref 14, .int 0]) (rest := []) (v := (some (.ref 39))) (h1 := (hG σ sr ln Lc μ)) rfl rfl rfl (sp_X11_sheetAt_0 (σ := σ) (μ := μ) d) ?_
  refine am_g 3 9 [some (.ref 14), some (.int 0), some (.int i), some (.int 2), some (.int j), some (.int n), some (.ref 39), none] [.int 2, .ref 14] (hG σ sr ln Lc μ) rfl ?_
  refine am_call (y := 129) (vs := [.ref 14, .int 2]) (rest := []) (v := (some (.ref 43))) (h1 := (hG σ sr ln Lc μ)) rfl rfl rfl (sp_X11_sheetAt_2 (σ := σ) (μ := μ) d) ?_
  refine am_g 6 29 [some (.ref 14), some (.int 0), some (.int i), some (.int 2), some (.int j), some (.int n), some (.ref 39), some (.ref 43)] [.ref 39] (hG σ sr ln Lc μ) rfl ?_
  refine am_call (y := 64) (vs := [.ref 39]) (rest := []) (v := (some (.int 1))) (h1 := (hG σ sr ln Lc μ)) rfl rfl rfl (sp_X8_isMissing_0y (σ := σ) (μ := μ) d h) ?_
  refine am_g 2 45 [some (.ref 14), some (.int 0), some (.int i), some (.int 2), some (.int j), some (.int n), some (.ref 39), some (.ref 43)] [.int (-11)] (hG σ sr ln Lc μ) rfl ?_
  exact am_ret2 rfl rfl rfl rfl rfl
theorem sp_X11_copy_02m2 (d : Nat) (i j n : Int32) (h : ¬ σ 51 0 = -1) (h2 : σ 57 0 = -1) : am_X xs LL (d + 2) 119 [.ref 14, .int 0, .int i, .int 2, .int j, .int n] (hG σ sr ln Lc μ) (some (.int (-11))) (hG σ sr ln Lc μ) := by
  refine am_XR (d := d + 1) (C := cd_X11_copy) (L := [some (.ref 14), some (.int 0), some (.int i), some (.int 2), some (.int j), some (.int n), none, none]) rfl rfl rfl rfl ?_
  refine am_g 2 2 [some (.ref 14), some (.int 0), some (.int i), some (.int 2), some (.int j), some (.int n), none, none] [.int 0, .ref 14] (hG σ sr ln Lc μ) rfl ?_
  refine am_call (y := 129) (vs := [.ref 14, .int 0]) (rest := []) (v := (some (.ref 39))) (h1 := (hG σ sr ln Lc μ)) rfl rfl rfl (sp_X11_sheetAt_0 (σ := σ) (μ := μ) d) ?_
  refine am_g 3 9 [some (.ref 14), some (.int 0), some (.int i), some (.int 2), some (.int j), some (.int n), some (.ref 39), none] [.int 2, .ref 14] (hG σ sr ln Lc μ) rfl ?_
  refine am_call (y := 129) (vs := [.ref 14, .int 2]) (rest := []) (v := (some (.ref 43))) (h1 := (hG σ sr ln Lc μ)) rfl rfl rfl (sp_X11_sheetAt_2 (σ := σ) (μ := μ) d) ?_
  refine am_g 6 29 [some (.ref 14), some (.int 0), some (.int i), some (.int 2), some (.int j), some (.int n), some (.ref 39), some (.ref 43)] [.ref 39] (hG σ sr ln Lc μ) rfl ?_
  refine am_call (y := 64) (vs := [.ref 39]) (rest := []) (v := (some (.int 0))) (h1 := (hG σ sr ln Lc μ)) rfl rfl rfl (sp_X8_isMissing_0n (σ := σ) (μ := μ) d h) ?_
  refine am_g 2 37 [some (.ref 14), some (.int 0), some (.int i), some (.int 2), some (.int j), some (.int n), some (.ref 39), some (.ref 43)] [.ref 43] (hG σ sr ln Lc μ) rfl ?_
  refine am_call (y := 64) (vs := [.ref 43]) (rest := []) (v := (some (.int 1))) (h1 := (hG σ sr ln Lc μ)) rfl rfl rfl (sp_X8_isMissing_2y (σ := σ) (μ := μ) d h2) ?_
  refine am_g 2 45 [some (.ref 14), some (.int 0), some (.int i), some (.int 2), some (.int j), some (.int n), some (.ref 39), some (.ref 43)] [.int (-11)] (hG σ sr ln Lc μ) rfl ?_
  exact am_ret2 rfl rfl rfl rfl rfl
theorem sp_X11_copy_02x (d : Nat) (i j n : Int32) (h : ¬ σ 51 0 = -1) (h2 : ¬ σ 57 0 = -1) (hx : ¬ σ 51 0 = σ 57 0) : am_X xs LL (d + 2) 119 [.ref 14, .int 0, .int i, .int 2, .int j, .int n] (hG σ sr ln Lc μ) (some (.int (-13))) (hG σ sr ln Lc μ) := by
  refine am_XR (d := d + 1) (C := cd_X11_copy) (L := [some (.ref 14), some (.int 0), some (.int i), some (.int 2), some (.int j), some (.int n), none, none]) rfl rfl rfl rfl ?_
  refine am_g 2 2 [some (.ref 14), some (.int 0), some (.int i), some (.int 2), some (.int j), some (.int n), none, none] [.int 0, .ref 14] (hG σ sr ln Lc μ) rfl ?_
  refine am_call (y := 129) (vs := [.ref 14, .int 0]) (rest := []) (v := (some (.ref 39))) (h1 := (hG σ sr ln Lc μ)) rfl rfl rfl (sp_X11_sheetAt_0 (σ := σ) (μ := μ) d) ?_
  refine am_g 3 9 [some (.ref 14), some (.int 0), some (.int i), some (.int 2), some (.int j), some (.int n), some (.ref 39), none] [.int 2, .ref 14] (hG σ sr ln Lc μ) rfl ?_
  refine am_call (y := 129) (vs := [.ref 14, .int 2]) (rest := []) (v := (some (.ref 43))) (h1 := (hG σ sr ln Lc μ)) rfl rfl rfl (sp_X11_sheetAt_2 (σ := σ) (μ := μ) d) ?_
  refine am_g 6 29 [some (.ref 14), some (.int 0), some (.int i), some (.int 2), some (.int j), some (.int n), some (.ref 39), some (.ref 43)] [.ref 39] (hG σ sr ln Lc μ) rfl ?_
  refine am_call (y := 64) (vs := [.ref 39]) (rest := []) (v := (some (.int 0))) (h1 := (hG σ sr ln Lc μ)) rfl rfl rfl (sp_X8_isMissing_0n (σ := σ) (μ := μ) d h) ?_
  refine am_g 2 37 [some (.ref 14), some (.int 0), some (.int i), some (.int 2), some (.int j), some (.int n), some (.ref 39), some (.ref 43)] [.ref 43] (hG σ sr ln Lc μ) rfl ?_
  refine am_call (y := 64) (vs := [.ref 43]) (rest := []) (v := (some (.int 0))) (h1 := (hG σ sr ln Lc μ)) rfl rfl rfl (sp_X8_isMissing_2n (σ := σ) (μ := μ) d h2) ?_
  refine am_g 6 (if (σ 51 0) = (σ 57 0) then 62 else 59) [some (.ref 14), some (.int 0), some (.int i), some (.int 2), some (.int j), some (.int n), some (.ref 39), some (.ref 43)] [] (hG σ sr ln Lc μ) rfl ?_
  rw [if_neg (show ¬ (σ 51 0) = (σ 57 0) from hx)]
  refine am_g 1 61 [some (.ref 14), some (.int 0), some (.int i), some (.int 2), some (.int j), some (.int n), some (.ref 39), some (.ref 43)] [.int (-13)] (hG σ sr ln Lc μ) rfl ?_
  exact am_ret2 rfl rfl rfl rfl rfl
theorem sp_X11_copy_02o (d : Nat) (i j n : Int32) (h : ¬ σ 51 0 = -1) (h2 : ¬ σ 57 0 = -1) (hx : σ 51 0 = σ 57 0) {z : Nat} (hz : σ 52 0 = nI z) (hz40 : z ≤ 40) {y : Nat} (hy : σ 58 0 = nI y) (hy40 : y ≤ 40) (hc : (pu_cv z i n && pu_cv y j n) = false) : am_X xs LL (d + 2) 119 [.ref 14, .int 0, .int i, .int 2, .int j, .int n] (hG σ sr ln Lc μ) (some (.int (-12))) (hG σ sr ln Lc μ) := by
  refine am_XR (d := d + 1) (C := cd_X11_copy) (L := [some (.ref 14), some (.int 0), some (.int i), some (.int 2), some (.int j), some (.int n), none, none]) rfl rfl rfl rfl ?_
  refine am_g 2 2 [some (.ref 14), some (.int 0), some (.int i), some (.int 2), some (.int j), some (.int n), none, none] [.int 0, .ref 14] (hG σ sr ln Lc μ) rfl ?_
  refine am_call (y := 129) (vs := [.ref 14, .int 0]) (rest := []) (v := (some (.ref 39))) (h1 := (hG σ sr ln Lc μ)) rfl rfl rfl (sp_X11_sheetAt_0 (σ := σ) (μ := μ) d) ?_
  refine am_g 3 9 [some (.ref 14), some (.int 0), some (.int i), some (.int 2), some (.int j), some (.int n), some (.ref 39), none] [.int 2, .ref 14] (hG σ sr ln Lc μ) rfl ?_
  refine am_call (y := 129) (vs := [.ref 14, .int 2]) (rest := []) (v := (some (.ref 43))) (h1 := (hG σ sr ln Lc μ)) rfl rfl rfl (sp_X11_sheetAt_2 (σ := σ) (μ := μ) d) ?_
  refine am_g 6 29 [some (.ref 14), some (.int 0), some (.int i), some (.int 2), some (.int j), some (.int n), some (.ref 39), some (.ref 43)] [.ref 39] (hG σ sr ln Lc μ) rfl ?_
  refine am_call (y := 64) (vs := [.ref 39]) (rest := []) (v := (some (.int 0))) (h1 := (hG σ sr ln Lc μ)) rfl rfl rfl (sp_X8_isMissing_0n (σ := σ) (μ := μ) d h) ?_
  refine am_g 2 37 [some (.ref 14), some (.int 0), some (.int i), some (.int 2), some (.int j), some (.int n), some (.ref 39), some (.ref 43)] [.ref 43] (hG σ sr ln Lc μ) rfl ?_
  refine am_call (y := 64) (vs := [.ref 43]) (rest := []) (v := (some (.int 0))) (h1 := (hG σ sr ln Lc μ)) rfl rfl rfl (sp_X8_isMissing_2n (σ := σ) (μ := μ) d h2) ?_
  refine am_g 6 (if (σ 51 0) = (σ 57 0) then 62 else 59) [some (.ref 14), some (.int 0), some (.int i), some (.int 2), some (.int j), some (.int n), some (.ref 39), some (.ref 43)] [] (hG σ sr ln Lc μ) rfl ?_
  rw [if_pos (show (σ 51 0) = (σ 57 0) from hx)]
  refine am_g 3 67 [some (.ref 14), some (.int 0), some (.int i), some (.int 2), some (.int j), some (.int n), some (.ref 39), some (.ref 43)] [.int n, .int i, .ref 39] (hG σ sr ln Lc μ) rfl ?_
  cases e1 : pu_cv z i n with
  | false =>
    refine am_call (y := 66) (vs := [.ref 39, .int i, .int n]) (rest := []) (v := (some (.int 0))) (h1 := (hG σ sr ln Lc μ)) rfl rfl rfl (sp_X8_covers_0 (σ := σ) (μ := μ) d hz (by omega) _ _ e1) ?_
    refine am_g 2 87 [some (.ref 14), some (.int 0), some (.int i), some (.int 2), some (.int j), some (.int n), some (.ref 39), some (.ref 43)] [.int (-12)] (hG σ sr ln Lc μ) rfl ?_
    exact am_ret2 rfl rfl rfl rfl rfl
  | true =>
    refine am_call (y := 66) (vs := [.ref 39, .int i, .int n]) (rest := []) (v := (some (.int 1))) (h1 := (hG σ sr ln Lc μ)) rfl rfl rfl (sp_X8_covers_0 (σ := σ) (μ := μ) d hz (by omega) _ _ e1) ?_
    refine am_g 4 79 [some (.ref 14), some (.int 0), some (.int i), some (.int 2), some (.int j), some (.int n), some (.ref 39), some (.ref 43)] [.int n, .int j, .ref 43] (hG σ sr ln Lc μ) rfl ?_
    cases e2 : pu_cv y j n with
    | false =>
      refine am_call (y := 66) (vs := [.ref 43, .int j, .int n]) (rest := []) (v := (some (.int 0))) (h1 := (hG σ sr ln Lc μ)) rfl rfl rfl (sp_X8_covers_2 (σ := σ) (μ := μ) d hy (by omega) _ _ e2) ?_
      refine am_g 2 87 [some (.ref 14), some (.int 0), some (.int i), some (.int 2), some (.int j), some (.int n), some (.ref 39), some (.ref 43)] [.int (-12)] (hG σ sr ln Lc μ) rfl ?_
      exact am_ret2 rfl rfl rfl rfl rfl
    | true =>
      refine am_call (y := 66) (vs := [.ref 43, .int j, .int n]) (rest := []) (v := (some (.int 1))) (h1 := (hG σ sr ln Lc μ)) rfl rfl rfl (sp_X8_covers_2 (σ := σ) (μ := μ) d hy (by omega) _ _ e2) ?_
      refine am_g 1 88 [some (.ref 14), some (.int 0), some (.int i), some (.int 2), some (.int j), some (.int n), some (.ref 39), some (.ref 43)] [] (hG σ sr ln Lc μ) rfl ?_
      rw [e1, e2] at hc
      cases hc
theorem sp_X11_copy_02q (d : Nat) (a b c : Nat) (h : ¬ σ 51 0 = -1) (h2 : ¬ σ 57 0 = -1) (hx : σ 51 0 = σ 57 0) {z : Nat} (hz : σ 52 0 = nI z) (hz40 : z ≤ 40) {y : Nat} (hy : σ 58 0 = nI y) (hy40 : y ≤ 40) (hac : a + c ≤ z) (hbc : b + c ≤ y) (hc1 : pu_cv z (nI a) (nI c) = true) (hc2 : pu_cv y (nI b) (nI c) = true) : am_X xs LL (d + 2) 119 [.ref 14, .int 0, .int (nI a), .int 2, .int (nI b), .int (nI c)] (hG σ sr ln Lc μ) (some (.int (nI c))) (hG (am_up σ 56 (va_cpy (σ 50) (σ 56) a b c)) sr ln Lc μ) := by
  refine am_XR (d := d + 1) (C := cd_X11_copy) (L := [some (.ref 14), some (.int 0), some (.int (nI a)), some (.int 2), some (.int (nI b)), some (.int (nI c)), none, none]) rfl rfl rfl rfl ?_
  refine am_g 2 2 [some (.ref 14), some (.int 0), some (.int (nI a)), some (.int 2), some (.int (nI b)), some (.int (nI c)), none, none] [.int 0, .ref 14] (hG σ sr ln Lc μ) rfl ?_
  refine am_call (y := 129) (vs := [.ref 14, .int 0]) (rest := []) (v := (some (.ref 39))) (h1 := (hG σ sr ln Lc μ)) rfl rfl rfl (sp_X11_sheetAt_0 (σ := σ) (μ := μ) d) ?_
  refine am_g 3 9 [some (.ref 14), some (.int 0), some (.int (nI a)), some (.int 2), some (.int (nI b)), some (.int (nI c)), some (.ref 39), none] [.int 2, .ref 14] (hG σ sr ln Lc μ) rfl ?_
  refine am_call (y := 129) (vs := [.ref 14, .int 2]) (rest := []) (v := (some (.ref 43))) (h1 := (hG σ sr ln Lc μ)) rfl rfl rfl (sp_X11_sheetAt_2 (σ := σ) (μ := μ) d) ?_
  refine am_g 6 29 [some (.ref 14), some (.int 0), some (.int (nI a)), some (.int 2), some (.int (nI b)), some (.int (nI c)), some (.ref 39), some (.ref 43)] [.ref 39] (hG σ sr ln Lc μ) rfl ?_
  refine am_call (y := 64) (vs := [.ref 39]) (rest := []) (v := (some (.int 0))) (h1 := (hG σ sr ln Lc μ)) rfl rfl rfl (sp_X8_isMissing_0n (σ := σ) (μ := μ) d h) ?_
  refine am_g 2 37 [some (.ref 14), some (.int 0), some (.int (nI a)), some (.int 2), some (.int (nI b)), some (.int (nI c)), some (.ref 39), some (.ref 43)] [.ref 43] (hG σ sr ln Lc μ) rfl ?_
  refine am_call (y := 64) (vs := [.ref 43]) (rest := []) (v := (some (.int 0))) (h1 := (hG σ sr ln Lc μ)) rfl rfl rfl (sp_X8_isMissing_2n (σ := σ) (μ := μ) d h2) ?_
  refine am_g 6 (if (σ 51 0) = (σ 57 0) then 62 else 59) [some (.ref 14), some (.int 0), some (.int (nI a)), some (.int 2), some (.int (nI b)), some (.int (nI c)), some (.ref 39), some (.ref 43)] [] (hG σ sr ln Lc μ) rfl ?_
  rw [if_pos (show (σ 51 0) = (σ 57 0) from hx)]
  refine am_g 3 67 [some (.ref 14), some (.int 0), some (.int (nI a)), some (.int 2), some (.int (nI b)), some (.int (nI c)), some (.ref 39), some (.ref 43)] [.int (nI c), .int (nI a), .ref 39] (hG σ sr ln Lc μ) rfl ?_
  refine am_call (y := 66) (vs := [.ref 39, .int (nI a), .int (nI c)]) (rest := []) (v := (some (.int 1))) (h1 := (hG σ sr ln Lc μ)) rfl rfl rfl (sp_X8_covers_0 (σ := σ) (μ := μ) d hz (by omega) _ _ hc1) ?_
  refine am_g 4 79 [some (.ref 14), some (.int 0), some (.int (nI a)), some (.int 2), some (.int (nI b)), some (.int (nI c)), some (.ref 39), some (.ref 43)] [.int (nI c), .int (nI b), .ref 43] (hG σ sr ln Lc μ) rfl ?_
  refine am_call (y := 66) (vs := [.ref 43, .int (nI b), .int (nI c)]) (rest := []) (v := (some (.int 1))) (h1 := (hG σ sr ln Lc μ)) rfl rfl rfl (sp_X8_covers_2 (σ := σ) (μ := μ) d hy (by omega) _ _ hc2) ?_
  refine am_g 8 103 [some (.ref 14), some (.int 0), some (.int (nI a)), some (.int 2), some (.int (nI b)), some (.int (nI c)), some (.ref 39), some (.ref 43)] [.int (nI c), .int (nI b), .ref 44, .int (nI a), .ref 40] (hG σ sr ln Lc μ) rfl ?_
  refine am_acpR (f := (σ 50)) (g := (σ 56)) (a := a) (b := b) (c := c) (n0 := 40) (n1 := 40) (h1 := (hG (am_up σ 56 (va_cpy (σ 50) (σ 56) a b c)) sr ln Lc μ)) rfl rfl rfl rfl rfl rfl rfl (by omega) (by omega) (by decide) (by decide) rfl ?_
  refine am_g 1 108 [some (.ref 14), some (.int 0), some (.int (nI a)), some (.int 2), some (.int (nI b)), some (.int (nI c)), some (.ref 39), some (.ref 43)] [.int (nI c)] (hG (am_up σ 56 (va_cpy (σ 50) (σ 56) a b c)) sr ln Lc μ) rfl ?_
  exact am_ret2 rfl rfl rfl rfl rfl
theorem sp_X11_copy_03m (d : Nat) (i j n : Int32) (h : σ 51 0 = -1) : am_X xs LL (d + 2) 119 [.ref 14, .int 0, .int i, .int 3, .int j, .int n] (hG σ sr ln Lc μ) (some (.int (-11))) (hG σ sr ln Lc μ) := by
  refine am_XR (d := d + 1) (C := cd_X11_copy) (L := [some (.ref 14), some (.int 0), some (.int i), some (.int 3), some (.int j), some (.int n), none, none]) rfl rfl rfl rfl ?_
  refine am_g 2 2 [some (.ref 14), some (.int 0), some (.int i), some (.int 3), some (.int j), some (.int n), none, none] [.int 0, .ref 14] (hG σ sr ln Lc μ) rfl ?_
  refine am_call (y := 129) (vs := [.ref 14, .int 0]) (rest := []) (v := (some (.ref 39))) (h1 := (hG σ sr ln Lc μ)) rfl rfl rfl (sp_X11_sheetAt_0 (σ := σ) (μ := μ) d) ?_
  refine am_g 3 9 [some (.ref 14), some (.int 0), some (.int i), some (.int 3), some (.int j), some (.int n), some (.ref 39), none] [.int 3, .ref 14] (hG σ sr ln Lc μ) rfl ?_
  refine am_call (y := 129) (vs := [.ref 14, .int 3]) (rest := []) (v := (some (.ref 45))) (h1 := (hG σ sr ln Lc μ)) rfl rfl rfl (sp_X11_sheetAt_3 (σ := σ) (μ := μ) d) ?_
  refine am_g 6 29 [some (.ref 14), some (.int 0), some (.int i), some (.int 3), some (.int j), some (.int n), some (.ref 39), some (.ref 45)] [.ref 39] (hG σ sr ln Lc μ) rfl ?_
  refine am_call (y := 64) (vs := [.ref 39]) (rest := []) (v := (some (.int 1))) (h1 := (hG σ sr ln Lc μ)) rfl rfl rfl (sp_X8_isMissing_0y (σ := σ) (μ := μ) d h) ?_
  refine am_g 2 45 [some (.ref 14), some (.int 0), some (.int i), some (.int 3), some (.int j), some (.int n), some (.ref 39), some (.ref 45)] [.int (-11)] (hG σ sr ln Lc μ) rfl ?_
  exact am_ret2 rfl rfl rfl rfl rfl
theorem sp_X11_copy_03m2 (d : Nat) (i j n : Int32) (h : ¬ σ 51 0 = -1) (h2 : σ 60 0 = -1) : am_X xs LL (d + 2) 119 [.ref 14, .int 0, .int i, .int 3, .int j, .int n] (hG σ sr ln Lc μ) (some (.int (-11))) (hG σ sr ln Lc μ) := by
  refine am_XR (d := d + 1) (C := cd_X11_copy) (L := [some (.ref 14), some (.int 0), some (.int i), some (.int 3), some (.int j), some (.int n), none, none]) rfl rfl rfl rfl ?_
  refine am_g 2 2 [some (.ref 14), some (.int 0), some (.int i), some (.int 3), some (.int j), some (.int n), none, none] [.int 0, .ref 14] (hG σ sr ln Lc μ) rfl ?_
  refine am_call (y := 129) (vs := [.ref 14, .int 0]) (rest := []) (v := (some (.ref 39))) (h1 := (hG σ sr ln Lc μ)) rfl rfl rfl (sp_X11_sheetAt_0 (σ := σ) (μ := μ) d) ?_
  refine am_g 3 9 [some (.ref 14), some (.int 0), some (.int i), some (.int 3), some (.int j), some (.int n), some (.ref 39), none] [.int 3, .ref 14] (hG σ sr ln Lc μ) rfl ?_
  refine am_call (y := 129) (vs := [.ref 14, .int 3]) (rest := []) (v := (some (.ref 45))) (h1 := (hG σ sr ln Lc μ)) rfl rfl rfl (sp_X11_sheetAt_3 (σ := σ) (μ := μ) d) ?_
  refine am_g 6 29 [some (.ref 14), some (.int 0), some (.int i), some (.int 3), some (.int j), some (.int n), some (.ref 39), some (.ref 45)] [.ref 39] (hG σ sr ln Lc μ) rfl ?_
  refine am_call (y := 64) (vs := [.ref 39]) (rest := []) (v := (some (.int 0))) (h1 := (hG σ sr ln Lc μ)) rfl rfl rfl (sp_X8_isMissing_0n (σ := σ) (μ := μ) d h) ?_
  refine am_g 2 37 [some (.ref 14), some (.int 0), some (.int i), some (.int 3), some (.int j), some (.int n), some (.ref 39), some (.ref 45)] [.ref 45] (hG σ sr ln Lc μ) rfl ?_
  refine am_call (y := 64) (vs := [.ref 45]) (rest := []) (v := (some (.int 1))) (h1 := (hG σ sr ln Lc μ)) rfl rfl rfl (sp_X8_isMissing_3y (σ := σ) (μ := μ) d h2) ?_
  refine am_g 2 45 [some (.ref 14), some (.int 0), some (.int i), some (.int 3), some (.int j), some (.int n), some (.ref 39), some (.ref 45)] [.int (-11)] (hG σ sr ln Lc μ) rfl ?_
  exact am_ret2 rfl rfl rfl rfl rfl
theorem sp_X11_copy_03x (d : Nat) (i j n : Int32) (h : ¬ σ 51 0 = -1) (h2 : ¬ σ 60 0 = -1) (hx : ¬ σ 51 0 = σ 60 0) : am_X xs LL (d + 2) 119 [.ref 14, .int 0, .int i, .int 3, .int j, .int n] (hG σ sr ln Lc μ) (some (.int (-13))) (hG σ sr ln Lc μ) := by
  refine am_XR (d := d + 1) (C := cd_X11_copy) (L := [some (.ref 14), some (.int 0), some (.int i), some (.int 3), some (.int j), some (.int n), none, none]) rfl rfl rfl rfl ?_
  refine am_g 2 2 [some (.ref 14), some (.int 0), some (.int i), some (.int 3), some (.int j), some (.int n), none, none] [.int 0, .ref 14] (hG σ sr ln Lc μ) rfl ?_
  refine am_call (y := 129) (vs := [.ref 14, .int 0]) (rest := []) (v := (some (.ref 39))) (h1 := (hG σ sr ln Lc μ)) rfl rfl rfl (sp_X11_sheetAt_0 (σ := σ) (μ := μ) d) ?_
  refine am_g 3 9 [some (.ref 14), some (.int 0), some (.int i), some (.int 3), some (.int j), some (.int n), some (.ref 39), none] [.int 3, .ref 14] (hG σ sr ln Lc μ) rfl ?_
  refine am_call (y := 129) (vs := [.ref 14, .int 3]) (rest := []) (v := (some (.ref 45))) (h1 := (hG σ sr ln Lc μ)) rfl rfl rfl (sp_X11_sheetAt_3 (σ := σ) (μ := μ) d) ?_
  refine am_g 6 29 [some (.ref 14), some (.int 0), some (.int i), some (.int 3), some (.int j), some (.int n), some (.ref 39), some (.ref 45)] [.ref 39] (hG σ sr ln Lc μ) rfl ?_
  refine am_call (y := 64) (vs := [.ref 39]) (rest := []) (v := (some (.int 0))) (h1 := (hG σ sr ln Lc μ)) rfl rfl rfl (sp_X8_isMissing_0n (σ := σ) (μ := μ) d h) ?_
  refine am_g 2 37 [some (.ref 14), some (.int 0), some (.int i), some (.int 3), some (.int j), some (.int n), some (.ref 39), some (.ref 45)] [.ref 45] (hG σ sr ln Lc μ) rfl ?_
  refine am_call (y := 64) (vs := [.ref 45]) (rest := []) (v := (some (.int 0))) (h1 := (hG σ sr ln Lc μ)) rfl rfl rfl (sp_X8_isMissing_3n (σ := σ) (μ := μ) d h2) ?_
  refine am_g 6 (if (σ 51 0) = (σ 60 0) then 62 else 59) [some (.ref 14), some (.int 0), some (.int i), some (.int 3), some (.int j), some (.int n), some (.ref 39), some (.ref 45)] [] (hG σ sr ln Lc μ) rfl ?_
  rw [if_neg (show ¬ (σ 51 0) = (σ 60 0) from hx)]
  refine am_g 1 61 [some (.ref 14), some (.int 0), some (.int i), some (.int 3), some (.int j), some (.int n), some (.ref 39), some (.ref 45)] [.int (-13)] (hG σ sr ln Lc μ) rfl ?_
  exact am_ret2 rfl rfl rfl rfl rfl
theorem sp_X11_copy_03o (d : Nat) (i j n : Int32) (h : ¬ σ 51 0 = -1) (h2 : ¬ σ 60 0 = -1) (hx : σ 51 0 = σ 60 0) {z : Nat} (hz : σ 52 0 = nI z) (hz40 : z ≤ 40) {y : Nat} (hy : σ 61 0 = nI y) (hy40 : y ≤ 40) (hc : (pu_cv z i n && pu_cv y j n) = false) : am_X xs LL (d + 2) 119 [.ref 14, .int 0, .int i, .int 3, .int j, .int n] (hG σ sr ln Lc μ) (some (.int (-12))) (hG σ sr ln Lc μ) := by
  refine am_XR (d := d + 1) (C := cd_X11_copy) (L := [some (.ref 14), some (.int 0), some (.int i), some (.int 3), some (.int j), some (.int n), none, none]) rfl rfl rfl rfl ?_
  refine am_g 2 2 [some (.ref 14), some (.int 0), some (.int i), some (.int 3), some (.int j), some (.int n), none, none] [.int 0, .ref 14] (hG σ sr ln Lc μ) rfl ?_
  refine am_call (y := 129) (vs := [.ref 14, .int 0]) (rest := []) (v := (some (.ref 39))) (h1 := (hG σ sr ln Lc μ)) rfl rfl rfl (sp_X11_sheetAt_0 (σ := σ) (μ := μ) d) ?_
  refine am_g 3 9 [some (.ref 14), some (.int 0), some (.int i), some (.int 3), some (.int j), some (.int n), some (.ref 39), none] [.int 3, .ref 14] (hG σ sr ln Lc μ) rfl ?_
  refine am_call (y := 129) (vs := [.ref 14, .int 3]) (rest := []) (v := (some (.ref 45))) (h1 := (hG σ sr ln Lc μ)) rfl rfl rfl (sp_X11_sheetAt_3 (σ := σ) (μ := μ) d) ?_
  refine am_g 6 29 [some (.ref 14), some (.int 0), some (.int i), some (.int 3), some (.int j), some (.int n), some (.ref 39), some (.ref 45)] [.ref 39] (hG σ sr ln Lc μ) rfl ?_
  refine am_call (y := 64) (vs := [.ref 39]) (rest := []) (v := (some (.int 0))) (h1 := (hG σ sr ln Lc μ)) rfl rfl rfl (sp_X8_isMissing_0n (σ := σ) (μ := μ) d h) ?_
  refine am_g 2 37 [some (.ref 14), some (.int 0), some (.int i), some (.int 3), some (.int j), some (.int n), some (.ref 39), some (.ref 45)] [.ref 45] (hG σ sr ln Lc μ) rfl ?_
  refine am_call (y := 64) (vs := [.ref 45]) (rest := []) (v := (some (.int 0))) (h1 := (hG σ sr ln Lc μ)) rfl rfl rfl (sp_X8_isMissing_3n (σ := σ) (μ := μ) d h2) ?_
  refine am_g 6 (if (σ 51 0) = (σ 60 0) then 62 else 59) [some (.ref 14), some (.int 0), some (.int i), some (.int 3), some (.int j), some (.int n), some (.ref 39), some (.ref 45)] [] (hG σ sr ln Lc μ) rfl ?_
  rw [if_pos (show (σ 51 0) = (σ 60 0) from hx)]
  refine am_g 3 67 [some (.ref 14), some (.int 0), some (.int i), some (.int 3), some (.int j), some (.int n), some (.ref 39), some (.ref 45)] [.int n, .int i, .ref 39] (hG σ sr ln Lc μ) rfl ?_
  cases e1 : pu_cv z i n with
  | false =>
    refine am_call (y := 66) (vs := [.ref 39, .int i, .int n]) (rest := []) (v := (some (.int 0))) (h1 := (hG σ sr ln Lc μ)) rfl rfl rfl (sp_X8_covers_0 (σ := σ) (μ := μ) d hz (by omega) _ _ e1) ?_
    refine am_g 2 87 [some (.ref 14), some (.int 0), some (.int i), some (.int 3), some (.int j), some (.int n), some (.ref 39), some (.ref 45)] [.int (-12)] (hG σ sr ln Lc μ) rfl ?_
    exact am_ret2 rfl rfl rfl rfl rfl
  | true =>
    refine am_call (y := 66) (vs := [.ref 39, .int i, .int n]) (rest := []) (v := (some (.int 1))) (h1 := (hG σ sr ln Lc μ)) rfl rfl rfl (sp_X8_covers_0 (σ := σ) (μ := μ) d hz (by omega) _ _ e1) ?_
    refine am_g 4 79 [some (.ref 14), some (.int 0), some (.int i), some (.int 3), some (.int j), some (.int n), some (.ref 39), some (.ref 45)] [.int n, .int j, .ref 45] (hG σ sr ln Lc μ) rfl ?_
    cases e2 : pu_cv y j n with
    | false =>
      refine am_call (y := 66) (vs := [.ref 45, .int j, .int n]) (rest := []) (v := (some (.int 0))) (h1 := (hG σ sr ln Lc μ)) rfl rfl rfl (sp_X8_covers_3 (σ := σ) (μ := μ) d hy (by omega) _ _ e2) ?_
      refine am_g 2 87 [some (.ref 14), some (.int 0), some (.int i), some (.int 3), some (.int j), some (.int n), some (.ref 39), some (.ref 45)] [.int (-12)] (hG σ sr ln Lc μ) rfl ?_
      exact am_ret2 rfl rfl rfl rfl rfl
    | true =>
      refine am_call (y := 66) (vs := [.ref 45, .int j, .int n]) (rest := []) (v := (some (.int 1))) (h1 := (hG σ sr ln Lc μ)) rfl rfl rfl (sp_X8_covers_3 (σ := σ) (μ := μ) d hy (by omega) _ _ e2) ?_
      refine am_g 1 88 [some (.ref 14), some (.int 0), some (.int i), some (.int 3), some (.int j), some (.int n), some (.ref 39), some (.ref 45)] [] (hG σ sr ln Lc μ) rfl ?_
      rw [e1, e2] at hc
      cases hc
theorem sp_X11_copy_03q (d : Nat) (a b c : Nat) (h : ¬ σ 51 0 = -1) (h2 : ¬ σ 60 0 = -1) (hx : σ 51 0 = σ 60 0) {z : Nat} (hz : σ 52 0 = nI z) (hz40 : z ≤ 40) {y : Nat} (hy : σ 61 0 = nI y) (hy40 : y ≤ 40) (hac : a + c ≤ z) (hbc : b + c ≤ y) (hc1 : pu_cv z (nI a) (nI c) = true) (hc2 : pu_cv y (nI b) (nI c) = true) : am_X xs LL (d + 2) 119 [.ref 14, .int 0, .int (nI a), .int 3, .int (nI b), .int (nI c)] (hG σ sr ln Lc μ) (some (.int (nI c))) (hG (am_up σ 59 (va_cpy (σ 50) (σ 59) a b c)) sr ln Lc μ) := by
  refine am_XR (d := d + 1) (C := cd_X11_copy) (L := [some (.ref 14), some (.int 0), some (.int (nI a)), some (.int 3), some (.int (nI b)), some (.int (nI c)), none, none]) rfl rfl rfl rfl ?_
  refine am_g 2 2 [some (.ref 14), some (.int 0), some (.int (nI a)), some (.int 3), some (.int (nI b)), some (.int (nI c)), none, none] [.int 0, .ref 14] (hG σ sr ln Lc μ) rfl ?_
  refine am_call (y := 129) (vs := [.ref 14, .int 0]) (rest := []) (v := (some (.ref 39))) (h1 := (hG σ sr ln Lc μ)) rfl rfl rfl (sp_X11_sheetAt_0 (σ := σ) (μ := μ) d) ?_
  refine am_g 3 9 [some (.ref 14), some (.int 0), some (.int (nI a)), some (.int 3), some (.int (nI b)), some (.int (nI c)), some (.ref 39), none] [.int 3, .ref 14] (hG σ sr ln Lc μ) rfl ?_
  refine am_call (y := 129) (vs := [.ref 14, .int 3]) (rest := []) (v := (some (.ref 45))) (h1 := (hG σ sr ln Lc μ)) rfl rfl rfl (sp_X11_sheetAt_3 (σ := σ) (μ := μ) d) ?_
  refine am_g 6 29 [some (.ref 14), some (.int 0), some (.int (nI a)), some (.int 3), some (.int (nI b)), some (.int (nI c)), some (.ref 39), some (.ref 45)] [.ref 39] (hG σ sr ln Lc μ) rfl ?_
  refine am_call (y := 64) (vs := [.ref 39]) (rest := []) (v := (some (.int 0))) (h1 := (hG σ sr ln Lc μ)) rfl rfl rfl (sp_X8_isMissing_0n (σ := σ) (μ := μ) d h) ?_
  refine am_g 2 37 [some (.ref 14), some (.int 0), some (.int (nI a)), some (.int 3), some (.int (nI b)), some (.int (nI c)), some (.ref 39), some (.ref 45)] [.ref 45] (hG σ sr ln Lc μ) rfl ?_
  refine am_call (y := 64) (vs := [.ref 45]) (rest := []) (v := (some (.int 0))) (h1 := (hG σ sr ln Lc μ)) rfl rfl rfl (sp_X8_isMissing_3n (σ := σ) (μ := μ) d h2) ?_
  refine am_g 6 (if (σ 51 0) = (σ 60 0) then 62 else 59) [some (.ref 14), some (.int 0), some (.int (nI a)), some (.int 3), some (.int (nI b)), some (.int (nI c)), some (.ref 39), some (.ref 45)] [] (hG σ sr ln Lc μ) rfl ?_
  rw [if_pos (show (σ 51 0) = (σ 60 0) from hx)]
  refine am_g 3 67 [some (.ref 14), some (.int 0), some (.int (nI a)), some (.int 3), some (.int (nI b)), some (.int (nI c)), some (.ref 39), some (.ref 45)] [.int (nI c), .int (nI a), .ref 39] (hG σ sr ln Lc μ) rfl ?_
  refine am_call (y := 66) (vs := [.ref 39, .int (nI a), .int (nI c)]) (rest := []) (v := (some (.int 1))) (h1 := (hG σ sr ln Lc μ)) rfl rfl rfl (sp_X8_covers_0 (σ := σ) (μ := μ) d hz (by omega) _ _ hc1) ?_
  refine am_g 4 79 [some (.ref 14), some (.int 0), some (.int (nI a)), some (.int 3), some (.int (nI b)), some (.int (nI c)), some (.ref 39), some (.ref 45)] [.int (nI c), .int (nI b), .ref 45] (hG σ sr ln Lc μ) rfl ?_
  refine am_call (y := 66) (vs := [.ref 45, .int (nI b), .int (nI c)]) (rest := []) (v := (some (.int 1))) (h1 := (hG σ sr ln Lc μ)) rfl rfl rfl (sp_X8_covers_3 (σ := σ) (μ := μ) d hy (by omega) _ _ hc2) ?_
  refine am_g 8 103 [some (.ref 14), some (.int 0), some (.int (nI a)), some (.int 3), some (.int (nI b)), some (.int (nI c)), some (.ref 39), some (.ref 45)] [.int (nI c), .int (nI b), .ref 46, .int (nI a), .ref 40] (hG σ sr ln Lc μ) rfl ?_
  refine am_acpR (f := (σ 50)) (g := (σ 59)) (a := a) (b := b) (c := c) (n0 := 40) (n1 := 40) (h1 := (hG (am_up σ 59 (va_cpy (σ 50) (σ 59) a b c)) sr ln Lc μ)) rfl rfl rfl rfl rfl rfl rfl (by omega) (by omega) (by decide) (by decide) rfl ?_
  refine am_g 1 108 [some (.ref 14), some (.int 0), some (.int (nI a)), some (.int 3), some (.int (nI b)), some (.int (nI c)), some (.ref 39), some (.ref 45)] [.int (nI c)] (hG (am_up σ 59 (va_cpy (σ 50) (σ 59) a b c)) sr ln Lc μ) rfl ?_
  exact am_ret2 rfl rfl rfl rfl rfl
theorem sp_X11_copy_1b (d : Nat) (i t j n : Int32) (ht : am_in t 4 = false) : am_X xs LL (d + 2) 119 [.ref 14, .int 1, .int i, .int t, .int j, .int n] (hG σ sr ln Lc μ) (some (.int (-2))) (hG σ sr ln Lc μ) := by
  refine am_XR (d := d + 1) (C := cd_X11_copy) (L := [some (.ref 14), some (.int 1), some (.int i), some (.int t), some (.int j), some (.int n), none, none]) rfl rfl rfl rfl ?_
  refine am_g 2 2 [some (.ref 14), some (.int 1), some (.int i), some (.int t), some (.int j), some (.int n), none, none] [.int 1, .ref 14] (hG σ sr ln Lc μ) rfl ?_
  refine am_call (y := 129) (vs := [.ref 14, .int 1]) (rest := []) (v := (some (.ref 41))) (h1 := (hG σ sr ln Lc μ)) rfl rfl rfl (sp_X11_sheetAt_1 (σ := σ) (μ := μ) d) ?_
  refine am_g 3 9 [some (.ref 14), some (.int 1), some (.int i), some (.int t), some (.int j), some (.int n), some (.ref 41), none] [.int t, .ref 14] (hG σ sr ln Lc μ) rfl ?_
  refine am_call (y := 129) (vs := [.ref 14, .int t]) (rest := []) (v := (some (.null))) (h1 := (hG σ sr ln Lc μ)) rfl rfl rfl (sp_X11_sheetAt_no (σ := σ) (μ := μ) d _ ht) ?_
  refine am_g 6 26 [some (.ref 14), some (.int 1), some (.int i), some (.int t), some (.int j), some (.int n), some (.ref 41), some (.null)] [.int (-2)] (hG σ sr ln Lc μ) rfl ?_
  exact am_ret2 rfl rfl rfl rfl rfl
theorem sp_X11_copy_b1 (d : Nat) (t i j n : Int32) (ht : am_in t 4 = false) : am_X xs LL (d + 2) 119 [.ref 14, .int t, .int i, .int 1, .int j, .int n] (hG σ sr ln Lc μ) (some (.int (-2))) (hG σ sr ln Lc μ) := by
  refine am_XR (d := d + 1) (C := cd_X11_copy) (L := [some (.ref 14), some (.int t), some (.int i), some (.int 1), some (.int j), some (.int n), none, none]) rfl rfl rfl rfl ?_
  refine am_g 2 2 [some (.ref 14), some (.int t), some (.int i), some (.int 1), some (.int j), some (.int n), none, none] [.int t, .ref 14] (hG σ sr ln Lc μ) rfl ?_
  refine am_call (y := 129) (vs := [.ref 14, .int t]) (rest := []) (v := (some (.null))) (h1 := (hG σ sr ln Lc μ)) rfl rfl rfl (sp_X11_sheetAt_no (σ := σ) (μ := μ) d _ ht) ?_
  refine am_g 3 9 [some (.ref 14), some (.int t), some (.int i), some (.int 1), some (.int j), some (.int n), some (.null), none] [.int 1, .ref 14] (hG σ sr ln Lc μ) rfl ?_
  refine am_call (y := 129) (vs := [.ref 14, .int 1]) (rest := []) (v := (some (.ref 41))) (h1 := (hG σ sr ln Lc μ)) rfl rfl rfl (sp_X11_sheetAt_1 (σ := σ) (μ := μ) d) ?_
  refine am_g 4 26 [some (.ref 14), some (.int t), some (.int i), some (.int 1), some (.int j), some (.int n), some (.null), some (.ref 41)] [.int (-2)] (hG σ sr ln Lc μ) rfl ?_
  exact am_ret2 rfl rfl rfl rfl rfl
theorem sp_X11_copy_10m (d : Nat) (i j n : Int32) (h : σ 54 0 = -1) : am_X xs LL (d + 2) 119 [.ref 14, .int 1, .int i, .int 0, .int j, .int n] (hG σ sr ln Lc μ) (some (.int (-11))) (hG σ sr ln Lc μ) := by
  refine am_XR (d := d + 1) (C := cd_X11_copy) (L := [some (.ref 14), some (.int 1), some (.int i), some (.int 0), some (.int j), some (.int n), none, none]) rfl rfl rfl rfl ?_
  refine am_g 2 2 [some (.ref 14), some (.int 1), some (.int i), some (.int 0), some (.int j), some (.int n), none, none] [.int 1, .ref 14] (hG σ sr ln Lc μ) rfl ?_
  refine am_call (y := 129) (vs := [.ref 14, .int 1]) (rest := []) (v := (some (.ref 41))) (h1 := (hG σ sr ln Lc μ)) rfl rfl rfl (sp_X11_sheetAt_1 (σ := σ) (μ := μ) d) ?_
  refine am_g 3 9 [some (.ref 14), some (.int 1), some (.int i), some (.int 0), some (.int j), some (.int n), some (.ref 41), none] [.int 0, .ref 14] (hG σ sr ln Lc μ) rfl ?_
  refine am_call (y := 129) (vs := [.ref 14, .int 0]) (rest := []) (v := (some (.ref 39))) (h1 := (hG σ sr ln Lc μ)) rfl rfl rfl (sp_X11_sheetAt_0 (σ := σ) (μ := μ) d) ?_
  refine am_g 6 29 [some (.ref 14), some (.int 1), some (.int i), some (.int 0), some (.int j), some (.int n), some (.ref 41), some (.ref 39)] [.ref 41] (hG σ sr ln Lc μ) rfl ?_
  refine am_call (y := 64) (vs := [.ref 41]) (rest := []) (v := (some (.int 1))) (h1 := (hG σ sr ln Lc μ)) rfl rfl rfl (sp_X8_isMissing_1y (σ := σ) (μ := μ) d h) ?_
  refine am_g 2 45 [some (.ref 14), some (.int 1), some (.int i), some (.int 0), some (.int j), some (.int n), some (.ref 41), some (.ref 39)] [.int (-11)] (hG σ sr ln Lc μ) rfl ?_
  exact am_ret2 rfl rfl rfl rfl rfl
theorem sp_X11_copy_10m2 (d : Nat) (i j n : Int32) (h : ¬ σ 54 0 = -1) (h2 : σ 51 0 = -1) : am_X xs LL (d + 2) 119 [.ref 14, .int 1, .int i, .int 0, .int j, .int n] (hG σ sr ln Lc μ) (some (.int (-11))) (hG σ sr ln Lc μ) := by
  refine am_XR (d := d + 1) (C := cd_X11_copy) (L := [some (.ref 14), some (.int 1), some (.int i), some (.int 0), some (.int j), some (.int n), none, none]) rfl rfl rfl rfl ?_
  refine am_g 2 2 [some (.ref 14), some (.int 1), some (.int i), some (.int 0), some (.int j), some (.int n), none, none] [.int 1, .ref 14] (hG σ sr ln Lc μ) rfl ?_
  refine am_call (y := 129) (vs := [.ref 14, .int 1]) (rest := []) (v := (some (.ref 41))) (h1 := (hG σ sr ln Lc μ)) rfl rfl rfl (sp_X11_sheetAt_1 (σ := σ) (μ := μ) d) ?_
  refine am_g 3 9 [some (.ref 14), some (.int 1), some (.int i), some (.int 0), some (.int j), some (.int n), some (.ref 41), none] [.int 0, .ref 14] (hG σ sr ln Lc μ) rfl ?_
  refine am_call (y := 129) (vs := [.ref 14, .int 0]) (rest := []) (v := (some (.ref 39))) (h1 := (hG σ sr ln Lc μ)) rfl rfl rfl (sp_X11_sheetAt_0 (σ := σ) (μ := μ) d) ?_
  refine am_g 6 29 [some (.ref 14), some (.int 1), some (.int i), some (.int 0), some (.int j), some (.int n), some (.ref 41), some (.ref 39)] [.ref 41] (hG σ sr ln Lc μ) rfl ?_
  refine am_call (y := 64) (vs := [.ref 41]) (rest := []) (v := (some (.int 0))) (h1 := (hG σ sr ln Lc μ)) rfl rfl rfl (sp_X8_isMissing_1n (σ := σ) (μ := μ) d h) ?_
  refine am_g 2 37 [some (.ref 14), some (.int 1), some (.int i), some (.int 0), some (.int j), some (.int n), some (.ref 41), some (.ref 39)] [.ref 39] (hG σ sr ln Lc μ) rfl ?_
  refine am_call (y := 64) (vs := [.ref 39]) (rest := []) (v := (some (.int 1))) (h1 := (hG σ sr ln Lc μ)) rfl rfl rfl (sp_X8_isMissing_0y (σ := σ) (μ := μ) d h2) ?_
  refine am_g 2 45 [some (.ref 14), some (.int 1), some (.int i), some (.int 0), some (.int j), some (.int n), some (.ref 41), some (.ref 39)] [.int (-11)] (hG σ sr ln Lc μ) rfl ?_
  exact am_ret2 rfl rfl rfl rfl rfl
theorem sp_X11_copy_10x (d : Nat) (i j n : Int32) (h : ¬ σ 54 0 = -1) (h2 : ¬ σ 51 0 = -1) (hx : ¬ σ 54 0 = σ 51 0) : am_X xs LL (d + 2) 119 [.ref 14, .int 1, .int i, .int 0, .int j, .int n] (hG σ sr ln Lc μ) (some (.int (-13))) (hG σ sr ln Lc μ) := by
  refine am_XR (d := d + 1) (C := cd_X11_copy) (L := [some (.ref 14), some (.int 1), some (.int i), some (.int 0), some (.int j), some (.int n), none, none]) rfl rfl rfl rfl ?_
  refine am_g 2 2 [some (.ref 14), some (.int 1), some (.int i), some (.int 0), some (.int j), some (.int n), none, none] [.int 1, .ref 14] (hG σ sr ln Lc μ) rfl ?_
  refine am_call (y := 129) (vs := [.ref 14, .int 1]) (rest := []) (v := (some (.ref 41))) (h1 := (hG σ sr ln Lc μ)) rfl rfl rfl (sp_X11_sheetAt_1 (σ := σ) (μ := μ) d) ?_
  refine am_g 3 9 [some (.ref 14), some (.int 1), some (.int i), some (.int 0), some (.int j), some (.int n), some (.ref 41), none] [.int 0, .ref 14] (hG σ sr ln Lc μ) rfl ?_
  refine am_call (y := 129) (vs := [.ref 14, .int 0]) (rest := []) (v := (some (.ref 39))) (h1 := (hG σ sr ln Lc μ)) rfl rfl rfl (sp_X11_sheetAt_0 (σ := σ) (μ := μ) d) ?_
  refine am_g 6 29 [some (.ref 14), some (.int 1), some (.int i), some (.int 0), some (.int j), some (.int n), some (.ref 41), some (.ref 39)] [.ref 41] (hG σ sr ln Lc μ) rfl ?_
  refine am_call (y := 64) (vs := [.ref 41]) (rest := []) (v := (some (.int 0))) (h1 := (hG σ sr ln Lc μ)) rfl rfl rfl (sp_X8_isMissing_1n (σ := σ) (μ := μ) d h) ?_
  refine am_g 2 37 [some (.ref 14), some (.int 1), some (.int i), some (.int 0), some (.int j), some (.int n), some (.ref 41), some (.ref 39)] [.ref 39] (hG σ sr ln Lc μ) rfl ?_
  refine am_call (y := 64) (vs := [.ref 39]) (rest := []) (v := (some (.int 0))) (h1 := (hG σ sr ln Lc μ)) rfl rfl rfl (sp_X8_isMissing_0n (σ := σ) (μ := μ) d h2) ?_
  refine am_g 6 (if (σ 54 0) = (σ 51 0) then 62 else 59) [some (.ref 14), some (.int 1), some (.int i), some (.int 0), some (.int j), some (.int n), some (.ref 41), some (.ref 39)] [] (hG σ sr ln Lc μ) rfl ?_
  rw [if_neg (show ¬ (σ 54 0) = (σ 51 0) from hx)]
  refine am_g 1 61 [some (.ref 14), some (.int 1), some (.int i), some (.int 0), some (.int j), some (.int n), some (.ref 41), some (.ref 39)] [.int (-13)] (hG σ sr ln Lc μ) rfl ?_
  exact am_ret2 rfl rfl rfl rfl rfl
theorem sp_X11_copy_10o (d : Nat) (i j n : Int32) (h : ¬ σ 54 0 = -1) (h2 : ¬ σ 51 0 = -1) (hx : σ 54 0 = σ 51 0) {z : Nat} (hz : σ 55 0 = nI z) (hz40 : z ≤ 40) {y : Nat} (hy : σ 52 0 = nI y) (hy40 : y ≤ 40) (hc : (pu_cv z i n && pu_cv y j n) = false) : am_X xs LL (d + 2) 119 [.ref 14, .int 1, .int i, .int 0, .int j, .int n] (hG σ sr ln Lc μ) (some (.int (-12))) (hG σ sr ln Lc μ) := by
  refine am_XR (d := d + 1) (C := cd_X11_copy) (L := [some (.ref 14), some (.int 1), some (.int i), some (.int 0), some (.int j), some (.int n), none, none]) rfl rfl rfl rfl ?_
  refine am_g 2 2 [some (.ref 14), some (.int 1), some (.int i), some (.int 0), some (.int j), some (.int n), none, none] [.int 1, .ref 14] (hG σ sr ln Lc μ) rfl ?_
  refine am_call (y := 129) (vs := [.ref 14, .int 1]) (rest := []) (v := (some (.ref 41))) (h1 := (hG σ sr ln Lc μ)) rfl rfl rfl (sp_X11_sheetAt_1 (σ := σ) (μ := μ) d) ?_
  refine am_g 3 9 [some (.ref 14), some (.int 1), some (.int i), some (.int 0), some (.int j), some (.int n), some (.ref 41), none] [.int 0, .ref 14] (hG σ sr ln Lc μ) rfl ?_
  refine am_call (y := 129) (vs := [.ref 14, .int 0]) (rest := []) (v := (some (.ref 39))) (h1 := (hG σ sr ln Lc μ)) rfl rfl rfl (sp_X11_sheetAt_0 (σ := σ) (μ := μ) d) ?_
  refine am_g 6 29 [some (.ref 14), some (.int 1), some (.int i), some (.int 0), some (.int j), some (.int n), some (.ref 41), some (.ref 39)] [.ref 41] (hG σ sr ln Lc μ) rfl ?_
  refine am_call (y := 64) (vs := [.ref 41]) (rest := []) (v := (some (.int 0))) (h1 := (hG σ sr ln Lc μ)) rfl rfl rfl (sp_X8_isMissing_1n (σ := σ) (μ := μ) d h) ?_
  refine am_g 2 37 [some (.ref 14), some (.int 1), some (.int i), some (.int 0), some (.int j), some (.int n), some (.ref 41), some (.ref 39)] [.ref 39] (hG σ sr ln Lc μ) rfl ?_
  refine am_call (y := 64) (vs := [.ref 39]) (rest := []) (v := (some (.int 0))) (h1 := (hG σ sr ln Lc μ)) rfl rfl rfl (sp_X8_isMissing_0n (σ := σ) (μ := μ) d h2) ?_
  refine am_g 6 (if (σ 54 0) = (σ 51 0) then 62 else 59) [some (.ref 14), some (.int 1), some (.int i), some (.int 0), some (.int j), some (.int n), some (.ref 41), some (.ref 39)] [] (hG σ sr ln Lc μ) rfl ?_
  rw [if_pos (show (σ 54 0) = (σ 51 0) from hx)]
  refine am_g 3 67 [some (.ref 14), some (.int 1), some (.int i), some (.int 0), some (.int j), some (.int n), some (.ref 41), some (.ref 39)] [.int n, .int i, .ref 41] (hG σ sr ln Lc μ) rfl ?_
  cases e1 : pu_cv z i n with
  | false =>
    refine am_call (y := 66) (vs := [.ref 41, .int i, .int n]) (rest := []) (v := (some (.int 0))) (h1 := (hG σ sr ln Lc μ)) rfl rfl rfl (sp_X8_covers_1 (σ := σ) (μ := μ) d hz (by omega) _ _ e1) ?_
    refine am_g 2 87 [some (.ref 14), some (.int 1), some (.int i), some (.int 0), some (.int j), some (.int n), some (.ref 41), some (.ref 39)] [.int (-12)] (hG σ sr ln Lc μ) rfl ?_
    exact am_ret2 rfl rfl rfl rfl rfl
  | true =>
    refine am_call (y := 66) (vs := [.ref 41, .int i, .int n]) (rest := []) (v := (some (.int 1))) (h1 := (hG σ sr ln Lc μ)) rfl rfl rfl (sp_X8_covers_1 (σ := σ) (μ := μ) d hz (by omega) _ _ e1) ?_
    refine am_g 4 79 [some (.ref 14), some (.int 1), some (.int i), some (.int 0), some (.int j), some (.int n), some (.ref 41), some (.ref 39)] [.int n, .int j, .ref 39] (hG σ sr ln Lc μ) rfl ?_
    cases e2 : pu_cv y j n with
    | false =>
      refine am_call (y := 66) (vs := [.ref 39, .int j, .int n]) (rest := []) (v := (some (.int 0))) (h1 := (hG σ sr ln Lc μ)) rfl rfl rfl (sp_X8_covers_0 (σ := σ) (μ := μ) d hy (by omega) _ _ e2) ?_
      refine am_g 2 87 [some (.ref 14), some (.int 1), some (.int i), some (.int 0), some (.int j), some (.int n), some (.ref 41), some (.ref 39)] [.int (-12)] (hG σ sr ln Lc μ) rfl ?_
      exact am_ret2 rfl rfl rfl rfl rfl
    | true =>
      refine am_call (y := 66) (vs := [.ref 39, .int j, .int n]) (rest := []) (v := (some (.int 1))) (h1 := (hG σ sr ln Lc μ)) rfl rfl rfl (sp_X8_covers_0 (σ := σ) (μ := μ) d hy (by omega) _ _ e2) ?_
      refine am_g 1 88 [some (.ref 14), some (.int 1), some (.int i), some (.int 0), some (.int j), some (.int n), some (.ref 41), some (.ref 39)] [] (hG σ sr ln Lc μ) rfl ?_
      rw [e1, e2] at hc
      cases hc
theorem sp_X11_copy_10q (d : Nat) (a b c : Nat) (h : ¬ σ 54 0 = -1) (h2 : ¬ σ 51 0 = -1) (hx : σ 54 0 = σ 51 0) {z : Nat} (hz : σ 55 0 = nI z) (hz40 : z ≤ 40) {y : Nat} (hy : σ 52 0 = nI y) (hy40 : y ≤ 40) (hac : a + c ≤ z) (hbc : b + c ≤ y) (hc1 : pu_cv z (nI a) (nI c) = true) (hc2 : pu_cv y (nI b) (nI c) = true) : am_X xs LL (d + 2) 119 [.ref 14, .int 1, .int (nI a), .int 0, .int (nI b), .int (nI c)] (hG σ sr ln Lc μ) (some (.int (nI c))) (hG (am_up σ 50 (va_cpy (σ 53) (σ 50) a b c)) sr ln Lc μ) := by
  refine am_XR (d := d + 1) (C := cd_X11_copy) (L := [some (.ref 14), some (.int 1), some (.int (nI a)), some (.int 0), some (.int (nI b)), some (.int (nI c)), none, none]) rfl rfl rfl rfl ?_
  refine am_g 2 2 [some (.ref 14), some (.int 1), some (.int (nI a)), some (.int 0), some (.int (nI b)), some (.int (nI c)), none, none] [.int 1, .ref 14] (hG σ sr ln Lc μ) rfl ?_
  refine am_call (y := 129) (vs := [.ref 14, .int 1]) (rest := []) (v := (some (.ref 41))) (h1 := (hG σ sr ln Lc μ)) rfl rfl rfl (sp_X11_sheetAt_1 (σ := σ) (μ := μ) d) ?_
  refine am_g 3 9 [some (.ref 14), some (.int 1), some (.int (nI a)), some (.int 0), some (.int (nI b)), some (.int (nI c)), some (.ref 41), none] [.int 0, .ref 14] (hG σ sr ln Lc μ) rfl ?_
  refine am_call (y := 129) (vs := [.ref 14, .int 0]) (rest := []) (v := (some (.ref 39))) (h1 := (hG σ sr ln Lc μ)) rfl rfl rfl (sp_X11_sheetAt_0 (σ := σ) (μ := μ) d) ?_
  refine am_g 6 29 [some (.ref 14), some (.int 1), some (.int (nI a)), some (.int 0), some (.int (nI b)), some (.int (nI c)), some (.ref 41), some (.ref 39)] [.ref 41] (hG σ sr ln Lc μ) rfl ?_
  refine am_call (y := 64) (vs := [.ref 41]) (rest := []) (v := (some (.int 0))) (h1 := (hG σ sr ln Lc μ)) rfl rfl rfl (sp_X8_isMissing_1n (σ := σ) (μ := μ) d h) ?_
  refine am_g 2 37 [some (.ref 14), some (.int 1), some (.int (nI a)), some (.int 0), some (.int (nI b)), some (.int (nI c)), some (.ref 41), some (.ref 39)] [.ref 39] (hG σ sr ln Lc μ) rfl ?_
  refine am_call (y := 64) (vs := [.ref 39]) (rest := []) (v := (some (.int 0))) (h1 := (hG σ sr ln Lc μ)) rfl rfl rfl (sp_X8_isMissing_0n (σ := σ) (μ := μ) d h2) ?_
  refine am_g 6 (if (σ 54 0) = (σ 51 0) then 62 else 59) [some (.ref 14), some (.int 1), some (.int (nI a)), some (.int 0), some (.int (nI b)), some (.int (nI c)), some (.ref 41), some (.ref 39)] [] (hG σ sr ln Lc μ) rfl ?_
  rw [if_pos (show (σ 54 0) = (σ 51 0) from hx)]
  refine am_g 3 67 [some (.ref 14), some (.int 1), some (.int (nI a)), some (.int 0), some (.int (nI b)), some (.int (nI c)), some (.ref 41), some (.ref 39)] [.int (nI c), .int (nI a), .ref 41] (hG σ sr ln Lc μ) rfl ?_
  refine am_call (y := 66) (vs := [.ref 41, .int (nI a), .int (nI c)]) (rest := []) (v := (some (.int 1))) (h1 := (hG σ sr ln Lc μ)) rfl rfl rfl (sp_X8_covers_1 (σ := σ) (μ := μ) d hz (by omega) _ _ hc1) ?_
  refine am_g 4 79 [some (.ref 14), some (.int 1), some (.int (nI a)), some (.int 0), some (.int (nI b)), some (.int (nI c)), some (.ref 41), some (.ref 39)] [.int (nI c), .int (nI b), .ref 39] (hG σ sr ln Lc μ) rfl ?_
  refine am_call (y := 66) (vs := [.ref 39, .int (nI b), .int (nI c)]) (rest := []) (v := (some (.int 1))) (h1 := (hG σ sr ln Lc μ)) rfl rfl rfl (sp_X8_covers_0 (σ := σ) (μ := μ) d hy (by omega) _ _ hc2) ?_
  refine am_g 8 103 [some (.ref 14), some (.int 1), some (.int (nI a)), some (.int 0), some (.int (nI b)), some (.int (nI c)), some (.ref 41), some (.ref 39)] [.int (nI c), .int (nI b), .ref 40, .int (nI a), .ref 42] (hG σ sr ln Lc μ) rfl ?_
  refine am_acpR (f := (σ 53)) (g := (σ 50)) (a := a) (b := b) (c := c) (n0 := 40) (n1 := 40) (h1 := (hG (am_up σ 50 (va_cpy (σ 53) (σ 50) a b c)) sr ln Lc μ)) rfl rfl rfl rfl rfl rfl rfl (by omega) (by omega) (by decide) (by decide) rfl ?_
  refine am_g 1 108 [some (.ref 14), some (.int 1), some (.int (nI a)), some (.int 0), some (.int (nI b)), some (.int (nI c)), some (.ref 41), some (.ref 39)] [.int (nI c)] (hG (am_up σ 50 (va_cpy (σ 53) (σ 50) a b c)) sr ln Lc μ) rfl ?_
  exact am_ret2 rfl rfl rfl rfl rfl
theorem sp_X11_copy_11m (d : Nat) (i j n : Int32) (h : σ 54 0 = -1) : am_X xs LL (d + 2) 119 [.ref 14, .int 1, .int i, .int 1, .int j, .int n] (hG σ sr ln Lc μ) (some (.int (-11))) (hG σ sr ln Lc μ) := by
  refine am_XR (d := d + 1) (C := cd_X11_copy) (L := [some (.ref 14), some (.int 1), some (.int i), some (.int 1), some (.int j), some (.int n), none, none]) rfl rfl rfl rfl ?_
  refine am_g 2 2 [some (.ref 14), some (.int 1), some (.int i), some (.int 1), some (.int j), some (.int n), none, none] [.int 1, .ref 14] (hG σ sr ln Lc μ) rfl ?_
  refine am_call (y := 129) (vs := [.ref 14, .int 1]) (rest := []) (v := (some (.ref 41))) (h1 := (hG σ sr ln Lc μ)) rfl rfl rfl (sp_X11_sheetAt_1 (σ := σ) (μ := μ) d) ?_
  refine am_g 3 9 [some (.ref 14), some (.int 1), some (.int i), some (.int 1), some (.int j), some (.int n), some (.ref 41), none] [.int 1, .ref 14] (hG σ sr ln Lc μ) rfl ?_
  refine am_call (y := 129) (vs := [.ref 14, .int 1]) (rest := []) (v := (some (.ref 41))) (h1 := (hG σ sr ln Lc μ)) rfl rfl rfl (sp_X11_sheetAt_1 (σ := σ) (μ := μ) d) ?_
  refine am_g 6 29 [some (.ref 14), some (.int 1), some (.int i), some (.int 1), some (.int j), some (.int n), some (.ref 41), some (.ref 41)] [.ref 41] (hG σ sr ln Lc μ) rfl ?_
  refine am_call (y := 64) (vs := [.ref 41]) (rest := []) (v := (some (.int 1))) (h1 := (hG σ sr ln Lc μ)) rfl rfl rfl (sp_X8_isMissing_1y (σ := σ) (μ := μ) d h) ?_
  refine am_g 2 45 [some (.ref 14), some (.int 1), some (.int i), some (.int 1), some (.int j), some (.int n), some (.ref 41), some (.ref 41)] [.int (-11)] (hG σ sr ln Lc μ) rfl ?_
  exact am_ret2 rfl rfl rfl rfl rfl
theorem sp_X11_copy_11o (d : Nat) (i j n : Int32) (h : ¬ σ 54 0 = -1) {z : Nat} (hz : σ 55 0 = nI z) (hz40 : z ≤ 40) (hc : (pu_cv z i n && pu_cv z j n) = false) : am_X xs LL (d + 2) 119 [.ref 14, .int 1, .int i, .int 1, .int j, .int n] (hG σ sr ln Lc μ) (some (.int (-12))) (hG σ sr ln Lc μ) := by
  refine am_XR (d := d + 1) (C := cd_X11_copy) (L := [some (.ref 14), some (.int 1), some (.int i), some (.int 1), some (.int j), some (.int n), none, none]) rfl rfl rfl rfl ?_
  refine am_g 2 2 [some (.ref 14), some (.int 1), some (.int i), some (.int 1), some (.int j), some (.int n), none, none] [.int 1, .ref 14] (hG σ sr ln Lc μ) rfl ?_
  refine am_call (y := 129) (vs := [.ref 14, .int 1]) (rest := []) (v := (some (.ref 41))) (h1 := (hG σ sr ln Lc μ)) rfl rfl rfl (sp_X11_sheetAt_1 (σ := σ) (μ := μ) d) ?_
  refine am_g 3 9 [some (.ref 14), some (.int 1), some (.int i), some (.int 1), some (.int j), some (.int n), some (.ref 41), none] [.int 1, .ref 14] (hG σ sr ln Lc μ) rfl ?_
  refine am_call (y := 129) (vs := [.ref 14, .int 1]) (rest := []) (v := (some (.ref 41))) (h1 := (hG σ sr ln Lc μ)) rfl rfl rfl (sp_X11_sheetAt_1 (σ := σ) (μ := μ) d) ?_
  refine am_g 6 29 [some (.ref 14), some (.int 1), some (.int i), some (.int 1), some (.int j), some (.int n), some (.ref 41), some (.ref 41)] [.ref 41] (hG σ sr ln Lc μ) rfl ?_
  refine am_call (y := 64) (vs := [.ref 41]) (rest := []) (v := (some (.int 0))) (h1 := (hG σ sr ln Lc μ)) rfl rfl rfl (sp_X8_isMissing_1n (σ := σ) (μ := μ) d h) ?_
  refine am_g 2 37 [some (.ref 14), some (.int 1), some (.int i), some (.int 1), some (.int j), some (.int n), some (.ref 41), some (.ref 41)] [.ref 41] (hG σ sr ln Lc μ) rfl ?_
  refine am_call (y := 64) (vs := [.ref 41]) (rest := []) (v := (some (.int 0))) (h1 := (hG σ sr ln Lc μ)) rfl rfl rfl (sp_X8_isMissing_1n (σ := σ) (μ := μ) d h) ?_
  refine am_g 6 (if (σ 54 0) = (σ 54 0) then 62 else 59) [some (.ref 14), some (.int 1), some (.int i), some (.int 1), some (.int j), some (.int n), some (.ref 41), some (.ref 41)] [] (hG σ sr ln Lc μ) rfl ?_
  rw [if_pos (show (σ 54 0) = (σ 54 0) from rfl)]
  refine am_g 3 67 [some (.ref 14), some (.int 1), some (.int i), some (.int 1), some (.int j), some (.int n), some (.ref 41), some (.ref 41)] [.int n, .int i, .ref 41] (hG σ sr ln Lc μ) rfl ?_
  cases e1 : pu_cv z i n with
  | false =>
    refine am_call (y := 66) (vs := [.ref 41, .int i, .int n]) (rest := []) (v := (some (.int 0))) (h1 := (hG σ sr ln Lc μ)) rfl rfl rfl (sp_X8_covers_1 (σ := σ) (μ := μ) d hz (by omega) _ _ e1) ?_
    refine am_g 2 87 [some (.ref 14), some (.int 1), some (.int i), some (.int 1), some (.int j), some (.int n), some (.ref 41), some (.ref 41)] [.int (-12)] (hG σ sr ln Lc μ) rfl ?_
    exact am_ret2 rfl rfl rfl rfl rfl
  | true =>
    refine am_call (y := 66) (vs := [.ref 41, .int i, .int n]) (rest := []) (v := (some (.int 1))) (h1 := (hG σ sr ln Lc μ)) rfl rfl rfl (sp_X8_covers_1 (σ := σ) (μ := μ) d hz (by omega) _ _ e1) ?_
    refine am_g 4 79 [some (.ref 14), some (.int 1), some (.int i), some (.int 1), some (.int j), some (.int n), some (.ref 41), some (.ref 41)] [.int n, .int j, .ref 41] (hG σ sr ln Lc μ) rfl ?_
    cases e2 : pu_cv z j n with
    | false =>
      refine am_call (y := 66) (vs := [.ref 41, .int j, .int n]) (rest := []) (v := (some (.int 0))) (h1 := (hG σ sr ln Lc μ)) rfl rfl rfl (sp_X8_covers_1 (σ := σ) (μ := μ) d hz (by omega) _ _ e2) ?_
      refine am_g 2 87 [some (.ref 14), some (.int 1), some (.int i), some (.int 1), some (.int j), some (.int n), some (.ref 41), some (.ref 41)] [.int (-12)] (hG σ sr ln Lc μ) rfl ?_
      exact am_ret2 rfl rfl rfl rfl rfl
    | true =>
      refine am_call (y := 66) (vs := [.ref 41, .int j, .int n]) (rest := []) (v := (some (.int 1))) (h1 := (hG σ sr ln Lc μ)) rfl rfl rfl (sp_X8_covers_1 (σ := σ) (μ := μ) d hz (by omega) _ _ e2) ?_
      refine am_g 1 88 [some (.ref 14), some (.int 1), some (.int i), some (.int 1), some (.int j), some (.int n), some (.ref 41), some (.ref 41)] [] (hG σ sr ln Lc μ) rfl ?_
      rw [e1, e2] at hc
      cases hc
theorem sp_X11_copy_11q (d : Nat) (a b c : Nat) (h : ¬ σ 54 0 = -1) {z : Nat} (hz : σ 55 0 = nI z) (hz40 : z ≤ 40) (hac : a + c ≤ z) (hbc : b + c ≤ z) (hc1 : pu_cv z (nI a) (nI c) = true) (hc2 : pu_cv z (nI b) (nI c) = true) : am_X xs LL (d + 2) 119 [.ref 14, .int 1, .int (nI a), .int 1, .int (nI b), .int (nI c)] (hG σ sr ln Lc μ) (some (.int (nI c))) (hG (am_up σ 53 (va_cpy (σ 53) (σ 53) a b c)) sr ln Lc μ) := by
  refine am_XR (d := d + 1) (C := cd_X11_copy) (L := [some (.ref 14), some (.int 1), some (.int (nI a)), some (.int 1), some (.int (nI b)), some (.int (nI c)), none, none]) rfl rfl rfl rfl ?_
  refine am_g 2 2 [some (.ref 14), some (.int 1), some (.int (nI a)), some (.int 1), some (.int (nI b)), some (.int (nI c)), none, none] [.int 1, .ref 14] (hG σ sr ln Lc μ) rfl ?_
  refine am_call (y := 129) (vs := [.ref 14, .int 1]) (rest := []) (v := (some (.ref 41))) (h1 := (hG σ sr ln Lc μ)) rfl rfl rfl (sp_X11_sheetAt_1 (σ := σ) (μ := μ) d) ?_
  refine am_g 3 9 [some (.ref 14), some (.int 1), some (.int (nI a)), some (.int 1), some (.int (nI b)), some (.int (nI c)), some (.ref 41), none] [.int 1, .ref 14] (hG σ sr ln Lc μ) rfl ?_
  refine am_call (y := 129) (vs := [.ref 14, .int 1]) (rest := []) (v := (some (.ref 41))) (h1 := (hG σ sr ln Lc μ)) rfl rfl rfl (sp_X11_sheetAt_1 (σ := σ) (μ := μ) d) ?_
  refine am_g 6 29 [some (.ref 14), some (.int 1), some (.int (nI a)), some (.int 1), some (.int (nI b)), some (.int (nI c)), some (.ref 41), some (.ref 41)] [.ref 41] (hG σ sr ln Lc μ) rfl ?_
  refine am_call (y := 64) (vs := [.ref 41]) (rest := []) (v := (some (.int 0))) (h1 := (hG σ sr ln Lc μ)) rfl rfl rfl (sp_X8_isMissing_1n (σ := σ) (μ := μ) d h) ?_
  refine am_g 2 37 [some (.ref 14), some (.int 1), some (.int (nI a)), some (.int 1), some (.int (nI b)), some (.int (nI c)), some (.ref 41), some (.ref 41)] [.ref 41] (hG σ sr ln Lc μ) rfl ?_
  refine am_call (y := 64) (vs := [.ref 41]) (rest := []) (v := (some (.int 0))) (h1 := (hG σ sr ln Lc μ)) rfl rfl rfl (sp_X8_isMissing_1n (σ := σ) (μ := μ) d h) ?_
  refine am_g 6 (if (σ 54 0) = (σ 54 0) then 62 else 59) [some (.ref 14), some (.int 1), some (.int (nI a)), some (.int 1), some (.int (nI b)), some (.int (nI c)), some (.ref 41), some (.ref 41)] [] (hG σ sr ln Lc μ) rfl ?_
  rw [if_pos (show (σ 54 0) = (σ 54 0) from rfl)]
  refine am_g 3 67 [some (.ref 14), some (.int 1), some (.int (nI a)), some (.int 1), some (.int (nI b)), some (.int (nI c)), some (.ref 41), some (.ref 41)] [.int (nI c), .int (nI a), .ref 41] (hG σ sr ln Lc μ) rfl ?_
  refine am_call (y := 66) (vs := [.ref 41, .int (nI a), .int (nI c)]) (rest := []) (v := (some (.int 1))) (h1 := (hG σ sr ln Lc μ)) rfl rfl rfl (sp_X8_covers_1 (σ := σ) (μ := μ) d hz (by omega) _ _ hc1) ?_
  refine am_g 4 79 [some (.ref 14), some (.int 1), some (.int (nI a)), some (.int 1), some (.int (nI b)), some (.int (nI c)), some (.ref 41), some (.ref 41)] [.int (nI c), .int (nI b), .ref 41] (hG σ sr ln Lc μ) rfl ?_
  refine am_call (y := 66) (vs := [.ref 41, .int (nI b), .int (nI c)]) (rest := []) (v := (some (.int 1))) (h1 := (hG σ sr ln Lc μ)) rfl rfl rfl (sp_X8_covers_1 (σ := σ) (μ := μ) d hz (by omega) _ _ hc2) ?_
  refine am_g 8 103 [some (.ref 14), some (.int 1), some (.int (nI a)), some (.int 1), some (.int (nI b)), some (.int (nI c)), some (.ref 41), some (.ref 41)] [.int (nI c), .int (nI b), .ref 42, .int (nI a), .ref 42] (hG σ sr ln Lc μ) rfl ?_
  refine am_acpR (f := (σ 53)) (g := (σ 53)) (a := a) (b := b) (c := c) (n0 := 40) (n1 := 40) (h1 := (hG (am_up σ 53 (va_cpy (σ 53) (σ 53) a b c)) sr ln Lc μ)) rfl rfl rfl rfl rfl rfl rfl (by omega) (by omega) (by decide) (by decide) rfl ?_
  refine am_g 1 108 [some (.ref 14), some (.int 1), some (.int (nI a)), some (.int 1), some (.int (nI b)), some (.int (nI c)), some (.ref 41), some (.ref 41)] [.int (nI c)] (hG (am_up σ 53 (va_cpy (σ 53) (σ 53) a b c)) sr ln Lc μ) rfl ?_
  exact am_ret2 rfl rfl rfl rfl rfl
theorem sp_X11_copy_12m (d : Nat) (i j n : Int32) (h : σ 54 0 = -1) : am_X xs LL (d + 2) 119 [.ref 14, .int 1, .int i, .int 2, .int j, .int n] (hG σ sr ln Lc μ) (some (.int (-11))) (hG σ sr ln Lc μ) := by
  refine am_XR (d := d + 1) (C := cd_X11_copy) (L := [some (.ref 14), some (.int 1), some (.int i), some (.int 2), some (.int j), some (.int n), none, none]) rfl rfl rfl rfl ?_
  refine am_g 2 2 [some (.ref 14), some (.int 1), some (.int i), some (.int 2), some (.int j), some (.int n), none, none] [.int 1, .ref 14] (hG σ sr ln Lc μ) rfl ?_
  refine am_call (y := 129) (vs := [.ref 14, .int 1]) (rest := []) (v := (some (.ref 41))) (h1 := (hG σ sr ln Lc μ)) rfl rfl rfl (sp_X11_sheetAt_1 (σ := σ) (μ := μ) d) ?_
  refine am_g 3 9 [some (.ref 14), some (.int 1), some (.int i), some (.int 2), some (.int j), some (.int n), some (.ref 41), none] [.int 2, .ref 14] (hG σ sr ln Lc μ) rfl ?_
  refine am_call (y := 129) (vs := [.ref 14, .int 2]) (rest := []) (v := (some (.ref 43))) (h1 := (hG σ sr ln Lc μ)) rfl rfl rfl (sp_X11_sheetAt_2 (σ := σ) (μ := μ) d) ?_
  refine am_g 6 29 [some (.ref 14), some (.int 1), some (.int i), some (.int 2), some (.int j), some (.int n), some (.ref 41), some (.ref 43)] [.ref 41] (hG σ sr ln Lc μ) rfl ?_
  refine am_call (y := 64) (vs := [.ref 41]) (rest := []) (v := (some (.int 1))) (h1 := (hG σ sr ln Lc μ)) rfl rfl rfl (sp_X8_isMissing_1y (σ := σ) (μ := μ) d h) ?_
  refine am_g 2 45 [some (.ref 14), some (.int 1), some (.int i), some (.int 2), some (.int j), some (.int n), some (.ref 41), some (.ref 43)] [.int (-11)] (hG σ sr ln Lc μ) rfl ?_
  exact am_ret2 rfl rfl rfl rfl rfl
theorem sp_X11_copy_12m2 (d : Nat) (i j n : Int32) (h : ¬ σ 54 0 = -1) (h2 : σ 57 0 = -1) : am_X xs LL (d + 2) 119 [.ref 14, .int 1, .int i, .int 2, .int j, .int n] (hG σ sr ln Lc μ) (some (.int (-11))) (hG σ sr ln Lc μ) := by
  refine am_XR (d := d + 1) (C := cd_X11_copy) (L := [some (.ref 14), some (.int 1), some (.int i), some (.int 2), some (.int j), some (.int n), none, none]) rfl rfl rfl rfl ?_
  refine am_g 2 2 [some (.ref 14), some (.int 1), some (.int i), some (.int 2), some (.int j), some (.int n), none, none] [.int 1, .ref 14] (hG σ sr ln Lc μ) rfl ?_
  refine am_call (y := 129) (vs := [.ref 14, .int 1]) (rest := []) (v := (some (.ref 41))) (h1 := (hG σ sr ln Lc μ)) rfl rfl rfl (sp_X11_sheetAt_1 (σ := σ) (μ := μ) d) ?_
  refine am_g 3 9 [some (.ref 14), some (.int 1), some (.int i), some (.int 2), some (.int j), some (.int n), some (.ref 41), none] [.int 2, .ref 14] (hG σ sr ln Lc μ) rfl ?_
  refine am_call (y := 129) (vs := [.ref 14, .int 2]) (rest := []) (v := (some (.ref 43))) (h1 := (hG σ sr ln Lc μ)) rfl rfl rfl (sp_X11_sheetAt_2 (σ := σ) (μ := μ) d) ?_
  refine am_g 6 29 [some (.ref 14), some (.int 1), some (.int i), some (.int 2), some (.int j), some (.int n), some (.ref 41), some (.ref 43)] [.ref 41] (hG σ sr ln Lc μ) rfl ?_
  refine am_call (y := 64) (vs := [.ref 41]) (rest := []) (v := (some (.int 0))) (h1 := (hG σ sr ln Lc μ)) rfl rfl rfl (sp_X8_isMissing_1n (σ := σ) (μ := μ) d h) ?_
  refine am_g 2 37 [some (.ref 14), some (.int 1), some (.int i), some (.int 2), some (.int j), some (.int n), some (.ref 41), some (.ref 43)] [.ref 43] (hG σ sr ln Lc μ) rfl ?_
  refine am_call (y := 64) (vs := [.ref 43]) (rest := []) (v := (some (.int 1))) (h1 := (hG σ sr ln Lc μ)) rfl rfl rfl (sp_X8_isMissing_2y (σ := σ) (μ := μ) d h2) ?_
  refine am_g 2 45 [some (.ref 14), some (.int 1), some (.int i), some (.int 2), some (.int j), some (.int n), some (.ref 41), some (.ref 43)] [.int (-11)] (hG σ sr ln Lc μ) rfl ?_
  exact am_ret2 rfl rfl rfl rfl rfl
theorem sp_X11_copy_12x (d : Nat) (i j n : Int32) (h : ¬ σ 54 0 = -1) (h2 : ¬ σ 57 0 = -1) (hx : ¬ σ 54 0 = σ 57 0) : am_X xs LL (d + 2) 119 [.ref 14, .int 1, .int i, .int 2, .int j, .int n] (hG σ sr ln Lc μ) (some (.int (-13))) (hG σ sr ln Lc μ) := by
  refine am_XR (d := d + 1) (C := cd_X11_copy) (L := [some (.ref 14), some (.int 1), some (.int i), some (.int 2), some (.int j), some (.int n), none, none]) rfl rfl rfl rfl ?_
  refine am_g 2 2 [some (.ref 14), some (.int 1), some (.int i), some (.int 2), some (.int j), some (.int n), none, none] [.int 1, .ref 14] (hG σ sr ln Lc μ) rfl ?_
  refine am_call (y := 129) (vs := [.ref 14, .int 1]) (rest := []) (v := (some (.ref 41))) (h1 := (hG σ sr ln Lc μ)) rfl rfl rfl (sp_X11_sheetAt_1 (σ := σ) (μ := μ) d) ?_
  refine am_g 3 9 [some (.ref 14), some (.int 1), some (.int i), some (.int 2), some (.int j), some (.int n), some (.ref 41), none] [.int 2, .ref 14] (hG σ sr ln Lc μ) rfl ?_
  refine am_call (y := 129) (vs := [.ref 14, .int 2]) (rest := []) (v := (some (.ref 43))) (h1 := (hG σ sr ln Lc μ)) rfl rfl rfl (sp_X11_sheetAt_2 (σ := σ) (μ := μ) d) ?_
  refine am_g 6 29 [some (.ref 14), some (.int 1), some (.int i), some (.int 2), some (.int j), some (.int n), some (.ref 41), some (.ref 43)] [.ref 41] (hG σ sr ln Lc μ) rfl ?_
  refine am_call (y := 64) (vs := [.ref 41]) (rest := []) (v := (some (.int 0))) (h1 := (hG σ sr ln Lc μ)) rfl rfl rfl (sp_X8_isMissing_1n (σ := σ) (μ := μ) d h) ?_
  refine am_g 2 37 [some (.ref 14), some (.int 1), some (.int i), some (.int 2), some (.int j), some (.int n), some (.ref 41), some (.ref 43)] [.ref 43] (hG σ sr ln Lc μ) rfl ?_
  refine am_call (y := 64) (vs := [.ref 43]) (rest := []) (v := (some (.int 0))) (h1 := (hG σ sr ln Lc μ)) rfl rfl rfl (sp_X8_isMissing_2n (σ := σ) (μ := μ) d h2) ?_
  refine am_g 6 (if (σ 54 0) = (σ 57 0) then 62 else 59) [some (.ref 14), some (.int 1), some (.int i), some (.int 2), some (.int j), some (.int n), some (.ref 41), some (.ref 43)] [] (hG σ sr ln Lc μ) rfl ?_
  rw [if_neg (show ¬ (σ 54 0) = (σ 57 0) from hx)]
  refine am_g 1 61 [some (.ref 14), some (.int 1), some (.int i), some (.int 2), some (.int j), some (.int n), some (.ref 41), some (.ref 43)] [.int (-13)] (hG σ sr ln Lc μ) rfl ?_
  exact am_ret2 rfl rfl rfl rfl rfl
theorem sp_X11_copy_12o (d : Nat) (i j n : Int32) (h : ¬ σ 54 0 = -1) (h2 : ¬ σ 57 0 = -1) (hx : σ 54 0 = σ 57 0) {z : Nat} (hz : σ 55 0 = nI z) (hz40 : z ≤ 40) {y : Nat} (hy : σ 58 0 = nI y) (hy40 : y ≤ 40) (hc : (pu_cv z i n && pu_cv y j n) = false) : am_X xs LL (d + 2) 119 [.ref 14, .int 1, .int i, .int 2, .int j, .int n] (hG σ sr ln Lc μ) (some (.int (-12))) (hG σ sr ln Lc μ) := by
  refine am_XR (d := d + 1) (C := cd_X11_copy) (L := [some (.ref 14), some (.int 1), some (.int i), some (.int 2), some (.int j), some (.int n), none, none]) rfl rfl rfl rfl ?_
  refine am_g 2 2 [some (.ref 14), some (.int 1), some (.int i), some (.int 2), some (.int j), some (.int n), none, none] [.int 1, .ref 14] (hG σ sr ln Lc μ) rfl ?_
  refine am_call (y := 129) (vs := [.ref 14, .int 1]) (rest := []) (v := (some (.ref 41))) (h1 := (hG σ sr ln Lc μ)) rfl rfl rfl (sp_X11_sheetAt_1 (σ := σ) (μ := μ) d) ?_
  refine am_g 3 9 [some (.ref 14), some (.int 1), some (.int i), some (.int 2), some (.int j), some (.int n), some (.ref 41), none] [.int 2, .ref 14] (hG σ sr ln Lc μ) rfl ?_
  refine am_call (y := 129) (vs := [.ref 14, .int 2]) (rest := []) (v := (some (.ref 43))) (h1 := (hG σ sr ln Lc μ)) rfl rfl rfl (sp_X11_sheetAt_2 (σ := σ) (μ := μ) d) ?_
  refine am_g 6 29 [some (.ref 14), some (.int 1), some (.int i), some (.int 2), some (.int j), some (.int n), some (.ref 41), some (.ref 43)] [.ref 41] (hG σ sr ln Lc μ) rfl ?_
  refine am_call (y := 64) (vs := [.ref 41]) (rest := []) (v := (some (.int 0))) (h1 := (hG σ sr ln Lc μ)) rfl rfl rfl (sp_X8_isMissing_1n (σ := σ) (μ := μ) d h) ?_
  refine am_g 2 37 [some (.ref 14), some (.int 1), some (.int i), some (.int 2), some (.int j), some (.int n), some (.ref 41), some (.ref 43)] [.ref 43] (hG σ sr ln Lc μ) rfl ?_
  refine am_call (y := 64) (vs := [.ref 43]) (rest := []) (v := (some (.int 0))) (h1 := (hG σ sr ln Lc μ)) rfl rfl rfl (sp_X8_isMissing_2n (σ := σ) (μ := μ) d h2) ?_
  refine am_g 6 (if (σ 54 0) = (σ 57 0) then 62 else 59) [some (.ref 14), some (.int 1), some (.int i), some (.int 2), some (.int j), some (.int n), some (.ref 41), some (.ref 43)] [] (hG σ sr ln Lc μ) rfl ?_
  rw [if_pos (show (σ 54 0) = (σ 57 0) from hx)]
  refine am_g 3 67 [some (.ref 14), some (.int 1), some (.int i), some (.int 2), some (.int j), some (.int n), some (.ref 41), some (.ref 43)] [.int n, .int i, .ref 41] (hG σ sr ln Lc μ) rfl ?_
  cases e1 : pu_cv z i n with
  | false =>
    refine am_call (y := 66) (vs := [.ref 41, .int i, .int n]) (rest := []) (v := (some (.int 0))) (h1 := (hG σ sr ln Lc μ)) rfl rfl rfl (sp_X8_covers_1 (σ := σ) (μ := μ) d hz (by omega) _ _ e1) ?_
    refine am_g 2 87 [some (.ref 14), some (.int 1), some (.int i), some (.int 2), some (.int j), some (.int n), some (.ref 41), some (.ref 43)] [.int (-12)] (hG σ sr ln Lc μ) rfl ?_
    exact am_ret2 rfl rfl rfl rfl rfl
  | true =>
    refine am_call (y := 66) (vs := [.ref 41, .int i, .int n]) (rest := []) (v := (some (.int 1))) (h1 := (hG σ sr ln Lc μ)) rfl rfl rfl (sp_X8_covers_1 (σ := σ) (μ := μ) d hz (by omega) _ _ e1) ?_
    refine am_g 4 79 [some (.ref 14), some (.int 1), some (.int i), some (.int 2), some (.int j), some (.int n), some (.ref 41), some (.ref 43)] [.int n, .int j, .ref 43] (hG σ sr ln Lc μ) rfl ?_
    cases e2 : pu_cv y j n with
    | false =>
      refine am_call (y := 66) (vs := [.ref 43, .int j, .int n]) (rest := []) (v := (some (.int 0))) (h1 := (hG σ sr ln Lc μ)) rfl rfl rfl (sp_X8_covers_2 (σ := σ) (μ := μ) d hy (by omega) _ _ e2) ?_
      refine am_g 2 87 [some (.ref 14), some (.int 1), some (.int i), some (.int 2), some (.int j), some (.int n), some (.ref 41), some (.ref 43)] [.int (-12)] (hG σ sr ln Lc μ) rfl ?_
      exact am_ret2 rfl rfl rfl rfl rfl
    | true =>
      refine am_call (y := 66) (vs := [.ref 43, .int j, .int n]) (rest := []) (v := (some (.int 1))) (h1 := (hG σ sr ln Lc μ)) rfl rfl rfl (sp_X8_covers_2 (σ := σ) (μ := μ) d hy (by omega) _ _ e2) ?_
      refine am_g 1 88 [some (.ref 14), some (.int 1), some (.int i), some (.int 2), some (.int j), some (.int n), some (.ref 41), some (.ref 43)] [] (hG σ sr ln Lc μ) rfl ?_
      rw [e1, e2] at hc
      cases hc
theorem sp_X11_copy_12q (d : Nat) (a b c : Nat) (h : ¬ σ 54 0 = -1) (h2 : ¬ σ 57 0 = -1) (hx : σ 54 0 = σ 57 0) {z : Nat} (hz : σ 55 0 = nI z) (hz40 : z ≤ 40) {y : Nat} (hy : σ 58 0 = nI y) (hy40 : y ≤ 40) (hac : a + c ≤ z) (hbc : b + c ≤ y) (hc1 : pu_cv z (nI a) (nI c) = true) (hc2 : pu_cv y (nI b) (nI c) = true) : am_X xs LL (d + 2) 119 [.ref 14, .int 1, .int (nI a), .int 2, .int (nI b), .int (nI c)] (hG σ sr ln Lc μ) (some (.int (nI c))) (hG (am_up σ 56 (va_cpy (σ 53) (σ 56) a b c)) sr ln Lc μ) := by
  refine am_XR (d := d + 1) (C := cd_X11_copy) (L := [some (.ref 14), some (.int 1), some (.int (nI a)), some (.int 2), some (.int (nI b)), some (.int (nI c)), none, none]) rfl rfl rfl rfl ?_
  refine am_g 2 2 [some (.ref 14), some (.int 1), some (.int (nI a)), some (.int 2), some (.int (nI b)), some (.int (nI c)), none, none] [.int 1, .ref 14] (hG σ sr ln Lc μ) rfl ?_
  refine am_call (y := 129) (vs := [.ref 14, .int 1]) (rest := []) (v := (some (.ref 41))) (h1 := (hG σ sr ln Lc μ)) rfl rfl rfl (sp_X11_sheetAt_1 (σ := σ) (μ := μ) d) ?_
  refine am_g 3 9 [some (.ref 14), some (.int 1), some (.int (nI a)), some (.int 2), some (.int (nI b)), some (.int (nI c)), some (.ref 41), none] [.int 2, .ref 14] (hG σ sr ln Lc μ) rfl ?_
  refine am_call (y := 129) (vs := [.ref 14, .int 2]) (rest := []) (v := (some (.ref 43))) (h1 := (hG σ sr ln Lc μ)) rfl rfl rfl (sp_X11_sheetAt_2 (σ := σ) (μ := μ) d) ?_
  refine am_g 6 29 [some (.ref 14), some (.int 1), some (.int (nI a)), some (.int 2), some (.int (nI b)), some (.int (nI c)), some (.ref 41), some (.ref 43)] [.ref 41] (hG σ sr ln Lc μ) rfl ?_
  refine am_call (y := 64) (vs := [.ref 41]) (rest := []) (v := (some (.int 0))) (h1 := (hG σ sr ln Lc μ)) rfl rfl rfl (sp_X8_isMissing_1n (σ := σ) (μ := μ) d h) ?_
  refine am_g 2 37 [some (.ref 14), some (.int 1), some (.int (nI a)), some (.int 2), some (.int (nI b)), some (.int (nI c)), some (.ref 41), some (.ref 43)] [.ref 43] (hG σ sr ln Lc μ) rfl ?_
  refine am_call (y := 64) (vs := [.ref 43]) (rest := []) (v := (some (.int 0))) (h1 := (hG σ sr ln Lc μ)) rfl rfl rfl (sp_X8_isMissing_2n (σ := σ) (μ := μ) d h2) ?_
  refine am_g 6 (if (σ 54 0) = (σ 57 0) then 62 else 59) [some (.ref 14), some (.int 1), some (.int (nI a)), some (.int 2), some (.int (nI b)), some (.int (nI c)), some (.ref 41), some (.ref 43)] [] (hG σ sr ln Lc μ) rfl ?_
  rw [if_pos (show (σ 54 0) = (σ 57 0) from hx)]
  refine am_g 3 67 [some (.ref 14), some (.int 1), some (.int (nI a)), some (.int 2), some (.int (nI b)), some (.int (nI c)), some (.ref 41), some (.ref 43)] [.int (nI c), .int (nI a), .ref 41] (hG σ sr ln Lc μ) rfl ?_
  refine am_call (y := 66) (vs := [.ref 41, .int (nI a), .int (nI c)]) (rest := []) (v := (some (.int 1))) (h1 := (hG σ sr ln Lc μ)) rfl rfl rfl (sp_X8_covers_1 (σ := σ) (μ := μ) d hz (by omega) _ _ hc1) ?_
  refine am_g 4 79 [some (.ref 14), some (.int 1), some (.int (nI a)), some (.int 2), some (.int (nI b)), some (.int (nI c)), some (.ref 41), some (.ref 43)] [.int (nI c), .int (nI b), .ref 43] (hG σ sr ln Lc μ) rfl ?_
  refine am_call (y := 66) (vs := [.ref 43, .int (nI b), .int (nI c)]) (rest := []) (v := (some (.int 1))) (h1 := (hG σ sr ln Lc μ)) rfl rfl rfl (sp_X8_covers_2 (σ := σ) (μ := μ) d hy (by omega) _ _ hc2) ?_
  refine am_g 8 103 [some (.ref 14), some (.int 1), some (.int (nI a)), some (.int 2), some (.int (nI b)), some (.int (nI c)), some (.ref 41), some (.ref 43)] [.int (nI c), .int (nI b), .ref 44, .int (nI a), .ref 42] (hG σ sr ln Lc μ) rfl ?_
  refine am_acpR (f := (σ 53)) (g := (σ 56)) (a := a) (b := b) (c := c) (n0 := 40) (n1 := 40) (h1 := (hG (am_up σ 56 (va_cpy (σ 53) (σ 56) a b c)) sr ln Lc μ)) rfl rfl rfl rfl rfl rfl rfl (by omega) (by omega) (by decide) (by decide) rfl ?_
  refine am_g 1 108 [some (.ref 14), some (.int 1), some (.int (nI a)), some (.int 2), some (.int (nI b)), some (.int (nI c)), some (.ref 41), some (.ref 43)] [.int (nI c)] (hG (am_up σ 56 (va_cpy (σ 53) (σ 56) a b c)) sr ln Lc μ) rfl ?_
  exact am_ret2 rfl rfl rfl rfl rfl
theorem sp_X11_copy_13m (d : Nat) (i j n : Int32) (h : σ 54 0 = -1) : am_X xs LL (d + 2) 119 [.ref 14, .int 1, .int i, .int 3, .int j, .int n] (hG σ sr ln Lc μ) (some (.int (-11))) (hG σ sr ln Lc μ) := by
  refine am_XR (d := d + 1) (C := cd_X11_copy) (L := [some (.ref 14), some (.int 1), some (.int i), some (.int 3), some (.int j), some (.int n), none, none]) rfl rfl rfl rfl ?_
  refine am_g 2 2 [some (.ref 14), some (.int 1), some (.int i), some (.int 3), some (.int j), some (.int n), none, none] [.int 1, .ref 14] (hG σ sr ln Lc μ) rfl ?_
  refine am_call (y := 129) (vs := [.ref 14, .int 1]) (rest := []) (v := (some (.ref 41))) (h1 := (hG σ sr ln Lc μ)) rfl rfl rfl (sp_X11_sheetAt_1 (σ := σ) (μ := μ) d) ?_
  refine am_g 3 9 [some (.ref 14), some (.int 1), some (.int i), some (.int 3), some (.int j), some (.int n), some (.ref 41), none] [.int 3, .ref 14] (hG σ sr ln Lc μ) rfl ?_
  refine am_call (y := 129) (vs := [.ref 14, .int 3]) (rest := []) (v := (some (.ref 45))) (h1 := (hG σ sr ln Lc μ)) rfl rfl rfl (sp_X11_sheetAt_3 (σ := σ) (μ := μ) d) ?_
  refine am_g 6 29 [some (.ref 14), some (.int 1), some (.int i), some (.int 3), some (.int j), some (.int n), some (.ref 41), some (.ref 45)] [.ref 41] (hG σ sr ln Lc μ) rfl ?_
  refine am_call (y := 64) (vs := [.ref 41]) (rest := []) (v := (some (.int 1))) (h1 := (hG σ sr ln Lc μ)) rfl rfl rfl (sp_X8_isMissing_1y (σ := σ) (μ := μ) d h) ?_
  refine am_g 2 45 [some (.ref 14), some (.int 1), some (.int i), some (.int 3), some (.int j), some (.int n), some (.ref 41), some (.ref 45)] [.int (-11)] (hG σ sr ln Lc μ) rfl ?_
  exact am_ret2 rfl rfl rfl rfl rfl
theorem sp_X11_copy_13m2 (d : Nat) (i j n : Int32) (h : ¬ σ 54 0 = -1) (h2 : σ 60 0 = -1) : am_X xs LL (d + 2) 119 [.ref 14, .int 1, .int i, .int 3, .int j, .int n] (hG σ sr ln Lc μ) (some (.int (-11))) (hG σ sr ln Lc μ) := by
  refine am_XR (d := d + 1) (C := cd_X11_copy) (L := [some (.ref 14), some (.int 1), some (.int i), some (.int 3), some (.int j), some (.int n), none, none]) rfl rfl rfl rfl ?_
  refine am_g 2 2 [some (.ref 14), some (.int 1), some (.int i), some (.int 3), some (.int j), some (.int n), none, none] [.int 1, .ref 14] (hG σ sr ln Lc μ) rfl ?_
  refine am_call (y := 129) (vs := [.ref 14, .int 1]) (rest := []) (v := (some (.ref 41))) (h1 := (hG σ sr ln Lc μ)) rfl rfl rfl (sp_X11_sheetAt_1 (σ := σ) (μ := μ) d) ?_
  refine am_g 3 9 [some (.ref 14), some (.int 1), some (.int i), some (.int 3), some (.int j), some (.int n), some (.ref 41), none] [.int 3, .ref 14] (hG σ sr ln Lc μ) rfl ?_
  refine am_call (y := 129) (vs := [.ref 14, .int 3]) (rest := []) (v := (some (.ref 45))) (h1 := (hG σ sr ln Lc μ)) rfl rfl rfl (sp_X11_sheetAt_3 (σ := σ) (μ := μ) d) ?_
  refine am_g 6 29 [some (.ref 14), some (.int 1), some (.int i), some (.int 3), some (.int j), some (.int n), some (.ref 41), some (.ref 45)] [.ref 41] (hG σ sr ln Lc μ) rfl ?_
  refine am_call (y := 64) (vs := [.ref 41]) (rest := []) (v := (some (.int 0))) (h1 := (hG σ sr ln Lc μ)) rfl rfl rfl (sp_X8_isMissing_1n (σ := σ) (μ := μ) d h) ?_
  refine am_g 2 37 [some (.ref 14), some (.int 1), some (.int i), some (.int 3), some (.int j), some (.int n), some (.ref 41), some (.ref 45)] [.ref 45] (hG σ sr ln Lc μ) rfl ?_
  refine am_call (y := 64) (vs := [.ref 45]) (rest := []) (v := (some (.int 1))) (h1 := (hG σ sr ln Lc μ)) rfl rfl rfl (sp_X8_isMissing_3y (σ := σ) (μ := μ) d h2) ?_
  refine am_g 2 45 [some (.ref 14), some (.int 1), some (.int i), some (.int 3), some (.int j), some (.int n), some (.ref 41), some (.ref 45)] [.int (-11)] (hG σ sr ln Lc μ) rfl ?_
  exact am_ret2 rfl rfl rfl rfl rfl
theorem sp_X11_copy_13x (d : Nat) (i j n : Int32) (h : ¬ σ 54 0 = -1) (h2 : ¬ σ 60 0 = -1) (hx : ¬ σ 54 0 = σ 60 0) : am_X xs LL (d + 2) 119 [.ref 14, .int 1, .int i, .int 3, .int j, .int n] (hG σ sr ln Lc μ) (some (.int (-13))) (hG σ sr ln Lc μ) := by
  refine am_XR (d := d + 1) (C := cd_X11_copy) (L := [some (.ref 14), some (.int 1), some (.int i), some (.int 3), some (.int j), some (.int n), none, none]) rfl rfl rfl rfl ?_
  refine am_g 2 2 [some (.ref 14), some (.int 1), some (.int i), some (.int 3), some (.int j), some (.int n), none, none] [.int 1, .ref 14] (hG σ sr ln Lc μ) rfl ?_
  refine am_call (y := 129) (vs := [.ref 14, .int 1]) (rest := []) (v := (some (.ref 41))) (h1 := (hG σ sr ln Lc μ)) rfl rfl rfl (sp_X11_sheetAt_1 (σ := σ) (μ := μ) d) ?_
  refine am_g 3 9 [some (.ref 14), some (.int 1), some (.int i), some (.int 3), some (.int j), some (.int n), some (.ref 41), none] [.int 3, .ref 14] (hG σ sr ln Lc μ) rfl ?_
  refine am_call (y := 129) (vs := [.ref 14, .int 3]) (rest := []) (v := (some (.ref 45))) (h1 := (hG σ sr ln Lc μ)) rfl rfl rfl (sp_X11_sheetAt_3 (σ := σ) (μ := μ) d) ?_
  refine am_g 6 29 [some (.ref 14), some (.int 1), some (.int i), some (.int 3), some (.int j), some (.int n), some (.ref 41), some (.ref 45)] [.ref 41] (hG σ sr ln Lc μ) rfl ?_
  refine am_call (y := 64) (vs := [.ref 41]) (rest := []) (v := (some (.int 0))) (h1 := (hG σ sr ln Lc μ)) rfl rfl rfl (sp_X8_isMissing_1n (σ := σ) (μ := μ) d h) ?_
  refine am_g 2 37 [some (.ref 14), some (.int 1), some (.int i), some (.int 3), some (.int j), some (.int n), some (.ref 41), some (.ref 45)] [.ref 45] (hG σ sr ln Lc μ) rfl ?_
  refine am_call (y := 64) (vs := [.ref 45]) (rest := []) (v := (some (.int 0))) (h1 := (hG σ sr ln Lc μ)) rfl rfl rfl (sp_X8_isMissing_3n (σ := σ) (μ := μ) d h2) ?_
  refine am_g 6 (if (σ 54 0) = (σ 60 0) then 62 else 59) [some (.ref 14), some (.int 1), some (.int i), some (.int 3), some (.int j), some (.int n), some (.ref 41), some (.ref 45)] [] (hG σ sr ln Lc μ) rfl ?_
  rw [if_neg (show ¬ (σ 54 0) = (σ 60 0) from hx)]
  refine am_g 1 61 [some (.ref 14), some (.int 1), some (.int i), some (.int 3), some (.int j), some (.int n), some (.ref 41), some (.ref 45)] [.int (-13)] (hG σ sr ln Lc μ) rfl ?_
  exact am_ret2 rfl rfl rfl rfl rfl
theorem sp_X11_copy_13o (d : Nat) (i j n : Int32) (h : ¬ σ 54 0 = -1) (h2 : ¬ σ 60 0 = -1) (hx : σ 54 0 = σ 60 0) {z : Nat} (hz : σ 55 0 = nI z) (hz40 : z ≤ 40) {y : Nat} (hy : σ 61 0 = nI y) (hy40 : y ≤ 40) (hc : (pu_cv z i n && pu_cv y j n) = false) : am_X xs LL (d + 2) 119 [.ref 14, .int 1, .int i, .int 3, .int j, .int n] (hG σ sr ln Lc μ) (some (.int (-12))) (hG σ sr ln Lc μ) := by
  refine am_XR (d := d + 1) (C := cd_X11_copy) (L := [some (.ref 14), some (.int 1), some (.int i), some (.int 3), some (.int j), some (.int n), none, none]) rfl rfl rfl rfl ?_
  refine am_g 2 2 [some (.ref 14), some (.int 1), some (.int i), some (.int 3), some (.int j), some (.int n), none, none] [.int 1, .ref 14] (hG σ sr ln Lc μ) rfl ?_
  refine am_call (y := 129) (vs := [.ref 14, .int 1]) (rest := []) (v := (some (.ref 41))) (h1 := (hG σ sr ln Lc μ)) rfl rfl rfl (sp_X11_sheetAt_1 (σ := σ) (μ := μ) d) ?_
  refine am_g 3 9 [some (.ref 14), some (.int 1), some (.int i), some (.int 3), some (.int j), some (.int n), some (.ref 41), none] [.int 3, .ref 14] (hG σ sr ln Lc μ) rfl ?_
  refine am_call (y := 129) (vs := [.ref 14, .int 3]) (rest := []) (v := (some (.ref 45))) (h1 := (hG σ sr ln Lc μ)) rfl rfl rfl (sp_X11_sheetAt_3 (σ := σ) (μ := μ) d) ?_
  refine am_g 6 29 [some (.ref 14), some (.int 1), some (.int i), some (.int 3), some (.int j), some (.int n), some (.ref 41), some (.ref 45)] [.ref 41] (hG σ sr ln Lc μ) rfl ?_
  refine am_call (y := 64) (vs := [.ref 41]) (rest := []) (v := (some (.int 0))) (h1 := (hG σ sr ln Lc μ)) rfl rfl rfl (sp_X8_isMissing_1n (σ := σ) (μ := μ) d h) ?_
  refine am_g 2 37 [some (.ref 14), some (.int 1), some (.int i), some (.int 3), some (.int j), some (.int n), some (.ref 41), some (.ref 45)] [.ref 45] (hG σ sr ln Lc μ) rfl ?_
  refine am_call (y := 64) (vs := [.ref 45]) (rest := []) (v := (some (.int 0))) (h1 := (hG σ sr ln Lc μ)) rfl rfl rfl (sp_X8_isMissing_3n (σ := σ) (μ := μ) d h2) ?_
  refine am_g 6 (if (σ 54 0) = (σ 60 0) then 62 else 59) [some (.ref 14), some (.int 1), some (.int i), some (.int 3), some (.int j), some (.int n), some (.ref 41), some (.ref 45)] [] (hG σ sr ln Lc μ) rfl ?_
  rw [if_pos (show (σ 54 0) = (σ 60 0) from hx)]
  refine am_g 3 67 [some (.ref 14), some (.int 1), some (.int i), some (.int 3), some (.int j), some (.int n), some (.ref 41), some (.ref 45)] [.int n, .int i, .ref 41] (hG σ sr ln Lc μ) rfl ?_
  cases e1 : pu_cv z i n with
  | false =>
    refine am_call (y := 66) (vs := [.ref 41, .int i, .int n]) (rest := []) (v := (some (.int 0))) (h1 := (hG σ sr ln Lc μ)) rfl rfl rfl (sp_X8_covers_1 (σ := σ) (μ := μ) d hz (by omega) _ _ e1) ?_
    refine am_g 2 87 [some (.ref 14), some (.int 1), some (.int i), some (.int 3), some (.int j), some (.int n), some (.ref 41), some (.ref 45)] [.int (-12)] (hG σ sr ln Lc μ) rfl ?_
    exact am_ret2 rfl rfl rfl rfl rfl
  | true =>
    refine am_call (y := 66) (vs := [.ref 41, .int i, .int n]) (rest := []) (v := (some (.int 1))) (h1 := (hG σ sr ln Lc μ)) rfl rfl rfl (sp_X8_covers_1 (σ := σ) (μ := μ) d hz (by omega) _ _ e1) ?_
    refine am_g 4 79 [some (.ref 14), some (.int 1), some (.int i), some (.int 3), some (.int j), some (.int n), some (.ref 41), some (.ref 45)] [.int n, .int j, .ref 45] (hG σ sr ln Lc μ) rfl ?_
    cases e2 : pu_cv y j n with
    | false =>
      refine am_call (y := 66) (vs := [.ref 45, .int j, .int n]) (rest := []) (v := (some (.int 0))) (h1 := (hG σ sr ln Lc μ)) rfl rfl rfl (sp_X8_covers_3 (σ := σ) (μ := μ) d hy (by omega) _ _ e2) ?_
      refine am_g 2 87 [some (.ref 14), some (.int 1), some (.int i), some (.int 3), some (.int j), some (.int n), some (.ref 41), some (.ref 45)] [.int (-12)] (hG σ sr ln Lc μ) rfl ?_
      exact am_ret2 rfl rfl rfl rfl rfl
    | true =>
      refine am_call (y := 66) (vs := [.ref 45, .int j, .int n]) (rest := []) (v := (some (.int 1))) (h1 := (hG σ sr ln Lc μ)) rfl rfl rfl (sp_X8_covers_3 (σ := σ) (μ := μ) d hy (by omega) _ _ e2) ?_
      refine am_g 1 88 [some (.ref 14), some (.int 1), some (.int i), some (.int 3), some (.int j), some (.int n), some (.ref 41), some (.ref 45)] [] (hG σ sr ln Lc μ) rfl ?_
      rw [e1, e2] at hc
      cases hc
theorem sp_X11_copy_13q (d : Nat) (a b c : Nat) (h : ¬ σ 54 0 = -1) (h2 : ¬ σ 60 0 = -1) (hx : σ 54 0 = σ 60 0) {z : Nat} (hz : σ 55 0 = nI z) (hz40 : z ≤ 40) {y : Nat} (hy : σ 61 0 = nI y) (hy40 : y ≤ 40) (hac : a + c ≤ z) (hbc : b + c ≤ y) (hc1 : pu_cv z (nI a) (nI c) = true) (hc2 : pu_cv y (nI b) (nI c) = true) : am_X xs LL (d + 2) 119 [.ref 14, .int 1, .int (nI a), .int 3, .int (nI b), .int (nI c)] (hG σ sr ln Lc μ) (some (.int (nI c))) (hG (am_up σ 59 (va_cpy (σ 53) (σ 59) a b c)) sr ln Lc μ) := by
  refine am_XR (d := d + 1) (C := cd_X11_copy) (L := [some (.ref 14), some (.int 1), some (.int (nI a)), some (.int 3), some (.int (nI b)), some (.int (nI c)), none, none]) rfl rfl rfl rfl ?_
  refine am_g 2 2 [some (.ref 14), some (.int 1), some (.int (nI a)), some (.int 3), some (.int (nI b)), some (.int (nI c)), none, none] [.int 1, .ref 14] (hG σ sr ln Lc μ) rfl ?_
  refine am_call (y := 129) (vs := [.ref 14, .int 1]) (rest := []) (v := (some (.ref 41))) (h1 := (hG σ sr ln Lc μ)) rfl rfl rfl (sp_X11_sheetAt_1 (σ := σ) (μ := μ) d) ?_
  refine am_g 3 9 [some (.ref 14), some (.int 1), some (.int (nI a)), some (.int 3), some (.int (nI b)), some (.int (nI c)), some (.ref 41), none] [.int 3, .ref 14] (hG σ sr ln Lc μ) rfl ?_
  refine am_call (y := 129) (vs := [.ref 14, .int 3]) (rest := []) (v := (some (.ref 45))) (h1 := (hG σ sr ln Lc μ)) rfl rfl rfl (sp_X11_sheetAt_3 (σ := σ) (μ := μ) d) ?_
  refine am_g 6 29 [some (.ref 14), some (.int 1), some (.int (nI a)), some (.int 3), some (.int (nI b)), some (.int (nI c)), some (.ref 41), some (.ref 45)] [.ref 41] (hG σ sr ln Lc μ) rfl ?_
  refine am_call (y := 64) (vs := [.ref 41]) (rest := []) (v := (some (.int 0))) (h1 := (hG σ sr ln Lc μ)) rfl rfl rfl (sp_X8_isMissing_1n (σ := σ) (μ := μ) d h) ?_
  refine am_g 2 37 [some (.ref 14), some (.int 1), some (.int (nI a)), some (.int 3), some (.int (nI b)), some (.int (nI c)), some (.ref 41), some (.ref 45)] [.ref 45] (hG σ sr ln Lc μ) rfl ?_
  refine am_call (y := 64) (vs := [.ref 45]) (rest := []) (v := (some (.int 0))) (h1 := (hG σ sr ln Lc μ)) rfl rfl rfl (sp_X8_isMissing_3n (σ := σ) (μ := μ) d h2) ?_
  refine am_g 6 (if (σ 54 0) = (σ 60 0) then 62 else 59) [some (.ref 14), some (.int 1), some (.int (nI a)), some (.int 3), some (.int (nI b)), some (.int (nI c)), some (.ref 41), some (.ref 45)] [] (hG σ sr ln Lc μ) rfl ?_
  rw [if_pos (show (σ 54 0) = (σ 60 0) from hx)]
  refine am_g 3 67 [some (.ref 14), some (.int 1), some (.int (nI a)), some (.int 3), some (.int (nI b)), some (.int (nI c)), some (.ref 41), some (.ref 45)] [.int (nI c), .int (nI a), .ref 41] (hG σ sr ln Lc μ) rfl ?_
  refine am_call (y := 66) (vs := [.ref 41, .int (nI a), .int (nI c)]) (rest := []) (v := (some (.int 1))) (h1 := (hG σ sr ln Lc μ)) rfl rfl rfl (sp_X8_covers_1 (σ := σ) (μ := μ) d hz (by omega) _ _ hc1) ?_
  refine am_g 4 79 [some (.ref 14), some (.int 1), some (.int (nI a)), some (.int 3), some (.int (nI b)), some (.int (nI c)), some (.ref 41), some (.ref 45)] [.int (nI c), .int (nI b), .ref 45] (hG σ sr ln Lc μ) rfl ?_
  refine am_call (y := 66) (vs := [.ref 45, .int (nI b), .int (nI c)]) (rest := []) (v := (some (.int 1))) (h1 := (hG σ sr ln Lc μ)) rfl rfl rfl (sp_X8_covers_3 (σ := σ) (μ := μ) d hy (by omega) _ _ hc2) ?_
  refine am_g 8 103 [some (.ref 14), some (.int 1), some (.int (nI a)), some (.int 3), some (.int (nI b)), some (.int (nI c)), some (.ref 41), some (.ref 45)] [.int (nI c), .int (nI b), .ref 46, .int (nI a), .ref 42] (hG σ sr ln Lc μ) rfl ?_
  refine am_acpR (f := (σ 53)) (g := (σ 59)) (a := a) (b := b) (c := c) (n0 := 40) (n1 := 40) (h1 := (hG (am_up σ 59 (va_cpy (σ 53) (σ 59) a b c)) sr ln Lc μ)) rfl rfl rfl rfl rfl rfl rfl (by omega) (by omega) (by decide) (by decide) rfl ?_
  refine am_g 1 108 [some (.ref 14), some (.int 1), some (.int (nI a)), some (.int 3), some (.int (nI b)), some (.int (nI c)), some (.ref 41), some (.ref 45)] [.int (nI c)] (hG (am_up σ 59 (va_cpy (σ 53) (σ 59) a b c)) sr ln Lc μ) rfl ?_
  exact am_ret2 rfl rfl rfl rfl rfl
theorem sp_X11_copy_2b (d : Nat) (i t j n : Int32) (ht : am_in t 4 = false) : am_X xs LL (d + 2) 119 [.ref 14, .int 2, .int i, .int t, .int j, .int n] (hG σ sr ln Lc μ) (some (.int (-2))) (hG σ sr ln Lc μ) := by
  refine am_XR (d := d + 1) (C := cd_X11_copy) (L := [some (.ref 14), some (.int 2), some (.int i), some (.int t), some (.int j), some (.int n), none, none]) rfl rfl rfl rfl ?_
  refine am_g 2 2 [some (.ref 14), some (.int 2), some (.int i), some (.int t), some (.int j), some (.int n), none, none] [.int 2, .ref 14] (hG σ sr ln Lc μ) rfl ?_
  refine am_call (y := 129) (vs := [.ref 14, .int 2]) (rest := []) (v := (some (.ref 43))) (h1 := (hG σ sr ln Lc μ)) rfl rfl rfl (sp_X11_sheetAt_2 (σ := σ) (μ := μ) d) ?_
  refine am_g 3 9 [some (.ref 14), some (.int 2), some (.int i), some (.int t), some (.int j), some (.int n), some (.ref 43), none] [.int t, .ref 14] (hG σ sr ln Lc μ) rfl ?_
  refine am_call (y := 129) (vs := [.ref 14, .int t]) (rest := []) (v := (some (.null))) (h1 := (hG σ sr ln Lc μ)) rfl rfl rfl (sp_X11_sheetAt_no (σ := σ) (μ := μ) d _ ht) ?_
  refine am_g 6 26 [some (.ref 14), some (.int 2), some (.int i), some (.int t), some (.int j), some (.int n), some (.ref 43), some (.null)] [.int (-2)] (hG σ sr ln Lc μ) rfl ?_
  exact am_ret2 rfl rfl rfl rfl rfl
theorem sp_X11_copy_b2 (d : Nat) (t i j n : Int32) (ht : am_in t 4 = false) : am_X xs LL (d + 2) 119 [.ref 14, .int t, .int i, .int 2, .int j, .int n] (hG σ sr ln Lc μ) (some (.int (-2))) (hG σ sr ln Lc μ) := by
  refine am_XR (d := d + 1) (C := cd_X11_copy) (L := [some (.ref 14), some (.int t), some (.int i), some (.int 2), some (.int j), some (.int n), none, none]) rfl rfl rfl rfl ?_
  refine am_g 2 2 [some (.ref 14), some (.int t), some (.int i), some (.int 2), some (.int j), some (.int n), none, none] [.int t, .ref 14] (hG σ sr ln Lc μ) rfl ?_
  refine am_call (y := 129) (vs := [.ref 14, .int t]) (rest := []) (v := (some (.null))) (h1 := (hG σ sr ln Lc μ)) rfl rfl rfl (sp_X11_sheetAt_no (σ := σ) (μ := μ) d _ ht) ?_
  refine am_g 3 9 [some (.ref 14), some (.int t), some (.int i), some (.int 2), some (.int j), some (.int n), some (.null), none] [.int 2, .ref 14] (hG σ sr ln Lc μ) rfl ?_
  refine am_call (y := 129) (vs := [.ref 14, .int 2]) (rest := []) (v := (some (.ref 43))) (h1 := (hG σ sr ln Lc μ)) rfl rfl rfl (sp_X11_sheetAt_2 (σ := σ) (μ := μ) d) ?_
  refine am_g 4 26 [some (.ref 14), some (.int t), some (.int i), some (.int 2), some (.int j), some (.int n), some (.null), some (.ref 43)] [.int (-2)] (hG σ sr ln Lc μ) rfl ?_
  exact am_ret2 rfl rfl rfl rfl rfl
theorem sp_X11_copy_20m (d : Nat) (i j n : Int32) (h : σ 57 0 = -1) : am_X xs LL (d + 2) 119 [.ref 14, .int 2, .int i, .int 0, .int j, .int n] (hG σ sr ln Lc μ) (some (.int (-11))) (hG σ sr ln Lc μ) := by
  refine am_XR (d := d + 1) (C := cd_X11_copy) (L := [some (.ref 14), some (.int 2), some (.int i), some (.int 0), some (.int j), some (.int n), none, none]) rfl rfl rfl rfl ?_
  refine am_g 2 2 [some (.ref 14), some (.int 2), some (.int i), some (.int 0), some (.int j), some (.int n), none, none] [.int 2, .ref 14] (hG σ sr ln Lc μ) rfl ?_
  refine am_call (y := 129) (vs := [.ref 14, .int 2]) (rest := []) (v := (some (.ref 43))) (h1 := (hG σ sr ln Lc μ)) rfl rfl rfl (sp_X11_sheetAt_2 (σ := σ) (μ := μ) d) ?_
  refine am_g 3 9 [some (.ref 14), some (.int 2), some (.int i), some (.int 0), some (.int j), some (.int n), some (.ref 43), none] [.int 0, .ref 14] (hG σ sr ln Lc μ) rfl ?_
  refine am_call (y := 129) (vs := [.ref 14, .int 0]) (rest := []) (v := (some (.ref 39))) (h1 := (hG σ sr ln Lc μ)) rfl rfl rfl (sp_X11_sheetAt_0 (σ := σ) (μ := μ) d) ?_
  refine am_g 6 29 [some (.ref 14), some (.int 2), some (.int i), some (.int 0), some (.int j), some (.int n), some (.ref 43), some (.ref 39)] [.ref 43] (hG σ sr ln Lc μ) rfl ?_
  refine am_call (y := 64) (vs := [.ref 43]) (rest := []) (v := (some (.int 1))) (h1 := (hG σ sr ln Lc μ)) rfl rfl rfl (sp_X8_isMissing_2y (σ := σ) (μ := μ) d h) ?_
  refine am_g 2 45 [some (.ref 14), some (.int 2), some (.int i), some (.int 0), some (.int j), some (.int n), some (.ref 43), some (.ref 39)] [.int (-11)] (hG σ sr ln Lc μ) rfl ?_
  exact am_ret2 rfl rfl rfl rfl rfl
theorem sp_X11_copy_20m2 (d : Nat) (i j n : Int32) (h : ¬ σ 57 0 = -1) (h2 : σ 51 0 = -1) : am_X xs LL (d + 2) 119 [.ref 14, .int 2, .int i, .int 0, .int j, .int n] (hG σ sr ln Lc μ) (some (.int (-11))) (hG σ sr ln Lc μ) := by
  refine am_XR (d := d + 1) (C := cd_X11_copy) (L := [some (.ref 14), some (.int 2), some (.int i), some (.int 0), some (.int j), some (.int n), none, none]) rfl rfl rfl rfl ?_
  refine am_g 2 2 [some (.ref 14), some (.int 2), some (.int i), some (.int 0), some (.int j), some (.int n), none, none] [.int 2, .ref 14] (hG σ sr ln Lc μ) rfl ?_
  refine am_call (y := 129) (vs := [.ref 14, .int 2]) (rest := []) (v := (some (.ref 43))) (h1 := (hG σ sr ln Lc μ)) rfl rfl rfl (sp_X11_sheetAt_2 (σ := σ) (μ := μ) d) ?_
  refine am_g 3 9 [some (.ref 14), some (.int 2), some (.int i), some (.int 0), some (.int j), some (.int n), some (.ref 43), none] [.int 0, .ref 14] (hG σ sr ln Lc μ) rfl ?_
  refine am_call (y := 129) (vs := [.ref 14, .int 0]) (rest := []) (v := (some (.ref 39))) (h1 := (hG σ sr ln Lc μ)) rfl rfl rfl (sp_X11_sheetAt_0 (σ := σ) (μ := μ) d) ?_
  refine am_g 6 29 [some (.ref 14), some (.int 2), some (.int i), some (.int 0), some (.int j), some (.int n), some (.ref 43), some (.ref 39)] [.ref 43] (hG σ sr ln Lc μ) rfl ?_
  refine am_call (y := 64) (vs := [.ref 43]) (rest := []) (v := (some (.int 0))) (h1 := (hG σ sr ln Lc μ)) rfl rfl rfl (sp_X8_isMissing_2n (σ := σ) (μ := μ) d h) ?_
  refine am_g 2 37 [some (.ref 14), some (.int 2), some (.int i), some (.int 0), some (.int j), some (.int n), some (.ref 43), some (.ref 39)] [.ref 39] (hG σ sr ln Lc μ) rfl ?_
  refine am_call (y := 64) (vs := [.ref 39]) (rest := []) (v := (some (.int 1))) (h1 := (hG σ sr ln Lc μ)) rfl rfl rfl (sp_X8_isMissing_0y (σ := σ) (μ := μ) d h2) ?_
  refine am_g 2 45 [some (.ref 14), some (.int 2), some (.int i), some (.int 0), some (.int j), some (.int n), some (.ref 43), some (.ref 39)] [.int (-11)] (hG σ sr ln Lc μ) rfl ?_
  exact am_ret2 rfl rfl rfl rfl rfl
theorem sp_X11_copy_20x (d : Nat) (i j n : Int32) (h : ¬ σ 57 0 = -1) (h2 : ¬ σ 51 0 = -1) (hx : ¬ σ 57 0 = σ 51 0) : am_X xs LL (d + 2) 119 [.ref 14, .int 2, .int i, .int 0, .int j, .int n] (hG σ sr ln Lc μ) (some (.int (-13))) (hG σ sr ln Lc μ) := by
  refine am_XR (d := d + 1) (C := cd_X11_copy) (L := [some (.ref 14), some (.int 2), some (.int i), some (.int 0), some (.int j), some (.int n), none, none]) rfl rfl rfl rfl ?_
  refine am_g 2 2 [some (.ref 14), some (.int 2), some (.int i), some (.int 0), some (.int j), some (.int n), none, none] [.int 2, .ref 14] (hG σ sr ln Lc μ) rfl ?_
  refine am_call (y := 129) (vs := [.ref 14, .int 2]) (rest := []) (v := (some (.ref 43))) (h1 := (hG σ sr ln Lc μ)) rfl rfl rfl (sp_X11_sheetAt_2 (σ := σ) (μ := μ) d) ?_
  refine am_g 3 9 [some (.ref 14), some (.int 2), some (.int i), some (.int 0), some (.int j), some (.int n), some (.ref 43), none] [.int 0, .ref 14] (hG σ sr ln Lc μ) rfl ?_
  refine am_call (y := 129) (vs := [.ref 14, .int 0]) (rest := []) (v := (some (.ref 39))) (h1 := (hG σ sr ln Lc μ)) rfl rfl rfl (sp_X11_sheetAt_0 (σ := σ) (μ := μ) d) ?_
  refine am_g 6 29 [some (.ref 14), some (.int 2), some (.int i), some (.int 0), some (.int j), some (.int n), some (.ref 43), some (.ref 39)] [.ref 43] (hG σ sr ln Lc μ) rfl ?_
  refine am_call (y := 64) (vs := [.ref 43]) (rest := []) (v := (some (.int 0))) (h1 := (hG σ sr ln Lc μ)) rfl rfl rfl (sp_X8_isMissing_2n (σ := σ) (μ := μ) d h) ?_
  refine am_g 2 37 [some (.ref 14), some (.int 2), some (.int i), some (.int 0), some (.int j), some (.int n), some (.ref 43), some (.ref 39)] [.ref 39] (hG σ sr ln Lc μ) rfl ?_
  refine am_call (y := 64) (vs := [.ref 39]) (rest := []) (v := (some (.int 0))) (h1 := (hG σ sr ln Lc μ)) rfl rfl rfl (sp_X8_isMissing_0n (σ := σ) (μ := μ) d h2) ?_
  refine am_g 6 (if (σ 57 0) = (σ 51 0) then 62 else 59) [some (.ref 14), some (.int 2), some (.int i), some (.int 0), some (.int j), some (.int n), some (.ref 43), some (.ref 39)] [] (hG σ sr ln Lc μ) rfl ?_
  rw [if_neg (show ¬ (σ 57 0) = (σ 51 0) from hx)]
  refine am_g 1 61 [some (.ref 14), some (.int 2), some (.int i), some (.int 0), some (.int j), some (.int n), some (.ref 43), some (.ref 39)] [.int (-13)] (hG σ sr ln Lc μ) rfl ?_
  exact am_ret2 rfl rfl rfl rfl rfl
theorem sp_X11_copy_20o (d : Nat) (i j n : Int32) (h : ¬ σ 57 0 = -1) (h2 : ¬ σ 51 0 = -1) (hx : σ 57 0 = σ 51 0) {z : Nat} (hz : σ 58 0 = nI z) (hz40 : z ≤ 40) {y : Nat} (hy : σ 52 0 = nI y) (hy40 : y ≤ 40) (hc : (pu_cv z i n && pu_cv y j n) = false) : am_X xs LL (d + 2) 119 [.ref 14, .int 2, .int i, .int 0, .int j, .int n] (hG σ sr ln Lc μ) (some (.int (-12))) (hG σ sr ln Lc μ) := by
  refine am_XR (d := d + 1) (C := cd_X11_copy) (L := [some (.ref 14), some (.int 2), some (.int i), some (.int 0), some (.int j), some (.int n), none, none]) rfl rfl rfl rfl ?_
  refine am_g 2 2 [some (.ref 14), some (.int 2), some (.int i), some (.int 0), some (.int j), some (.int n), none, none] [.int 2, .ref 14] (hG σ sr ln Lc μ) rfl ?_
  refine am_call (y := 129) (vs := [.ref 14, .int 2]) (rest := []) (v := (some (.ref 43))) (h1 := (hG σ sr ln Lc μ)) rfl rfl rfl (sp_X11_sheetAt_2 (σ := σ) (μ := μ) d) ?_
  refine am_g 3 9 [some (.ref 14), some (.int 2), some (.int i), some (.int 0), some (.int j), some (.int n), some (.ref 43), none] [.int 0, .ref 14] (hG σ sr ln Lc μ) rfl ?_
  refine am_call (y := 129) (vs := [.ref 14, .int 0]) (rest := []) (v := (some (.ref 39))) (h1 := (hG σ sr ln Lc μ)) rfl rfl rfl (sp_X11_sheetAt_0 (σ := σ) (μ := μ) d) ?_
  refine am_g 6 29 [some (.ref 14), some (.int 2), some (.int i), some (.int 0), some (.int j), some (.int n), some (.ref 43), some (.ref 39)] [.ref 43] (hG σ sr ln Lc μ) rfl ?_
  refine am_call (y := 64) (vs := [.ref 43]) (rest := []) (v := (some (.int 0))) (h1 := (hG σ sr ln Lc μ)) rfl rfl rfl (sp_X8_isMissing_2n (σ := σ) (μ := μ) d h) ?_
  refine am_g 2 37 [some (.ref 14), some (.int 2), some (.int i), some (.int 0), some (.int j), some (.int n), some (.ref 43), some (.ref 39)] [.ref 39] (hG σ sr ln Lc μ) rfl ?_
  refine am_call (y := 64) (vs := [.ref 39]) (rest := []) (v := (some (.int 0))) (h1 := (hG σ sr ln Lc μ)) rfl rfl rfl (sp_X8_isMissing_0n (σ := σ) (μ := μ) d h2) ?_
  refine am_g 6 (if (σ 57 0) = (σ 51 0) then 62 else 59) [some (.ref 14), some (.int 2), some (.int i), some (.int 0), some (.int j), some (.int n), some (.ref 43), some (.ref 39)] [] (hG σ sr ln Lc μ) rfl ?_
  rw [if_pos (show (σ 57 0) = (σ 51 0) from hx)]
  refine am_g 3 67 [some (.ref 14), some (.int 2), some (.int i), some (.int 0), some (.int j), some (.int n), some (.ref 43), some (.ref 39)] [.int n, .int i, .ref 43] (hG σ sr ln Lc μ) rfl ?_
  cases e1 : pu_cv z i n with
  | false =>
    refine am_call (y := 66) (vs := [.ref 43, .int i, .int n]) (rest := []) (v := (some (.int 0))) (h1 := (hG σ sr ln Lc μ)) rfl rfl rfl (sp_X8_covers_2 (σ := σ) (μ := μ) d hz (by omega) _ _ e1) ?_
    refine am_g 2 87 [some (.ref 14), some (.int 2), some (.int i), some (.int 0), some (.int j), some (.int n), some (.ref 43), some (.ref 39)] [.int (-12)] (hG σ sr ln Lc μ) rfl ?_
    exact am_ret2 rfl rfl rfl rfl rfl
  | true =>
    refine am_call (y := 66) (vs := [.ref 43, .int i, .int n]) (rest := []) (v := (some (.int 1))) (h1 := (hG σ sr ln Lc μ)) rfl rfl rfl (sp_X8_covers_2 (σ := σ) (μ := μ) d hz (by omega) _ _ e1) ?_
    refine am_g 4 79 [some (.ref 14), some (.int 2), some (.int i), some (.int 0), some (.int j), some (.int n), some (.ref 43), some (.ref 39)] [.int n, .int j, .ref 39] (hG σ sr ln Lc μ) rfl ?_
    cases e2 : pu_cv y j n with
    | false =>
      refine am_call (y := 66) (vs := [.ref 39, .int j, .int n]) (rest := []) (v := (some (.int 0))) (h1 := (hG σ sr ln Lc μ)) rfl rfl rfl (sp_X8_covers_0 (σ := σ) (μ := μ) d hy (by omega) _ _ e2) ?_
      refine am_g 2 87 [some (.ref 14), some (.int 2), some (.int i), some (.int 0), some (.int j), some (.int n), some (.ref 43), some (.ref 39)] [.int (-12)] (hG σ sr ln Lc μ) rfl ?_
      exact am_ret2 rfl rfl rfl rfl rfl
    | true =>
      refine am_call (y := 66) (vs := [.ref 39, .int j, .int n]) (rest := []) (v := (some (.int 1))) (h1 := (hG σ sr ln Lc μ)) rfl rfl rfl (sp_X8_covers_0 (σ := σ) (μ := μ) d hy (by omega) _ _ e2) ?_
      refine am_g 1 88 [some (.ref 14), some (.int 2), some (.int i), some (.int 0), some (.int j), some (.int n), some (.ref 43), some (.ref 39)] [] (hG σ sr ln Lc μ) rfl ?_
      rw [e1, e2] at hc
      cases hc
theorem sp_X11_copy_20q (d : Nat) (a b c : Nat) (h : ¬ σ 57 0 = -1) (h2 : ¬ σ 51 0 = -1) (hx : σ 57 0 = σ 51 0) {z : Nat} (hz : σ 58 0 = nI z) (hz40 : z ≤ 40) {y : Nat} (hy : σ 52 0 = nI y) (hy40 : y ≤ 40) (hac : a + c ≤ z) (hbc : b + c ≤ y) (hc1 : pu_cv z (nI a) (nI c) = true) (hc2 : pu_cv y (nI b) (nI c) = true) : am_X xs LL (d + 2) 119 [.ref 14, .int 2, .int (nI a), .int 0, .int (nI b), .int (nI c)] (hG σ sr ln Lc μ) (some (.int (nI c))) (hG (am_up σ 50 (va_cpy (σ 56) (σ 50) a b c)) sr ln Lc μ) := by
  refine am_XR (d := d + 1) (C := cd_X11_copy) (L := [some (.ref 14), some (.int 2), some (.int (nI a)), some (.int 0), some (.int (nI b)), some (.int (nI c)), none, none]) rfl rfl rfl rfl ?_
  refine am_g 2 2 [some (.ref 14), some (.int 2), some (.int (nI a)), some (.int 0), some (.int (nI b)), some (.int (nI c)), none, none] [.int 2, .ref 14] (hG σ sr ln Lc μ) rfl ?_
  refine am_call (y := 129) (vs := [.ref 14, .int 2]) (rest := []) (v := (some (.ref 43))) (h1 := (hG σ sr ln Lc μ)) rfl rfl rfl (sp_X11_sheetAt_2 (σ := σ) (μ := μ) d) ?_
  refine am_g 3 9 [some (.ref 14), some (.int 2), some (.int (nI a)), some (.int 0), some (.int (nI b)), some (.int (nI c)), some (.ref 43), none] [.int 0, .ref 14] (hG σ sr ln Lc μ) rfl ?_
  refine am_call (y := 129) (vs := [.ref 14, .int 0]) (rest := []) (v := (some (.ref 39))) (h1 := (hG σ sr ln Lc μ)) rfl rfl rfl (sp_X11_sheetAt_0 (σ := σ) (μ := μ) d) ?_
  refine am_g 6 29 [some (.ref 14), some (.int 2), some (.int (nI a)), some (.int 0), some (.int (nI b)), some (.int (nI c)), some (.ref 43), some (.ref 39)] [.ref 43] (hG σ sr ln Lc μ) rfl ?_
  refine am_call (y := 64) (vs := [.ref 43]) (rest := []) (v := (some (.int 0))) (h1 := (hG σ sr ln Lc μ)) rfl rfl rfl (sp_X8_isMissing_2n (σ := σ) (μ := μ) d h) ?_
  refine am_g 2 37 [some (.ref 14), some (.int 2), some (.int (nI a)), some (.int 0), some (.int (nI b)), some (.int (nI c)), some (.ref 43), some (.ref 39)] [.ref 39] (hG σ sr ln Lc μ) rfl ?_
  refine am_call (y := 64) (vs := [.ref 39]) (rest := []) (v := (some (.int 0))) (h1 := (hG σ sr ln Lc μ)) rfl rfl rfl (sp_X8_isMissing_0n (σ := σ) (μ := μ) d h2) ?_
  refine am_g 6 (if (σ 57 0) = (σ 51 0) then 62 else 59) [some (.ref 14), some (.int 2), some (.int (nI a)), some (.int 0), some (.int (nI b)), some (.int (nI c)), some (.ref 43), some (.ref 39)] [] (hG σ sr ln Lc μ) rfl ?_
  rw [if_pos (show (σ 57 0) = (σ 51 0) from hx)]
  refine am_g 3 67 [some (.ref 14), some (.int 2), some (.int (nI a)), some (.int 0), some (.int (nI b)), some (.int (nI c)), some (.ref 43), some (.ref 39)] [.int (nI c), .int (nI a), .ref 43] (hG σ sr ln Lc μ) rfl ?_
  refine am_call (y := 66) (vs := [.ref 43, .int (nI a), .int (nI c)]) (rest := []) (v := (some (.int 1))) (h1 := (hG σ sr ln Lc μ)) rfl rfl rfl (sp_X8_covers_2 (σ := σ) (μ := μ) d hz (by omega) _ _ hc1) ?_
  refine am_g 4 79 [some (.ref 14), some (.int 2), some (.int (nI a)), some (.int 0), some (.int (nI b)), some (.int (nI c)), some (.ref 43), some (.ref 39)] [.int (nI c), .int (nI b), .ref 39] (hG σ sr ln Lc μ) rfl ?_
  refine am_call (y := 66) (vs := [.ref 39, .int (nI b), .int (nI c)]) (rest := []) (v := (some (.int 1))) (h1 := (hG σ sr ln Lc μ)) rfl rfl rfl (sp_X8_covers_0 (σ := σ) (μ := μ) d hy (by omega) _ _ hc2) ?_
  refine am_g 8 103 [some (.ref 14), some (.int 2), some (.int (nI a)), some (.int 0), some (.int (nI b)), some (.int (nI c)), some (.ref 43), some (.ref 39)] [.int (nI c), .int (nI b), .ref 40, .int (nI a), .ref 44] (hG σ sr ln Lc μ) rfl ?_
  refine am_acpR (f := (σ 56)) (g := (σ 50)) (a := a) (b := b) (c := c) (n0 := 40) (n1 := 40) (h1 := (hG (am_up σ 50 (va_cpy (σ 56) (σ 50) a b c)) sr ln Lc μ)) rfl rfl rfl rfl rfl rfl rfl (by omega) (by omega) (by decide) (by decide) rfl ?_
  refine am_g 1 108 [some (.ref 14), some (.int 2), some (.int (nI a)), some (.int 0), some (.int (nI b)), some (.int (nI c)), some (.ref 43), some (.ref 39)] [.int (nI c)] (hG (am_up σ 50 (va_cpy (σ 56) (σ 50) a b c)) sr ln Lc μ) rfl ?_
  exact am_ret2 rfl rfl rfl rfl rfl
theorem sp_X11_copy_21m (d : Nat) (i j n : Int32) (h : σ 57 0 = -1) : am_X xs LL (d + 2) 119 [.ref 14, .int 2, .int i, .int 1, .int j, .int n] (hG σ sr ln Lc μ) (some (.int (-11))) (hG σ sr ln Lc μ) := by
  refine am_XR (d := d + 1) (C := cd_X11_copy) (L := [some (.ref 14), some (.int 2), some (.int i), some (.int 1), some (.int j), some (.int n), none, none]) rfl rfl rfl rfl ?_
  refine am_g 2 2 [some (.ref 14), some (.int 2), some (.int i), some (.int 1), some (.int j), some (.int n), none, none] [.int 2, .ref 14] (hG σ sr ln Lc μ) rfl ?_
  refine am_call (y := 129) (vs := [.ref 14, .int 2]) (rest := []) (v := (some (.ref 43))) (h1 := (hG σ sr ln Lc μ)) rfl rfl rfl (sp_X11_sheetAt_2 (σ := σ) (μ := μ) d) ?_
  refine am_g 3 9 [some (.ref 14), some (.int 2), some (.int i), some (.int 1), some (.int j), some (.int n), some (.ref 43), none] [.int 1, .ref 14] (hG σ sr ln Lc μ) rfl ?_
  refine am_call (y := 129) (vs := [.ref 14, .int 1]) (rest := []) (v := (some (.ref 41))) (h1 := (hG σ sr ln Lc μ)) rfl rfl rfl (sp_X11_sheetAt_1 (σ := σ) (μ := μ) d) ?_
  refine am_g 6 29 [some (.ref 14), some (.int 2), some (.int i), some (.int 1), some (.int j), some (.int n), some (.ref 43), some (.ref 41)] [.ref 43] (hG σ sr ln Lc μ) rfl ?_
  refine am_call (y := 64) (vs := [.ref 43]) (rest := []) (v := (some (.int 1))) (h1 := (hG σ sr ln Lc μ)) rfl rfl rfl (sp_X8_isMissing_2y (σ := σ) (μ := μ) d h) ?_
  refine am_g 2 45 [some (.ref 14), some (.int 2), some (.int i), some (.int 1), some (.int j), some (.int n), some (.ref 43), some (.ref 41)] [.int (-11)] (hG σ sr ln Lc μ) rfl ?_
  exact am_ret2 rfl rfl rfl rfl rfl
theorem sp_X11_copy_21m2 (d : Nat) (i j n : Int32) (h : ¬ σ 57 0 = -1) (h2 : σ 54 0 = -1) : am_X xs LL (d + 2) 119 [.ref 14, .int 2, .int i, .int 1, .int j, .int n] (hG σ sr ln Lc μ) (some (.int (-11))) (hG σ sr ln Lc μ) := by
  refine am_XR (d := d + 1) (C := cd_X11_copy) (L := [some (.ref 14), some (.int 2), some (.int i), some (.int 1), some (.int j), some (.int n), none, none]) rfl rfl rfl rfl ?_
  refine am_g 2 2 [some (.ref 14), some (.int 2), some (.int i), some (.int 1), some (.int j), some (.int n), none, none] [.int 2, .ref 14] (hG σ sr ln Lc μ) rfl ?_
  refine am_call (y := 129) (vs := [.ref 14, .int 2]) (rest := []) (v := (some (.ref 43))) (h1 := (hG σ sr ln Lc μ)) rfl rfl rfl (sp_X11_sheetAt_2 (σ := σ) (μ := μ) d) ?_
  refine am_g 3 9 [some (.ref 14), some (.int 2), some (.int i), some (.int 1), some (.int j), some (.int n), some (.ref 43), none] [.int 1, .ref 14] (hG σ sr ln Lc μ) rfl ?_
  refine am_call (y := 129) (vs := [.ref 14, .int 1]) (rest := []) (v := (some (.ref 41))) (h1 := (hG σ sr ln Lc μ)) rfl rfl rfl (sp_X11_sheetAt_1 (σ := σ) (μ := μ) d) ?_
  refine am_g 6 29 [some (.ref 14), some (.int 2), some (.int i), some (.int 1), some (.int j), some (.int n), some (.ref 43), some (.ref 41)] [.ref 43] (hG σ sr ln Lc μ) rfl ?_
  refine am_call (y := 64) (vs := [.ref 43]) (rest := []) (v := (some (.int 0))) (h1 := (hG σ sr ln Lc μ)) rfl rfl rfl (sp_X8_isMissing_2n (σ := σ) (μ := μ) d h) ?_
  refine am_g 2 37 [some (.ref 14), some (.int 2), some (.int i), some (.int 1), some (.int j), some (.int n), some (.ref 43), some (.ref 41)] [.ref 41] (hG σ sr ln Lc μ) rfl ?_
  refine am_call (y := 64) (vs := [.ref 41]) (rest := []) (v := (some (.int 1))) (h1 := (hG σ sr ln Lc μ)) rfl rfl rfl (sp_X8_isMissing_1y (σ := σ) (μ := μ) d h2) ?_
  refine am_g 2 45 [some (.ref 14), some (.int 2), some (.int i), some (.int 1), some (.int j), some (.int n), some (.ref 43), some (.ref 41)] [.int (-11)] (hG σ sr ln Lc μ) rfl ?_
  exact am_ret2 rfl rfl rfl rfl rfl
theorem sp_X11_copy_21x (d : Nat) (i j n : Int32) (h : ¬ σ 57 0 = -1) (h2 : ¬ σ 54 0 = -1) (hx : ¬ σ 57 0 = σ 54 0) : am_X xs LL (d + 2) 119 [.ref 14, .int 2, .int i, .int 1, .int j, .int n] (hG σ sr ln Lc μ) (some (.int (-13))) (hG σ sr ln Lc μ) := by
  refine am_XR (d := d + 1) (C := cd_X11_copy) (L := [some (.ref 14), some (.int 2), some (.int i), some (.int 1), some (.int j), some (.int n), none, none]) rfl rfl rfl rfl ?_
  refine am_g 2 2 [some (.ref 14), some (.int 2), some (.int i), some (.int 1), some (.int j), some (.int n), none, none] [.int 2, .ref 14] (hG σ sr ln Lc μ) rfl ?_
  refine am_call (y := 129) (vs := [.ref 14, .int 2]) (rest := []) (v := (some (.ref 43))) (h1 := (hG σ sr ln Lc μ)) rfl rfl rfl (sp_X11_sheetAt_2 (σ := σ) (μ := μ) d) ?_
  refine am_g 3 9 [some (.ref 14), some (.int 2), some (.int i), some (.int 1), some (.int j), some (.int n), some (.ref 43), none] [.int 1, .ref 14] (hG σ sr ln Lc μ) rfl ?_
  refine am_call (y := 129) (vs := [.ref 14, .int 1]) (rest := []) (v := (some (.ref 41))) (h1 := (hG σ sr ln Lc μ)) rfl rfl rfl (sp_X11_sheetAt_1 (σ := σ) (μ := μ) d) ?_
  refine am_g 6 29 [some (.ref 14), some (.int 2), some (.int i), some (.int 1), some (.int j), some (.int n), some (.ref 43), some (.ref 41)] [.ref 43] (hG σ sr ln Lc μ) rfl ?_
  refine am_call (y := 64) (vs := [.ref 43]) (rest := []) (v := (some (.int 0))) (h1 := (hG σ sr ln Lc μ)) rfl rfl rfl (sp_X8_isMissing_2n (σ := σ) (μ := μ) d h) ?_
  refine am_g 2 37 [some (.ref 14), some (.int 2), some (.int i), some (.int 1), some (.int j), some (.int n), some (.ref 43), some (.ref 41)] [.ref 41] (hG σ sr ln Lc μ) rfl ?_
  refine am_call (y := 64) (vs := [.ref 41]) (rest := []) (v := (some (.int 0))) (h1 := (hG σ sr ln Lc μ)) rfl rfl rfl (sp_X8_isMissing_1n (σ := σ) (μ := μ) d h2) ?_
  refine am_g 6 (if (σ 57 0) = (σ 54 0) then 62 else 59) [some (.ref 14), some (.int 2), some (.int i), some (.int 1), some (.int j), some (.int n), some (.ref 43), some (.ref 41)] [] (hG σ sr ln Lc μ) rfl ?_
  rw [if_neg (show ¬ (σ 57 0) = (σ 54 0) from hx)]
  refine am_g 1 61 [some (.ref 14), some (.int 2), some (.int i), some (.int 1), some (.int j), some (.int n), some (.ref 43), some (.ref 41)] [.int (-13)] (hG σ sr ln Lc μ) rfl ?_
  exact am_ret2 rfl rfl rfl rfl rfl
theorem sp_X11_copy_21o (d : Nat) (i j n : Int32) (h : ¬ σ 57 0 = -1) (h2 : ¬ σ 54 0 = -1) (hx : σ 57 0 = σ 54 0) {z : Nat} (hz : σ 58 0 = nI z) (hz40 : z ≤ 40) {y : Nat} (hy : σ 55 0 = nI y) (hy40 : y ≤ 40) (hc : (pu_cv z i n && pu_cv y j n) = false) : am_X xs LL (d + 2) 119 [.ref 14, .int 2, .int i, .int 1, .int j, .int n] (hG σ sr ln Lc μ) (some (.int (-12))) (hG σ sr ln Lc μ) := by
  refine am_XR (d := d + 1) (C := cd_X11_copy) (L := [some (.ref 14), some (.int 2), some (.int i), some (.int 1), some (.int j), some (.int n), none, none]) rfl rfl rfl rfl ?_
  refine am_g 2 2 [some (.ref 14), some (.int 2), some (.int i), some (.int 1), some (.int j), some (.int n), none, none] [.int 2, .ref 14] (hG σ sr ln Lc μ) rfl ?_
  refine am_call (y := 129) (vs := [.ref 14, .int 2]) (rest := []) (v := (some (.ref 43))) (h1 := (hG σ sr ln Lc μ)) rfl rfl rfl (sp_X11_sheetAt_2 (σ := σ) (μ := μ) d) ?_
  refine am_g 3 9 [some (.ref 14), some (.int 2), some (.int i), some (.int 1), some (.int j), some (.int n), some (.ref 43), none] [.int 1, .ref 14] (hG σ sr ln Lc μ) rfl ?_
  refine am_call (y := 129) (vs := [.ref 14, .int 1]) (rest := []) (v := (some (.ref 41))) (h1 := (hG σ sr ln Lc μ)) rfl rfl rfl (sp_X11_sheetAt_1 (σ := σ) (μ := μ) d) ?_
  refine am_g 6 29 [some (.ref 14), some (.int 2), some (.int i), some (.int 1), some (.int j), some (.int n), some (.ref 43), some (.ref 41)] [.ref 43] (hG σ sr ln Lc μ) rfl ?_
  refine am_call (y := 64) (vs := [.ref 43]) (rest := []) (v := (some (.int 0))) (h1 := (hG σ sr ln Lc μ)) rfl rfl rfl (sp_X8_isMissing_2n (σ := σ) (μ := μ) d h) ?_
  refine am_g 2 37 [some (.ref 14), some (.int 2), some (.int i), some (.int 1), some (.int j), some (.int n), some (.ref 43), some (.ref 41)] [.ref 41] (hG σ sr ln Lc μ) rfl ?_
  refine am_call (y := 64) (vs := [.ref 41]) (rest := []) (v := (some (.int 0))) (h1 := (hG σ sr ln Lc μ)) rfl rfl rfl (sp_X8_isMissing_1n (σ := σ) (μ := μ) d h2) ?_
  refine am_g 6 (if (σ 57 0) = (σ 54 0) then 62 else 59) [some (.ref 14), some (.int 2), some (.int i), some (.int 1), some (.int j), some (.int n), some (.ref 43), some (.ref 41)] [] (hG σ sr ln Lc μ) rfl ?_
  rw [if_pos (show (σ 57 0) = (σ 54 0) from hx)]
  refine am_g 3 67 [some (.ref 14), some (.int 2), some (.int i), some (.int 1), some (.int j), some (.int n), some (.ref 43), some (.ref 41)] [.int n, .int i, .ref 43] (hG σ sr ln Lc μ) rfl ?_
  cases e1 : pu_cv z i n with
  | false =>
    refine am_call (y := 66) (vs := [.ref 43, .int i, .int n]) (rest := []) (v := (some (.int 0))) (h1 := (hG σ sr ln Lc μ)) rfl rfl rfl (sp_X8_covers_2 (σ := σ) (μ := μ) d hz (by omega) _ _ e1) ?_
    refine am_g 2 87 [some (.ref 14), some (.int 2), some (.int i), some (.int 1), some (.int j), some (.int n), some (.ref 43), some (.ref 41)] [.int (-12)] (hG σ sr ln Lc μ) rfl ?_
    exact am_ret2 rfl rfl rfl rfl rfl
  | true =>
    refine am_call (y := 66) (vs := [.ref 43, .int i, .int n]) (rest := []) (v := (some (.int 1))) (h1 := (hG σ sr ln Lc μ)) rfl rfl rfl (sp_X8_covers_2 (σ := σ) (μ := μ) d hz (by omega) _ _ e1) ?_
    refine am_g 4 79 [some (.ref 14), some (.int 2), some (.int i), some (.int 1), some (.int j), some (.int n), some (.ref 43), some (.ref 41)] [.int n, .int j, .ref 41] (hG σ sr ln Lc μ) rfl ?_
    cases e2 : pu_cv y j n with
    | false =>
      refine am_call (y := 66) (vs := [.ref 41, .int j, .int n]) (rest := []) (v := (some (.int 0))) (h1 := (hG σ sr ln Lc μ)) rfl rfl rfl (sp_X8_covers_1 (σ := σ) (μ := μ) d hy (by omega) _ _ e2) ?_
      refine am_g 2 87 [some (.ref 14), some (.int 2), some (.int i), some (.int 1), some (.int j), some (.int n), some (.ref 43), some (.ref 41)] [.int (-12)] (hG σ sr ln Lc μ) rfl ?_
      exact am_ret2 rfl rfl rfl rfl rfl
    | true =>
      refine am_call (y := 66) (vs := [.ref 41, .int j, .int n]) (rest := []) (v := (some (.int 1))) (h1 := (hG σ sr ln Lc μ)) rfl rfl rfl (sp_X8_covers_1 (σ := σ) (μ := μ) d hy (by omega) _ _ e2) ?_
      refine am_g 1 88 [some (.ref 14), some (.int 2), some (.int i), some (.int 1), some (.int j), some (.int n), some (.ref 43), some (.ref 41)] [] (hG σ sr ln Lc μ) rfl ?_
      rw [e1, e2] at hc
      cases hc
theorem sp_X11_copy_21q (d : Nat) (a b c : Nat) (h : ¬ σ 57 0 = -1) (h2 : ¬ σ 54 0 = -1) (hx : σ 57 0 = σ 54 0) {z : Nat} (hz : σ 58 0 = nI z) (hz40 : z ≤ 40) {y : Nat} (hy : σ 55 0 = nI y) (hy40 : y ≤ 40) (hac : a + c ≤ z) (hbc : b + c ≤ y) (hc1 : pu_cv z (nI a) (nI c) = true) (hc2 : pu_cv y (nI b) (nI c) = true) : am_X xs LL (d + 2) 119 [.ref 14, .int 2, .int (nI a), .int 1, .int (nI b), .int (nI c)] (hG σ sr ln Lc μ) (some (.int (nI c))) (hG (am_up σ 53 (va_cpy (σ 56) (σ 53) a b c)) sr ln Lc μ) := by
  refine am_XR (d := d + 1) (C := cd_X11_copy) (L := [some (.ref 14), some (.int 2), some (.int (nI a)), some (.int 1), some (.int (nI b)), some (.int (nI c)), none, none]) rfl rfl rfl rfl ?_
  refine am_g 2 2 [some (.ref 14), some (.int 2), some (.int (nI a)), some (.int 1), some (.int (nI b)), some (.int (nI c)), none, none] [.int 2, .ref 14] (hG σ sr ln Lc μ) rfl ?_
  refine am_call (y := 129) (vs := [.ref 14, .int 2]) (rest := []) (v := (some (.ref 43))) (h1 := (hG σ sr ln Lc μ)) rfl rfl rfl (sp_X11_sheetAt_2 (σ := σ) (μ := μ) d) ?_
  refine am_g 3 9 [some (.ref 14), some (.int 2), some (.int (nI a)), some (.int 1), some (.int (nI b)), some (.int (nI c)), some (.ref 43), none] [.int 1, .ref 14] (hG σ sr ln Lc μ) rfl ?_
  refine am_call (y := 129) (vs := [.ref 14, .int 1]) (rest := []) (v := (some (.ref 41))) (h1 := (hG σ sr ln Lc μ)) rfl rfl rfl (sp_X11_sheetAt_1 (σ := σ) (μ := μ) d) ?_
  refine am_g 6 29 [some (.ref 14), some (.int 2), some (.int (nI a)), some (.int 1), some (.int (nI b)), some (.int (nI c)), some (.ref 43), some (.ref 41)] [.ref 43] (hG σ sr ln Lc μ) rfl ?_
  refine am_call (y := 64) (vs := [.ref 43]) (rest := []) (v := (some (.int 0))) (h1 := (hG σ sr ln Lc μ)) rfl rfl rfl (sp_X8_isMissing_2n (σ := σ) (μ := μ) d h) ?_
  refine am_g 2 37 [some (.ref 14), some (.int 2), some (.int (nI a)), some (.int 1), some (.int (nI b)), some (.int (nI c)), some (.ref 43), some (.ref 41)] [.ref 41] (hG σ sr ln Lc μ) rfl ?_
  refine am_call (y := 64) (vs := [.ref 41]) (rest := []) (v := (some (.int 0))) (h1 := (hG σ sr ln Lc μ)) rfl rfl rfl (sp_X8_isMissing_1n (σ := σ) (μ := μ) d h2) ?_
  refine am_g 6 (if (σ 57 0) = (σ 54 0) then 62 else 59) [some (.ref 14), some (.int 2), some (.int (nI a)), some (.int 1), some (.int (nI b)), some (.int (nI c)), some (.ref 43), some (.ref 41)] [] (hG σ sr ln Lc μ) rfl ?_
  rw [if_pos (show (σ 57 0) = (σ 54 0) from hx)]
  refine am_g 3 67 [some (.ref 14), some (.int 2), some (.int (nI a)), some (.int 1), some (.int (nI b)), some (.int (nI c)), some (.ref 43), some (.ref 41)] [.int (nI c), .int (nI a), .ref 43] (hG σ sr ln Lc μ) rfl ?_
  refine am_call (y := 66) (vs := [.ref 43, .int (nI a), .int (nI c)]) (rest := []) (v := (some (.int 1))) (h1 := (hG σ sr ln Lc μ)) rfl rfl rfl (sp_X8_covers_2 (σ := σ) (μ := μ) d hz (by omega) _ _ hc1) ?_
  refine am_g 4 79 [some (.ref 14), some (.int 2), some (.int (nI a)), some (.int 1), some (.int (nI b)), some (.int (nI c)), some (.ref 43), some (.ref 41)] [.int (nI c), .int (nI b), .ref 41] (hG σ sr ln Lc μ) rfl ?_
  refine am_call (y := 66) (vs := [.ref 41, .int (nI b), .int (nI c)]) (rest := []) (v := (some (.int 1))) (h1 := (hG σ sr ln Lc μ)) rfl rfl rfl (sp_X8_covers_1 (σ := σ) (μ := μ) d hy (by omega) _ _ hc2) ?_
  refine am_g 8 103 [some (.ref 14), some (.int 2), some (.int (nI a)), some (.int 1), some (.int (nI b)), some (.int (nI c)), some (.ref 43), some (.ref 41)] [.int (nI c), .int (nI b), .ref 42, .int (nI a), .ref 44] (hG σ sr ln Lc μ) rfl ?_
  refine am_acpR (f := (σ 56)) (g := (σ 53)) (a := a) (b := b) (c := c) (n0 := 40) (n1 := 40) (h1 := (hG (am_up σ 53 (va_cpy (σ 56) (σ 53) a b c)) sr ln Lc μ)) rfl rfl rfl rfl rfl rfl rfl (by omega) (by omega) (by decide) (by decide) rfl ?_
  refine am_g 1 108 [some (.ref 14), some (.int 2), some (.int (nI a)), some (.int 1), some (.int (nI b)), some (.int (nI c)), some (.ref 43), some (.ref 41)] [.int (nI c)] (hG (am_up σ 53 (va_cpy (σ 56) (σ 53) a b c)) sr ln Lc μ) rfl ?_
  exact am_ret2 rfl rfl rfl rfl rfl
theorem sp_X11_copy_22m (d : Nat) (i j n : Int32) (h : σ 57 0 = -1) : am_X xs LL (d + 2) 119 [.ref 14, .int 2, .int i, .int 2, .int j, .int n] (hG σ sr ln Lc μ) (some (.int (-11))) (hG σ sr ln Lc μ) := by
  refine am_XR (d := d + 1) (C := cd_X11_copy) (L := [some (.ref 14), some (.int 2), some (.int i), some (.int 2), some (.int j), some (.int n), none, none]) rfl rfl rfl rfl ?_
  refine am_g 2 2 [some (.ref 14), some (.int 2), some (.int i), some (.int 2), some (.int j), some (.int n), none, none] [.int 2, .ref 14] (hG σ sr ln Lc μ) rfl ?_
  refine am_call (y := 129) (vs := [.ref 14, .int 2]) (rest := []) (v := (some (.ref 43))) (h1 := (hG σ sr ln Lc μ)) rfl rfl rfl (sp_X11_sheetAt_2 (σ := σ) (μ := μ) d) ?_
  refine am_g 3 9 [some (.ref 14), some (.int 2), some (.int i), some (.int 2), some (.int j), some (.int n), some (.ref 43), none] [.int 2, .ref 14] (hG σ sr ln Lc μ) rfl ?_
  refine am_call (y := 129) (vs := [.ref 14, .int 2]) (rest := []) (v := (some (.ref 43))) (h1 := (hG σ sr ln Lc μ)) rfl rfl rfl (sp_X11_sheetAt_2 (σ := σ) (μ := μ) d) ?_
  refine am_g 6 29 [some (.ref 14), some (.int 2), some (.int i), some (.int 2), some (.int j), some (.int n), some (.ref 43), some (.ref 43)] [.ref 43] (hG σ sr ln Lc μ) rfl ?_
  refine am_call (y := 64) (vs := [.ref 43]) (rest := []) (v := (some (.int 1))) (h1 := (hG σ sr ln Lc μ)) rfl rfl rfl (sp_X8_isMissing_2y (σ := σ) (μ := μ) d h) ?_
  refine am_g 2 45 [some (.ref 14), some (.int 2), some (.int i), some (.int 2), some (.int j), some (.int n), some (.ref 43), some (.ref 43)] [.int (-11)] (hG σ sr ln Lc μ) rfl ?_
  exact am_ret2 rfl rfl rfl rfl rfl
theorem sp_X11_copy_22o (d : Nat) (i j n : Int32) (h : ¬ σ 57 0 = -1) {z : Nat} (hz : σ 58 0 = nI z) (hz40 : z ≤ 40) (hc : (pu_cv z i n && pu_cv z j n) = false) : am_X xs LL (d + 2) 119 [.ref 14, .int 2, .int i, .int 2, .int j, .int n] (hG σ sr ln Lc μ) (some (.int (-12))) (hG σ sr ln Lc μ) := by
  refine am_XR (d := d + 1) (C := cd_X11_copy) (L := [some (.ref 14), some (.int 2), some (.int i), some (.int 2), some (.int j), some (.int n), none, none]) rfl rfl rfl rfl ?_
  refine am_g 2 2 [some (.ref 14), some (.int 2), some (.int i), some (.int 2), some (.int j), some (.int n), none, none] [.int 2, .ref 14] (hG σ sr ln Lc μ) rfl ?_
  refine am_call (y := 129) (vs := [.ref 14, .int 2]) (rest := []) (v := (some (.ref 43))) (h1 := (hG σ sr ln Lc μ)) rfl rfl rfl (sp_X11_sheetAt_2 (σ := σ) (μ := μ) d) ?_
  refine am_g 3 9 [some (.ref 14), some (.int 2), some (.int i), some (.int 2), some (.int j), some (.int n), some (.ref 43), none] [.int 2, .ref 14] (hG σ sr ln Lc μ) rfl ?_
  refine am_call (y := 129) (vs := [.ref 14, .int 2]) (rest := []) (v := (some (.ref 43))) (h1 := (hG σ sr ln Lc μ)) rfl rfl rfl (sp_X11_sheetAt_2 (σ := σ) (μ := μ) d) ?_
  refine am_g 6 29 [some (.ref 14), some (.int 2), some (.int i), some (.int 2), some (.int j), some (.int n), some (.ref 43), some (.ref 43)] [.ref 43] (hG σ sr ln Lc μ) rfl ?_
  refine am_call (y := 64) (vs := [.ref 43]) (rest := []) (v := (some (.int 0))) (h1 := (hG σ sr ln Lc μ)) rfl rfl rfl (sp_X8_isMissing_2n (σ := σ) (μ := μ) d h) ?_
  refine am_g 2 37 [some (.ref 14), some (.int 2), some (.int i), some (.int 2), some (.int j), some (.int n), some (.ref 43), some (.ref 43)] [.ref 43] (hG σ sr ln Lc μ) rfl ?_
  refine am_call (y := 64) (vs := [.ref 43]) (rest := []) (v := (some (.int 0))) (h1 := (hG σ sr ln Lc μ)) rfl rfl rfl (sp_X8_isMissing_2n (σ := σ) (μ := μ) d h) ?_
  refine am_g 6 (if (σ 57 0) = (σ 57 0) then 62 else 59) [some (.ref 14), some (.int 2), some (.int i), some (.int 2), some (.int j), some (.int n), some (.ref 43), some (.ref 43)] [] (hG σ sr ln Lc μ) rfl ?_
  rw [if_pos (show (σ 57 0) = (σ 57 0) from rfl)]
  refine am_g 3 67 [some (.ref 14), some (.int 2), some (.int i), some (.int 2), some (.int j), some (.int n), some (.ref 43), some (.ref 43)] [.int n, .int i, .ref 43] (hG σ sr ln Lc μ) rfl ?_
  cases e1 : pu_cv z i n with
  | false =>
    refine am_call (y := 66) (vs := [.ref 43, .int i, .int n]) (rest := []) (v := (some (.int 0))) (h1 := (hG σ sr ln Lc μ)) rfl rfl rfl (sp_X8_covers_2 (σ := σ) (μ := μ) d hz (by omega) _ _ e1) ?_
    refine am_g 2 87 [some (.ref 14), some (.int 2), some (.int i), some (.int 2), some (.int j), some (.int n), some (.ref 43), some (.ref 43)] [.int (-12)] (hG σ sr ln Lc μ) rfl ?_
    exact am_ret2 rfl rfl rfl rfl rfl
  | true =>
    refine am_call (y := 66) (vs := [.ref 43, .int i, .int n]) (rest := []) (v := (some (.int 1))) (h1 := (hG σ sr ln Lc μ)) rfl rfl rfl (sp_X8_covers_2 (σ := σ) (μ := μ) d hz (by omega) _ _ e1) ?_
    refine am_g 4 79 [some (.ref 14), some (.int 2), some (.int i), some (.int 2), some (.int j), some (.int n), some (.ref 43), some (.ref 43)] [.int n, .int j, .ref 43] (hG σ sr ln Lc μ) rfl ?_
    cases e2 : pu_cv z j n with
    | false =>
      refine am_call (y := 66) (vs := [.ref 43, .int j, .int n]) (rest := []) (v := (some (.int 0))) (h1 := (hG σ sr ln Lc μ)) rfl rfl rfl (sp_X8_covers_2 (σ := σ) (μ := μ) d hz (by omega) _ _ e2) ?_
      refine am_g 2 87 [some (.ref 14), some (.int 2), some (.int i), some (.int 2), some (.int j), some (.int n), some (.ref 43), some (.ref 43)] [.int (-12)] (hG σ sr ln Lc μ) rfl ?_
      exact am_ret2 rfl rfl rfl rfl rfl
    | true =>
      refine am_call (y := 66) (vs := [.ref 43, .int j, .int n]) (rest := []) (v := (some (.int 1))) (h1 := (hG σ sr ln Lc μ)) rfl rfl rfl (sp_X8_covers_2 (σ := σ) (μ := μ) d hz (by omega) _ _ e2) ?_
      refine am_g 1 88 [some (.ref 14), some (.int 2), some (.int i), some (.int 2), some (.int j), some (.int n), some (.ref 43), some (.ref 43)] [] (hG σ sr ln Lc μ) rfl ?_
      rw [e1, e2] at hc
      cases hc
theorem sp_X11_copy_22q (d : Nat) (a b c : Nat) (h : ¬ σ 57 0 = -1) {z : Nat} (hz : σ 58 0 = nI z) (hz40 : z ≤ 40) (hac : a + c ≤ z) (hbc : b + c ≤ z) (hc1 : pu_cv z (nI a) (nI c) = true) (hc2 : pu_cv z (nI b) (nI c) = true) : am_X xs LL (d + 2) 119 [.ref 14, .int 2, .int (nI a), .int 2, .int (nI b), .int (nI c)] (hG σ sr ln Lc μ) (some (.int (nI c))) (hG (am_up σ 56 (va_cpy (σ 56) (σ 56) a b c)) sr ln Lc μ) := by
  refine am_XR (d := d + 1) (C := cd_X11_copy) (L := [some (.ref 14), some (.int 2), some (.int (nI a)), some (.int 2), some (.int (nI b)), some (.int (nI c)), none, none]) rfl rfl rfl rfl ?_
  refine am_g 2 2 [some (.ref 14), some (.int 2), some (.int (nI a)), some (.int 2), some (.int (nI b)), some (.int (nI c)), none, none] [.int 2, .ref 14] (hG σ sr ln Lc μ) rfl ?_
  refine am_call (y := 129) (vs := [.ref 14, .int 2]) (rest := []) (v := (some (.ref 43))) (h1 := (hG σ sr ln Lc μ)) rfl rfl rfl (sp_X11_sheetAt_2 (σ := σ) (μ := μ) d) ?_
  refine am_g 3 9 [some (.ref 14), some (.int 2), some (.int (nI a)), some (.int 2), some (.int (nI b)), some (.int (nI c)), some (.ref 43), none] [.int 2, .ref 14] (hG σ sr ln Lc μ) rfl ?_
  refine am_call (y := 129) (vs := [.ref 14, .int 2]) (rest := []) (v := (some (.ref 43))) (h1 := (hG σ sr ln Lc μ)) rfl rfl rfl (sp_X11_sheetAt_2 (σ := σ) (μ := μ) d) ?_
  refine am_g 6 29 [some (.ref 14), some (.int 2), some (.int (nI a)), some (.int 2), some (.int (nI b)), some (.int (nI c)), some (.ref 43), some (.ref 43)] [.ref 43] (hG σ sr ln Lc μ) rfl ?_
  refine am_call (y := 64) (vs := [.ref 43]) (rest := []) (v := (some (.int 0))) (h1 := (hG σ sr ln Lc μ)) rfl rfl rfl (sp_X8_isMissing_2n (σ := σ) (μ := μ) d h) ?_
  refine am_g 2 37 [some (.ref 14), some (.int 2), some (.int (nI a)), some (.int 2), some (.int (nI b)), some (.int (nI c)), some (.ref 43), some (.ref 43)] [.ref 43] (hG σ sr ln Lc μ) rfl ?_
  refine am_call (y := 64) (vs := [.ref 43]) (rest := []) (v := (some (.int 0))) (h1 := (hG σ sr ln Lc μ)) rfl rfl rfl (sp_X8_isMissing_2n (σ := σ) (μ := μ) d h) ?_
  refine am_g 6 (if (σ 57 0) = (σ 57 0) then 62 else 59) [some (.ref 14), some (.int 2), some (.int (nI a)), some (.int 2), some (.int (nI b)), some (.int (nI c)), some (.ref 43), some (.ref 43)] [] (hG σ sr ln Lc μ) rfl ?_
  rw [if_pos (show (σ 57 0) = (σ 57 0) from rfl)]
  refine am_g 3 67 [some (.ref 14), some (.int 2), some (.int (nI a)), some (.int 2), some (.int (nI b)), some (.int (nI c)), some (.ref 43), some (.ref 43)] [.int (nI c), .int (nI a), .ref 43] (hG σ sr ln Lc μ) rfl ?_
  refine am_call (y := 66) (vs := [.ref 43, .int (nI a), .int (nI c)]) (rest := []) (v := (some (.int 1))) (h1 := (hG σ sr ln Lc μ)) rfl rfl rfl (sp_X8_covers_2 (σ := σ) (μ := μ) d hz (by omega) _ _ hc1) ?_
  refine am_g 4 79 [some (.ref 14), some (.int 2), some (.int (nI a)), some (.int 2), some (.int (nI b)), some (.int (nI c)), some (.ref 43), some (.ref 43)] [.int (nI c), .int (nI b), .ref 43] (hG σ sr ln Lc μ) rfl ?_
  refine am_call (y := 66) (vs := [.ref 43, .int (nI b), .int (nI c)]) (rest := []) (v := (some (.int 1))) (h1 := (hG σ sr ln Lc μ)) rfl rfl rfl (sp_X8_covers_2 (σ := σ) (μ := μ) d hz (by omega) _ _ hc2) ?_
  refine am_g 8 103 [some (.ref 14), some (.int 2), some (.int (nI a)), some (.int 2), some (.int (nI b)), some (.int (nI c)), some (.ref 43), some (.ref 43)] [.int (nI c), .int (nI b), .ref 44, .int (nI a), .ref 44] (hG σ sr ln Lc μ) rfl ?_
  refine am_acpR (f := (σ 56)) (g := (σ 56)) (a := a) (b := b) (c := c) (n0 := 40) (n1 := 40) (h1 := (hG (am_up σ 56 (va_cpy (σ 56) (σ 56) a b c)) sr ln Lc μ)) rfl rfl rfl rfl rfl rfl rfl (by omega) (by omega) (by decide) (by decide) rfl ?_
  refine am_g 1 108 [some (.ref 14), some (.int 2), some (.int (nI a)), some (.int 2), some (.int (nI b)), some (.int (nI c)), some (.ref 43), some (.ref 43)] [.int (nI c)] (hG (am_up σ 56 (va_cpy (σ 56) (σ 56) a b c)) sr ln Lc μ) rfl ?_
  exact am_ret2 rfl rfl rfl rfl rfl
theorem sp_X11_copy_23m (d : Nat) (i j n : Int32) (h : σ 57 0 = -1) : am_X xs LL (d + 2) 119 [.ref 14, .int 2, .int i, .int 3, .int j, .int n] (hG σ sr ln Lc μ) (some (.int (-11))) (hG σ sr ln Lc μ) := by
  refine am_XR (d := d + 1) (C := cd_X11_copy) (L := [some (.ref 14), some (.int 2), some (.int i), some (.int 3), some (.int j), some (.int n), none, none]) rfl rfl rfl rfl ?_
  refine am_g 2 2 [some (.ref 14), some (.int 2), some (.int i), some (.int 3), some (.int j), some (.int n), none, none] [.int 2, .ref 14] (hG σ sr ln Lc μ) rfl ?_
  refine am_call (y := 129) (vs := [.ref 14, .int 2]) (rest := []) (v := (some (.ref 43))) (h1 := (hG σ sr ln Lc μ)) rfl rfl rfl (sp_X11_sheetAt_2 (σ := σ) (μ := μ) d) ?_
  refine am_g 3 9 [some (.ref 14), some (.int 2), some (.int i), some (.int 3), some (.int j), some (.int n), some (.ref 43), none] [.int 3, .ref 14] (hG σ sr ln Lc μ) rfl ?_
  refine am_call (y := 129) (vs := [.ref 14, .int 3]) (rest := []) (v := (some (.ref 45))) (h1 := (hG σ sr ln Lc μ)) rfl rfl rfl (sp_X11_sheetAt_3 (σ := σ) (μ := μ) d) ?_
  refine am_g 6 29 [some (.ref 14), some (.int 2), some (.int i), some (.int 3), some (.int j), some (.int n), some (.ref 43), some (.ref 45)] [.ref 43] (hG σ sr ln Lc μ) rfl ?_
  refine am_call (y := 64) (vs := [.ref 43]) (rest := []) (v := (some (.int 1))) (h1 := (hG σ sr ln Lc μ)) rfl rfl rfl (sp_X8_isMissing_2y (σ := σ) (μ := μ) d h) ?_
  refine am_g 2 45 [some (.ref 14), some (.int 2), some (.int i), some (.int 3), some (.int j), some (.int n), some (.ref 43), some (.ref 45)] [.int (-11)] (hG σ sr ln Lc μ) rfl ?_
  exact am_ret2 rfl rfl rfl rfl rfl
theorem sp_X11_copy_23m2 (d : Nat) (i j n : Int32) (h : ¬ σ 57 0 = -1) (h2 : σ 60 0 = -1) : am_X xs LL (d + 2) 119 [.ref 14, .int 2, .int i, .int 3, .int j, .int n] (hG σ sr ln Lc μ) (some (.int (-11))) (hG σ sr ln Lc μ) := by
  refine am_XR (d := d + 1) (C := cd_X11_copy) (L := [some (.ref 14), some (.int 2), some (.int i), some (.int 3), some (.int j), some (.int n), none, none]) rfl rfl rfl rfl ?_
  refine am_g 2 2 [some (.ref 14), some (.int 2), some (.int i), some (.int 3), some (.int j), some (.int n), none, none] [.int 2, .ref 14] (hG σ sr ln Lc μ) rfl ?_
  refine am_call (y := 129) (vs := [.ref 14, .int 2]) (rest := []) (v := (some (.ref 43))) (h1 := (hG σ sr ln Lc μ)) rfl rfl rfl (sp_X11_sheetAt_2 (σ := σ) (μ := μ) d) ?_
  refine am_g 3 9 [some (.ref 14), some (.int 2), some (.int i), some (.int 3), some (.int j), some (.int n), some (.ref 43), none] [.int 3, .ref 14] (hG σ sr ln Lc μ) rfl ?_
  refine am_call (y := 129) (vs := [.ref 14, .int 3]) (rest := []) (v := (some (.ref 45))) (h1 := (hG σ sr ln Lc μ)) rfl rfl rfl (sp_X11_sheetAt_3 (σ := σ) (μ := μ) d) ?_
  refine am_g 6 29 [some (.ref 14), some (.int 2), some (.int i), some (.int 3), some (.int j), some (.int n), some (.ref 43), some (.ref 45)] [.ref 43] (hG σ sr ln Lc μ) rfl ?_
  refine am_call (y := 64) (vs := [.ref 43]) (rest := []) (v := (some (.int 0))) (h1 := (hG σ sr ln Lc μ)) rfl rfl rfl (sp_X8_isMissing_2n (σ := σ) (μ := μ) d h) ?_
  refine am_g 2 37 [some (.ref 14), some (.int 2), some (.int i), some (.int 3), some (.int j), some (.int n), some (.ref 43), some (.ref 45)] [.ref 45] (hG σ sr ln Lc μ) rfl ?_
  refine am_call (y := 64) (vs := [.ref 45]) (rest := []) (v := (some (.int 1))) (h1 := (hG σ sr ln Lc μ)) rfl rfl rfl (sp_X8_isMissing_3y (σ := σ) (μ := μ) d h2) ?_
  refine am_g 2 45 [some (.ref 14), some (.int 2), some (.int i), some (.int 3), some (.int j), some (.int n), some (.ref 43), some (.ref 45)] [.int (-11)] (hG σ sr ln Lc μ) rfl ?_
  exact am_ret2 rfl rfl rfl rfl rfl
theorem sp_X11_copy_23x (d : Nat) (i j n : Int32) (h : ¬ σ 57 0 = -1) (h2 : ¬ σ 60 0 = -1) (hx : ¬ σ 57 0 = σ 60 0) : am_X xs LL (d + 2) 119 [.ref 14, .int 2, .int i, .int 3, .int j, .int n] (hG σ sr ln Lc μ) (some (.int (-13))) (hG σ sr ln Lc μ) := by
  refine am_XR (d := d + 1) (C := cd_X11_copy) (L := [some (.ref 14), some (.int 2), some (.int i), some (.int 3), some (.int j), some (.int n), none, none]) rfl rfl rfl rfl ?_
  refine am_g 2 2 [some (.ref 14), some (.int 2), some (.int i), some (.int 3), some (.int j), some (.int n), none, none] [.int 2, .ref 14] (hG σ sr ln Lc μ) rfl ?_
  refine am_call (y := 129) (vs := [.ref 14, .int 2]) (rest := []) (v := (some (.ref 43))) (h1 := (hG σ sr ln Lc μ)) rfl rfl rfl (sp_X11_sheetAt_2 (σ := σ) (μ := μ) d) ?_
  refine am_g 3 9 [some (.ref 14), some (.int 2), some (.int i), some (.int 3), some (.int j), some (.int n), some (.ref 43), none] [.int 3, .ref 14] (hG σ sr ln Lc μ) rfl ?_
  refine am_call (y := 129) (vs := [.ref 14, .int 3]) (rest := []) (v := (some (.ref 45))) (h1 := (hG σ sr ln Lc μ)) rfl rfl rfl (sp_X11_sheetAt_3 (σ := σ) (μ := μ) d) ?_
  refine am_g 6 29 [some (.ref 14), some (.int 2), some (.int i), some (.int 3), some (.int j), some (.int n), some (.ref 43), some (.ref 45)] [.ref 43] (hG σ sr ln Lc μ) rfl ?_
  refine am_call (y := 64) (vs := [.ref 43]) (rest := []) (v := (some (.int 0))) (h1 := (hG σ sr ln Lc μ)) rfl rfl rfl (sp_X8_isMissing_2n (σ := σ) (μ := μ) d h) ?_
  refine am_g 2 37 [some (.ref 14), some (.int 2), some (.int i), some (.int 3), some (.int j), some (.int n), some (.ref 43), some (.ref 45)] [.ref 45] (hG σ sr ln Lc μ) rfl ?_
  refine am_call (y := 64) (vs := [.ref 45]) (rest := []) (v := (some (.int 0))) (h1 := (hG σ sr ln Lc μ)) rfl rfl rfl (sp_X8_isMissing_3n (σ := σ) (μ := μ) d h2) ?_
  refine am_g 6 (if (σ 57 0) = (σ 60 0) then 62 else 59) [some (.ref 14), some (.int 2), some (.int i), some (.int 3), some (.int j), some (.int n), some (.ref 43), some (.ref 45)] [] (hG σ sr ln Lc μ) rfl ?_
  rw [if_neg (show ¬ (σ 57 0) = (σ 60 0) from hx)]
  refine am_g 1 61 [some (.ref 14), some (.int 2), some (.int i), some (.int 3), some (.int j), some (.int n), some (.ref 43), some (.ref 45)] [.int (-13)] (hG σ sr ln Lc μ) rfl ?_
  exact am_ret2 rfl rfl rfl rfl rfl
theorem sp_X11_copy_23o (d : Nat) (i j n : Int32) (h : ¬ σ 57 0 = -1) (h2 : ¬ σ 60 0 = -1) (hx : σ 57 0 = σ 60 0) {z : Nat} (hz : σ 58 0 = nI z) (hz40 : z ≤ 40) {y : Nat} (hy : σ 61 0 = nI y) (hy40 : y ≤ 40) (hc : (pu_cv z i n && pu_cv y j n) = false) : am_X xs LL (d + 2) 119 [.ref 14, .int 2, .int i, .int 3, .int j, .int n] (hG σ sr ln Lc μ) (some (.int (-12))) (hG σ sr ln Lc μ) := by
  refine am_XR (d := d + 1) (C := cd_X11_copy) (L := [some (.ref 14), some (.int 2), some (.int i), some (.int 3), some (.int j), some (.int n), none, none]) rfl rfl rfl rfl ?_
  refine am_g 2 2 [some (.ref 14), some (.int 2), some (.int i), some (.int 3), some (.int j), some (.int n), none, none] [.int 2, .ref 14] (hG σ sr ln Lc μ) rfl ?_
  refine am_call (y := 129) (vs := [.ref 14, .int 2]) (rest := []) (v := (some (.ref 43))) (h1 := (hG σ sr ln Lc μ)) rfl rfl rfl (sp_X11_sheetAt_2 (σ := σ) (μ := μ) d) ?_
  refine am_g 3 9 [some (.ref 14), some (.int 2), some (.int i), some (.int 3), some (.int j), some (.int n), some (.ref 43), none] [.int 3, .ref 14] (hG σ sr ln Lc μ) rfl ?_
  refine am_call (y := 129) (vs := [.ref 14, .int 3]) (rest := []) (v := (some (.ref 45))) (h1 := (hG σ sr ln Lc μ)) rfl rfl rfl (sp_X11_sheetAt_3 (σ := σ) (μ := μ) d) ?_
  refine am_g 6 29 [some (.ref 14), some (.int 2), some (.int i), some (.int 3), some (.int j), some (.int n), some (.ref 43), some (.ref 45)] [.ref 43] (hG σ sr ln Lc μ) rfl ?_
  refine am_call (y := 64) (vs := [.ref 43]) (rest := []) (v := (some (.int 0))) (h1 := (hG σ sr ln Lc μ)) rfl rfl rfl (sp_X8_isMissing_2n (σ := σ) (μ := μ) d h) ?_
  refine am_g 2 37 [some (.ref 14), some (.int 2), some (.int i), some (.int 3), some (.int j), some (.int n), some (.ref 43), some (.ref 45)] [.ref 45] (hG σ sr ln Lc μ) rfl ?_
  refine am_call (y := 64) (vs := [.ref 45]) (rest := []) (v := (some (.int 0))) (h1 := (hG σ sr ln Lc μ)) rfl rfl rfl (sp_X8_isMissing_3n (σ := σ) (μ := μ) d h2) ?_
  refine am_g 6 (if (σ 57 0) = (σ 60 0) then 62 else 59) [some (.ref 14), some (.int 2), some (.int i), some (.int 3), some (.int j), some (.int n), some (.ref 43), some (.ref 45)] [] (hG σ sr ln Lc μ) rfl ?_
  rw [if_pos (show (σ 57 0) = (σ 60 0) from hx)]
  refine am_g 3 67 [some (.ref 14), some (.int 2), some (.int i), some (.int 3), some (.int j), some (.int n), some (.ref 43), some (.ref 45)] [.int n, .int i, .ref 43] (hG σ sr ln Lc μ) rfl ?_
  cases e1 : pu_cv z i n with
  | false =>
    refine am_call (y := 66) (vs := [.ref 43, .int i, .int n]) (rest := []) (v := (some (.int 0))) (h1 := (hG σ sr ln Lc μ)) rfl rfl rfl (sp_X8_covers_2 (σ := σ) (μ := μ) d hz (by omega) _ _ e1) ?_
    refine am_g 2 87 [some (.ref 14), some (.int 2), some (.int i), some (.int 3), some (.int j), some (.int n), some (.ref 43), some (.ref 45)] [.int (-12)] (hG σ sr ln Lc μ) rfl ?_
    exact am_ret2 rfl rfl rfl rfl rfl
  | true =>
    refine am_call (y := 66) (vs := [.ref 43, .int i, .int n]) (rest := []) (v := (some (.int 1))) (h1 := (hG σ sr ln Lc μ)) rfl rfl rfl (sp_X8_covers_2 (σ := σ) (μ := μ) d hz (by omega) _ _ e1) ?_
    refine am_g 4 79 [some (.ref 14), some (.int 2), some (.int i), some (.int 3), some (.int j), some (.int n), some (.ref 43), some (.ref 45)] [.int n, .int j, .ref 45] (hG σ sr ln Lc μ) rfl ?_
    cases e2 : pu_cv y j n with
    | false =>
      refine am_call (y := 66) (vs := [.ref 45, .int j, .int n]) (rest := []) (v := (some (.int 0))) (h1 := (hG σ sr ln Lc μ)) rfl rfl rfl (sp_X8_covers_3 (σ := σ) (μ := μ) d hy (by omega) _ _ e2) ?_
      refine am_g 2 87 [some (.ref 14), some (.int 2), some (.int i), some (.int 3), some (.int j), some (.int n), some (.ref 43), some (.ref 45)] [.int (-12)] (hG σ sr ln Lc μ) rfl ?_
      exact am_ret2 rfl rfl rfl rfl rfl
    | true =>
      refine am_call (y := 66) (vs := [.ref 45, .int j, .int n]) (rest := []) (v := (some (.int 1))) (h1 := (hG σ sr ln Lc μ)) rfl rfl rfl (sp_X8_covers_3 (σ := σ) (μ := μ) d hy (by omega) _ _ e2) ?_
      refine am_g 1 88 [some (.ref 14), some (.int 2), some (.int i), some (.int 3), some (.int j), some (.int n), some (.ref 43), some (.ref 45)] [] (hG σ sr ln Lc μ) rfl ?_
      rw [e1, e2] at hc
      cases hc
theorem sp_X11_copy_23q (d : Nat) (a b c : Nat) (h : ¬ σ 57 0 = -1) (h2 : ¬ σ 60 0 = -1) (hx : σ 57 0 = σ 60 0) {z : Nat} (hz : σ 58 0 = nI z) (hz40 : z ≤ 40) {y : Nat} (hy : σ 61 0 = nI y) (hy40 : y ≤ 40) (hac : a + c ≤ z) (hbc : b + c ≤ y) (hc1 : pu_cv z (nI a) (nI c) = true) (hc2 : pu_cv y (nI b) (nI c) = true) : am_X xs LL (d + 2) 119 [.ref 14, .int 2, .int (nI a), .int 3, .int (nI b), .int (nI c)] (hG σ sr ln Lc μ) (some (.int (nI c))) (hG (am_up σ 59 (va_cpy (σ 56) (σ 59) a b c)) sr ln Lc μ) := by
  refine am_XR (d := d + 1) (C := cd_X11_copy) (L := [some (.ref 14), some (.int 2), some (.int (nI a)), some (.int 3), some (.int (nI b)), some (.int (nI c)), none, none]) rfl rfl rfl rfl ?_
  refine am_g 2 2 [some (.ref 14), some (.int 2), some (.int (nI a)), some (.int 3), some (.int (nI b)), some (.int (nI c)), none, none] [.int 2, .ref 14] (hG σ sr ln Lc μ) rfl ?_
  refine am_call (y := 129) (vs := [.ref 14, .int 2]) (rest := []) (v := (some (.ref 43))) (h1 := (hG σ sr ln Lc μ)) rfl rfl rfl (sp_X11_sheetAt_2 (σ := σ) (μ := μ) d) ?_
  refine am_g 3 9 [some (.ref 14), some (.int 2), some (.int (nI a)), some (.int 3), some (.int (nI b)), some (.int (nI c)), some (.ref 43), none] [.int 3, .ref 14] (hG σ sr ln Lc μ) rfl ?_
  refine am_call (y := 129) (vs := [.ref 14, .int 3]) (rest := []) (v := (some (.ref 45))) (h1 := (hG σ sr ln Lc μ)) rfl rfl rfl (sp_X11_sheetAt_3 (σ := σ) (μ := μ) d) ?_
  refine am_g 6 29 [some (.ref 14), some (.int 2), some (.int (nI a)), some (.int 3), some (.int (nI b)), some (.int (nI c)), some (.ref 43), some (.ref 45)] [.ref 43] (hG σ sr ln Lc μ) rfl ?_
  refine am_call (y := 64) (vs := [.ref 43]) (rest := []) (v := (some (.int 0))) (h1 := (hG σ sr ln Lc μ)) rfl rfl rfl (sp_X8_isMissing_2n (σ := σ) (μ := μ) d h) ?_
  refine am_g 2 37 [some (.ref 14), some (.int 2), some (.int (nI a)), some (.int 3), some (.int (nI b)), some (.int (nI c)), some (.ref 43), some (.ref 45)] [.ref 45] (hG σ sr ln Lc μ) rfl ?_
  refine am_call (y := 64) (vs := [.ref 45]) (rest := []) (v := (some (.int 0))) (h1 := (hG σ sr ln Lc μ)) rfl rfl rfl (sp_X8_isMissing_3n (σ := σ) (μ := μ) d h2) ?_
  refine am_g 6 (if (σ 57 0) = (σ 60 0) then 62 else 59) [some (.ref 14), some (.int 2), some (.int (nI a)), some (.int 3), some (.int (nI b)), some (.int (nI c)), some (.ref 43), some (.ref 45)] [] (hG σ sr ln Lc μ) rfl ?_
  rw [if_pos (show (σ 57 0) = (σ 60 0) from hx)]
  refine am_g 3 67 [some (.ref 14), some (.int 2), some (.int (nI a)), some (.int 3), some (.int (nI b)), some (.int (nI c)), some (.ref 43), some (.ref 45)] [.int (nI c), .int (nI a), .ref 43] (hG σ sr ln Lc μ) rfl ?_
  refine am_call (y := 66) (vs := [.ref 43, .int (nI a), .int (nI c)]) (rest := []) (v := (some (.int 1))) (h1 := (hG σ sr ln Lc μ)) rfl rfl rfl (sp_X8_covers_2 (σ := σ) (μ := μ) d hz (by omega) _ _ hc1) ?_
  refine am_g 4 79 [some (.ref 14), some (.int 2), some (.int (nI a)), some (.int 3), some (.int (nI b)), some (.int (nI c)), some (.ref 43), some (.ref 45)] [.int (nI c), .int (nI b), .ref 45] (hG σ sr ln Lc μ) rfl ?_
  refine am_call (y := 66) (vs := [.ref 45, .int (nI b), .int (nI c)]) (rest := []) (v := (some (.int 1))) (h1 := (hG σ sr ln Lc μ)) rfl rfl rfl (sp_X8_covers_3 (σ := σ) (μ := μ) d hy (by omega) _ _ hc2) ?_
  refine am_g 8 103 [some (.ref 14), some (.int 2), some (.int (nI a)), some (.int 3), some (.int (nI b)), some (.int (nI c)), some (.ref 43), some (.ref 45)] [.int (nI c), .int (nI b), .ref 46, .int (nI a), .ref 44] (hG σ sr ln Lc μ) rfl ?_
  refine am_acpR (f := (σ 56)) (g := (σ 59)) (a := a) (b := b) (c := c) (n0 := 40) (n1 := 40) (h1 := (hG (am_up σ 59 (va_cpy (σ 56) (σ 59) a b c)) sr ln Lc μ)) rfl rfl rfl rfl rfl rfl rfl (by omega) (by omega) (by decide) (by decide) rfl ?_
  refine am_g 1 108 [some (.ref 14), some (.int 2), some (.int (nI a)), some (.int 3), some (.int (nI b)), some (.int (nI c)), some (.ref 43), some (.ref 45)] [.int (nI c)] (hG (am_up σ 59 (va_cpy (σ 56) (σ 59) a b c)) sr ln Lc μ) rfl ?_
  exact am_ret2 rfl rfl rfl rfl rfl
theorem sp_X11_copy_3b (d : Nat) (i t j n : Int32) (ht : am_in t 4 = false) : am_X xs LL (d + 2) 119 [.ref 14, .int 3, .int i, .int t, .int j, .int n] (hG σ sr ln Lc μ) (some (.int (-2))) (hG σ sr ln Lc μ) := by
  refine am_XR (d := d + 1) (C := cd_X11_copy) (L := [some (.ref 14), some (.int 3), some (.int i), some (.int t), some (.int j), some (.int n), none, none]) rfl rfl rfl rfl ?_
  refine am_g 2 2 [some (.ref 14), some (.int 3), some (.int i), some (.int t), some (.int j), some (.int n), none, none] [.int 3, .ref 14] (hG σ sr ln Lc μ) rfl ?_
  refine am_call (y := 129) (vs := [.ref 14, .int 3]) (rest := []) (v := (some (.ref 45))) (h1 := (hG σ sr ln Lc μ)) rfl rfl rfl (sp_X11_sheetAt_3 (σ := σ) (μ := μ) d) ?_
  refine am_g 3 9 [some (.ref 14), some (.int 3), some (.int i), some (.int t), some (.int j), some (.int n), some (.ref 45), none] [.int t, .ref 14] (hG σ sr ln Lc μ) rfl ?_
  refine am_call (y := 129) (vs := [.ref 14, .int t]) (rest := []) (v := (some (.null))) (h1 := (hG σ sr ln Lc μ)) rfl rfl rfl (sp_X11_sheetAt_no (σ := σ) (μ := μ) d _ ht) ?_
  refine am_g 6 26 [some (.ref 14), some (.int 3), some (.int i), some (.int t), some (.int j), some (.int n), some (.ref 45), some (.null)] [.int (-2)] (hG σ sr ln Lc μ) rfl ?_
  exact am_ret2 rfl rfl rfl rfl rfl
theorem sp_X11_copy_b3 (d : Nat) (t i j n : Int32) (ht : am_in t 4 = false) : am_X xs LL (d + 2) 119 [.ref 14, .int t, .int i, .int 3, .int j, .int n] (hG σ sr ln Lc μ) (some (.int (-2))) (hG σ sr ln Lc μ) := by
  refine am_XR (d := d + 1) (C := cd_X11_copy) (L := [some (.ref 14), some (.int t), some (.int i), some (.int 3), some (.int j), some (.int n), none, none]) rfl rfl rfl rfl ?_
  refine am_g 2 2 [some (.ref 14), some (.int t), some (.int i), some (.int 3), some (.int j), some (.int n), none, none] [.int t, .ref 14] (hG σ sr ln Lc μ) rfl ?_
  refine am_call (y := 129) (vs := [.ref 14, .int t]) (rest := []) (v := (some (.null))) (h1 := (hG σ sr ln Lc μ)) rfl rfl rfl (sp_X11_sheetAt_no (σ := σ) (μ := μ) d _ ht) ?_
  refine am_g 3 9 [some (.ref 14), some (.int t), some (.int i), some (.int 3), some (.int j), some (.int n), some (.null), none] [.int 3, .ref 14] (hG σ sr ln Lc μ) rfl ?_
  refine am_call (y := 129) (vs := [.ref 14, .int 3]) (rest := []) (v := (some (.ref 45))) (h1 := (hG σ sr ln Lc μ)) rfl rfl rfl (sp_X11_sheetAt_3 (σ := σ) (μ := μ) d) ?_
  refine am_g 4 26 [some (.ref 14), some (.int t), some (.int i), some (.int 3), some (.int j), some (.int n), some (.null), some (.ref 45)] [.int (-2)] (hG σ sr ln Lc μ) rfl ?_
  exact am_ret2 rfl rfl rfl rfl rfl
theorem sp_X11_copy_30m (d : Nat) (i j n : Int32) (h : σ 60 0 = -1) : am_X xs LL (d + 2) 119 [.ref 14, .int 3, .int i, .int 0, .int j, .int n] (hG σ sr ln Lc μ) (some (.int (-11))) (hG σ sr ln Lc μ) := by
  refine am_XR (d := d + 1) (C := cd_X11_copy) (L := [some (.ref 14), some (.int 3), some (.int i), some (.int 0), some (.int j), some (.int n), none, none]) rfl rfl rfl rfl ?_
  refine am_g 2 2 [some (.ref 14), some (.int 3), some (.int i), some (.int 0), some (.int j), some (.int n), none, none] [.int 3, .ref 14] (hG σ sr ln Lc μ) rfl ?_
  refine am_call (y := 129) (vs := [.ref 14, .int 3]) (rest := []) (v := (some (.ref 45))) (h1 := (hG σ sr ln Lc μ)) rfl rfl rfl (sp_X11_sheetAt_3 (σ := σ) (μ := μ) d) ?_
  refine am_g 3 9 [some (.ref 14), some (.int 3), some (.int i), some (.int 0), some (.int j), some (.int n), some (.ref 45), none] [.int 0, .ref 14] (hG σ sr ln Lc μ) rfl ?_
  refine am_call (y := 129) (vs := [.ref 14, .int 0]) (rest := []) (v := (some (.ref 39))) (h1 := (hG σ sr ln Lc μ)) rfl rfl rfl (sp_X11_sheetAt_0 (σ := σ) (μ := μ) d) ?_
  refine am_g 6 29 [some (.ref 14), some (.int 3), some (.int i), some (.int 0), some (.int j), some (.int n), some (.ref 45), some (.ref 39)] [.ref 45] (hG σ sr ln Lc μ) rfl ?_
  refine am_call (y := 64) (vs := [.ref 45]) (rest := []) (v := (some (.int 1))) (h1 := (hG σ sr ln Lc μ)) rfl rfl rfl (sp_X8_isMissing_3y (σ := σ) (μ := μ) d h) ?_
  refine am_g 2 45 [some (.ref 14), some (.int 3), some (.int i), some (.int 0), some (.int j), some (.int n), some (.ref 45), some (.ref 39)] [.int (-11)] (hG σ sr ln Lc μ) rfl ?_
  exact am_ret2 rfl rfl rfl rfl rfl
theorem sp_X11_copy_30m2 (d : Nat) (i j n : Int32) (h : ¬ σ 60 0 = -1) (h2 : σ 51 0 = -1) : am_X xs LL (d + 2) 119 [.ref 14, .int 3, .int i, .int 0, .int j, .int n] (hG σ sr ln Lc μ) (some (.int (-11))) (hG σ sr ln Lc μ) := by
  refine am_XR (d := d + 1) (C := cd_X11_copy) (L := [some (.ref 14), some (.int 3), some (.int i), some (.int 0), some (.int j), some (.int n), none, none]) rfl rfl rfl rfl ?_
  refine am_g 2 2 [some (.ref 14), some (.int 3), some (.int i), some (.int 0), some (.int j), some (.int n), none, none] [.int 3, .ref 14] (hG σ sr ln Lc μ) rfl ?_
  refine am_call (y := 129) (vs := [.ref 14, .int 3]) (rest := []) (v := (some (.ref 45))) (h1 := (hG σ sr ln Lc μ)) rfl rfl rfl (sp_X11_sheetAt_3 (σ := σ) (μ := μ) d) ?_
  refine am_g 3 9 [some (.ref 14), some (.int 3), some (.int i), some (.int 0), some (.int j), some (.int n), some (.ref 45), none] [.int 0, .ref 14] (hG σ sr ln Lc μ) rfl ?_
  refine am_call (y := 129) (vs := [.ref 14, .int 0]) (rest := []) (v := (some (.ref 39))) (h1 := (hG σ sr ln Lc μ)) rfl rfl rfl (sp_X11_sheetAt_0 (σ := σ) (μ := μ) d) ?_
  refine am_g 6 29 [some (.ref 14), some (.int 3), some (.int i), some (.int 0), some (.int j), some (.int n), some (.ref 45), some (.ref 39)] [.ref 45] (hG σ sr ln Lc μ) rfl ?_
  refine am_call (y := 64) (vs := [.ref 45]) (rest := []) (v := (some (.int 0))) (h1 := (hG σ sr ln Lc μ)) rfl rfl rfl (sp_X8_isMissing_3n (σ := σ) (μ := μ) d h) ?_
  refine am_g 2 37 [some (.ref 14), some (.int 3), some (.int i), some (.int 0), some (.int j), some (.int n), some (.ref 45), some (.ref 39)] [.ref 39] (hG σ sr ln Lc μ) rfl ?_
  refine am_call (y := 64) (vs := [.ref 39]) (rest := []) (v := (some (.int 1))) (h1 := (hG σ sr ln Lc μ)) rfl rfl rfl (sp_X8_isMissing_0y (σ := σ) (μ := μ) d h2) ?_
  refine am_g 2 45 [some (.ref 14), some (.int 3), some (.int i), some (.int 0), some (.int j), some (.int n), some (.ref 45), some (.ref 39)] [.int (-11)] (hG σ sr ln Lc μ) rfl ?_
  exact am_ret2 rfl rfl rfl rfl rfl
theorem sp_X11_copy_30x (d : Nat) (i j n : Int32) (h : ¬ σ 60 0 = -1) (h2 : ¬ σ 51 0 = -1) (hx : ¬ σ 60 0 = σ 51 0) : am_X xs LL (d + 2) 119 [.ref 14, .int 3, .int i, .int 0, .int j, .int n] (hG σ sr ln Lc μ) (some (.int (-13))) (hG σ sr ln Lc μ) := by
  refine am_XR (d := d + 1) (C := cd_X11_copy) (L := [some (.ref 14), some (.int 3), some (.int i), some (.int 0), some (.int j), some (.int n), none, none]) rfl rfl rfl rfl ?_
  refine am_g 2 2 [some (.ref 14), some (.int 3), some (.int i), some (.int 0), some (.int j), some (.int n), none, none] [.int 3, .ref 14] (hG σ sr ln Lc μ) rfl ?_
  refine am_call (y := 129) (vs := [.ref 14, .int 3]) (rest := []) (v := (some (.ref 45))) (h1 := (hG σ sr ln Lc μ)) rfl rfl rfl (sp_X11_sheetAt_3 (σ := σ) (μ := μ) d) ?_
  refine am_g 3 9 [some (.ref 14), some (.int 3), some (.int i), some (.int 0), some (.int j), some (.int n), some (.ref 45), none] [.int 0, .ref 14] (hG σ sr ln Lc μ) rfl ?_
  refine am_call (y := 129) (vs := [.ref 14, .int 0]) (rest := []) (v := (some (.ref 39))) (h1 := (hG σ sr ln Lc μ)) rfl rfl rfl (sp_X11_sheetAt_0 (σ := σ) (μ := μ) d) ?_
  refine am_g 6 29 [some (.ref 14), some (.int 3), some (.int i), some (.int 0), some (.int j), some (.int n), some (.ref 45), some (.ref 39)] [.ref 45] (hG σ sr ln Lc μ) rfl ?_
  refine am_call (y := 64) (vs := [.ref 45]) (rest := []) (v := (some (.int 0))) (h1 := (hG σ sr ln Lc μ)) rfl rfl rfl (sp_X8_isMissing_3n (σ := σ) (μ := μ) d h) ?_
  refine am_g 2 37 [some (.ref 14), some (.int 3), some (.int i), some (.int 0), some (.int j), some (.int n), some (.ref 45), some (.ref 39)] [.ref 39] (hG σ sr ln Lc μ) rfl ?_
  refine am_call (y := 64) (vs := [.ref 39]) (rest := []) (v := (some (.int 0))) (h1 := (hG σ sr ln Lc μ)) rfl rfl rfl (sp_X8_isMissing_0n (σ := σ) (μ := μ) d h2) ?_
  refine am_g 6 (if (σ 60 0) = (σ 51 0) then 62 else 59) [some (.ref 14), some (.int 3), some (.int i), some (.int 0), some (.int j), some (.int n), some (.ref 45), some (.ref 39)] [] (hG σ sr ln Lc μ) rfl ?_
  rw [if_neg (show ¬ (σ 60 0) = (σ 51 0) from hx)]
  refine am_g 1 61 [some (.ref 14), some (.int 3), some (.int i), some (.int 0), some (.int j), some (.int n), some (.ref 45), some (.ref 39)] [.int (-13)] (hG σ sr ln Lc μ) rfl ?_
  exact am_ret2 rfl rfl rfl rfl rfl
theorem sp_X11_copy_30o (d : Nat) (i j n : Int32) (h : ¬ σ 60 0 = -1) (h2 : ¬ σ 51 0 = -1) (hx : σ 60 0 = σ 51 0) {z : Nat} (hz : σ 61 0 = nI z) (hz40 : z ≤ 40) {y : Nat} (hy : σ 52 0 = nI y) (hy40 : y ≤ 40) (hc : (pu_cv z i n && pu_cv y j n) = false) : am_X xs LL (d + 2) 119 [.ref 14, .int 3, .int i, .int 0, .int j, .int n] (hG σ sr ln Lc μ) (some (.int (-12))) (hG σ sr ln Lc μ) := by
  refine am_XR (d := d + 1) (C := cd_X11_copy) (L := [some (.ref 14), some (.int 3), some (.int i), some (.int 0), some (.int j), some (.int n), none, none]) rfl rfl rfl rfl ?_
  refine am_g 2 2 [some (.ref 14), some (.int 3), some (.int i), some (.int 0), some (.int j), some (.int n), none, none] [.int 3, .ref 14] (hG σ sr ln Lc μ) rfl ?_
  refine am_call (y := 129) (vs := [.ref 14, .int 3]) (rest := []) (v := (some (.ref 45))) (h1 := (hG σ sr ln Lc μ)) rfl rfl rfl (sp_X11_sheetAt_3 (σ := σ) (μ := μ) d) ?_
  refine am_g 3 9 [some (.ref 14), some (.int 3), some (.int i), some (.int 0), some (.int j), some (.int n), some (.ref 45), none] [.int 0, .ref 14] (hG σ sr ln Lc μ) rfl ?_
  refine am_call (y := 129) (vs := [.ref 14, .int 0]) (rest := []) (v := (some (.ref 39))) (h1 := (hG σ sr ln Lc μ)) rfl rfl rfl (sp_X11_sheetAt_0 (σ := σ) (μ := μ) d) ?_
  refine am_g 6 29 [some (.ref 14), some (.int 3), some (.int i), some (.int 0), some (.int j), some (.int n), some (.ref 45), some (.ref 39)] [.ref 45] (hG σ sr ln Lc μ) rfl ?_
  refine am_call (y := 64) (vs := [.ref 45]) (rest := []) (v := (some (.int 0))) (h1 := (hG σ sr ln Lc μ)) rfl rfl rfl (sp_X8_isMissing_3n (σ := σ) (μ := μ) d h) ?_
  refine am_g 2 37 [some (.ref 14), some (.int 3), some (.int i), some (.int 0), some (.int j), some (.int n), some (.ref 45), some (.ref 39)] [.ref 39] (hG σ sr ln Lc μ) rfl ?_
  refine am_call (y := 64) (vs := [.ref 39]) (rest := []) (v := (some (.int 0))) (h1 := (hG σ sr ln Lc μ)) rfl rfl rfl (sp_X8_isMissing_0n (σ := σ) (μ := μ) d h2) ?_
  refine am_g 6 (if (σ 60 0) = (σ 51 0) then 62 else 59) [some (.ref 14), some (.int 3), some (.int i), some (.int 0), some (.int j), some (.int n), some (.ref 45), some (.ref 39)] [] (hG σ sr ln Lc μ) rfl ?_
  rw [if_pos (show (σ 60 0) = (σ 51 0) from hx)]
  refine am_g 3 67 [some (.ref 14), some (.int 3), some (.int i), some (.int 0), some (.int j), some (.int n), some (.ref 45), some (.ref 39)] [.int n, .int i, .ref 45] (hG σ sr ln Lc μ) rfl ?_
  cases e1 : pu_cv z i n with
  | false =>
    refine am_call (y := 66) (vs := [.ref 45, .int i, .int n]) (rest := []) (v := (some (.int 0))) (h1 := (hG σ sr ln Lc μ)) rfl rfl rfl (sp_X8_covers_3 (σ := σ) (μ := μ) d hz (by omega) _ _ e1) ?_
    refine am_g 2 87 [some (.ref 14), some (.int 3), some (.int i), some (.int 0), some (.int j), some (.int n), some (.ref 45), some (.ref 39)] [.int (-12)] (hG σ sr ln Lc μ) rfl ?_
    exact am_ret2 rfl rfl rfl rfl rfl
  | true =>
    refine am_call (y := 66) (vs := [.ref 45, .int i, .int n]) (rest := []) (v := (some (.int 1))) (h1 := (hG σ sr ln Lc μ)) rfl rfl rfl (sp_X8_covers_3 (σ := σ) (μ := μ) d hz (by omega) _ _ e1) ?_
    refine am_g 4 79 [some (.ref 14), some (.int 3), some (.int i), some (.int 0), some (.int j), some (.int n), some (.ref 45), some (.ref 39)] [.int n, .int j, .ref 39] (hG σ sr ln Lc μ) rfl ?_
    cases e2 : pu_cv y j n with
    | false =>
      refine am_call (y := 66) (vs := [.ref 39, .int j, .int n]) (rest := []) (v := (some (.int 0))) (h1 := (hG σ sr ln Lc μ)) rfl rfl rfl (sp_X8_covers_0 (σ := σ) (μ := μ) d hy (by omega) _ _ e2) ?_
      refine am_g 2 87 [some (.ref 14), some (.int 3), some (.int i), some (.int 0), some (.int j), some (.int n), some (.ref 45), some (.ref 39)] [.int (-12)] (hG σ sr ln Lc μ) rfl ?_
      exact am_ret2 rfl rfl rfl rfl rfl
    | true =>
      refine am_call (y := 66) (vs := [.ref 39, .int j, .int n]) (rest := []) (v := (some (.int 1))) (h1 := (hG σ sr ln Lc μ)) rfl rfl rfl (sp_X8_covers_0 (σ := σ) (μ := μ) d hy (by omega) _ _ e2) ?_
      refine am_g 1 88 [some (.ref 14), some (.int 3), some (.int i), some (.int 0), some (.int j), some (.int n), some (.ref 45), some (.ref 39)] [] (hG σ sr ln Lc μ) rfl ?_
      rw [e1, e2] at hc
      cases hc
theorem sp_X11_copy_30q (d : Nat) (a b c : Nat) (h : ¬ σ 60 0 = -1) (h2 : ¬ σ 51 0 = -1) (hx : σ 60 0 = σ 51 0) {z : Nat} (hz : σ 61 0 = nI z) (hz40 : z ≤ 40) {y : Nat} (hy : σ 52 0 = nI y) (hy40 : y ≤ 40) (hac : a + c ≤ z) (hbc : b + c ≤ y) (hc1 : pu_cv z (nI a) (nI c) = true) (hc2 : pu_cv y (nI b) (nI c) = true) : am_X xs LL (d + 2) 119 [.ref 14, .int 3, .int (nI a), .int 0, .int (nI b), .int (nI c)] (hG σ sr ln Lc μ) (some (.int (nI c))) (hG (am_up σ 50 (va_cpy (σ 59) (σ 50) a b c)) sr ln Lc μ) := by
  refine am_XR (d := d + 1) (C := cd_X11_copy) (L := [some (.ref 14), some (.int 3), some (.int (nI a)), some (.int 0), some (.int (nI b)), some (.int (nI c)), none, none]) rfl rfl rfl rfl ?_
  refine am_g 2 2 [some (.ref 14), some (.int 3), some (.int (nI a)), some (.int 0), some (.int (nI b)), some (.int (nI c)), none, none] [.int 3, .ref 14] (hG σ sr ln Lc μ) rfl ?_
  refine am_call (y := 129) (vs := [.ref 14, .int 3]) (rest := []) (v := (some (.ref 45))) (h1 := (hG σ sr ln Lc μ)) rfl rfl rfl (sp_X11_sheetAt_3 (σ := σ) (μ := μ) d) ?_
  refine am_g 3 9 [some (.ref 14), some (.int 3), some (.int (nI a)), some (.int 0), some (.int (nI b)), some (.int (nI c)), some (.ref 45), none] [.int 0, .ref 14] (hG σ sr ln Lc μ) rfl ?_
  refine am_call (y := 129) (vs := [.ref 14, .int 0]) (rest := []) (v := (some (.ref 39))) (h1 := (hG σ sr ln Lc μ)) rfl rfl rfl (sp_X11_sheetAt_0 (σ := σ) (μ := μ) d) ?_
  refine am_g 6 29 [some (.ref 14), some (.int 3), some (.int (nI a)), some (.int 0), some (.int (nI b)), some (.int (nI c)), some (.ref 45), some (.ref 39)] [.ref 45] (hG σ sr ln Lc μ) rfl ?_
  refine am_call (y := 64) (vs := [.ref 45]) (rest := []) (v := (some (.int 0))) (h1 := (hG σ sr ln Lc μ)) rfl rfl rfl (sp_X8_isMissing_3n (σ := σ) (μ := μ) d h) ?_
  refine am_g 2 37 [some (.ref 14), some (.int 3), some (.int (nI a)), some (.int 0), some (.int (nI b)), some (.int (nI c)), some (.ref 45), some (.ref 39)] [.ref 39] (hG σ sr ln Lc μ) rfl ?_
  refine am_call (y := 64) (vs := [.ref 39]) (rest := []) (v := (some (.int 0))) (h1 := (hG σ sr ln Lc μ)) rfl rfl rfl (sp_X8_isMissing_0n (σ := σ) (μ := μ) d h2) ?_
  refine am_g 6 (if (σ 60 0) = (σ 51 0) then 62 else 59) [some (.ref 14), some (.int 3), some (.int (nI a)), some (.int 0), some (.int (nI b)), some (.int (nI c)), some (.ref 45), some (.ref 39)] [] (hG σ sr ln Lc μ) rfl ?_
  rw [if_pos (show (σ 60 0) = (σ 51 0) from hx)]
  refine am_g 3 67 [some (.ref 14), some (.int 3), some (.int (nI a)), some (.int 0), some (.int (nI b)), some (.int (nI c)), some (.ref 45), some (.ref 39)] [.int (nI c), .int (nI a), .ref 45] (hG σ sr ln Lc μ) rfl ?_
  refine am_call (y := 66) (vs := [.ref 45, .int (nI a), .int (nI c)]) (rest := []) (v := (some (.int 1))) (h1 := (hG σ sr ln Lc μ)) rfl rfl rfl (sp_X8_covers_3 (σ := σ) (μ := μ) d hz (by omega) _ _ hc1) ?_
  refine am_g 4 79 [some (.ref 14), some (.int 3), some (.int (nI a)), some (.int 0), some (.int (nI b)), some (.int (nI c)), some (.ref 45), some (.ref 39)] [.int (nI c), .int (nI b), .ref 39] (hG σ sr ln Lc μ) rfl ?_
  refine am_call (y := 66) (vs := [.ref 39, .int (nI b), .int (nI c)]) (rest := []) (v := (some (.int 1))) (h1 := (hG σ sr ln Lc μ)) rfl rfl rfl (sp_X8_covers_0 (σ := σ) (μ := μ) d hy (by omega) _ _ hc2) ?_
  refine am_g 8 103 [some (.ref 14), some (.int 3), some (.int (nI a)), some (.int 0), some (.int (nI b)), some (.int (nI c)), some (.ref 45), some (.ref 39)] [.int (nI c), .int (nI b), .ref 40, .int (nI a), .ref 46] (hG σ sr ln Lc μ) rfl ?_
  refine am_acpR (f := (σ 59)) (g := (σ 50)) (a := a) (b := b) (c := c) (n0 := 40) (n1 := 40) (h1 := (hG (am_up σ 50 (va_cpy (σ 59) (σ 50) a b c)) sr ln Lc μ)) rfl rfl rfl rfl rfl rfl rfl (by omega) (by omega) (by decide) (by decide) rfl ?_
  refine am_g 1 108 [some (.ref 14), some (.int 3), some (.int (nI a)), some (.int 0), some (.int (nI b)), some (.int (nI c)), some (.ref 45), some (.ref 39)] [.int (nI c)] (hG (am_up σ 50 (va_cpy (σ 59) (σ 50) a b c)) sr ln Lc μ) rfl ?_
  exact am_ret2 rfl rfl rfl rfl rfl
theorem sp_X11_copy_31m (d : Nat) (i j n : Int32) (h : σ 60 0 = -1) : am_X xs LL (d + 2) 119 [.ref 14, .int 3, .int i, .int 1, .int j, .int n] (hG σ sr ln Lc μ) (some (.int (-11))) (hG σ sr ln Lc μ) := by
  refine am_XR (d := d + 1) (C := cd_X11_copy) (L := [some (.ref 14), some (.int 3), some (.int i), some (.int 1), some (.int j), some (.int n), none, none]) rfl rfl rfl rfl ?_
  refine am_g 2 2 [some (.ref 14), some (.int 3), some (.int i), some (.int 1), some (.int j), some (.int n), none, none] [.int 3, .ref 14] (hG σ sr ln Lc μ) rfl ?_
  refine am_call (y := 129) (vs := [.ref 14, .int 3]) (rest := []) (v := (some (.ref 45))) (h1 := (hG σ sr ln Lc μ)) rfl rfl rfl (sp_X11_sheetAt_3 (σ := σ) (μ := μ) d) ?_
  refine am_g 3 9 [some (.ref 14), some (.int 3), some (.int i), some (.int 1), some (.int j), some (.int n), some (.ref 45), none] [.int 1, .ref 14] (hG σ sr ln Lc μ) rfl ?_
  refine am_call (y := 129) (vs := [.ref 14, .int 1]) (rest := []) (v := (some (.ref 41))) (h1 := (hG σ sr ln Lc μ)) rfl rfl rfl (sp_X11_sheetAt_1 (σ := σ) (μ := μ) d) ?_
  refine am_g 6 29 [some (.ref 14), some (.int 3), some (.int i), some (.int 1), some (.int j), some (.int n), some (.ref 45), some (.ref 41)] [.ref 45] (hG σ sr ln Lc μ) rfl ?_
  refine am_call (y := 64) (vs := [.ref 45]) (rest := []) (v := (some (.int 1))) (h1 := (hG σ sr ln Lc μ)) rfl rfl rfl (sp_X8_isMissing_3y (σ := σ) (μ := μ) d h) ?_
  refine am_g 2 45 [some (.ref 14), some (.int 3), some (.int i), some (.int 1), some (.int j), some (.int n), some (.ref 45), some (.ref 41)] [.int (-11)] (hG σ sr ln Lc μ) rfl ?_
  exact am_ret2 rfl rfl rfl rfl rfl
theorem sp_X11_copy_31m2 (d : Nat) (i j n : Int32) (h : ¬ σ 60 0 = -1) (h2 : σ 54 0 = -1) : am_X xs LL (d + 2) 119 [.ref 14, .int 3, .int i, .int 1, .int j, .int n] (hG σ sr ln Lc μ) (some (.int (-11))) (hG σ sr ln Lc μ) := by
  refine am_XR (d := d + 1) (C := cd_X11_copy) (L := [some (.ref 14), some (.int 3), some (.int i), some (.int 1), some (.int j), some (.int n), none, none]) rfl rfl rfl rfl ?_
  refine am_g 2 2 [some (.ref 14), some (.int 3), some (.int i), some (.int 1), some (.int j), some (.int n), none, none] [.int 3, .ref 14] (hG σ sr ln Lc μ) rfl ?_
  refine am_call (y := 129) (vs := [.ref 14, .int 3]) (rest := []) (v := (some (.ref 45))) (h1 := (hG σ sr ln Lc μ)) rfl rfl rfl (sp_X11_sheetAt_3 (σ := σ) (μ := μ) d) ?_
  refine am_g 3 9 [some (.ref 14), some (.int 3), some (.int i), some (.int 1), some (.int j), some (.int n), some (.ref 45), none] [.int 1, .ref 14] (hG σ sr ln Lc μ) rfl ?_
  refine am_call (y := 129) (vs := [.ref 14, .int 1]) (rest := []) (v := (some (.ref 41))) (h1 := (hG σ sr ln Lc μ)) rfl rfl rfl (sp_X11_sheetAt_1 (σ := σ) (μ := μ) d) ?_
  refine am_g 6 29 [some (.ref 14), some (.int 3), some (.int i), some (.int 1), some (.int j), some (.int n), some (.ref 45), some (.ref 41)] [.ref 45] (hG σ sr ln Lc μ) rfl ?_
  refine am_call (y := 64) (vs := [.ref 45]) (rest := []) (v := (some (.int 0))) (h1 := (hG σ sr ln Lc μ)) rfl rfl rfl (sp_X8_isMissing_3n (σ := σ) (μ := μ) d h) ?_
  refine am_g 2 37 [some (.ref 14), some (.int 3), some (.int i), some (.int 1), some (.int j), some (.int n), some (.ref 45), some (.ref 41)] [.ref 41] (hG σ sr ln Lc μ) rfl ?_
  refine am_call (y := 64) (vs := [.ref 41]) (rest := []) (v := (some (.int 1))) (h1 := (hG σ sr ln Lc μ)) rfl rfl rfl (sp_X8_isMissing_1y (σ := σ) (μ := μ) d h2) ?_
  refine am_g 2 45 [some (.ref 14), some (.int 3), some (.int i), some (.int 1), some (.int j), some (.int n), some (.ref 45), some (.ref 41)] [.int (-11)] (hG σ sr ln Lc μ) rfl ?_
  exact am_ret2 rfl rfl rfl rfl rfl
theorem sp_X11_copy_31x (d : Nat) (i j n : Int32) (h : ¬ σ 60 0 = -1) (h2 : ¬ σ 54 0 = -1) (hx : ¬ σ 60 0 = σ 54 0) : am_X xs LL (d + 2) 119 [.ref 14, .int 3, .int i, .int 1, .int j, .int n] (hG σ sr ln Lc μ) (some (.int (-13))) (hG σ sr ln Lc μ) := by
  refine am_XR (d := d + 1) (C := cd_X11_copy) (L := [some (.ref 14), some (.int 3), some (.int i), some (.int 1), some (.int j), some (.int n), none, none]) rfl rfl rfl rfl ?_
  refine am_g 2 2 [some (.ref 14), some (.int 3), some (.int i), some (.int 1), some (.int j), some (.int n), none, none] [.int 3, .ref 14] (hG σ sr ln Lc μ) rfl ?_
  refine am_call (y := 129) (vs := [.ref 14, .int 3]) (rest := []) (v := (some (.ref 45))) (h1 := (hG σ sr ln Lc μ)) rfl rfl rfl (sp_X11_sheetAt_3 (σ := σ) (μ := μ) d) ?_
  refine am_g 3 9 [some (.ref 14), some (.int 3), some (.int i), some (.int 1), some (.int j), some (.int n), some (.ref 45), none] [.int 1, .ref 14] (hG σ sr ln Lc μ) rfl ?_
  refine am_call (y := 129) (vs := [.ref 14, .int 1]) (rest := []) (v := (some (.ref 41))) (h1 := (hG σ sr ln Lc μ)) rfl rfl rfl (sp_X11_sheetAt_1 (σ := σ) (μ := μ) d) ?_
  refine am_g 6 29 [some (.ref 14), some (.int 3), some (.int i), some (.int 1), some (.int j), some (.int n), some (.ref 45), some (.ref 41)] [.ref 45] (hG σ sr ln Lc μ) rfl ?_
  refine am_call (y := 64) (vs := [.ref 45]) (rest := []) (v := (some (.int 0))) (h1 := (hG σ sr ln Lc μ)) rfl rfl rfl (sp_X8_isMissing_3n (σ := σ) (μ := μ) d h) ?_
  refine am_g 2 37 [some (.ref 14), some (.int 3), some (.int i), some (.int 1), some (.int j), some (.int n), some (.ref 45), some (.ref 41)] [.ref 41] (hG σ sr ln Lc μ) rfl ?_
  refine am_call (y := 64) (vs := [.ref 41]) (rest := []) (v := (some (.int 0))) (h1 := (hG σ sr ln Lc μ)) rfl rfl rfl (sp_X8_isMissing_1n (σ := σ) (μ := μ) d h2) ?_
  refine am_g 6 (if (σ 60 0) = (σ 54 0) then 62 else 59) [some (.ref 14), some (.int 3), some (.int i), some (.int 1), some (.int j), some (.int n), some (.ref 45), some (.ref 41)] [] (hG σ sr ln Lc μ) rfl ?_
  rw [if_neg (show ¬ (σ 60 0) = (σ 54 0) from hx)]
  refine am_g 1 61 [some (.ref 14), some (.int 3), some (.int i), some (.int 1), some (.int j), some (.int n), some (.ref 45), some (.ref 41)] [.int (-13)] (hG σ sr ln Lc μ) rfl ?_
  exact am_ret2 rfl rfl rfl rfl rfl
theorem sp_X11_copy_31o (d : Nat) (i j n : Int32) (h : ¬ σ 60 0 = -1) (h2 : ¬ σ 54 0 = -1) (hx : σ 60 0 = σ 54 0) {z : Nat} (hz : σ 61 0 = nI z) (hz40 : z ≤ 40) {y : Nat} (hy : σ 55 0 = nI y) (hy40 : y ≤ 40) (hc : (pu_cv z i n && pu_cv y j n) = false) : am_X xs LL (d + 2) 119 [.ref 14, .int 3, .int i, .int 1, .int j, .int n] (hG σ sr ln Lc μ) (some (.int (-12))) (hG σ sr ln Lc μ) := by
  refine am_XR (d := d + 1) (C := cd_X11_copy) (L := [some (.ref 14), some (.int 3), some (.int i), some (.int 1), some (.int j), some (.int n), none, none]) rfl rfl rfl rfl ?_
  refine am_g 2 2 [some (.ref 14), some (.int 3), some (.int i), some (.int 1), some (.int j), some (.int n), none, none] [.int 3, .ref 14] (hG σ sr ln Lc μ) rfl ?_
  refine am_call (y := 129) (vs := [.ref 14, .int 3]) (rest := []) (v := (some (.ref 45))) (h1 := (hG σ sr ln Lc μ)) rfl rfl rfl (sp_X11_sheetAt_3 (σ := σ) (μ := μ) d) ?_
  refine am_g 3 9 [some (.ref 14), some (.int 3), some (.int i), some (.int 1), some (.int j), some (.int n), some (.ref 45), none] [.int 1, .ref 14] (hG σ sr ln Lc μ) rfl ?_
  refine am_call (y := 129) (vs := [.ref 14, .int 1]) (rest := []) (v := (some (.ref 41))) (h1 := (hG σ sr ln Lc μ)) rfl rfl rfl (sp_X11_sheetAt_1 (σ := σ) (μ := μ) d) ?_
  refine am_g 6 29 [some (.ref 14), some (.int 3), some (.int i), some (.int 1), some (.int j), some (.int n), some (.ref 45), some (.ref 41)] [.ref 45] (hG σ sr ln Lc μ) rfl ?_
  refine am_call (y := 64) (vs := [.ref 45]) (rest := []) (v := (some (.int 0))) (h1 := (hG σ sr ln Lc μ)) rfl rfl rfl (sp_X8_isMissing_3n (σ := σ) (μ := μ) d h) ?_
  refine am_g 2 37 [some (.ref 14), some (.int 3), some (.int i), some (.int 1), some (.int j), some (.int n), some (.ref 45), some (.ref 41)] [.ref 41] (hG σ sr ln Lc μ) rfl ?_
  refine am_call (y := 64) (vs := [.ref 41]) (rest := []) (v := (some (.int 0))) (h1 := (hG σ sr ln Lc μ)) rfl rfl rfl (sp_X8_isMissing_1n (σ := σ) (μ := μ) d h2) ?_
  refine am_g 6 (if (σ 60 0) = (σ 54 0) then 62 else 59) [some (.ref 14), some (.int 3), some (.int i), some (.int 1), some (.int j), some (.int n), some (.ref 45), some (.ref 41)] [] (hG σ sr ln Lc μ) rfl ?_
  rw [if_pos (show (σ 60 0) = (σ 54 0) from hx)]
  refine am_g 3 67 [some (.ref 14), some (.int 3), some (.int i), some (.int 1), some (.int j), some (.int n), some (.ref 45), some (.ref 41)] [.int n, .int i, .ref 45] (hG σ sr ln Lc μ) rfl ?_
  cases e1 : pu_cv z i n with
  | false =>
    refine am_call (y := 66) (vs := [.ref 45, .int i, .int n]) (rest := []) (v := (some (.int 0))) (h1 := (hG σ sr ln Lc μ)) rfl rfl rfl (sp_X8_covers_3 (σ := σ) (μ := μ) d hz (by omega) _ _ e1) ?_
    refine am_g 2 87 [some (.ref 14), some (.int 3), some (.int i), some (.int 1), some (.int j), some (.int n), some (.ref 45), some (.ref 41)] [.int (-12)] (hG σ sr ln Lc μ) rfl ?_
    exact am_ret2 rfl rfl rfl rfl rfl
  | true =>
    refine am_call (y := 66) (vs := [.ref 45, .int i, .int n]) (rest := []) (v := (some (.int 1))) (h1 := (hG σ sr ln Lc μ)) rfl rfl rfl (sp_X8_covers_3 (σ := σ) (μ := μ) d hz (by omega) _ _ e1) ?_
    refine am_g 4 79 [some (.ref 14), some (.int 3), some (.int i), some (.int 1), some (.int j), some (.int n), some (.ref 45), some (.ref 41)] [.int n, .int j, .ref 41] (hG σ sr ln Lc μ) rfl ?_
    cases e2 : pu_cv y j n with
    | false =>
      refine am_call (y := 66) (vs := [.ref 41, .int j, .int n]) (rest := []) (v := (some (.int 0))) (h1 := (hG σ sr ln Lc μ)) rfl rfl rfl (sp_X8_covers_1 (σ := σ) (μ := μ) d hy (by omega) _ _ e2) ?_
      refine am_g 2 87 [some (.ref 14), some (.int 3), some (.int i), some (.int 1), some (.int j), some (.int n), some (.ref 45), some (.ref 41)] [.int (-12)] (hG σ sr ln Lc μ) rfl ?_
      exact am_ret2 rfl rfl rfl rfl rfl
    | true =>
      refine am_call (y := 66) (vs := [.ref 41, .int j, .int n]) (rest := []) (v := (some (.int 1))) (h1 := (hG σ sr ln Lc μ)) rfl rfl rfl (sp_X8_covers_1 (σ := σ) (μ := μ) d hy (by omega) _ _ e2) ?_
      refine am_g 1 88 [some (.ref 14), some (.int 3), some (.int i), some (.int 1), some (.int j), some (.int n), some (.ref 45), some (.ref 41)] [] (hG σ sr ln Lc μ) rfl ?_
      rw [e1, e2] at hc
      cases hc
theorem sp_X11_copy_31q (d : Nat) (a b c : Nat) (h : ¬ σ 60 0 = -1) (h2 : ¬ σ 54 0 = -1) (hx : σ 60 0 = σ 54 0) {z : Nat} (hz : σ 61 0 = nI z) (hz40 : z ≤ 40) {y : Nat} (hy : σ 55 0 = nI y) (hy40 : y ≤ 40) (hac : a + c ≤ z) (hbc : b + c ≤ y) (hc1 : pu_cv z (nI a) (nI c) = true) (hc2 : pu_cv y (nI b) (nI c) = true) : am_X xs LL (d + 2) 119 [.ref 14, .int 3, .int (nI a), .int 1, .int (nI b), .int (nI c)] (hG σ sr ln Lc μ) (some (.int (nI c))) (hG (am_up σ 53 (va_cpy (σ 59) (σ 53) a b c)) sr ln Lc μ) := by
  refine am_XR (d := d + 1) (C := cd_X11_copy) (L := [some (.ref 14), some (.int 3), some (.int (nI a)), some (.int 1), some (.int (nI b)), some (.int (nI c)), none, none]) rfl rfl rfl rfl ?_
  refine am_g 2 2 [some (.ref 14), some (.int 3), some (.int (nI a)), some (.int 1), some (.int (nI b)), some (.int (nI c)), none, none] [.int 3, .ref 14] (hG σ sr ln Lc μ) rfl ?_
  refine am_call (y := 129) (vs := [.ref 14, .int 3]) (rest := []) (v := (some (.ref 45))) (h1 := (hG σ sr ln Lc μ)) rfl rfl rfl (sp_X11_sheetAt_3 (σ := σ) (μ := μ) d) ?_
  refine am_g 3 9 [some (.ref 14), some (.int 3), some (.int (nI a)), some (.int 1), some (.int (nI b)), some (.int (nI c)), some (.ref 45), none] [.int 1, .ref 14] (hG σ sr ln Lc μ) rfl ?_
  refine am_call (y := 129) (vs := [.ref 14, .int 1]) (rest := []) (v := (some (.ref 41))) (h1 := (hG σ sr ln Lc μ)) rfl rfl rfl (sp_X11_sheetAt_1 (σ := σ) (μ := μ) d) ?_
  refine am_g 6 29 [some (.ref 14), some (.int 3), some (.int (nI a)), some (.int 1), some (.int (nI b)), some (.int (nI c)), some (.ref 45), some (.ref 41)] [.ref 45] (hG σ sr ln Lc μ) rfl ?_
  refine am_call (y := 64) (vs := [.ref 45]) (rest := []) (v := (some (.int 0))) (h1 := (hG σ sr ln Lc μ)) rfl rfl rfl (sp_X8_isMissing_3n (σ := σ) (μ := μ) d h) ?_
  refine am_g 2 37 [some (.ref 14), some (.int 3), some (.int (nI a)), some (.int 1), some (.int (nI b)), some (.int (nI c)), some (.ref 45), some (.ref 41)] [.ref 41] (hG σ sr ln Lc μ) rfl ?_
  refine am_call (y := 64) (vs := [.ref 41]) (rest := []) (v := (some (.int 0))) (h1 := (hG σ sr ln Lc μ)) rfl rfl rfl (sp_X8_isMissing_1n (σ := σ) (μ := μ) d h2) ?_
  refine am_g 6 (if (σ 60 0) = (σ 54 0) then 62 else 59) [some (.ref 14), some (.int 3), some (.int (nI a)), some (.int 1), some (.int (nI b)), some (.int (nI c)), some (.ref 45), some (.ref 41)] [] (hG σ sr ln Lc μ) rfl ?_
  rw [if_pos (show (σ 60 0) = (σ 54 0) from hx)]
  refine am_g 3 67 [some (.ref 14), some (.int 3), some (.int (nI a)), some (.int 1), some (.int (nI b)), some (.int (nI c)), some (.ref 45), some (.ref 41)] [.int (nI c), .int (nI a), .ref 45] (hG σ sr ln Lc μ) rfl ?_
  refine am_call (y := 66) (vs := [.ref 45, .int (nI a), .int (nI c)]) (rest := []) (v := (some (.int 1))) (h1 := (hG σ sr ln Lc μ)) rfl rfl rfl (sp_X8_covers_3 (σ := σ) (μ := μ) d hz (by omega) _ _ hc1) ?_
  refine am_g 4 79 [some (.ref 14), some (.int 3), some (.int (nI a)), some (.int 1), some (.int (nI b)), some (.int (nI c)), some (.ref 45), some (.ref 41)] [.int (nI c), .int (nI b), .ref 41] (hG σ sr ln Lc μ) rfl ?_
  refine am_call (y := 66) (vs := [.ref 41, .int (nI b), .int (nI c)]) (rest := []) (v := (some (.int 1))) (h1 := (hG σ sr ln Lc μ)) rfl rfl rfl (sp_X8_covers_1 (σ := σ) (μ := μ) d hy (by omega) _ _ hc2) ?_
  refine am_g 8 103 [some (.ref 14), some (.int 3), some (.int (nI a)), some (.int 1), some (.int (nI b)), some (.int (nI c)), some (.ref 45), some (.ref 41)] [.int (nI c), .int (nI b), .ref 42, .int (nI a), .ref 46] (hG σ sr ln Lc μ) rfl ?_
  refine am_acpR (f := (σ 59)) (g := (σ 53)) (a := a) (b := b) (c := c) (n0 := 40) (n1 := 40) (h1 := (hG (am_up σ 53 (va_cpy (σ 59) (σ 53) a b c)) sr ln Lc μ)) rfl rfl rfl rfl rfl rfl rfl (by omega) (by omega) (by decide) (by decide) rfl ?_
  refine am_g 1 108 [some (.ref 14), some (.int 3), some (.int (nI a)), some (.int 1), some (.int (nI b)), some (.int (nI c)), some (.ref 45), some (.ref 41)] [.int (nI c)] (hG (am_up σ 53 (va_cpy (σ 59) (σ 53) a b c)) sr ln Lc μ) rfl ?_
  exact am_ret2 rfl rfl rfl rfl rfl
theorem sp_X11_copy_32m (d : Nat) (i j n : Int32) (h : σ 60 0 = -1) : am_X xs LL (d + 2) 119 [.ref 14, .int 3, .int i, .int 2, .int j, .int n] (hG σ sr ln Lc μ) (some (.int (-11))) (hG σ sr ln Lc μ) := by
  refine am_XR (d := d + 1) (C := cd_X11_copy) (L := [some (.ref 14), some (.int 3), some (.int i), some (.int 2), some (.int j), some (.int n), none, none]) rfl rfl rfl rfl ?_
  refine am_g 2 2 [some (.ref 14), some (.int 3), some (.int i), some (.int 2), some (.int j), some (.int n), none, none] [.int 3, .ref 14] (hG σ sr ln Lc μ) rfl ?_
  refine am_call (y := 129) (vs := [.ref 14, .int 3]) (rest := []) (v := (some (.ref 45))) (h1 := (hG σ sr ln Lc μ)) rfl rfl rfl (sp_X11_sheetAt_3 (σ := σ) (μ := μ) d) ?_
  refine am_g 3 9 [some (.ref 14), some (.int 3), some (.int i), some (.int 2), some (.int j), some (.int n), some (.ref 45), none] [.int 2, .ref 14] (hG σ sr ln Lc μ) rfl ?_
  refine am_call (y := 129) (vs := [.ref 14, .int 2]) (rest := []) (v := (some (.ref 43))) (h1 := (hG σ sr ln Lc μ)) rfl rfl rfl (sp_X11_sheetAt_2 (σ := σ) (μ := μ) d) ?_
  refine am_g 6 29 [some (.ref 14), some (.int 3), some (.int i), some (.int 2), some (.int j), some (.int n), some (.ref 45), some (.ref 43)] [.ref 45] (hG σ sr ln Lc μ) rfl ?_
  refine am_call (y := 64) (vs := [.ref 45]) (rest := []) (v := (some (.int 1))) (h1 := (hG σ sr ln Lc μ)) rfl rfl rfl (sp_X8_isMissing_3y (σ := σ) (μ := μ) d h) ?_
  refine am_g 2 45 [some (.ref 14), some (.int 3), some (.int i), some (.int 2), some (.int j), some (.int n), some (.ref 45), some (.ref 43)] [.int (-11)] (hG σ sr ln Lc μ) rfl ?_
  exact am_ret2 rfl rfl rfl rfl rfl
theorem sp_X11_copy_32m2 (d : Nat) (i j n : Int32) (h : ¬ σ 60 0 = -1) (h2 : σ 57 0 = -1) : am_X xs LL (d + 2) 119 [.ref 14, .int 3, .int i, .int 2, .int j, .int n] (hG σ sr ln Lc μ) (some (.int (-11))) (hG σ sr ln Lc μ) := by
  refine am_XR (d := d + 1) (C := cd_X11_copy) (L := [some (.ref 14), some (.int 3), some (.int i), some (.int 2), some (.int j), some (.int n), none, none]) rfl rfl rfl rfl ?_
  refine am_g 2 2 [some (.ref 14), some (.int 3), some (.int i), some (.int 2), some (.int j), some (.int n), none, none] [.int 3, .ref 14] (hG σ sr ln Lc μ) rfl ?_
  refine am_call (y := 129) (vs := [.ref 14, .int 3]) (rest := []) (v := (some (.ref 45))) (h1 := (hG σ sr ln Lc μ)) rfl rfl rfl (sp_X11_sheetAt_3 (σ := σ) (μ := μ) d) ?_
  refine am_g 3 9 [some (.ref 14), some (.int 3), some (.int i), some (.int 2), some (.int j), some (.int n), some (.ref 45), none] [.int 2, .ref 14] (hG σ sr ln Lc μ) rfl ?_
  refine am_call (y := 129) (vs := [.ref 14, .int 2]) (rest := []) (v := (some (.ref 43))) (h1 := (hG σ sr ln Lc μ)) rfl rfl rfl (sp_X11_sheetAt_2 (σ := σ) (μ := μ) d) ?_
  refine am_g 6 29 [some (.ref 14), some (.int 3), some (.int i), some (.int 2), some (.int j), some (.int n), some (.ref 45), some (.ref 43)] [.ref 45] (hG σ sr ln Lc μ) rfl ?_
  refine am_call (y := 64) (vs := [.ref 45]) (rest := []) (v := (some (.int 0))) (h1 := (hG σ sr ln Lc μ)) rfl rfl rfl (sp_X8_isMissing_3n (σ := σ) (μ := μ) d h) ?_
  refine am_g 2 37 [some (.ref 14), some (.int 3), some (.int i), some (.int 2), some (.int j), some (.int n), some (.ref 45), some (.ref 43)] [.ref 43] (hG σ sr ln Lc μ) rfl ?_
  refine am_call (y := 64) (vs := [.ref 43]) (rest := []) (v := (some (.int 1))) (h1 := (hG σ sr ln Lc μ)) rfl rfl rfl (sp_X8_isMissing_2y (σ := σ) (μ := μ) d h2) ?_
  refine am_g 2 45 [some (.ref 14), some (.int 3), some (.int i), some (.int 2), some (.int j), some (.int n), some (.ref 45), some (.ref 43)] [.int (-11)] (hG σ sr ln Lc μ) rfl ?_
  exact am_ret2 rfl rfl rfl rfl rfl
theorem sp_X11_copy_32x (d : Nat) (i j n : Int32) (h : ¬ σ 60 0 = -1) (h2 : ¬ σ 57 0 = -1) (hx : ¬ σ 60 0 = σ 57 0) : am_X xs LL (d + 2) 119 [.ref 14, .int 3, .int i, .int 2, .int j, .int n] (hG σ sr ln Lc μ) (some (.int (-13))) (hG σ sr ln Lc μ) := by
  refine am_XR (d := d + 1) (C := cd_X11_copy) (L := [some (.ref 14), some (.int 3), some (.int i), some (.int 2), some (.int j), some (.int n), none, none]) rfl rfl rfl rfl ?_
  refine am_g 2 2 [some (.ref 14), some (.int 3), some (.int i), some (.int 2), some (.int j), some (.int n), none, none] [.int 3, .ref 14] (hG σ sr ln Lc μ) rfl ?_
  refine am_call (y := 129) (vs := [.ref 14, .int 3]) (rest := []) (v := (some (.ref 45))) (h1 := (hG σ sr ln Lc μ)) rfl rfl rfl (sp_X11_sheetAt_3 (σ := σ) (μ := μ) d) ?_
  refine am_g 3 9 [some (.ref 14), some (.int 3), some (.int i), some (.int 2), some (.int j), some (.int n), some (.ref 45), none] [.int 2, .ref 14] (hG σ sr ln Lc μ) rfl ?_
  refine am_call (y := 129) (vs := [.ref 14, .int 2]) (rest := []) (v := (some (.ref 43))) (h1 := (hG σ sr ln Lc μ)) rfl rfl rfl (sp_X11_sheetAt_2 (σ := σ) (μ := μ) d) ?_
  refine am_g 6 29 [some (.ref 14), some (.int 3), some (.int i), some (.int 2), some (.int j), some (.int n), some (.ref 45), some (.ref 43)] [.ref 45] (hG σ sr ln Lc μ) rfl ?_
  refine am_call (y := 64) (vs := [.ref 45]) (rest := []) (v := (some (.int 0))) (h1 := (hG σ sr ln Lc μ)) rfl rfl rfl (sp_X8_isMissing_3n (σ := σ) (μ := μ) d h) ?_
  refine am_g 2 37 [some (.ref 14), some (.int 3), some (.int i), some (.int 2), some (.int j), some (.int n), some (.ref 45), some (.ref 43)] [.ref 43] (hG σ sr ln Lc μ) rfl ?_
  refine am_call (y := 64) (vs := [.ref 43]) (rest := []) (v := (some (.int 0))) (h1 := (hG σ sr ln Lc μ)) rfl rfl rfl (sp_X8_isMissing_2n (σ := σ) (μ := μ) d h2) ?_
  refine am_g 6 (if (σ 60 0) = (σ 57 0) then 62 else 59) [some (.ref 14), some (.int 3), some (.int i), some (.int 2), some (.int j), some (.int n), some (.ref 45), some (.ref 43)] [] (hG σ sr ln Lc μ) rfl ?_
  rw [if_neg (show ¬ (σ 60 0) = (σ 57 0) from hx)]
  refine am_g 1 61 [some (.ref 14), some (.int 3), some (.int i), some (.int 2), some (.int j), some (.int n), some (.ref 45), some (.ref 43)] [.int (-13)] (hG σ sr ln Lc μ) rfl ?_
  exact am_ret2 rfl rfl rfl rfl rfl
theorem sp_X11_copy_32o (d : Nat) (i j n : Int32) (h : ¬ σ 60 0 = -1) (h2 : ¬ σ 57 0 = -1) (hx : σ 60 0 = σ 57 0) {z : Nat} (hz : σ 61 0 = nI z) (hz40 : z ≤ 40) {y : Nat} (hy : σ 58 0 = nI y) (hy40 : y ≤ 40) (hc : (pu_cv z i n && pu_cv y j n) = false) : am_X xs LL (d + 2) 119 [.ref 14, .int 3, .int i, .int 2, .int j, .int n] (hG σ sr ln Lc μ) (some (.int (-12))) (hG σ sr ln Lc μ) := by
  refine am_XR (d := d + 1) (C := cd_X11_copy) (L := [some (.ref 14), some (.int 3), some (.int i), some (.int 2), some (.int j), some (.int n), none, none]) rfl rfl rfl rfl ?_
  refine am_g 2 2 [some (.ref 14), some (.int 3), some (.int i), some (.int 2), some (.int j), some (.int n), none, none] [.int 3, .ref 14] (hG σ sr ln Lc μ) rfl ?_
  refine am_call (y := 129) (vs := [.ref 14, .int 3]) (rest := []) (v := (some (.ref 45))) (h1 := (hG σ sr ln Lc μ)) rfl rfl rfl (sp_X11_sheetAt_3 (σ := σ) (μ := μ) d) ?_
  refine am_g 3 9 [some (.ref 14), some (.int 3), some (.int i), some (.int 2), some (.int j), some (.int n), some (.ref 45), none] [.int 2, .ref 14] (hG σ sr ln Lc μ) rfl ?_
  refine am_call (y := 129) (vs := [.ref 14, .int 2]) (rest := []) (v := (some (.ref 43))) (h1 := (hG σ sr ln Lc μ)) rfl rfl rfl (sp_X11_sheetAt_2 (σ := σ) (μ := μ) d) ?_
  refine am_g 6 29 [some (.ref 14), some (.int 3), some (.int i), some (.int 2), some (.int j), some (.int n), some (.ref 45), some (.ref 43)] [.ref 45] (hG σ sr ln Lc μ) rfl ?_
  refine am_call (y := 64) (vs := [.ref 45]) (rest := []) (v := (some (.int 0))) (h1 := (hG σ sr ln Lc μ)) rfl rfl rfl (sp_X8_isMissing_3n (σ := σ) (μ := μ) d h) ?_
  refine am_g 2 37 [some (.ref 14), some (.int 3), some (.int i), some (.int 2), some (.int j), some (.int n), some (.ref 45), some (.ref 43)] [.ref 43] (hG σ sr ln Lc μ) rfl ?_
  refine am_call (y := 64) (vs := [.ref 43]) (rest := []) (v := (some (.int 0))) (h1 := (hG σ sr ln Lc μ)) rfl rfl rfl (sp_X8_isMissing_2n (σ := σ) (μ := μ) d h2) ?_
  refine am_g 6 (if (σ 60 0) = (σ 57 0) then 62 else 59) [some (.ref 14), some (.int 3), some (.int i), some (.int 2), some (.int j), some (.int n), some (.ref 45), some (.ref 43)] [] (hG σ sr ln Lc μ) rfl ?_
  rw [if_pos (show (σ 60 0) = (σ 57 0) from hx)]
  refine am_g 3 67 [some (.ref 14), some (.int 3), some (.int i), some (.int 2), some (.int j), some (.int n), some (.ref 45), some (.ref 43)] [.int n, .int i, .ref 45] (hG σ sr ln Lc μ) rfl ?_
  cases e1 : pu_cv z i n with
  | false =>
    refine am_call (y := 66) (vs := [.ref 45, .int i, .int n]) (rest := []) (v := (some (.int 0))) (h1 := (hG σ sr ln Lc μ)) rfl rfl rfl (sp_X8_covers_3 (σ := σ) (μ := μ) d hz (by omega) _ _ e1) ?_
    refine am_g 2 87 [some (.ref 14), some (.int 3), some (.int i), some (.int 2), some (.int j), some (.int n), some (.ref 45), some (.ref 43)] [.int (-12)] (hG σ sr ln Lc μ) rfl ?_
    exact am_ret2 rfl rfl rfl rfl rfl
  | true =>
    refine am_call (y := 66) (vs := [.ref 45, .int i, .int n]) (rest := []) (v := (some (.int 1))) (h1 := (hG σ sr ln Lc μ)) rfl rfl rfl (sp_X8_covers_3 (σ := σ) (μ := μ) d hz (by omega) _ _ e1) ?_
    refine am_g 4 79 [some (.ref 14), some (.int 3), some (.int i), some (.int 2), some (.int j), some (.int n), some (.ref 45), some (.ref 43)] [.int n, .int j, .ref 43] (hG σ sr ln Lc μ) rfl ?_
    cases e2 : pu_cv y j n with
    | false =>
      refine am_call (y := 66) (vs := [.ref 43, .int j, .int n]) (rest := []) (v := (some (.int 0))) (h1 := (hG σ sr ln Lc μ)) rfl rfl rfl (sp_X8_covers_2 (σ := σ) (μ := μ) d hy (by omega) _ _ e2) ?_
      refine am_g 2 87 [some (.ref 14), some (.int 3), some (.int i), some (.int 2), some (.int j), some (.int n), some (.ref 45), some (.ref 43)] [.int (-12)] (hG σ sr ln Lc μ) rfl ?_
      exact am_ret2 rfl rfl rfl rfl rfl
    | true =>
      refine am_call (y := 66) (vs := [.ref 43, .int j, .int n]) (rest := []) (v := (some (.int 1))) (h1 := (hG σ sr ln Lc μ)) rfl rfl rfl (sp_X8_covers_2 (σ := σ) (μ := μ) d hy (by omega) _ _ e2) ?_
      refine am_g 1 88 [some (.ref 14), some (.int 3), some (.int i), some (.int 2), some (.int j), some (.int n), some (.ref 45), some (.ref 43)] [] (hG σ sr ln Lc μ) rfl ?_
      rw [e1, e2] at hc
      cases hc
theorem sp_X11_copy_32q (d : Nat) (a b c : Nat) (h : ¬ σ 60 0 = -1) (h2 : ¬ σ 57 0 = -1) (hx : σ 60 0 = σ 57 0) {z : Nat} (hz : σ 61 0 = nI z) (hz40 : z ≤ 40) {y : Nat} (hy : σ 58 0 = nI y) (hy40 : y ≤ 40) (hac : a + c ≤ z) (hbc : b + c ≤ y) (hc1 : pu_cv z (nI a) (nI c) = true) (hc2 : pu_cv y (nI b) (nI c) = true) : am_X xs LL (d + 2) 119 [.ref 14, .int 3, .int (nI a), .int 2, .int (nI b), .int (nI c)] (hG σ sr ln Lc μ) (some (.int (nI c))) (hG (am_up σ 56 (va_cpy (σ 59) (σ 56) a b c)) sr ln Lc μ) := by
  refine am_XR (d := d + 1) (C := cd_X11_copy) (L := [some (.ref 14), some (.int 3), some (.int (nI a)), some (.int 2), some (.int (nI b)), some (.int (nI c)), none, none]) rfl rfl rfl rfl ?_
  refine am_g 2 2 [some (.ref 14), some (.int 3), some (.int (nI a)), some (.int 2), some (.int (nI b)), some (.int (nI c)), none, none] [.int 3, .ref 14] (hG σ sr ln Lc μ) rfl ?_
  refine am_call (y := 129) (vs := [.ref 14, .int 3]) (rest := []) (v := (some (.ref 45))) (h1 := (hG σ sr ln Lc μ)) rfl rfl rfl (sp_X11_sheetAt_3 (σ := σ) (μ := μ) d) ?_
  refine am_g 3 9 [some (.ref 14), some (.int 3), some (.int (nI a)), some (.int 2), some (.int (nI b)), some (.int (nI c)), some (.ref 45), none] [.int 2, .ref 14] (hG σ sr ln Lc μ) rfl ?_
  refine am_call (y := 129) (vs := [.ref 14, .int 2]) (rest := []) (v := (some (.ref 43))) (h1 := (hG σ sr ln Lc μ)) rfl rfl rfl (sp_X11_sheetAt_2 (σ := σ) (μ := μ) d) ?_
  refine am_g 6 29 [some (.ref 14), some (.int 3), some (.int (nI a)), some (.int 2), some (.int (nI b)), some (.int (nI c)), some (.ref 45), some (.ref 43)] [.ref 45] (hG σ sr ln Lc μ) rfl ?_
  refine am_call (y := 64) (vs := [.ref 45]) (rest := []) (v := (some (.int 0))) (h1 := (hG σ sr ln Lc μ)) rfl rfl rfl (sp_X8_isMissing_3n (σ := σ) (μ := μ) d h) ?_
  refine am_g 2 37 [some (.ref 14), some (.int 3), some (.int (nI a)), some (.int 2), some (.int (nI b)), some (.int (nI c)), some (.ref 45), some (.ref 43)] [.ref 43] (hG σ sr ln Lc μ) rfl ?_
  refine am_call (y := 64) (vs := [.ref 43]) (rest := []) (v := (some (.int 0))) (h1 := (hG σ sr ln Lc μ)) rfl rfl rfl (sp_X8_isMissing_2n (σ := σ) (μ := μ) d h2) ?_
  refine am_g 6 (if (σ 60 0) = (σ 57 0) then 62 else 59) [some (.ref 14), some (.int 3), some (.int (nI a)), some (.int 2), some (.int (nI b)), some (.int (nI c)), some (.ref 45), some (.ref 43)] [] (hG σ sr ln Lc μ) rfl ?_
  rw [if_pos (show (σ 60 0) = (σ 57 0) from hx)]
  refine am_g 3 67 [some (.ref 14), some (.int 3), some (.int (nI a)), some (.int 2), some (.int (nI b)), some (.int (nI c)), some (.ref 45), some (.ref 43)] [.int (nI c), .int (nI a), .ref 45] (hG σ sr ln Lc μ) rfl ?_
  refine am_call (y := 66) (vs := [.ref 45, .int (nI a), .int (nI c)]) (rest := []) (v := (some (.int 1))) (h1 := (hG σ sr ln Lc μ)) rfl rfl rfl (sp_X8_covers_3 (σ := σ) (μ := μ) d hz (by omega) _ _ hc1) ?_
  refine am_g 4 79 [some (.ref 14), some (.int 3), some (.int (nI a)), some (.int 2), some (.int (nI b)), some (.int (nI c)), some (.ref 45), some (.ref 43)] [.int (nI c), .int (nI b), .ref 43] (hG σ sr ln Lc μ) rfl ?_
  refine am_call (y := 66) (vs := [.ref 43, .int (nI b), .int (nI c)]) (rest := []) (v := (some (.int 1))) (h1 := (hG σ sr ln Lc μ)) rfl rfl rfl (sp_X8_covers_2 (σ := σ) (μ := μ) d hy (by omega) _ _ hc2) ?_
  refine am_g 8 103 [some (.ref 14), some (.int 3), some (.int (nI a)), some (.int 2), some (.int (nI b)), some (.int (nI c)), some (.ref 45), some (.ref 43)] [.int (nI c), .int (nI b), .ref 44, .int (nI a), .ref 46] (hG σ sr ln Lc μ) rfl ?_
  refine am_acpR (f := (σ 59)) (g := (σ 56)) (a := a) (b := b) (c := c) (n0 := 40) (n1 := 40) (h1 := (hG (am_up σ 56 (va_cpy (σ 59) (σ 56) a b c)) sr ln Lc μ)) rfl rfl rfl rfl rfl rfl rfl (by omega) (by omega) (by decide) (by decide) rfl ?_
  refine am_g 1 108 [some (.ref 14), some (.int 3), some (.int (nI a)), some (.int 2), some (.int (nI b)), some (.int (nI c)), some (.ref 45), some (.ref 43)] [.int (nI c)] (hG (am_up σ 56 (va_cpy (σ 59) (σ 56) a b c)) sr ln Lc μ) rfl ?_
  exact am_ret2 rfl rfl rfl rfl rfl
theorem sp_X11_copy_33m (d : Nat) (i j n : Int32) (h : σ 60 0 = -1) : am_X xs LL (d + 2) 119 [.ref 14, .int 3, .int i, .int 3, .int j, .int n] (hG σ sr ln Lc μ) (some (.int (-11))) (hG σ sr ln Lc μ) := by
  refine am_XR (d := d + 1) (C := cd_X11_copy) (L := [some (.ref 14), some (.int 3), some (.int i), some (.int 3), some (.int j), some (.int n), none, none]) rfl rfl rfl rfl ?_
  refine am_g 2 2 [some (.ref 14), some (.int 3), some (.int i), some (.int 3), some (.int j), some (.int n), none, none] [.int 3, .ref 14] (hG σ sr ln Lc μ) rfl ?_
  refine am_call (y := 129) (vs := [.ref 14, .int 3]) (rest := []) (v := (some (.ref 45))) (h1 := (hG σ sr ln Lc μ)) rfl rfl rfl (sp_X11_sheetAt_3 (σ := σ) (μ := μ) d) ?_
  refine am_g 3 9 [some (.ref 14), some (.int 3), some (.int i), some (.int 3), some (.int j), some (.int n), some (.ref 45), none] [.int 3, .ref 14] (hG σ sr ln Lc μ) rfl ?_
  refine am_call (y := 129) (vs := [.ref 14, .int 3]) (rest := []) (v := (some (.ref 45))) (h1 := (hG σ sr ln Lc μ)) rfl rfl rfl (sp_X11_sheetAt_3 (σ := σ) (μ := μ) d) ?_
  refine am_g 6 29 [some (.ref 14), some (.int 3), some (.int i), some (.int 3), some (.int j), some (.int n), some (.ref 45), some (.ref 45)] [.ref 45] (hG σ sr ln Lc μ) rfl ?_
  refine am_call (y := 64) (vs := [.ref 45]) (rest := []) (v := (some (.int 1))) (h1 := (hG σ sr ln Lc μ)) rfl rfl rfl (sp_X8_isMissing_3y (σ := σ) (μ := μ) d h) ?_
  refine am_g 2 45 [some (.ref 14), some (.int 3), some (.int i), some (.int 3), some (.int j), some (.int n), some (.ref 45), some (.ref 45)] [.int (-11)] (hG σ sr ln Lc μ) rfl ?_
  exact am_ret2 rfl rfl rfl rfl rfl
theorem sp_X11_copy_33o (d : Nat) (i j n : Int32) (h : ¬ σ 60 0 = -1) {z : Nat} (hz : σ 61 0 = nI z) (hz40 : z ≤ 40) (hc : (pu_cv z i n && pu_cv z j n) = false) : am_X xs LL (d + 2) 119 [.ref 14, .int 3, .int i, .int 3, .int j, .int n] (hG σ sr ln Lc μ) (some (.int (-12))) (hG σ sr ln Lc μ) := by
  refine am_XR (d := d + 1) (C := cd_X11_copy) (L := [some (.ref 14), some (.int 3), some (.int i), some (.int 3), some (.int j), some (.int n), none, none]) rfl rfl rfl rfl ?_
  refine am_g 2 2 [some (.ref 14), some (.int 3), some (.int i), some (.int 3), some (.int j), some (.int n), none, none] [.int 3, .ref 14] (hG σ sr ln Lc μ) rfl ?_
  refine am_call (y := 129) (vs := [.ref 14, .int 3]) (rest := []) (v := (some (.ref 45))) (h1 := (hG σ sr ln Lc μ)) rfl rfl rfl (sp_X11_sheetAt_3 (σ := σ) (μ := μ) d) ?_
  refine am_g 3 9 [some (.ref 14), some (.int 3), some (.int i), some (.int 3), some (.int j), some (.int n), some (.ref 45), none] [.int 3, .ref 14] (hG σ sr ln Lc μ) rfl ?_
  refine am_call (y := 129) (vs := [.ref 14, .int 3]) (rest := []) (v := (some (.ref 45))) (h1 := (hG σ sr ln Lc μ)) rfl rfl rfl (sp_X11_sheetAt_3 (σ := σ) (μ := μ) d) ?_
  refine am_g 6 29 [some (.ref 14), some (.int 3), some (.int i), some (.int 3), some (.int j), some (.int n), some (.ref 45), some (.ref 45)] [.ref 45] (hG σ sr ln Lc μ) rfl ?_
  refine am_call (y := 64) (vs := [.ref 45]) (rest := []) (v := (some (.int 0))) (h1 := (hG σ sr ln Lc μ)) rfl rfl rfl (sp_X8_isMissing_3n (σ := σ) (μ := μ) d h) ?_
  refine am_g 2 37 [some (.ref 14), some (.int 3), some (.int i), some (.int 3), some (.int j), some (.int n), some (.ref 45), some (.ref 45)] [.ref 45] (hG σ sr ln Lc μ) rfl ?_
  refine am_call (y := 64) (vs := [.ref 45]) (rest := []) (v := (some (.int 0))) (h1 := (hG σ sr ln Lc μ)) rfl rfl rfl (sp_X8_isMissing_3n (σ := σ) (μ := μ) d h) ?_
  refine am_g 6 (if (σ 60 0) = (σ 60 0) then 62 else 59) [some (.ref 14), some (.int 3), some (.int i), some (.int 3), some (.int j), some (.int n), some (.ref 45), some (.ref 45)] [] (hG σ sr ln Lc μ) rfl ?_
  rw [if_pos (show (σ 60 0) = (σ 60 0) from rfl)]
  refine am_g 3 67 [some (.ref 14), some (.int 3), some (.int i), some (.int 3), some (.int j), some (.int n), some (.ref 45), some (.ref 45)] [.int n, .int i, .ref 45] (hG σ sr ln Lc μ) rfl ?_
  cases e1 : pu_cv z i n with
  | false =>
    refine am_call (y := 66) (vs := [.ref 45, .int i, .int n]) (rest := []) (v := (some (.int 0))) (h1 := (hG σ sr ln Lc μ)) rfl rfl rfl (sp_X8_covers_3 (σ := σ) (μ := μ) d hz (by omega) _ _ e1) ?_
    refine am_g 2 87 [some (.ref 14), some (.int 3), some (.int i), some (.int 3), some (.int j), some (.int n), some (.ref 45), some (.ref 45)] [.int (-12)] (hG σ sr ln Lc μ) rfl ?_
    exact am_ret2 rfl rfl rfl rfl rfl
  | true =>
    refine am_call (y := 66) (vs := [.ref 45, .int i, .int n]) (rest := []) (v := (some (.int 1))) (h1 := (hG σ sr ln Lc μ)) rfl rfl rfl (sp_X8_covers_3 (σ := σ) (μ := μ) d hz (by omega) _ _ e1) ?_
    refine am_g 4 79 [some (.ref 14), some (.int 3), some (.int i), some (.int 3), some (.int j), some (.int n), some (.ref 45), some (.ref 45)] [.int n, .int j, .ref 45] (hG σ sr ln Lc μ) rfl ?_
    cases e2 : pu_cv z j n with
    | false =>
      refine am_call (y := 66) (vs := [.ref 45, .int j, .int n]) (rest := []) (v := (some (.int 0))) (h1 := (hG σ sr ln Lc μ)) rfl rfl rfl (sp_X8_covers_3 (σ := σ) (μ := μ) d hz (by omega) _ _ e2) ?_
      refine am_g 2 87 [some (.ref 14), some (.int 3), some (.int i), some (.int 3), some (.int j), some (.int n), some (.ref 45), some (.ref 45)] [.int (-12)] (hG σ sr ln Lc μ) rfl ?_
      exact am_ret2 rfl rfl rfl rfl rfl
    | true =>
      refine am_call (y := 66) (vs := [.ref 45, .int j, .int n]) (rest := []) (v := (some (.int 1))) (h1 := (hG σ sr ln Lc μ)) rfl rfl rfl (sp_X8_covers_3 (σ := σ) (μ := μ) d hz (by omega) _ _ e2) ?_
      refine am_g 1 88 [some (.ref 14), some (.int 3), some (.int i), some (.int 3), some (.int j), some (.int n), some (.ref 45), some (.ref 45)] [] (hG σ sr ln Lc μ) rfl ?_
      rw [e1, e2] at hc
      cases hc
theorem sp_X11_copy_33q (d : Nat) (a b c : Nat) (h : ¬ σ 60 0 = -1) {z : Nat} (hz : σ 61 0 = nI z) (hz40 : z ≤ 40) (hac : a + c ≤ z) (hbc : b + c ≤ z) (hc1 : pu_cv z (nI a) (nI c) = true) (hc2 : pu_cv z (nI b) (nI c) = true) : am_X xs LL (d + 2) 119 [.ref 14, .int 3, .int (nI a), .int 3, .int (nI b), .int (nI c)] (hG σ sr ln Lc μ) (some (.int (nI c))) (hG (am_up σ 59 (va_cpy (σ 59) (σ 59) a b c)) sr ln Lc μ) := by
  refine am_XR (d := d + 1) (C := cd_X11_copy) (L := [some (.ref 14), some (.int 3), some (.int (nI a)), some (.int 3), some (.int (nI b)), some (.int (nI c)), none, none]) rfl rfl rfl rfl ?_
  refine am_g 2 2 [some (.ref 14), some (.int 3), some (.int (nI a)), some (.int 3), some (.int (nI b)), some (.int (nI c)), none, none] [.int 3, .ref 14] (hG σ sr ln Lc μ) rfl ?_
  refine am_call (y := 129) (vs := [.ref 14, .int 3]) (rest := []) (v := (some (.ref 45))) (h1 := (hG σ sr ln Lc μ)) rfl rfl rfl (sp_X11_sheetAt_3 (σ := σ) (μ := μ) d) ?_
  refine am_g 3 9 [some (.ref 14), some (.int 3), some (.int (nI a)), some (.int 3), some (.int (nI b)), some (.int (nI c)), some (.ref 45), none] [.int 3, .ref 14] (hG σ sr ln Lc μ) rfl ?_
  refine am_call (y := 129) (vs := [.ref 14, .int 3]) (rest := []) (v := (some (.ref 45))) (h1 := (hG σ sr ln Lc μ)) rfl rfl rfl (sp_X11_sheetAt_3 (σ := σ) (μ := μ) d) ?_
  refine am_g 6 29 [some (.ref 14), some (.int 3), some (.int (nI a)), some (.int 3), some (.int (nI b)), some (.int (nI c)), some (.ref 45), some (.ref 45)] [.ref 45] (hG σ sr ln Lc μ) rfl ?_
  refine am_call (y := 64) (vs := [.ref 45]) (rest := []) (v := (some (.int 0))) (h1 := (hG σ sr ln Lc μ)) rfl rfl rfl (sp_X8_isMissing_3n (σ := σ) (μ := μ) d h) ?_
  refine am_g 2 37 [some (.ref 14), some (.int 3), some (.int (nI a)), some (.int 3), some (.int (nI b)), some (.int (nI c)), some (.ref 45), some (.ref 45)] [.ref 45] (hG σ sr ln Lc μ) rfl ?_
  refine am_call (y := 64) (vs := [.ref 45]) (rest := []) (v := (some (.int 0))) (h1 := (hG σ sr ln Lc μ)) rfl rfl rfl (sp_X8_isMissing_3n (σ := σ) (μ := μ) d h) ?_
  refine am_g 6 (if (σ 60 0) = (σ 60 0) then 62 else 59) [some (.ref 14), some (.int 3), some (.int (nI a)), some (.int 3), some (.int (nI b)), some (.int (nI c)), some (.ref 45), some (.ref 45)] [] (hG σ sr ln Lc μ) rfl ?_
  rw [if_pos (show (σ 60 0) = (σ 60 0) from rfl)]
  refine am_g 3 67 [some (.ref 14), some (.int 3), some (.int (nI a)), some (.int 3), some (.int (nI b)), some (.int (nI c)), some (.ref 45), some (.ref 45)] [.int (nI c), .int (nI a), .ref 45] (hG σ sr ln Lc μ) rfl ?_
  refine am_call (y := 66) (vs := [.ref 45, .int (nI a), .int (nI c)]) (rest := []) (v := (some (.int 1))) (h1 := (hG σ sr ln Lc μ)) rfl rfl rfl (sp_X8_covers_3 (σ := σ) (μ := μ) d hz (by omega) _ _ hc1) ?_
  refine am_g 4 79 [some (.ref 14), some (.int 3), some (.int (nI a)), some (.int 3), some (.int (nI b)), some (.int (nI c)), some (.ref 45), some (.ref 45)] [.int (nI c), .int (nI b), .ref 45] (hG σ sr ln Lc μ) rfl ?_
  refine am_call (y := 66) (vs := [.ref 45, .int (nI b), .int (nI c)]) (rest := []) (v := (some (.int 1))) (h1 := (hG σ sr ln Lc μ)) rfl rfl rfl (sp_X8_covers_3 (σ := σ) (μ := μ) d hz (by omega) _ _ hc2) ?_
  refine am_g 8 103 [some (.ref 14), some (.int 3), some (.int (nI a)), some (.int 3), some (.int (nI b)), some (.int (nI c)), some (.ref 45), some (.ref 45)] [.int (nI c), .int (nI b), .ref 46, .int (nI a), .ref 46] (hG σ sr ln Lc μ) rfl ?_
  refine am_acpR (f := (σ 59)) (g := (σ 59)) (a := a) (b := b) (c := c) (n0 := 40) (n1 := 40) (h1 := (hG (am_up σ 59 (va_cpy (σ 59) (σ 59) a b c)) sr ln Lc μ)) rfl rfl rfl rfl rfl rfl rfl (by omega) (by omega) (by decide) (by decide) rfl ?_
  refine am_g 1 108 [some (.ref 14), some (.int 3), some (.int (nI a)), some (.int 3), some (.int (nI b)), some (.int (nI c)), some (.ref 45), some (.ref 45)] [.int (nI c)] (hG (am_up σ 59 (va_cpy (σ 59) (σ 59) a b c)) sr ln Lc μ) rfl ?_
  exact am_ret2 rfl rfl rfl rfl rfl
theorem sp_X11_copy_bb (d : Nat) (q i t j n : Int32) (hq : am_in q 4 = false) (ht : am_in t 4 = false) : am_X xs LL (d + 2) 119 [.ref 14, .int q, .int i, .int t, .int j, .int n] (hG σ sr ln Lc μ) (some (.int (-2))) (hG σ sr ln Lc μ) := by
  refine am_XR (d := d + 1) (C := cd_X11_copy) (L := [some (.ref 14), some (.int q), some (.int i), some (.int t), some (.int j), some (.int n), none, none]) rfl rfl rfl rfl ?_
  refine am_g 2 2 [some (.ref 14), some (.int q), some (.int i), some (.int t), some (.int j), some (.int n), none, none] [.int q, .ref 14] (hG σ sr ln Lc μ) rfl ?_
  refine am_call (y := 129) (vs := [.ref 14, .int q]) (rest := []) (v := (some (.null))) (h1 := (hG σ sr ln Lc μ)) rfl rfl rfl (sp_X11_sheetAt_no (σ := σ) (μ := μ) d _ hq) ?_
  refine am_g 3 9 [some (.ref 14), some (.int q), some (.int i), some (.int t), some (.int j), some (.int n), some (.null), none] [.int t, .ref 14] (hG σ sr ln Lc μ) rfl ?_
  refine am_call (y := 129) (vs := [.ref 14, .int t]) (rest := []) (v := (some (.null))) (h1 := (hG σ sr ln Lc μ)) rfl rfl rfl (sp_X11_sheetAt_no (σ := σ) (μ := μ) d _ ht) ?_
  refine am_g 4 26 [some (.ref 14), some (.int q), some (.int i), some (.int t), some (.int j), some (.int n), some (.null), some (.null)] [.int (-2)] (hG σ sr ln Lc μ) rfl ?_
  exact am_ret2 rfl rfl rfl rfl rfl
theorem sp_X11_sheet_no (d : Nat) (q k n : Int32) (hq : am_in q 4 = false) : am_X xs LL (d + 2) 117 [.ref 14, .int q, .int k, .int n] (hG σ sr ln Lc μ) (some (.int (-2))) (hG σ sr ln Lc μ) := by
  refine am_XR (d := d + 1) (C := cd_X11_sheet) (L := [some (.ref 14), some (.int q), some (.int k), some (.int n), none]) rfl rfl rfl rfl ?_
  refine am_g 2 2 [some (.ref 14), some (.int q), some (.int k), some (.int n), none] [.int q, .ref 14] (hG σ sr ln Lc μ) rfl ?_
  refine am_call (y := 129) (vs := [.ref 14, .int q]) (rest := []) (v := (some (.null))) (h1 := (hG σ sr ln Lc μ)) rfl rfl rfl (sp_X11_sheetAt_no (σ := σ) (μ := μ) d _ hq) ?_
  refine am_g 4 23 [some (.ref 14), some (.int q), some (.int k), some (.int n), some (.null)] [.int (-2)] (hG σ sr ln Lc μ) rfl ?_
  exact am_ret2 rfl rfl rfl rfl rfl
theorem sp_X11_cell_no (d : Nat) (q i v : Int32) (hq : am_in q 4 = false) : am_X xs LL (d + 2) 118 [.ref 14, .int q, .int i, .int v] (hG σ sr ln Lc μ) (some (.int (-2))) (hG σ sr ln Lc μ) := by
  refine am_XR (d := d + 1) (C := cd_X11_cell) (L := [some (.ref 14), some (.int q), some (.int i), some (.int v), none]) rfl rfl rfl rfl ?_
  refine am_g 2 2 [some (.ref 14), some (.int q), some (.int i), some (.int v), none] [.int q, .ref 14] (hG σ sr ln Lc μ) rfl ?_
  refine am_call (y := 129) (vs := [.ref 14, .int q]) (rest := []) (v := (some (.null))) (h1 := (hG σ sr ln Lc μ)) rfl rfl rfl (sp_X11_sheetAt_no (σ := σ) (μ := μ) d _ hq) ?_
  refine am_g 4 14 [some (.ref 14), some (.int q), some (.int i), some (.int v), some (.null)] [.int (-2)] (hG σ sr ln Lc μ) rfl ?_
  exact am_ret2 rfl rfl rfl rfl rfl
theorem sp_X11_taped_no (d : Nat) (q k a n : Int32) (hq : am_in q 4 = false) : am_X xs LL (d + 2) 120 [.ref 14, .int q, .int k, .int a, .int n] (hG σ sr ln Lc μ) (some (.int (-2))) (hG σ sr ln Lc μ) := by
  refine am_XR (d := d + 1) (C := cd_X11_taped) (L := [some (.ref 14), some (.int q), some (.int k), some (.int a), some (.int n), none, none]) rfl rfl rfl rfl ?_
  refine am_g 2 2 [some (.ref 14), some (.int q), some (.int k), some (.int a), some (.int n), none, none] [.int q, .ref 14] (hG σ sr ln Lc μ) rfl ?_
  refine am_call (y := 129) (vs := [.ref 14, .int q]) (rest := []) (v := (some (.null))) (h1 := (hG σ sr ln Lc μ)) rfl rfl rfl (sp_X11_sheetAt_no (σ := σ) (μ := μ) d _ hq) ?_
  refine am_g 4 34 [some (.ref 14), some (.int q), some (.int k), some (.int a), some (.int n), some (.null), none] [.int (-2)] (hG σ sr ln Lc μ) rfl ?_
  exact am_ret2 rfl rfl rfl rfl rfl
def pu_fb (w : Int64) (i : Nat) : Int32 := (w.toUInt64 >>> ((8 * nI i).toInt64.toUInt64 &&& Int64.toUInt64 63)).toInt64.toInt32 &&& 255
theorem sp_X11_feed_bad (d : Nat) (n : Int32) (w : Int64) (hb : decide ((1 : Int32) ≤ n ∧ n ≤ 8) = false) : am_X xs LL (d + 2) 93 [.ref 14, .int n, .long w] (hG σ sr ln Lc μ) (some (.int (-2))) (hG σ sr ln Lc μ) := by
  refine am_XR (d := d + 1) (C := cd_X11_feed) (L := [some (.ref 14), some (.int n), some (.long w), none, none]) rfl rfl rfl rfl ?_
  refine am_g 3 4 [some (.ref 14), some (.int n), some (.long w), none, none] [.int 8, .int 1, .int n] (hG σ sr ln Lc μ) rfl ?_
  refine am_call (y := 122) (vs := [.int n, .int 1, .int 8]) (rest := []) (v := (some (.int 0))) (h1 := (hG σ sr ln Lc μ)) rfl rfl rfl (sp_X11_isWithin_b d _ _ _ _ hb) ?_
  refine am_g 2 12 [some (.ref 14), some (.int n), some (.long w), none, none] [.int (-2)] (hG σ sr ln Lc μ) rfl ?_
  exact am_ret2 rfl rfl rfl rfl rfl
theorem sp_X11_feed_full (d : Nat) (n : Nat) (w : Int64) (h1 : 1 ≤ n) (h8 : n ≤ 8) {T : Nat} (hT : σ 8 0 = nI T) (hT20 : T ≤ 20) (hr : 20 < T + n) : am_X xs LL (d + 2) 93 [.ref 14, .int (nI n), .long w] (hG σ sr ln Lc μ) (some (.int (-4))) (hG σ sr ln Lc μ) := by
  refine am_XR (d := d + 1) (C := cd_X11_feed) (L := [some (.ref 14), some (.int (nI n)), some (.long w), none, none]) rfl rfl rfl rfl ?_
  refine am_g 3 4 [some (.ref 14), some (.int (nI n)), some (.long w), none, none] [.int 8, .int 1, .int (nI n)] (hG σ sr ln Lc μ) rfl ?_
  refine am_call (y := 122) (vs := [.int (nI n), .int 1, .int 8]) (rest := []) (v := (some (.int 1))) (h1 := (hG σ sr ln Lc μ)) rfl rfl rfl (sp_X11_isWithin_b d _ _ _ _ (am_wiN (a := 1) (b := 8) h1 h8 (by decide))) ?_
  refine am_g 4 18 [some (.ref 14), some (.int (nI n)), some (.long w), none, none] [.int (nI n), .ref 20] (hG σ sr ln Lc μ) rfl ?_
  refine am_call (y := 70) (vs := [.ref 20, .int (nI n)]) (rest := []) (v := (some (.int 0))) (h1 := (hG σ sr ln Lc μ)) rfl rfl rfl (sp_X9_hasRoom_n (σ := σ) (μ := μ) d hT hT20 _ (by omega) hr) ?_
  refine am_g 2 26 [some (.ref 14), some (.int (nI n)), some (.long w), none, none] [.int (-4)] (hG σ sr ln Lc μ) rfl ?_
  exact am_ret2 rfl rfl rfl rfl rfl
theorem sp_X11_feed_ok (d : Nat) (n : Nat) (w : Int64) (h1 : 1 ≤ n) (h8 : n ≤ 8) {T : Nat} (hT : σ 8 0 = nI T) (hT20 : T ≤ 20) (hr : T + n ≤ 20) : am_X xs LL (d + 2) 93 [.ref 14, .int (nI n), .long w] (hG σ sr ln Lc μ) (some (.int (nI (T + n)))) (hG (am_us (am_up σ 7 (am_fill (fun k => pu_fb w (k - T)) (σ 7) (T + n) T)) 8 (nI (T + n))) sr ln Lc μ) := by
  refine am_XR (d := d + 1) (C := cd_X11_feed) (L := [some (.ref 14), some (.int (nI n)), some (.long w), none, none]) rfl rfl rfl rfl ?_
  refine am_g 3 4 [some (.ref 14), some (.int (nI n)), some (.long w), none, none] [.int 8, .int 1, .int (nI n)] (hG σ sr ln Lc μ) rfl ?_
  refine am_call (y := 122) (vs := [.int (nI n), .int 1, .int 8]) (rest := []) (v := (some (.int 1))) (h1 := (hG σ sr ln Lc μ)) rfl rfl rfl (sp_X11_isWithin_b d _ _ _ _ (am_wiN (a := 1) (b := 8) h1 h8 (by decide))) ?_
  refine am_g 4 18 [some (.ref 14), some (.int (nI n)), some (.long w), none, none] [.int (nI n), .ref 20] (hG σ sr ln Lc μ) rfl ?_
  refine am_call (y := 70) (vs := [.ref 20, .int (nI n)]) (rest := []) (v := (some (.int 1))) (h1 := (hG σ sr ln Lc μ)) rfl rfl rfl (sp_X9_hasRoom_y (σ := σ) (μ := μ) d hT hT20 _ hr) ?_
  refine am_g 3 30 [some (.ref 14), some (.int (nI n)), some (.long w), none, some (.int 0)] [] (hG σ sr ln Lc μ) rfl ?_
  have lp : ∀ (r i : Nat), i + r = n → am_R xs LL cd_X11_feed (am_X xs LL (d + 1)) 30 [some (.ref 14), some (.int (nI n)), some (.long w), none, some (.int (nI i))] [] (hG (am_us (am_up σ 7 (am_fill (fun k => pu_fb w (k - T)) (σ 7) (T + i) T)) 8 (nI (T + i))) sr ln Lc μ) (some (.int (nI (T + n)))) (hG (am_us (am_up σ 7 (am_fill (fun k => pu_fb w (k - T)) (σ 7) (T + n) T)) 8 (nI (T + n))) sr ln Lc μ) := by
    intro r
    induction r with
    | zero =>
      intro i  hi
      have hi2 : i = n := by omega
      rw [hi2]
      refine am_g 3 (if (nI n) ≤ (nI n) then 57 else 36) [some (.ref 14), some (.int (nI n)), some (.long w), none, some (.int (nI n))] [] (hG (am_us (am_up σ 7 (am_fill (fun k => pu_fb w (k - T)) (σ 7) (T + n) T)) 8 (nI (T + n))) sr ln Lc μ) rfl ?_
      rw [if_pos (show (nI n) ≤ (nI n) from (am_dle (a := n) (b := n) (rfl) (rfl) (by omega) (by omega) (by omega)))]
      refine am_g 3 64 [some (.ref 14), some (.int (nI n)), some (.long w), none, some (.int (nI n))] [.int (nI (T + n))] (hG (am_us (am_up σ 7 (am_fill (fun k => pu_fb w (k - T)) (σ 7) (T + n) T)) 8 (nI (T + n))) sr ln Lc μ) rfl ?_
      exact am_ret2 rfl rfl rfl rfl rfl
    | succ r ih =>
      intro i  hi
      have hi2 : i < n := by omega
      refine am_g 3 (if (nI n) ≤ (nI i) then 57 else 36) [some (.ref 14), some (.int (nI n)), some (.long w), none, some (.int (nI i))] [] (hG (am_us (am_up σ 7 (am_fill (fun k => pu_fb w (k - T)) (σ 7) (T + i) T)) 8 (nI (T + i))) sr ln Lc μ) rfl ?_
      rw [if_neg (show ¬ (nI n) ≤ (nI i) from (am_dnle (a := n) (b := i) (rfl) (rfl) (by omega) (by omega) (by omega)))]
      refine am_g 8 48 [some (.ref 14), some (.int (nI n)), some (.long w), none, some (.int (nI i))] [.int (((w.toUInt64 >>> ((8 * (nI i)).toInt64.toUInt64 &&& Int64.toUInt64 63)).toInt64).toInt32), .ref 20] (hG (am_us (am_up σ 7 (am_fill (fun k => pu_fb w (k - T)) (σ 7) (T + i) T)) 8 (nI (T + i))) sr ln Lc μ) rfl ?_
      refine am_call (y := 71) (vs := [.ref 20, .int (((w.toUInt64 >>> ((8 * (nI i)).toInt64.toUInt64 &&& Int64.toUInt64 63)).toInt64).toInt32)]) (rest := []) (v := none) (h1 := (hG (am_us (am_up σ 7 (upd (am_fill (fun k => pu_fb w (k - T)) (σ 7) (T + i) T) (T + i) ((((w.toUInt64 >>> ((8 * (nI i)).toInt64.toUInt64 &&& Int64.toUInt64 63)).toInt64).toInt32) &&& 255))) 8 (nI ((T + i) + 1))) sr ln Lc μ)) rfl rfl rfl (sp_X9_push (σ := (am_us (am_up σ 7 (am_fill (fun k => pu_fb w (k - T)) (σ 7) (T + i) T)) 8 (nI (T + i)))) (μ := μ) d (T := T + i) rfl (by omega) _) ?_
      refine am_g 2 30 [some (.ref 14), some (.int (nI n)), some (.long w), none, some (.int ((nI i) + 1))] [] (hG (am_us (am_up σ 7 (upd (am_fill (fun k => pu_fb w (k - T)) (σ 7) (T + i) T) (T + i) ((((w.toUInt64 >>> ((8 * (nI i)).toInt64.toUInt64 &&& Int64.toUInt64 63)).toInt64).toInt32) &&& 255))) 8 (nI ((T + i) + 1))) sr ln Lc μ) rfl ?_
      rw [nI_up, show (upd (am_fill (fun k => pu_fb w (k - T)) (σ 7) (T + i) T) (T + i) ((((w.toUInt64 >>> ((8 * (nI i)).toInt64.toUInt64 &&& Int64.toUInt64 63)).toInt64).toInt32) &&& 255)) = (am_fill (fun k => pu_fb w (k - T)) (σ 7) (T + (i + 1)) T) from (pu_fillT (g := fun k => pu_fb w (k - T)) (f := σ 7) T i (by show _ = pu_fb w (T + i - T); rw [Nat.add_sub_cancel_left]; rfl))]
      exact ih (i + 1) (by omega)
  have e := lp n 0 (by omega)
  rw [show T + 0 = T from rfl, pu_fillTT, ← hT, am_up_id, am_us_id] at e
  exact e
end SH
