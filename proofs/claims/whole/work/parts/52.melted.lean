/-! melted -/
def pu_flS (f t : Nat) (sr : Nat → Nat) (ln : Nat → Nat → Int32) (Lc : Nat) (i : Nat) (a : Int32) : Int32 := if i < Lc then (if ln i 6 = 0 then a else if sr i = 0 then (bif am_hb a (ln i f).toNatClampNeg then a ||| 1 <<< (ln i t &&& 31) else a) else a) else a
def pu_flP (f t : Nat) (sr : Nat → Nat) (ln : Nat → Nat → Int32) (Lc : Nat) (_r : Nat) (a : Int32) : Int32 := am_it (pu_flS f t sr ln Lc) a 40
section ME
variable {xs : Nat → Int32} {LL : Nat} {σ μ τ ν : Nat → Nat → Int32} {sr : Nat → Nat} {ln : Nat → Nat → Int32} {Lc O : Nat}
theorem sp_X11_flowFrom_f (d : Nat) (hsr : ∀ i, i < Lc → sr i < 6) (hwl : ∀ i, i < Lc → am_wl (sr i) (ln i)) (n : Nat) (hn : n < 20) (k : Nat) (hk19 : k < 20) (hrun : ∀ r, r < k → ¬ (am_it (pu_flP 1 0 sr ln Lc) (1 <<< (nI n &&& 31)) (r + 1)) = (am_it (pu_flP 1 0 sr ln Lc) (1 <<< (nI n &&& 31)) r)) (hk : (am_it (pu_flP 1 0 sr ln Lc) (1 <<< (nI n &&& 31)) (k + 1)) = (am_it (pu_flP 1 0 sr ln Lc) (1 <<< (nI n &&& 31)) k)) : am_X xs LL (d + 2) 136 [.ref 14, .int (nI n), .int 1] (hG σ sr ln Lc μ) (some (.int (am_it (pu_flP 1 0 sr ln Lc) (1 <<< (nI n &&& 31)) k))) (hG σ sr ln Lc μ) := by
  refine am_XR (d := d + 1) (C := cd_X11_flowFrom) (L := [some (.ref 14), some (.int (nI n)), some (.int 1), none, none, none, none, none, none, none, none, none, none]) rfl rfl rfl rfl ?_
  refine am_g 8 10 [some (.ref 14), some (.int (nI n)), some (.int 1), some (.int (1 <<< ((nI n) &&& 31))), some (.int 1), some (.int 0), none, none, none, none, none, none, none] [] (hG σ sr ln Lc μ) rfl ?_
  have lpo : ∀ (q r : Nat) (w0 : Option Value) (w1 : Option Value) (w2 : Option Value) (w3 : Option Value) (w4 : Option Value) (w5 : Option Value) (w6 : Option Value), r + q = k → am_R xs LL cd_X11_flowFrom (am_X xs LL (d + 1)) 10 [some (.ref 14), some (.int (nI n)), some (.int 1), some (.int (am_it (pu_flP 1 0 sr ln Lc) (1 <<< (nI n &&& 31)) r)), some (.int 1), some (.int (nI r)), w0, w1, w2, w3, w4, w5, w6] [] (hG σ sr ln Lc μ) (some (.int (am_it (pu_flP 1 0 sr ln Lc) (1 <<< (nI n &&& 31)) k))) (hG σ sr ln Lc μ) := by
    intro q
    induction q with
    | zero =>
      intro r w0 w1 w2 w3 w4 w5 w6 hr
      have hr2 : r = k := by omega
      refine am_g 5 (if 20 ≤ (nI r) then 157 else 22) [some (.ref 14), some (.int (nI n)), some (.int 1), some (.int (am_it (pu_flP 1 0 sr ln Lc) (1 <<< (nI n &&& 31)) r)), some (.int 1), some (.int (nI r)), w0, w1, w2, w3, w4, w5, w6] [] (hG σ sr ln Lc μ) rfl ?_
      rw [if_neg (show ¬ 20 ≤ (nI r) from (am_dnle (a := 20) (b := r) (rfl) (rfl) (by omega) (by omega) (by omega)))]
      refine am_g 10 39 [some (.ref 14), some (.int (nI n)), some (.int 1), some (.int (am_it (pu_flP 1 0 sr ln Lc) (1 <<< (nI n &&& 31)) r)), some (.int 1), some (.int (nI r)), some (.int (am_it (pu_flP 1 0 sr ln Lc) (1 <<< (nI n &&& 31)) r)), some (.ref 22), some (.int 40), some (.int 0), w4, w5, w6] [] (hG σ sr ln Lc μ) rfl ?_
      have lpb : ∀ (rb i : Nat) (v0 : Option Value) (v1 : Option Value) (v2 : Option Value), i + rb = 40 → am_R xs LL cd_X11_flowFrom (am_X xs LL (d + 1)) 39 [some (.ref 14), some (.int (nI n)), some (.int 1), some (.int (am_it (pu_flS 1 0 sr ln Lc) (am_it (pu_flP 1 0 sr ln Lc) (1 <<< (nI n &&& 31)) r) i)), some (.int 1), some (.int (nI r)), some (.int (am_it (pu_flP 1 0 sr ln Lc) (1 <<< (nI n &&& 31)) r)), some (.ref 22), some (.int 40), some (.int (nI i)), v0, v1, v2] [] (hG σ sr ln Lc μ) (some (.int (am_it (pu_flP 1 0 sr ln Lc) (1 <<< (nI n &&& 31)) k))) (hG σ sr ln Lc μ) := by
        intro rb
        induction rb with
        | zero =>
          intro i v0 v1 v2 hib
          have hi2b : i = 40 := by omega
          rw [hi2b]
          refine am_g 3 (if 40 ≤ (nI 40) then 138 else 46) [some (.ref 14), some (.int (nI n)), some (.int 1), some (.int (am_it (pu_flS 1 0 sr ln Lc) (am_it (pu_flP 1 0 sr ln Lc) (1 <<< (nI n &&& 31)) r) 40)), some (.int 1), some (.int (nI r)), some (.int (am_it (pu_flP 1 0 sr ln Lc) (1 <<< (nI n &&& 31)) r)), some (.ref 22), some (.int 40), some (.int (nI 40)), v0, v1, v2] [] (hG σ sr ln Lc μ) rfl ?_
          rw [if_pos (show 40 ≤ (nI 40) from (am_dle (a := 40) (b := 40) (rfl) (rfl) (by omega) (by omega) (by omega)))]
          refine am_g 3 (if (am_it (pu_flS 1 0 sr ln Lc) (am_it (pu_flP 1 0 sr ln Lc) (1 <<< (nI n &&& 31)) r) 40) = (am_it (pu_flP 1 0 sr ln Lc) (1 <<< (nI n &&& 31)) r) then 148 else 144) [some (.ref 14), some (.int (nI n)), some (.int 1), some (.int (am_it (pu_flS 1 0 sr ln Lc) (am_it (pu_flP 1 0 sr ln Lc) (1 <<< (nI n &&& 31)) r) 40)), some (.int 1), some (.int (nI r)), some (.int (am_it (pu_flP 1 0 sr ln Lc) (1 <<< (nI n &&& 31)) r)), some (.ref 22), some (.int 40), some (.int (nI 40)), v0, v1, v2] [] (hG σ sr ln Lc μ) rfl ?_
          rw [if_pos (show (am_it (pu_flS 1 0 sr ln Lc) (am_it (pu_flP 1 0 sr ln Lc) (1 <<< (nI n &&& 31)) r) 40) = (am_it (pu_flP 1 0 sr ln Lc) (1 <<< (nI n &&& 31)) r) from (by rw [hr2]; exact hk))]
          refine am_g 4 10 [some (.ref 14), some (.int (nI n)), some (.int 1), some (.int (am_it (pu_flS 1 0 sr ln Lc) (am_it (pu_flP 1 0 sr ln Lc) (1 <<< (nI n &&& 31)) r) 40)), some (.int 0), some (.int ((nI r) + 1)), some (.int (am_it (pu_flP 1 0 sr ln Lc) (1 <<< (nI n &&& 31)) r)), some (.ref 22), some (.int 40), some (.int (nI 40)), v0, v1, v2] [] (hG σ sr ln Lc μ) rfl ?_
          rw [nI_up]
          show am_R xs LL cd_X11_flowFrom (am_X xs LL (d + 1)) 10 [some (.ref 14), some (.int (nI n)), some (.int 1), some (.int (am_it (pu_flP 1 0 sr ln Lc) (1 <<< (nI n &&& 31)) (r + 1))), some (.int 0), some (.int (nI (r + 1))), some (.int (am_it (pu_flP 1 0 sr ln Lc) (1 <<< (nI n &&& 31)) r)), some (.ref 22), some (.int 40), some (.int (nI 40)), v0, v1, v2] [] (hG σ sr ln Lc μ) _ _
          refine am_g 3 158 [some (.ref 14), some (.int (nI n)), some (.int 1), some (.int (am_it (pu_flP 1 0 sr ln Lc) (1 <<< (nI n &&& 31)) (r + 1))), some (.int 0), some (.int (nI (r + 1))), some (.int (am_it (pu_flP 1 0 sr ln Lc) (1 <<< (nI n &&& 31)) r)), some (.ref 22), some (.int 40), some (.int (nI 40)), v0, v1, v2] [.int (am_it (pu_flP 1 0 sr ln Lc) (1 <<< (nI n &&& 31)) (r + 1))] (hG σ sr ln Lc μ) rfl ?_
          exact am_ret2 rfl rfl rfl (by rw [hr2, hk]) rfl
        | succ rb ihb =>
          intro i v0 v1 v2 hib
          have hi2b : i < 40 := by omega
          by_cases hL2 : i < Lc
          · skip
            refine am_g 3 (if 40 ≤ (nI i) then 138 else 46) [some (.ref 14), some (.int (nI n)), some (.int 1), some (.int (am_it (pu_flS 1 0 sr ln Lc) (am_it (pu_flP 1 0 sr ln Lc) (1 <<< (nI n &&& 31)) r) i)), some (.int 1), some (.int (nI r)), some (.int (am_it (pu_flP 1 0 sr ln Lc) (1 <<< (nI n &&& 31)) r)), some (.ref 22), some (.int 40), some (.int (nI i)), v0, v1, v2] [] (hG σ sr ln Lc μ) rfl ?_
            rw [if_neg (show ¬ 40 ≤ (nI i) from (am_dnle (a := 40) (b := i) (rfl) (rfl) (by omega) (by omega) (by omega)))]
            refine am_g 2 50 [some (.ref 14), some (.int (nI n)), some (.int 1), some (.int (am_it (pu_flS 1 0 sr ln Lc) (am_it (pu_flP 1 0 sr ln Lc) (1 <<< (nI n &&& 31)) r) i)), some (.int 1), some (.int (nI r)), some (.int (am_it (pu_flP 1 0 sr ln Lc) (1 <<< (nI n &&& 31)) r)), some (.ref 22), some (.int 40), some (.int (nI i)), v0, v1, v2] [.int (nI i), .ref 22] (hG σ sr ln Lc μ) rfl ?_
            refine am_laldR (k := i) rfl (rfl) (hL2) (by omega) ?_
            refine am_g 2 55 [some (.ref 14), some (.int (nI n)), some (.int 1), some (.int (am_it (pu_flS 1 0 sr ln Lc) (am_it (pu_flP 1 0 sr ln Lc) (1 <<< (nI n &&& 31)) r) i)), some (.int 1), some (.int (nI r)), some (.int (am_it (pu_flP 1 0 sr ln Lc) (1 <<< (nI n &&& 31)) r)), some (.ref 22), some (.int 40), some (.int (nI i)), some (.ref (75 + i)), v1, v2] [.ref (75 + i)] (hG σ sr ln Lc μ) rfl ?_
            refine am_lnnR rfl _ ?_
            refine am_g 1 60 [some (.ref 14), some (.int (nI n)), some (.int 1), some (.int (am_it (pu_flS 1 0 sr ln Lc) (am_it (pu_flP 1 0 sr ln Lc) (1 <<< (nI n &&& 31)) r) i)), some (.int 1), some (.int (nI r)), some (.int (am_it (pu_flP 1 0 sr ln Lc) (1 <<< (nI n &&& 31)) r)), some (.ref 22), some (.int 40), some (.int (nI i)), some (.ref (75 + i)), v1, v2] [.ref (75 + i)] (hG σ sr ln Lc μ) rfl ?_
            refine am_lgetR (i := i) (k := 6) rfl hL2 (by decide) (am_lkx (by decide) (hsr _ hL2)) ?_
            refine am_g 1 (if (ln i 6) = 0 then 132 else 66) [some (.ref 14), some (.int (nI n)), some (.int 1), some (.int (am_it (pu_flS 1 0 sr ln Lc) (am_it (pu_flP 1 0 sr ln Lc) (1 <<< (nI n &&& 31)) r) i)), some (.int 1), some (.int (nI r)), some (.int (am_it (pu_flP 1 0 sr ln Lc) (1 <<< (nI n &&& 31)) r)), some (.ref 22), some (.int 40), some (.int (nI i)), some (.ref (75 + i)), v1, v2] [] (hG σ sr ln Lc μ) rfl (am_brR (fun c1 => ?_) (fun c1 => ?_))
            · skip
              refine am_g 2 39 [some (.ref 14), some (.int (nI n)), some (.int 1), some (.int (am_it (pu_flS 1 0 sr ln Lc) (am_it (pu_flP 1 0 sr ln Lc) (1 <<< (nI n &&& 31)) r) i)), some (.int 1), some (.int (nI r)), some (.int (am_it (pu_flP 1 0 sr ln Lc) (1 <<< (nI n &&& 31)) r)), some (.ref 22), some (.int 40), some (.int ((nI i) + 1)), some (.ref (75 + i)), v1, v2] [] (hG σ sr ln Lc μ) rfl ?_
              have qq : (am_it (pu_flS 1 0 sr ln Lc) (am_it (pu_flP 1 0 sr ln Lc) (1 <<< (nI n &&& 31)) r) (i + 1)) = (am_it (pu_flS 1 0 sr ln Lc) (am_it (pu_flP 1 0 sr ln Lc) (1 <<< (nI n &&& 31)) r) i) := by
                rw [am_itS]
                exact (if_pos hL2).trans (if_pos c1)
              rw [nI_up, ← qq]
              exact ihb (i + 1) _ _ _ (by omega)
            · skip
              refine am_g 1 68 [some (.ref 14), some (.int (nI n)), some (.int 1), some (.int (am_it (pu_flS 1 0 sr ln Lc) (am_it (pu_flP 1 0 sr ln Lc) (1 <<< (nI n &&& 31)) r) i)), some (.int 1), some (.int (nI r)), some (.int (am_it (pu_flP 1 0 sr ln Lc) (1 <<< (nI n &&& 31)) r)), some (.ref 22), some (.int 40), some (.int (nI i)), some (.ref (75 + i)), v1, v2] [.ref (75 + i)] (hG σ sr ln Lc μ) rfl ?_
              refine am_call (y := ([13, 8, 46, 82, 1, 41].getD (sr i) 0)) (vs := [.ref (75 + i)]) (rest := []) (v := (some (.int (nI (sr i))))) (h1 := (hG σ sr ln Lc μ)) rfl rfl (am_tgtL (i := i) rfl rfl hL2 (am_lk (f := fun s => [13, 8, 46, 82, 1, 41].getD s 0) (by decide) (hsr _ hL2)) rfl rfl) (sp_v_sort (σ := σ) (μ := μ) d i hL2 (hsr _ hL2)) ?_
              refine am_g 1 (if (nI (sr i)) = 0 then 74 else 132) [some (.ref 14), some (.int (nI n)), some (.int 1), some (.int (am_it (pu_flS 1 0 sr ln Lc) (am_it (pu_flP 1 0 sr ln Lc) (1 <<< (nI n &&& 31)) r) i)), some (.int 1), some (.int (nI r)), some (.int (am_it (pu_flP 1 0 sr ln Lc) (1 <<< (nI n &&& 31)) r)), some (.ref 22), some (.int 40), some (.int (nI i)), some (.ref (75 + i)), v1, v2] [] (hG σ sr ln Lc μ) rfl (am_brR (fun c2 => ?_) (fun c2 => ?_))
              · skip
                have s0 : sr i = 0 := nI_s4 (hsr i hL2) (c2.trans nI_0.symm)
                obtain ⟨x, hx, hx1⟩ := (hwl i hL2).1
                obtain ⟨y, hy, hy1⟩ := (hwl i hL2).2.2.1 (by rw [s0]; decide)
                refine am_g 3 80 [some (.ref 14), some (.int (nI n)), some (.int 1), some (.int (am_it (pu_flS 1 0 sr ln Lc) (am_it (pu_flP 1 0 sr ln Lc) (1 <<< (nI n &&& 31)) r) i)), some (.int 1), some (.int (nI r)), some (.int (am_it (pu_flP 1 0 sr ln Lc) (1 <<< (nI n &&& 31)) r)), some (.ref 22), some (.int 40), some (.int (nI i)), some (.ref (75 + i)), v1, v2] [.ref (75 + i)] (hG σ sr ln Lc μ) rfl ?_
                refine am_lgetR (i := i) (k := 1) rfl hL2 (by decide) (am_lkx (by decide) (hsr _ hL2)) ?_
                refine am_g 5 99 [some (.ref 14), some (.int (nI n)), some (.int 1), some (.int (am_it (pu_flS 1 0 sr ln Lc) (am_it (pu_flP 1 0 sr ln Lc) (1 <<< (nI n &&& 31)) r) i)), some (.int 1), some (.int (nI r)), some (.int (am_it (pu_flP 1 0 sr ln Lc) (1 <<< (nI n &&& 31)) r)), some (.ref 22), some (.int 40), some (.int (nI i)), some (.ref (75 + i)), some (.int (ln i 1)), v2] [.ref (75 + i)] (hG σ sr ln Lc μ) rfl ?_
                refine am_lgetR (i := i) (k := 0) rfl hL2 (by decide) (am_lkx (by decide) (hsr _ hL2)) ?_
                refine am_g 5 116 [some (.ref 14), some (.int (nI n)), some (.int 1), some (.int (am_it (pu_flS 1 0 sr ln Lc) (am_it (pu_flP 1 0 sr ln Lc) (1 <<< (nI n &&& 31)) r) i)), some (.int 1), some (.int (nI r)), some (.int (am_it (pu_flP 1 0 sr ln Lc) (1 <<< (nI n &&& 31)) r)), some (.ref 22), some (.int 40), some (.int (nI i)), some (.ref (75 + i)), some (.int (ln i 1)), some (.int (ln i 0))] [.int (ln i 1), .int (am_it (pu_flS 1 0 sr ln Lc) (am_it (pu_flP 1 0 sr ln Lc) (1 <<< (nI n &&& 31)) r) i), .int (am_it (pu_flS 1 0 sr ln Lc) (am_it (pu_flP 1 0 sr ln Lc) (1 <<< (nI n &&& 31)) r) i)] (hG σ sr ln Lc μ) rfl ?_
                cases e3 : am_hb (am_it (pu_flS 1 0 sr ln Lc) (am_it (pu_flP 1 0 sr ln Lc) (1 <<< (nI n &&& 31)) r) i) y with
                | false =>
                  refine am_call (y := 126) (vs := [.int (am_it (pu_flS 1 0 sr ln Lc) (am_it (pu_flP 1 0 sr ln Lc) (1 <<< (nI n &&& 31)) r) i), .int (ln i 1)]) (rest := [.int (am_it (pu_flS 1 0 sr ln Lc) (am_it (pu_flP 1 0 sr ln Lc) (1 <<< (nI n &&& 31)) r) i)]) (v := (some (.int 0))) (h1 := (hG σ sr ln Lc μ)) rfl rfl rfl (sp_X11_hasBit_v d _ _ _ hy1 _ e3) ?_
                  refine am_g 6 39 [some (.ref 14), some (.int (nI n)), some (.int 1), some (.int ((am_it (pu_flS 1 0 sr ln Lc) (am_it (pu_flP 1 0 sr ln Lc) (1 <<< (nI n &&& 31)) r) i) ||| 0)), some (.int 1), some (.int (nI r)), some (.int (am_it (pu_flP 1 0 sr ln Lc) (1 <<< (nI n &&& 31)) r)), some (.ref 22), some (.int 40), some (.int ((nI i) + 1)), some (.ref (75 + i)), some (.int (ln i 1)), some (.int (ln i 0))] [] (hG σ sr ln Lc μ) rfl ?_
                  have qq : (am_it (pu_flS 1 0 sr ln Lc) (am_it (pu_flP 1 0 sr ln Lc) (1 <<< (nI n &&& 31)) r) (i + 1)) = ((am_it (pu_flS 1 0 sr ln Lc) (am_it (pu_flP 1 0 sr ln Lc) (1 <<< (nI n &&& 31)) r) i) ||| 0) := by
                    rw [am_itS]
                    refine (if_pos hL2).trans ((if_neg c1).trans ((if_pos s0).trans ?_))
                    rw [show (ln i 1).toNatClampNeg = y from by rw [hy1, nI_clamp (by omega)], e3]
                    exact (am_or0 _).symm
                  rw [nI_up, ← qq]
                  exact ihb (i + 1) _ _ _ (by omega)
                | true =>
                  refine am_call (y := 126) (vs := [.int (am_it (pu_flS 1 0 sr ln Lc) (am_it (pu_flP 1 0 sr ln Lc) (1 <<< (nI n &&& 31)) r) i), .int (ln i 1)]) (rest := [.int (am_it (pu_flS 1 0 sr ln Lc) (am_it (pu_flP 1 0 sr ln Lc) (1 <<< (nI n &&& 31)) r) i)]) (v := (some (.int 1))) (h1 := (hG σ sr ln Lc μ)) rfl rfl rfl (sp_X11_hasBit_v d _ _ _ hy1 _ e3) ?_
                  refine am_g 9 39 [some (.ref 14), some (.int (nI n)), some (.int 1), some (.int ((am_it (pu_flS 1 0 sr ln Lc) (am_it (pu_flP 1 0 sr ln Lc) (1 <<< (nI n &&& 31)) r) i) ||| (1 <<< ((ln i 0) &&& 31)))), some (.int 1), some (.int (nI r)), some (.int (am_it (pu_flP 1 0 sr ln Lc) (1 <<< (nI n &&& 31)) r)), some (.ref 22), some (.int 40), some (.int ((nI i) + 1)), some (.ref (75 + i)), some (.int (ln i 1)), some (.int (ln i 0))] [] (hG σ sr ln Lc μ) rfl ?_
                  have qq : (am_it (pu_flS 1 0 sr ln Lc) (am_it (pu_flP 1 0 sr ln Lc) (1 <<< (nI n &&& 31)) r) (i + 1)) = ((am_it (pu_flS 1 0 sr ln Lc) (am_it (pu_flP 1 0 sr ln Lc) (1 <<< (nI n &&& 31)) r) i) ||| (1 <<< ((ln i 0) &&& 31))) := by
                    rw [am_itS]
                    refine (if_pos hL2).trans ((if_neg c1).trans ((if_pos s0).trans ?_))
                    rw [show (ln i 1).toNatClampNeg = y from by rw [hy1, nI_clamp (by omega)], e3]
                    rfl
                  rw [nI_up, ← qq]
                  exact ihb (i + 1) _ _ _ (by omega)
              · skip
                refine am_g 2 39 [some (.ref 14), some (.int (nI n)), some (.int 1), some (.int (am_it (pu_flS 1 0 sr ln Lc) (am_it (pu_flP 1 0 sr ln Lc) (1 <<< (nI n &&& 31)) r) i)), some (.int 1), some (.int (nI r)), some (.int (am_it (pu_flP 1 0 sr ln Lc) (1 <<< (nI n &&& 31)) r)), some (.ref 22), some (.int 40), some (.int ((nI i) + 1)), some (.ref (75 + i)), v1, v2] [] (hG σ sr ln Lc μ) rfl ?_
                have qq : (am_it (pu_flS 1 0 sr ln Lc) (am_it (pu_flP 1 0 sr ln Lc) (1 <<< (nI n &&& 31)) r) (i + 1)) = (am_it (pu_flS 1 0 sr ln Lc) (am_it (pu_flP 1 0 sr ln Lc) (1 <<< (nI n &&& 31)) r) i) := by
                  rw [am_itS]
                  exact (if_pos hL2).trans ((if_neg c1).trans (if_neg (fun q => c2 ((congrArg nI q).trans nI_0))))
                rw [nI_up, ← qq]
                exact ihb (i + 1) _ _ _ (by omega)
          · skip
            refine am_g 3 (if 40 ≤ (nI i) then 138 else 46) [some (.ref 14), some (.int (nI n)), some (.int 1), some (.int (am_it (pu_flS 1 0 sr ln Lc) (am_it (pu_flP 1 0 sr ln Lc) (1 <<< (nI n &&& 31)) r) i)), some (.int 1), some (.int (nI r)), some (.int (am_it (pu_flP 1 0 sr ln Lc) (1 <<< (nI n &&& 31)) r)), some (.ref 22), some (.int 40), some (.int (nI i)), v0, v1, v2] [] (hG σ sr ln Lc μ) rfl ?_
            rw [if_neg (show ¬ 40 ≤ (nI i) from (am_dnle (a := 40) (b := i) (rfl) (rfl) (by omega) (by omega) (by omega)))]
            refine am_g 2 50 [some (.ref 14), some (.int (nI n)), some (.int 1), some (.int (am_it (pu_flS 1 0 sr ln Lc) (am_it (pu_flP 1 0 sr ln Lc) (1 <<< (nI n &&& 31)) r) i)), some (.int 1), some (.int (nI r)), some (.int (am_it (pu_flP 1 0 sr ln Lc) (1 <<< (nI n &&& 31)) r)), some (.ref 22), some (.int 40), some (.int (nI i)), v0, v1, v2] [.int (nI i), .ref 22] (hG σ sr ln Lc μ) rfl ?_
            refine am_laldN (k := i) rfl (rfl) (hL2) (by omega) ?_
            refine am_g 5 39 [some (.ref 14), some (.int (nI n)), some (.int 1), some (.int (am_it (pu_flS 1 0 sr ln Lc) (am_it (pu_flP 1 0 sr ln Lc) (1 <<< (nI n &&& 31)) r) i)), some (.int 1), some (.int (nI r)), some (.int (am_it (pu_flP 1 0 sr ln Lc) (1 <<< (nI n &&& 31)) r)), some (.ref 22), some (.int 40), some (.int ((nI i) + 1)), some (.null), v1, v2] [] (hG σ sr ln Lc μ) rfl ?_
            have qq : (am_it (pu_flS 1 0 sr ln Lc) (am_it (pu_flP 1 0 sr ln Lc) (1 <<< (nI n &&& 31)) r) (i + 1)) = (am_it (pu_flS 1 0 sr ln Lc) (am_it (pu_flP 1 0 sr ln Lc) (1 <<< (nI n &&& 31)) r) i) := by
              rw [am_itS]
              exact if_neg hL2
            rw [nI_up, ← qq]
            exact ihb (i + 1) _ _ _ (by omega)
      exact lpb 40 0 _ _ _ (by omega)
    | succ q iho =>
      intro r w0 w1 w2 w3 w4 w5 w6 hr
      have hr2 : r < k := by omega
      refine am_g 5 (if 20 ≤ (nI r) then 157 else 22) [some (.ref 14), some (.int (nI n)), some (.int 1), some (.int (am_it (pu_flP 1 0 sr ln Lc) (1 <<< (nI n &&& 31)) r)), some (.int 1), some (.int (nI r)), w0, w1, w2, w3, w4, w5, w6] [] (hG σ sr ln Lc μ) rfl ?_
      rw [if_neg (show ¬ 20 ≤ (nI r) from (am_dnle (a := 20) (b := r) (rfl) (rfl) (by omega) (by omega) (by omega)))]
      refine am_g 10 39 [some (.ref 14), some (.int (nI n)), some (.int 1), some (.int (am_it (pu_flP 1 0 sr ln Lc) (1 <<< (nI n &&& 31)) r)), some (.int 1), some (.int (nI r)), some (.int (am_it (pu_flP 1 0 sr ln Lc) (1 <<< (nI n &&& 31)) r)), some (.ref 22), some (.int 40), some (.int 0), w4, w5, w6] [] (hG σ sr ln Lc μ) rfl ?_
      have lpb : ∀ (rb i : Nat) (v0 : Option Value) (v1 : Option Value) (v2 : Option Value), i + rb = 40 → am_R xs LL cd_X11_flowFrom (am_X xs LL (d + 1)) 39 [some (.ref 14), some (.int (nI n)), some (.int 1), some (.int (am_it (pu_flS 1 0 sr ln Lc) (am_it (pu_flP 1 0 sr ln Lc) (1 <<< (nI n &&& 31)) r) i)), some (.int 1), some (.int (nI r)), some (.int (am_it (pu_flP 1 0 sr ln Lc) (1 <<< (nI n &&& 31)) r)), some (.ref 22), some (.int 40), some (.int (nI i)), v0, v1, v2] [] (hG σ sr ln Lc μ) (some (.int (am_it (pu_flP 1 0 sr ln Lc) (1 <<< (nI n &&& 31)) k))) (hG σ sr ln Lc μ) := by
        intro rb
        induction rb with
        | zero =>
          intro i v0 v1 v2 hib
          have hi2b : i = 40 := by omega
          rw [hi2b]
          refine am_g 3 (if 40 ≤ (nI 40) then 138 else 46) [some (.ref 14), some (.int (nI n)), some (.int 1), some (.int (am_it (pu_flS 1 0 sr ln Lc) (am_it (pu_flP 1 0 sr ln Lc) (1 <<< (nI n &&& 31)) r) 40)), some (.int 1), some (.int (nI r)), some (.int (am_it (pu_flP 1 0 sr ln Lc) (1 <<< (nI n &&& 31)) r)), some (.ref 22), some (.int 40), some (.int (nI 40)), v0, v1, v2] [] (hG σ sr ln Lc μ) rfl ?_
          rw [if_pos (show 40 ≤ (nI 40) from (am_dle (a := 40) (b := 40) (rfl) (rfl) (by omega) (by omega) (by omega)))]
          refine am_g 3 (if (am_it (pu_flS 1 0 sr ln Lc) (am_it (pu_flP 1 0 sr ln Lc) (1 <<< (nI n &&& 31)) r) 40) = (am_it (pu_flP 1 0 sr ln Lc) (1 <<< (nI n &&& 31)) r) then 148 else 144) [some (.ref 14), some (.int (nI n)), some (.int 1), some (.int (am_it (pu_flS 1 0 sr ln Lc) (am_it (pu_flP 1 0 sr ln Lc) (1 <<< (nI n &&& 31)) r) 40)), some (.int 1), some (.int (nI r)), some (.int (am_it (pu_flP 1 0 sr ln Lc) (1 <<< (nI n &&& 31)) r)), some (.ref 22), some (.int 40), some (.int (nI 40)), v0, v1, v2] [] (hG σ sr ln Lc μ) rfl ?_
          rw [if_neg (show ¬ (am_it (pu_flS 1 0 sr ln Lc) (am_it (pu_flP 1 0 sr ln Lc) (1 <<< (nI n &&& 31)) r) 40) = (am_it (pu_flP 1 0 sr ln Lc) (1 <<< (nI n &&& 31)) r) from (hrun r hr2))]
          refine am_g 5 10 [some (.ref 14), some (.int (nI n)), some (.int 1), some (.int (am_it (pu_flS 1 0 sr ln Lc) (am_it (pu_flP 1 0 sr ln Lc) (1 <<< (nI n &&& 31)) r) 40)), some (.int 1), some (.int ((nI r) + 1)), some (.int (am_it (pu_flP 1 0 sr ln Lc) (1 <<< (nI n &&& 31)) r)), some (.ref 22), some (.int 40), some (.int (nI 40)), v0, v1, v2] [] (hG σ sr ln Lc μ) rfl ?_
          rw [nI_up]
          exact iho (r + 1) _ _ _ _ _ _ _ (by omega)
        | succ rb ihb =>
          intro i v0 v1 v2 hib
          have hi2b : i < 40 := by omega
          by_cases hL2 : i < Lc
          · skip
            refine am_g 3 (if 40 ≤ (nI i) then 138 else 46) [some (.ref 14), some (.int (nI n)), some (.int 1), some (.int (am_it (pu_flS 1 0 sr ln Lc) (am_it (pu_flP 1 0 sr ln Lc) (1 <<< (nI n &&& 31)) r) i)), some (.int 1), some (.int (nI r)), some (.int (am_it (pu_flP 1 0 sr ln Lc) (1 <<< (nI n &&& 31)) r)), some (.ref 22), some (.int 40), some (.int (nI i)), v0, v1, v2] [] (hG σ sr ln Lc μ) rfl ?_
            rw [if_neg (show ¬ 40 ≤ (nI i) from (am_dnle (a := 40) (b := i) (rfl) (rfl) (by omega) (by omega) (by omega)))]
            refine am_g 2 50 [some (.ref 14), some (.int (nI n)), some (.int 1), some (.int (am_it (pu_flS 1 0 sr ln Lc) (am_it (pu_flP 1 0 sr ln Lc) (1 <<< (nI n &&& 31)) r) i)), some (.int 1), some (.int (nI r)), some (.int (am_it (pu_flP 1 0 sr ln Lc) (1 <<< (nI n &&& 31)) r)), some (.ref 22), some (.int 40), some (.int (nI i)), v0, v1, v2] [.int (nI i), .ref 22] (hG σ sr ln Lc μ) rfl ?_
            refine am_laldR (k := i) rfl (rfl) (hL2) (by omega) ?_
            refine am_g 2 55 [some (.ref 14), some (.int (nI n)), some (.int 1), some (.int (am_it (pu_flS 1 0 sr ln Lc) (am_it (pu_flP 1 0 sr ln Lc) (1 <<< (nI n &&& 31)) r) i)), some (.int 1), some (.int (nI r)), some (.int (am_it (pu_flP 1 0 sr ln Lc) (1 <<< (nI n &&& 31)) r)), some (.ref 22), some (.int 40), some (.int (nI i)), some (.ref (75 + i)), v1, v2] [.ref (75 + i)] (hG σ sr ln Lc μ) rfl ?_
            refine am_lnnR rfl _ ?_
            refine am_g 1 60 [some (.ref 14), some (.int (nI n)), some (.int 1), some (.int (am_it (pu_flS 1 0 sr ln Lc) (am_it (pu_flP 1 0 sr ln Lc) (1 <<< (nI n &&& 31)) r) i)), some (.int 1), some (.int (nI r)), some (.int (am_it (pu_flP 1 0 sr ln Lc) (1 <<< (nI n &&& 31)) r)), some (.ref 22), some (.int 40), some (.int (nI i)), some (.ref (75 + i)), v1, v2] [.ref (75 + i)] (hG σ sr ln Lc μ) rfl ?_
            refine am_lgetR (i := i) (k := 6) rfl hL2 (by decide) (am_lkx (by decide) (hsr _ hL2)) ?_
            refine am_g 1 (if (ln i 6) = 0 then 132 else 66) [some (.ref 14), some (.int (nI n)), some (.int 1), some (.int (am_it (pu_flS 1 0 sr ln Lc) (am_it (pu_flP 1 0 sr ln Lc) (1 <<< (nI n &&& 31)) r) i)), some (.int 1), some (.int (nI r)), some (.int (am_it (pu_flP 1 0 sr ln Lc) (1 <<< (nI n &&& 31)) r)), some (.ref 22), some (.int 40), some (.int (nI i)), some (.ref (75 + i)), v1, v2] [] (hG σ sr ln Lc μ) rfl (am_brR (fun c4 => ?_) (fun c4 => ?_))
            · skip
              refine am_g 2 39 [some (.ref 14), some (.int (nI n)), some (.int 1), some (.int (am_it (pu_flS 1 0 sr ln Lc) (am_it (pu_flP 1 0 sr ln Lc) (1 <<< (nI n &&& 31)) r) i)), some (.int 1), some (.int (nI r)), some (.int (am_it (pu_flP 1 0 sr ln Lc) (1 <<< (nI n &&& 31)) r)), some (.ref 22), some (.int 40), some (.int ((nI i) + 1)), some (.ref (75 + i)), v1, v2] [] (hG σ sr ln Lc μ) rfl ?_
              have qq : (am_it (pu_flS 1 0 sr ln Lc) (am_it (pu_flP 1 0 sr ln Lc) (1 <<< (nI n &&& 31)) r) (i + 1)) = (am_it (pu_flS 1 0 sr ln Lc) (am_it (pu_flP 1 0 sr ln Lc) (1 <<< (nI n &&& 31)) r) i) := by
                rw [am_itS]
                exact (if_pos hL2).trans (if_pos c4)
              rw [nI_up, ← qq]
              exact ihb (i + 1) _ _ _ (by omega)
            · skip
              refine am_g 1 68 [some (.ref 14), some (.int (nI n)), some (.int 1), some (.int (am_it (pu_flS 1 0 sr ln Lc) (am_it (pu_flP 1 0 sr ln Lc) (1 <<< (nI n &&& 31)) r) i)), some (.int 1), some (.int (nI r)), some (.int (am_it (pu_flP 1 0 sr ln Lc) (1 <<< (nI n &&& 31)) r)), some (.ref 22), some (.int 40), some (.int (nI i)), some (.ref (75 + i)), v1, v2] [.ref (75 + i)] (hG σ sr ln Lc μ) rfl ?_
              refine am_call (y := ([13, 8, 46, 82, 1, 41].getD (sr i) 0)) (vs := [.ref (75 + i)]) (rest := []) (v := (some (.int (nI (sr i))))) (h1 := (hG σ sr ln Lc μ)) rfl rfl (am_tgtL (i := i) rfl rfl hL2 (am_lk (f := fun s => [13, 8, 46, 82, 1, 41].getD s 0) (by decide) (hsr _ hL2)) rfl rfl) (sp_v_sort (σ := σ) (μ := μ) d i hL2 (hsr _ hL2)) ?_
              refine am_g 1 (if (nI (sr i)) = 0 then 74 else 132) [some (.ref 14), some (.int (nI n)), some (.int 1), some (.int (am_it (pu_flS 1 0 sr ln Lc) (am_it (pu_flP 1 0 sr ln Lc) (1 <<< (nI n &&& 31)) r) i)), some (.int 1), some (.int (nI r)), some (.int (am_it (pu_flP 1 0 sr ln Lc) (1 <<< (nI n &&& 31)) r)), some (.ref 22), some (.int 40), some (.int (nI i)), some (.ref (75 + i)), v1, v2] [] (hG σ sr ln Lc μ) rfl (am_brR (fun c5 => ?_) (fun c5 => ?_))
              · skip
                have s0 : sr i = 0 := nI_s4 (hsr i hL2) (c5.trans nI_0.symm)
                obtain ⟨x, hx, hx1⟩ := (hwl i hL2).1
                obtain ⟨y, hy, hy1⟩ := (hwl i hL2).2.2.1 (by rw [s0]; decide)
                refine am_g 3 80 [some (.ref 14), some (.int (nI n)), some (.int 1), some (.int (am_it (pu_flS 1 0 sr ln Lc) (am_it (pu_flP 1 0 sr ln Lc) (1 <<< (nI n &&& 31)) r) i)), some (.int 1), some (.int (nI r)), some (.int (am_it (pu_flP 1 0 sr ln Lc) (1 <<< (nI n &&& 31)) r)), some (.ref 22), some (.int 40), some (.int (nI i)), some (.ref (75 + i)), v1, v2] [.ref (75 + i)] (hG σ sr ln Lc μ) rfl ?_
                refine am_lgetR (i := i) (k := 1) rfl hL2 (by decide) (am_lkx (by decide) (hsr _ hL2)) ?_
                refine am_g 5 99 [some (.ref 14), some (.int (nI n)), some (.int 1), some (.int (am_it (pu_flS 1 0 sr ln Lc) (am_it (pu_flP 1 0 sr ln Lc) (1 <<< (nI n &&& 31)) r) i)), some (.int 1), some (.int (nI r)), some (.int (am_it (pu_flP 1 0 sr ln Lc) (1 <<< (nI n &&& 31)) r)), some (.ref 22), some (.int 40), some (.int (nI i)), some (.ref (75 + i)), some (.int (ln i 1)), v2] [.ref (75 + i)] (hG σ sr ln Lc μ) rfl ?_
                refine am_lgetR (i := i) (k := 0) rfl hL2 (by decide) (am_lkx (by decide) (hsr _ hL2)) ?_
                refine am_g 5 116 [some (.ref 14), some (.int (nI n)), some (.int 1), some (.int (am_it (pu_flS 1 0 sr ln Lc) (am_it (pu_flP 1 0 sr ln Lc) (1 <<< (nI n &&& 31)) r) i)), some (.int 1), some (.int (nI r)), some (.int (am_it (pu_flP 1 0 sr ln Lc) (1 <<< (nI n &&& 31)) r)), some (.ref 22), some (.int 40), some (.int (nI i)), some (.ref (75 + i)), some (.int (ln i 1)), some (.int (ln i 0))] [.int (ln i 1), .int (am_it (pu_flS 1 0 sr ln Lc) (am_it (pu_flP 1 0 sr ln Lc) (1 <<< (nI n &&& 31)) r) i), .int (am_it (pu_flS 1 0 sr ln Lc) (am_it (pu_flP 1 0 sr ln Lc) (1 <<< (nI n &&& 31)) r) i)] (hG σ sr ln Lc μ) rfl ?_
                cases e6 : am_hb (am_it (pu_flS 1 0 sr ln Lc) (am_it (pu_flP 1 0 sr ln Lc) (1 <<< (nI n &&& 31)) r) i) y with
                | false =>
                  refine am_call (y := 126) (vs := [.int (am_it (pu_flS 1 0 sr ln Lc) (am_it (pu_flP 1 0 sr ln Lc) (1 <<< (nI n &&& 31)) r) i), .int (ln i 1)]) (rest := [.int (am_it (pu_flS 1 0 sr ln Lc) (am_it (pu_flP 1 0 sr ln Lc) (1 <<< (nI n &&& 31)) r) i)]) (v := (some (.int 0))) (h1 := (hG σ sr ln Lc μ)) rfl rfl rfl (sp_X11_hasBit_v d _ _ _ hy1 _ e6) ?_
                  refine am_g 6 39 [some (.ref 14), some (.int (nI n)), some (.int 1), some (.int ((am_it (pu_flS 1 0 sr ln Lc) (am_it (pu_flP 1 0 sr ln Lc) (1 <<< (nI n &&& 31)) r) i) ||| 0)), some (.int 1), some (.int (nI r)), some (.int (am_it (pu_flP 1 0 sr ln Lc) (1 <<< (nI n &&& 31)) r)), some (.ref 22), some (.int 40), some (.int ((nI i) + 1)), some (.ref (75 + i)), some (.int (ln i 1)), some (.int (ln i 0))] [] (hG σ sr ln Lc μ) rfl ?_
                  have qq : (am_it (pu_flS 1 0 sr ln Lc) (am_it (pu_flP 1 0 sr ln Lc) (1 <<< (nI n &&& 31)) r) (i + 1)) = ((am_it (pu_flS 1 0 sr ln Lc) (am_it (pu_flP 1 0 sr ln Lc) (1 <<< (nI n &&& 31)) r) i) ||| 0) := by
                    rw [am_itS]
                    refine (if_pos hL2).trans ((if_neg c4).trans ((if_pos s0).trans ?_))
                    rw [show (ln i 1).toNatClampNeg = y from by rw [hy1, nI_clamp (by omega)], e6]
                    exact (am_or0 _).symm
                  rw [nI_up, ← qq]
                  exact ihb (i + 1) _ _ _ (by omega)
                | true =>
                  refine am_call (y := 126) (vs := [.int (am_it (pu_flS 1 0 sr ln Lc) (am_it (pu_flP 1 0 sr ln Lc) (1 <<< (nI n &&& 31)) r) i), .int (ln i 1)]) (rest := [.int (am_it (pu_flS 1 0 sr ln Lc) (am_it (pu_flP 1 0 sr ln Lc) (1 <<< (nI n &&& 31)) r) i)]) (v := (some (.int 1))) (h1 := (hG σ sr ln Lc μ)) rfl rfl rfl (sp_X11_hasBit_v d _ _ _ hy1 _ e6) ?_
                  refine am_g 9 39 [some (.ref 14), some (.int (nI n)), some (.int 1), some (.int ((am_it (pu_flS 1 0 sr ln Lc) (am_it (pu_flP 1 0 sr ln Lc) (1 <<< (nI n &&& 31)) r) i) ||| (1 <<< ((ln i 0) &&& 31)))), some (.int 1), some (.int (nI r)), some (.int (am_it (pu_flP 1 0 sr ln Lc) (1 <<< (nI n &&& 31)) r)), some (.ref 22), some (.int 40), some (.int ((nI i) + 1)), some (.ref (75 + i)), some (.int (ln i 1)), some (.int (ln i 0))] [] (hG σ sr ln Lc μ) rfl ?_
                  have qq : (am_it (pu_flS 1 0 sr ln Lc) (am_it (pu_flP 1 0 sr ln Lc) (1 <<< (nI n &&& 31)) r) (i + 1)) = ((am_it (pu_flS 1 0 sr ln Lc) (am_it (pu_flP 1 0 sr ln Lc) (1 <<< (nI n &&& 31)) r) i) ||| (1 <<< ((ln i 0) &&& 31))) := by
                    rw [am_itS]
                    refine (if_pos hL2).trans ((if_neg c4).trans ((if_pos s0).trans ?_))
                    rw [show (ln i 1).toNatClampNeg = y from by rw [hy1, nI_clamp (by omega)], e6]
                    rfl
                  rw [nI_up, ← qq]
                  exact ihb (i + 1) _ _ _ (by omega)
              · skip
                refine am_g 2 39 [some (.ref 14), some (.int (nI n)), some (.int 1), some (.int (am_it (pu_flS 1 0 sr ln Lc) (am_it (pu_flP 1 0 sr ln Lc) (1 <<< (nI n &&& 31)) r) i)), some (.int 1), some (.int (nI r)), some (.int (am_it (pu_flP 1 0 sr ln Lc) (1 <<< (nI n &&& 31)) r)), some (.ref 22), some (.int 40), some (.int ((nI i) + 1)), some (.ref (75 + i)), v1, v2] [] (hG σ sr ln Lc μ) rfl ?_
                have qq : (am_it (pu_flS 1 0 sr ln Lc) (am_it (pu_flP 1 0 sr ln Lc) (1 <<< (nI n &&& 31)) r) (i + 1)) = (am_it (pu_flS 1 0 sr ln Lc) (am_it (pu_flP 1 0 sr ln Lc) (1 <<< (nI n &&& 31)) r) i) := by
                  rw [am_itS]
                  exact (if_pos hL2).trans ((if_neg c4).trans (if_neg (fun q => c5 ((congrArg nI q).trans nI_0))))
                rw [nI_up, ← qq]
                exact ihb (i + 1) _ _ _ (by omega)
          · skip
            refine am_g 3 (if 40 ≤ (nI i) then 138 else 46) [some (.ref 14), some (.int (nI n)), some (.int 1), some (.int (am_it (pu_flS 1 0 sr ln Lc) (am_it (pu_flP 1 0 sr ln Lc) (1 <<< (nI n &&& 31)) r) i)), some (.int 1), some (.int (nI r)), some (.int (am_it (pu_flP 1 0 sr ln Lc) (1 <<< (nI n &&& 31)) r)), some (.ref 22), some (.int 40), some (.int (nI i)), v0, v1, v2] [] (hG σ sr ln Lc μ) rfl ?_
            rw [if_neg (show ¬ 40 ≤ (nI i) from (am_dnle (a := 40) (b := i) (rfl) (rfl) (by omega) (by omega) (by omega)))]
            refine am_g 2 50 [some (.ref 14), some (.int (nI n)), some (.int 1), some (.int (am_it (pu_flS 1 0 sr ln Lc) (am_it (pu_flP 1 0 sr ln Lc) (1 <<< (nI n &&& 31)) r) i)), some (.int 1), some (.int (nI r)), some (.int (am_it (pu_flP 1 0 sr ln Lc) (1 <<< (nI n &&& 31)) r)), some (.ref 22), some (.int 40), some (.int (nI i)), v0, v1, v2] [.int (nI i), .ref 22] (hG σ sr ln Lc μ) rfl ?_
            refine am_laldN (k := i) rfl (rfl) (hL2) (by omega) ?_
            refine am_g 5 39 [some (.ref 14), some (.int (nI n)), some (.int 1), some (.int (am_it (pu_flS 1 0 sr ln Lc) (am_it (pu_flP 1 0 sr ln Lc) (1 <<< (nI n &&& 31)) r) i)), some (.int 1), some (.int (nI r)), some (.int (am_it (pu_flP 1 0 sr ln Lc) (1 <<< (nI n &&& 31)) r)), some (.ref 22), some (.int 40), some (.int ((nI i) + 1)), some (.null), v1, v2] [] (hG σ sr ln Lc μ) rfl ?_
            have qq : (am_it (pu_flS 1 0 sr ln Lc) (am_it (pu_flP 1 0 sr ln Lc) (1 <<< (nI n &&& 31)) r) (i + 1)) = (am_it (pu_flS 1 0 sr ln Lc) (am_it (pu_flP 1 0 sr ln Lc) (1 <<< (nI n &&& 31)) r) i) := by
              rw [am_itS]
              exact if_neg hL2
            rw [nI_up, ← qq]
            exact ihb (i + 1) _ _ _ (by omega)
      exact lpb 40 0 _ _ _ (by omega)
  exact lpo k 0 _ _ _ _ _ _ _ (by omega)
theorem sp_X11_flowFrom_b (d : Nat) (hsr : ∀ i, i < Lc → sr i < 6) (hwl : ∀ i, i < Lc → am_wl (sr i) (ln i)) (n : Nat) (hn : n < 20) (k : Nat) (hk19 : k < 20) (hrun : ∀ r, r < k → ¬ (am_it (pu_flP 0 1 sr ln Lc) (1 <<< (nI n &&& 31)) (r + 1)) = (am_it (pu_flP 0 1 sr ln Lc) (1 <<< (nI n &&& 31)) r)) (hk : (am_it (pu_flP 0 1 sr ln Lc) (1 <<< (nI n &&& 31)) (k + 1)) = (am_it (pu_flP 0 1 sr ln Lc) (1 <<< (nI n &&& 31)) k)) : am_X xs LL (d + 2) 136 [.ref 14, .int (nI n), .int 0] (hG σ sr ln Lc μ) (some (.int (am_it (pu_flP 0 1 sr ln Lc) (1 <<< (nI n &&& 31)) k))) (hG σ sr ln Lc μ) := by
  refine am_XR (d := d + 1) (C := cd_X11_flowFrom) (L := [some (.ref 14), some (.int (nI n)), some (.int 0), none, none, none, none, none, none, none, none, none, none]) rfl rfl rfl rfl ?_
  refine am_g 8 10 [some (.ref 14), some (.int (nI n)), some (.int 0), some (.int (1 <<< ((nI n) &&& 31))), some (.int 1), some (.int 0), none, none, none, none, none, none, none] [] (hG σ sr ln Lc μ) rfl ?_
  have lpo : ∀ (q r : Nat) (w0 : Option Value) (w1 : Option Value) (w2 : Option Value) (w3 : Option Value) (w4 : Option Value) (w5 : Option Value) (w6 : Option Value), r + q = k → am_R xs LL cd_X11_flowFrom (am_X xs LL (d + 1)) 10 [some (.ref 14), some (.int (nI n)), some (.int 0), some (.int (am_it (pu_flP 0 1 sr ln Lc) (1 <<< (nI n &&& 31)) r)), some (.int 1), some (.int (nI r)), w0, w1, w2, w3, w4, w5, w6] [] (hG σ sr ln Lc μ) (some (.int (am_it (pu_flP 0 1 sr ln Lc) (1 <<< (nI n &&& 31)) k))) (hG σ sr ln Lc μ) := by
    intro q
    induction q with
    | zero =>
      intro r w0 w1 w2 w3 w4 w5 w6 hr
      have hr2 : r = k := by omega
      refine am_g 5 (if 20 ≤ (nI r) then 157 else 22) [some (.ref 14), some (.int (nI n)), some (.int 0), some (.int (am_it (pu_flP 0 1 sr ln Lc) (1 <<< (nI n &&& 31)) r)), some (.int 1), some (.int (nI r)), w0, w1, w2, w3, w4, w5, w6] [] (hG σ sr ln Lc μ) rfl ?_
      rw [if_neg (show ¬ 20 ≤ (nI r) from (am_dnle (a := 20) (b := r) (rfl) (rfl) (by omega) (by omega) (by omega)))]
      refine am_g 10 39 [some (.ref 14), some (.int (nI n)), some (.int 0), some (.int (am_it (pu_flP 0 1 sr ln Lc) (1 <<< (nI n &&& 31)) r)), some (.int 1), some (.int (nI r)), some (.int (am_it (pu_flP 0 1 sr ln Lc) (1 <<< (nI n &&& 31)) r)), some (.ref 22), some (.int 40), some (.int 0), w4, w5, w6] [] (hG σ sr ln Lc μ) rfl ?_
      have lpb : ∀ (rb i : Nat) (v0 : Option Value) (v1 : Option Value) (v2 : Option Value), i + rb = 40 → am_R xs LL cd_X11_flowFrom (am_X xs LL (d + 1)) 39 [some (.ref 14), some (.int (nI n)), some (.int 0), some (.int (am_it (pu_flS 0 1 sr ln Lc) (am_it (pu_flP 0 1 sr ln Lc) (1 <<< (nI n &&& 31)) r) i)), some (.int 1), some (.int (nI r)), some (.int (am_it (pu_flP 0 1 sr ln Lc) (1 <<< (nI n &&& 31)) r)), some (.ref 22), some (.int 40), some (.int (nI i)), v0, v1, v2] [] (hG σ sr ln Lc μ) (some (.int (am_it (pu_flP 0 1 sr ln Lc) (1 <<< (nI n &&& 31)) k))) (hG σ sr ln Lc μ) := by
        intro rb
        induction rb with
        | zero =>
          intro i v0 v1 v2 hib
          have hi2b : i = 40 := by omega
          rw [hi2b]
          refine am_g 3 (if 40 ≤ (nI 40) then 138 else 46) [some (.ref 14), some (.int (nI n)), some (.int 0), some (.int (am_it (pu_flS 0 1 sr ln Lc) (am_it (pu_flP 0 1 sr ln Lc) (1 <<< (nI n &&& 31)) r) 40)), some (.int 1), some (.int (nI r)), some (.int (am_it (pu_flP 0 1 sr ln Lc) (1 <<< (nI n &&& 31)) r)), some (.ref 22), some (.int 40), some (.int (nI 40)), v0, v1, v2] [] (hG σ sr ln Lc μ) rfl ?_
          rw [if_pos (show 40 ≤ (nI 40) from (am_dle (a := 40) (b := 40) (rfl) (rfl) (by omega) (by omega) (by omega)))]
          refine am_g 3 (if (am_it (pu_flS 0 1 sr ln Lc) (am_it (pu_flP 0 1 sr ln Lc) (1 <<< (nI n &&& 31)) r) 40) = (am_it (pu_flP 0 1 sr ln Lc) (1 <<< (nI n &&& 31)) r) then 148 else 144) [some (.ref 14), some (.int (nI n)), some (.int 0), some (.int (am_it (pu_flS 0 1 sr ln Lc) (am_it (pu_flP 0 1 sr ln Lc) (1 <<< (nI n &&& 31)) r) 40)), some (.int 1), some (.int (nI r)), some (.int (am_it (pu_flP 0 1 sr ln Lc) (1 <<< (nI n &&& 31)) r)), some (.ref 22), some (.int 40), some (.int (nI 40)), v0, v1, v2] [] (hG σ sr ln Lc μ) rfl ?_
          rw [if_pos (show (am_it (pu_flS 0 1 sr ln Lc) (am_it (pu_flP 0 1 sr ln Lc) (1 <<< (nI n &&& 31)) r) 40) = (am_it (pu_flP 0 1 sr ln Lc) (1 <<< (nI n &&& 31)) r) from (by rw [hr2]; exact hk))]
          refine am_g 4 10 [some (.ref 14), some (.int (nI n)), some (.int 0), some (.int (am_it (pu_flS 0 1 sr ln Lc) (am_it (pu_flP 0 1 sr ln Lc) (1 <<< (nI n &&& 31)) r) 40)), some (.int 0), some (.int ((nI r) + 1)), some (.int (am_it (pu_flP 0 1 sr ln Lc) (1 <<< (nI n &&& 31)) r)), some (.ref 22), some (.int 40), some (.int (nI 40)), v0, v1, v2] [] (hG σ sr ln Lc μ) rfl ?_
          rw [nI_up]
          show am_R xs LL cd_X11_flowFrom (am_X xs LL (d + 1)) 10 [some (.ref 14), some (.int (nI n)), some (.int 0), some (.int (am_it (pu_flP 0 1 sr ln Lc) (1 <<< (nI n &&& 31)) (r + 1))), some (.int 0), some (.int (nI (r + 1))), some (.int (am_it (pu_flP 0 1 sr ln Lc) (1 <<< (nI n &&& 31)) r)), some (.ref 22), some (.int 40), some (.int (nI 40)), v0, v1, v2] [] (hG σ sr ln Lc μ) _ _
          refine am_g 3 158 [some (.ref 14), some (.int (nI n)), some (.int 0), some (.int (am_it (pu_flP 0 1 sr ln Lc) (1 <<< (nI n &&& 31)) (r + 1))), some (.int 0), some (.int (nI (r + 1))), some (.int (am_it (pu_flP 0 1 sr ln Lc) (1 <<< (nI n &&& 31)) r)), some (.ref 22), some (.int 40), some (.int (nI 40)), v0, v1, v2] [.int (am_it (pu_flP 0 1 sr ln Lc) (1 <<< (nI n &&& 31)) (r + 1))] (hG σ sr ln Lc μ) rfl ?_
          exact am_ret2 rfl rfl rfl (by rw [hr2, hk]) rfl
        | succ rb ihb =>
          intro i v0 v1 v2 hib
          have hi2b : i < 40 := by omega
          by_cases hL2 : i < Lc
          · skip
            refine am_g 3 (if 40 ≤ (nI i) then 138 else 46) [some (.ref 14), some (.int (nI n)), some (.int 0), some (.int (am_it (pu_flS 0 1 sr ln Lc) (am_it (pu_flP 0 1 sr ln Lc) (1 <<< (nI n &&& 31)) r) i)), some (.int 1), some (.int (nI r)), some (.int (am_it (pu_flP 0 1 sr ln Lc) (1 <<< (nI n &&& 31)) r)), some (.ref 22), some (.int 40), some (.int (nI i)), v0, v1, v2] [] (hG σ sr ln Lc μ) rfl ?_
            rw [if_neg (show ¬ 40 ≤ (nI i) from (am_dnle (a := 40) (b := i) (rfl) (rfl) (by omega) (by omega) (by omega)))]
            refine am_g 2 50 [some (.ref 14), some (.int (nI n)), some (.int 0), some (.int (am_it (pu_flS 0 1 sr ln Lc) (am_it (pu_flP 0 1 sr ln Lc) (1 <<< (nI n &&& 31)) r) i)), some (.int 1), some (.int (nI r)), some (.int (am_it (pu_flP 0 1 sr ln Lc) (1 <<< (nI n &&& 31)) r)), some (.ref 22), some (.int 40), some (.int (nI i)), v0, v1, v2] [.int (nI i), .ref 22] (hG σ sr ln Lc μ) rfl ?_
            refine am_laldR (k := i) rfl (rfl) (hL2) (by omega) ?_
            refine am_g 2 55 [some (.ref 14), some (.int (nI n)), some (.int 0), some (.int (am_it (pu_flS 0 1 sr ln Lc) (am_it (pu_flP 0 1 sr ln Lc) (1 <<< (nI n &&& 31)) r) i)), some (.int 1), some (.int (nI r)), some (.int (am_it (pu_flP 0 1 sr ln Lc) (1 <<< (nI n &&& 31)) r)), some (.ref 22), some (.int 40), some (.int (nI i)), some (.ref (75 + i)), v1, v2] [.ref (75 + i)] (hG σ sr ln Lc μ) rfl ?_
            refine am_lnnR rfl _ ?_
            refine am_g 1 60 [some (.ref 14), some (.int (nI n)), some (.int 0), some (.int (am_it (pu_flS 0 1 sr ln Lc) (am_it (pu_flP 0 1 sr ln Lc) (1 <<< (nI n &&& 31)) r) i)), some (.int 1), some (.int (nI r)), some (.int (am_it (pu_flP 0 1 sr ln Lc) (1 <<< (nI n &&& 31)) r)), some (.ref 22), some (.int 40), some (.int (nI i)), some (.ref (75 + i)), v1, v2] [.ref (75 + i)] (hG σ sr ln Lc μ) rfl ?_
            refine am_lgetR (i := i) (k := 6) rfl hL2 (by decide) (am_lkx (by decide) (hsr _ hL2)) ?_
            refine am_g 1 (if (ln i 6) = 0 then 132 else 66) [some (.ref 14), some (.int (nI n)), some (.int 0), some (.int (am_it (pu_flS 0 1 sr ln Lc) (am_it (pu_flP 0 1 sr ln Lc) (1 <<< (nI n &&& 31)) r) i)), some (.int 1), some (.int (nI r)), some (.int (am_it (pu_flP 0 1 sr ln Lc) (1 <<< (nI n &&& 31)) r)), some (.ref 22), some (.int 40), some (.int (nI i)), some (.ref (75 + i)), v1, v2] [] (hG σ sr ln Lc μ) rfl (am_brR (fun c1 => ?_) (fun c1 => ?_))
            · skip
              refine am_g 2 39 [some (.ref 14), some (.int (nI n)), some (.int 0), some (.int (am_it (pu_flS 0 1 sr ln Lc) (am_it (pu_flP 0 1 sr ln Lc) (1 <<< (nI n &&& 31)) r) i)), some (.int 1), some (.int (nI r)), some (.int (am_it (pu_flP 0 1 sr ln Lc) (1 <<< (nI n &&& 31)) r)), some (.ref 22), some (.int 40), some (.int ((nI i) + 1)), some (.ref (75 + i)), v1, v2] [] (hG σ sr ln Lc μ) rfl ?_
              have qq : (am_it (pu_flS 0 1 sr ln Lc) (am_it (pu_flP 0 1 sr ln Lc) (1 <<< (nI n &&& 31)) r) (i + 1)) = (am_it (pu_flS 0 1 sr ln Lc) (am_it (pu_flP 0 1 sr ln Lc) (1 <<< (nI n &&& 31)) r) i) := by
                rw [am_itS]
                exact (if_pos hL2).trans (if_pos c1)
              rw [nI_up, ← qq]
              exact ihb (i + 1) _ _ _ (by omega)
            · skip
              refine am_g 1 68 [some (.ref 14), some (.int (nI n)), some (.int 0), some (.int (am_it (pu_flS 0 1 sr ln Lc) (am_it (pu_flP 0 1 sr ln Lc) (1 <<< (nI n &&& 31)) r) i)), some (.int 1), some (.int (nI r)), some (.int (am_it (pu_flP 0 1 sr ln Lc) (1 <<< (nI n &&& 31)) r)), some (.ref 22), some (.int 40), some (.int (nI i)), some (.ref (75 + i)), v1, v2] [.ref (75 + i)] (hG σ sr ln Lc μ) rfl ?_
              refine am_call (y := ([13, 8, 46, 82, 1, 41].getD (sr i) 0)) (vs := [.ref (75 + i)]) (rest := []) (v := (some (.int (nI (sr i))))) (h1 := (hG σ sr ln Lc μ)) rfl rfl (am_tgtL (i := i) rfl rfl hL2 (am_lk (f := fun s => [13, 8, 46, 82, 1, 41].getD s 0) (by decide) (hsr _ hL2)) rfl rfl) (sp_v_sort (σ := σ) (μ := μ) d i hL2 (hsr _ hL2)) ?_
              refine am_g 1 (if (nI (sr i)) = 0 then 74 else 132) [some (.ref 14), some (.int (nI n)), some (.int 0), some (.int (am_it (pu_flS 0 1 sr ln Lc) (am_it (pu_flP 0 1 sr ln Lc) (1 <<< (nI n &&& 31)) r) i)), some (.int 1), some (.int (nI r)), some (.int (am_it (pu_flP 0 1 sr ln Lc) (1 <<< (nI n &&& 31)) r)), some (.ref 22), some (.int 40), some (.int (nI i)), some (.ref (75 + i)), v1, v2] [] (hG σ sr ln Lc μ) rfl (am_brR (fun c2 => ?_) (fun c2 => ?_))
              · skip
                have s0 : sr i = 0 := nI_s4 (hsr i hL2) (c2.trans nI_0.symm)
                obtain ⟨x, hx, hx1⟩ := (hwl i hL2).1
                obtain ⟨y, hy, hy1⟩ := (hwl i hL2).2.2.1 (by rw [s0]; decide)
                refine am_g 3 88 [some (.ref 14), some (.int (nI n)), some (.int 0), some (.int (am_it (pu_flS 0 1 sr ln Lc) (am_it (pu_flP 0 1 sr ln Lc) (1 <<< (nI n &&& 31)) r) i)), some (.int 1), some (.int (nI r)), some (.int (am_it (pu_flP 0 1 sr ln Lc) (1 <<< (nI n &&& 31)) r)), some (.ref 22), some (.int 40), some (.int (nI i)), some (.ref (75 + i)), v1, v2] [.ref (75 + i)] (hG σ sr ln Lc μ) rfl ?_
                refine am_lgetR (i := i) (k := 0) rfl hL2 (by decide) (am_lkx (by decide) (hsr _ hL2)) ?_
                refine am_g 4 107 [some (.ref 14), some (.int (nI n)), some (.int 0), some (.int (am_it (pu_flS 0 1 sr ln Lc) (am_it (pu_flP 0 1 sr ln Lc) (1 <<< (nI n &&& 31)) r) i)), some (.int 1), some (.int (nI r)), some (.int (am_it (pu_flP 0 1 sr ln Lc) (1 <<< (nI n &&& 31)) r)), some (.ref 22), some (.int 40), some (.int (nI i)), some (.ref (75 + i)), some (.int (ln i 0)), v2] [.ref (75 + i)] (hG σ sr ln Lc μ) rfl ?_
                refine am_lgetR (i := i) (k := 1) rfl hL2 (by decide) (am_lkx (by decide) (hsr _ hL2)) ?_
                refine am_g 4 116 [some (.ref 14), some (.int (nI n)), some (.int 0), some (.int (am_it (pu_flS 0 1 sr ln Lc) (am_it (pu_flP 0 1 sr ln Lc) (1 <<< (nI n &&& 31)) r) i)), some (.int 1), some (.int (nI r)), some (.int (am_it (pu_flP 0 1 sr ln Lc) (1 <<< (nI n &&& 31)) r)), some (.ref 22), some (.int 40), some (.int (nI i)), some (.ref (75 + i)), some (.int (ln i 0)), some (.int (ln i 1))] [.int (ln i 0), .int (am_it (pu_flS 0 1 sr ln Lc) (am_it (pu_flP 0 1 sr ln Lc) (1 <<< (nI n &&& 31)) r) i), .int (am_it (pu_flS 0 1 sr ln Lc) (am_it (pu_flP 0 1 sr ln Lc) (1 <<< (nI n &&& 31)) r) i)] (hG σ sr ln Lc μ) rfl ?_
                cases e3 : am_hb (am_it (pu_flS 0 1 sr ln Lc) (am_it (pu_flP 0 1 sr ln Lc) (1 <<< (nI n &&& 31)) r) i) x with
                | false =>
                  refine am_call (y := 126) (vs := [.int (am_it (pu_flS 0 1 sr ln Lc) (am_it (pu_flP 0 1 sr ln Lc) (1 <<< (nI n &&& 31)) r) i), .int (ln i 0)]) (rest := [.int (am_it (pu_flS 0 1 sr ln Lc) (am_it (pu_flP 0 1 sr ln Lc) (1 <<< (nI n &&& 31)) r) i)]) (v := (some (.int 0))) (h1 := (hG σ sr ln Lc μ)) rfl rfl rfl (sp_X11_hasBit_v d _ _ _ hx1 _ e3) ?_
                  refine am_g 6 39 [some (.ref 14), some (.int (nI n)), some (.int 0), some (.int ((am_it (pu_flS 0 1 sr ln Lc) (am_it (pu_flP 0 1 sr ln Lc) (1 <<< (nI n &&& 31)) r) i) ||| 0)), some (.int 1), some (.int (nI r)), some (.int (am_it (pu_flP 0 1 sr ln Lc) (1 <<< (nI n &&& 31)) r)), some (.ref 22), some (.int 40), some (.int ((nI i) + 1)), some (.ref (75 + i)), some (.int (ln i 0)), some (.int (ln i 1))] [] (hG σ sr ln Lc μ) rfl ?_
                  have qq : (am_it (pu_flS 0 1 sr ln Lc) (am_it (pu_flP 0 1 sr ln Lc) (1 <<< (nI n &&& 31)) r) (i + 1)) = ((am_it (pu_flS 0 1 sr ln Lc) (am_it (pu_flP 0 1 sr ln Lc) (1 <<< (nI n &&& 31)) r) i) ||| 0) := by
                    rw [am_itS]
                    refine (if_pos hL2).trans ((if_neg c1).trans ((if_pos s0).trans ?_))
                    rw [show (ln i 0).toNatClampNeg = x from by rw [hx1, nI_clamp (by omega)], e3]
                    exact (am_or0 _).symm
                  rw [nI_up, ← qq]
                  exact ihb (i + 1) _ _ _ (by omega)
                | true =>
                  refine am_call (y := 126) (vs := [.int (am_it (pu_flS 0 1 sr ln Lc) (am_it (pu_flP 0 1 sr ln Lc) (1 <<< (nI n &&& 31)) r) i), .int (ln i 0)]) (rest := [.int (am_it (pu_flS 0 1 sr ln Lc) (am_it (pu_flP 0 1 sr ln Lc) (1 <<< (nI n &&& 31)) r) i)]) (v := (some (.int 1))) (h1 := (hG σ sr ln Lc μ)) rfl rfl rfl (sp_X11_hasBit_v d _ _ _ hx1 _ e3) ?_
                  refine am_g 9 39 [some (.ref 14), some (.int (nI n)), some (.int 0), some (.int ((am_it (pu_flS 0 1 sr ln Lc) (am_it (pu_flP 0 1 sr ln Lc) (1 <<< (nI n &&& 31)) r) i) ||| (1 <<< ((ln i 1) &&& 31)))), some (.int 1), some (.int (nI r)), some (.int (am_it (pu_flP 0 1 sr ln Lc) (1 <<< (nI n &&& 31)) r)), some (.ref 22), some (.int 40), some (.int ((nI i) + 1)), some (.ref (75 + i)), some (.int (ln i 0)), some (.int (ln i 1))] [] (hG σ sr ln Lc μ) rfl ?_
                  have qq : (am_it (pu_flS 0 1 sr ln Lc) (am_it (pu_flP 0 1 sr ln Lc) (1 <<< (nI n &&& 31)) r) (i + 1)) = ((am_it (pu_flS 0 1 sr ln Lc) (am_it (pu_flP 0 1 sr ln Lc) (1 <<< (nI n &&& 31)) r) i) ||| (1 <<< ((ln i 1) &&& 31))) := by
                    rw [am_itS]
                    refine (if_pos hL2).trans ((if_neg c1).trans ((if_pos s0).trans ?_))
                    rw [show (ln i 0).toNatClampNeg = x from by rw [hx1, nI_clamp (by omega)], e3]
                    rfl
                  rw [nI_up, ← qq]
                  exact ihb (i + 1) _ _ _ (by omega)
              · skip
                refine am_g 2 39 [some (.ref 14), some (.int (nI n)), some (.int 0), some (.int (am_it (pu_flS 0 1 sr ln Lc) (am_it (pu_flP 0 1 sr ln Lc) (1 <<< (nI n &&& 31)) r) i)), some (.int 1), some (.int (nI r)), some (.int (am_it (pu_flP 0 1 sr ln Lc) (1 <<< (nI n &&& 31)) r)), some (.ref 22), some (.int 40), some (.int ((nI i) + 1)), some (.ref (75 + i)), v1, v2] [] (hG σ sr ln Lc μ) rfl ?_
                have qq : (am_it (pu_flS 0 1 sr ln Lc) (am_it (pu_flP 0 1 sr ln Lc) (1 <<< (nI n &&& 31)) r) (i + 1)) = (am_it (pu_flS 0 1 sr ln Lc) (am_it (pu_flP 0 1 sr ln Lc) (1 <<< (nI n &&& 31)) r) i) := by
                  rw [am_itS]
                  exact (if_pos hL2).trans ((if_neg c1).trans (if_neg (fun q => c2 ((congrArg nI q).trans nI_0))))
                rw [nI_up, ← qq]
                exact ihb (i + 1) _ _ _ (by omega)
          · skip
            refine am_g 3 (if 40 ≤ (nI i) then 138 else 46) [some (.ref 14), some (.int (nI n)), some (.int 0), some (.int (am_it (pu_flS 0 1 sr ln Lc) (am_it (pu_flP 0 1 sr ln Lc) (1 <<< (nI n &&& 31)) r) i)), some (.int 1), some (.int (nI r)), some (.int (am_it (pu_flP 0 1 sr ln Lc) (1 <<< (nI n &&& 31)) r)), some (.ref 22), some (.int 40), some (.int (nI i)), v0, v1, v2] [] (hG σ sr ln Lc μ) rfl ?_
            rw [if_neg (show ¬ 40 ≤ (nI i) from (am_dnle (a := 40) (b := i) (rfl) (rfl) (by omega) (by omega) (by omega)))]
            refine am_g 2 50 [some (.ref 14), some (.int (nI n)), some (.int 0), some (.int (am_it (pu_flS 0 1 sr ln Lc) (am_it (pu_flP 0 1 sr ln Lc) (1 <<< (nI n &&& 31)) r) i)), some (.int 1), some (.int (nI r)), some (.int (am_it (pu_flP 0 1 sr ln Lc) (1 <<< (nI n &&& 31)) r)), some (.ref 22), some (.int 40), some (.int (nI i)), v0, v1, v2] [.int (nI i), .ref 22] (hG σ sr ln Lc μ) rfl ?_
            refine am_laldN (k := i) rfl (rfl) (hL2) (by omega) ?_
            refine am_g 5 39 [some (.ref 14), some (.int (nI n)), some (.int 0), some (.int (am_it (pu_flS 0 1 sr ln Lc) (am_it (pu_flP 0 1 sr ln Lc) (1 <<< (nI n &&& 31)) r) i)), some (.int 1), some (.int (nI r)), some (.int (am_it (pu_flP 0 1 sr ln Lc) (1 <<< (nI n &&& 31)) r)), some (.ref 22), some (.int 40), some (.int ((nI i) + 1)), some (.null), v1, v2] [] (hG σ sr ln Lc μ) rfl ?_
            have qq : (am_it (pu_flS 0 1 sr ln Lc) (am_it (pu_flP 0 1 sr ln Lc) (1 <<< (nI n &&& 31)) r) (i + 1)) = (am_it (pu_flS 0 1 sr ln Lc) (am_it (pu_flP 0 1 sr ln Lc) (1 <<< (nI n &&& 31)) r) i) := by
              rw [am_itS]
              exact if_neg hL2
            rw [nI_up, ← qq]
            exact ihb (i + 1) _ _ _ (by omega)
      exact lpb 40 0 _ _ _ (by omega)
    | succ q iho =>
      intro r w0 w1 w2 w3 w4 w5 w6 hr
      have hr2 : r < k := by omega
      refine am_g 5 (if 20 ≤ (nI r) then 157 else 22) [some (.ref 14), some (.int (nI n)), some (.int 0), some (.int (am_it (pu_flP 0 1 sr ln Lc) (1 <<< (nI n &&& 31)) r)), some (.int 1), some (.int (nI r)), w0, w1, w2, w3, w4, w5, w6] [] (hG σ sr ln Lc μ) rfl ?_
      rw [if_neg (show ¬ 20 ≤ (nI r) from (am_dnle (a := 20) (b := r) (rfl) (rfl) (by omega) (by omega) (by omega)))]
      refine am_g 10 39 [some (.ref 14), some (.int (nI n)), some (.int 0), some (.int (am_it (pu_flP 0 1 sr ln Lc) (1 <<< (nI n &&& 31)) r)), some (.int 1), some (.int (nI r)), some (.int (am_it (pu_flP 0 1 sr ln Lc) (1 <<< (nI n &&& 31)) r)), some (.ref 22), some (.int 40), some (.int 0), w4, w5, w6] [] (hG σ sr ln Lc μ) rfl ?_
      have lpb : ∀ (rb i : Nat) (v0 : Option Value) (v1 : Option Value) (v2 : Option Value), i + rb = 40 → am_R xs LL cd_X11_flowFrom (am_X xs LL (d + 1)) 39 [some (.ref 14), some (.int (nI n)), some (.int 0), some (.int (am_it (pu_flS 0 1 sr ln Lc) (am_it (pu_flP 0 1 sr ln Lc) (1 <<< (nI n &&& 31)) r) i)), some (.int 1), some (.int (nI r)), some (.int (am_it (pu_flP 0 1 sr ln Lc) (1 <<< (nI n &&& 31)) r)), some (.ref 22), some (.int 40), some (.int (nI i)), v0, v1, v2] [] (hG σ sr ln Lc μ) (some (.int (am_it (pu_flP 0 1 sr ln Lc) (1 <<< (nI n &&& 31)) k))) (hG σ sr ln Lc μ) := by
        intro rb
        induction rb with
        | zero =>
          intro i v0 v1 v2 hib
          have hi2b : i = 40 := by omega
          rw [hi2b]
          refine am_g 3 (if 40 ≤ (nI 40) then 138 else 46) [some (.ref 14), some (.int (nI n)), some (.int 0), some (.int (am_it (pu_flS 0 1 sr ln Lc) (am_it (pu_flP 0 1 sr ln Lc) (1 <<< (nI n &&& 31)) r) 40)), some (.int 1), some (.int (nI r)), some (.int (am_it (pu_flP 0 1 sr ln Lc) (1 <<< (nI n &&& 31)) r)), some (.ref 22), some (.int 40), some (.int (nI 40)), v0, v1, v2] [] (hG σ sr ln Lc μ) rfl ?_
          rw [if_pos (show 40 ≤ (nI 40) from (am_dle (a := 40) (b := 40) (rfl) (rfl) (by omega) (by omega) (by omega)))]
          refine am_g 3 (if (am_it (pu_flS 0 1 sr ln Lc) (am_it (pu_flP 0 1 sr ln Lc) (1 <<< (nI n &&& 31)) r) 40) = (am_it (pu_flP 0 1 sr ln Lc) (1 <<< (nI n &&& 31)) r) then 148 else 144) [some (.ref 14), some (.int (nI n)), some (.int 0), some (.int (am_it (pu_flS 0 1 sr ln Lc) (am_it (pu_flP 0 1 sr ln Lc) (1 <<< (nI n &&& 31)) r) 40)), some (.int 1), some (.int (nI r)), some (.int (am_it (pu_flP 0 1 sr ln Lc) (1 <<< (nI n &&& 31)) r)), some (.ref 22), some (.int 40), some (.int (nI 40)), v0, v1, v2] [] (hG σ sr ln Lc μ) rfl ?_
          rw [if_neg (show ¬ (am_it (pu_flS 0 1 sr ln Lc) (am_it (pu_flP 0 1 sr ln Lc) (1 <<< (nI n &&& 31)) r) 40) = (am_it (pu_flP 0 1 sr ln Lc) (1 <<< (nI n &&& 31)) r) from (hrun r hr2))]
          refine am_g 5 10 [some (.ref 14), some (.int (nI n)), some (.int 0), some (.int (am_it (pu_flS 0 1 sr ln Lc) (am_it (pu_flP 0 1 sr ln Lc) (1 <<< (nI n &&& 31)) r) 40)), some (.int 1), some (.int ((nI r) + 1)), some (.int (am_it (pu_flP 0 1 sr ln Lc) (1 <<< (nI n &&& 31)) r)), some (.ref 22), some (.int 40), some (.int (nI 40)), v0, v1, v2] [] (hG σ sr ln Lc μ) rfl ?_
          rw [nI_up]
          exact iho (r + 1) _ _ _ _ _ _ _ (by omega)
        | succ rb ihb =>
          intro i v0 v1 v2 hib
          have hi2b : i < 40 := by omega
          by_cases hL2 : i < Lc
          · skip
            refine am_g 3 (if 40 ≤ (nI i) then 138 else 46) [some (.ref 14), some (.int (nI n)), some (.int 0), some (.int (am_it (pu_flS 0 1 sr ln Lc) (am_it (pu_flP 0 1 sr ln Lc) (1 <<< (nI n &&& 31)) r) i)), some (.int 1), some (.int (nI r)), some (.int (am_it (pu_flP 0 1 sr ln Lc) (1 <<< (nI n &&& 31)) r)), some (.ref 22), some (.int 40), some (.int (nI i)), v0, v1, v2] [] (hG σ sr ln Lc μ) rfl ?_
            rw [if_neg (show ¬ 40 ≤ (nI i) from (am_dnle (a := 40) (b := i) (rfl) (rfl) (by omega) (by omega) (by omega)))]
            refine am_g 2 50 [some (.ref 14), some (.int (nI n)), some (.int 0), some (.int (am_it (pu_flS 0 1 sr ln Lc) (am_it (pu_flP 0 1 sr ln Lc) (1 <<< (nI n &&& 31)) r) i)), some (.int 1), some (.int (nI r)), some (.int (am_it (pu_flP 0 1 sr ln Lc) (1 <<< (nI n &&& 31)) r)), some (.ref 22), some (.int 40), some (.int (nI i)), v0, v1, v2] [.int (nI i), .ref 22] (hG σ sr ln Lc μ) rfl ?_
            refine am_laldR (k := i) rfl (rfl) (hL2) (by omega) ?_
            refine am_g 2 55 [some (.ref 14), some (.int (nI n)), some (.int 0), some (.int (am_it (pu_flS 0 1 sr ln Lc) (am_it (pu_flP 0 1 sr ln Lc) (1 <<< (nI n &&& 31)) r) i)), some (.int 1), some (.int (nI r)), some (.int (am_it (pu_flP 0 1 sr ln Lc) (1 <<< (nI n &&& 31)) r)), some (.ref 22), some (.int 40), some (.int (nI i)), some (.ref (75 + i)), v1, v2] [.ref (75 + i)] (hG σ sr ln Lc μ) rfl ?_
            refine am_lnnR rfl _ ?_
            refine am_g 1 60 [some (.ref 14), some (.int (nI n)), some (.int 0), some (.int (am_it (pu_flS 0 1 sr ln Lc) (am_it (pu_flP 0 1 sr ln Lc) (1 <<< (nI n &&& 31)) r) i)), some (.int 1), some (.int (nI r)), some (.int (am_it (pu_flP 0 1 sr ln Lc) (1 <<< (nI n &&& 31)) r)), some (.ref 22), some (.int 40), some (.int (nI i)), some (.ref (75 + i)), v1, v2] [.ref (75 + i)] (hG σ sr ln Lc μ) rfl ?_
            refine am_lgetR (i := i) (k := 6) rfl hL2 (by decide) (am_lkx (by decide) (hsr _ hL2)) ?_
            refine am_g 1 (if (ln i 6) = 0 then 132 else 66) [some (.ref 14), some (.int (nI n)), some (.int 0), some (.int (am_it (pu_flS 0 1 sr ln Lc) (am_it (pu_flP 0 1 sr ln Lc) (1 <<< (nI n &&& 31)) r) i)), some (.int 1), some (.int (nI r)), some (.int (am_it (pu_flP 0 1 sr ln Lc) (1 <<< (nI n &&& 31)) r)), some (.ref 22), some (.int 40), some (.int (nI i)), some (.ref (75 + i)), v1, v2] [] (hG σ sr ln Lc μ) rfl (am_brR (fun c4 => ?_) (fun c4 => ?_))
            · skip
              refine am_g 2 39 [some (.ref 14), some (.int (nI n)), some (.int 0), some (.int (am_it (pu_flS 0 1 sr ln Lc) (am_it (pu_flP 0 1 sr ln Lc) (1 <<< (nI n &&& 31)) r) i)), some (.int 1), some (.int (nI r)), some (.int (am_it (pu_flP 0 1 sr ln Lc) (1 <<< (nI n &&& 31)) r)), some (.ref 22), some (.int 40), some (.int ((nI i) + 1)), some (.ref (75 + i)), v1, v2] [] (hG σ sr ln Lc μ) rfl ?_
              have qq : (am_it (pu_flS 0 1 sr ln Lc) (am_it (pu_flP 0 1 sr ln Lc) (1 <<< (nI n &&& 31)) r) (i + 1)) = (am_it (pu_flS 0 1 sr ln Lc) (am_it (pu_flP 0 1 sr ln Lc) (1 <<< (nI n &&& 31)) r) i) := by
                rw [am_itS]
                exact (if_pos hL2).trans (if_pos c4)
              rw [nI_up, ← qq]
              exact ihb (i + 1) _ _ _ (by omega)
            · skip
              refine am_g 1 68 [some (.ref 14), some (.int (nI n)), some (.int 0), some (.int (am_it (pu_flS 0 1 sr ln Lc) (am_it (pu_flP 0 1 sr ln Lc) (1 <<< (nI n &&& 31)) r) i)), some (.int 1), some (.int (nI r)), some (.int (am_it (pu_flP 0 1 sr ln Lc) (1 <<< (nI n &&& 31)) r)), some (.ref 22), some (.int 40), some (.int (nI i)), some (.ref (75 + i)), v1, v2] [.ref (75 + i)] (hG σ sr ln Lc μ) rfl ?_
              refine am_call (y := ([13, 8, 46, 82, 1, 41].getD (sr i) 0)) (vs := [.ref (75 + i)]) (rest := []) (v := (some (.int (nI (sr i))))) (h1 := (hG σ sr ln Lc μ)) rfl rfl (am_tgtL (i := i) rfl rfl hL2 (am_lk (f := fun s => [13, 8, 46, 82, 1, 41].getD s 0) (by decide) (hsr _ hL2)) rfl rfl) (sp_v_sort (σ := σ) (μ := μ) d i hL2 (hsr _ hL2)) ?_
              refine am_g 1 (if (nI (sr i)) = 0 then 74 else 132) [some (.ref 14), some (.int (nI n)), some (.int 0), some (.int (am_it (pu_flS 0 1 sr ln Lc) (am_it (pu_flP 0 1 sr ln Lc) (1 <<< (nI n &&& 31)) r) i)), some (.int 1), some (.int (nI r)), some (.int (am_it (pu_flP 0 1 sr ln Lc) (1 <<< (nI n &&& 31)) r)), some (.ref 22), some (.int 40), some (.int (nI i)), some (.ref (75 + i)), v1, v2] [] (hG σ sr ln Lc μ) rfl (am_brR (fun c5 => ?_) (fun c5 => ?_))
              · skip
                have s0 : sr i = 0 := nI_s4 (hsr i hL2) (c5.trans nI_0.symm)
                obtain ⟨x, hx, hx1⟩ := (hwl i hL2).1
                obtain ⟨y, hy, hy1⟩ := (hwl i hL2).2.2.1 (by rw [s0]; decide)
                refine am_g 3 88 [some (.ref 14), some (.int (nI n)), some (.int 0), some (.int (am_it (pu_flS 0 1 sr ln Lc) (am_it (pu_flP 0 1 sr ln Lc) (1 <<< (nI n &&& 31)) r) i)), some (.int 1), some (.int (nI r)), some (.int (am_it (pu_flP 0 1 sr ln Lc) (1 <<< (nI n &&& 31)) r)), some (.ref 22), some (.int 40), some (.int (nI i)), some (.ref (75 + i)), v1, v2] [.ref (75 + i)] (hG σ sr ln Lc μ) rfl ?_
                refine am_lgetR (i := i) (k := 0) rfl hL2 (by decide) (am_lkx (by decide) (hsr _ hL2)) ?_
                refine am_g 4 107 [some (.ref 14), some (.int (nI n)), some (.int 0), some (.int (am_it (pu_flS 0 1 sr ln Lc) (am_it (pu_flP 0 1 sr ln Lc) (1 <<< (nI n &&& 31)) r) i)), some (.int 1), some (.int (nI r)), some (.int (am_it (pu_flP 0 1 sr ln Lc) (1 <<< (nI n &&& 31)) r)), some (.ref 22), some (.int 40), some (.int (nI i)), some (.ref (75 + i)), some (.int (ln i 0)), v2] [.ref (75 + i)] (hG σ sr ln Lc μ) rfl ?_
                refine am_lgetR (i := i) (k := 1) rfl hL2 (by decide) (am_lkx (by decide) (hsr _ hL2)) ?_
                refine am_g 4 116 [some (.ref 14), some (.int (nI n)), some (.int 0), some (.int (am_it (pu_flS 0 1 sr ln Lc) (am_it (pu_flP 0 1 sr ln Lc) (1 <<< (nI n &&& 31)) r) i)), some (.int 1), some (.int (nI r)), some (.int (am_it (pu_flP 0 1 sr ln Lc) (1 <<< (nI n &&& 31)) r)), some (.ref 22), some (.int 40), some (.int (nI i)), some (.ref (75 + i)), some (.int (ln i 0)), some (.int (ln i 1))] [.int (ln i 0), .int (am_it (pu_flS 0 1 sr ln Lc) (am_it (pu_flP 0 1 sr ln Lc) (1 <<< (nI n &&& 31)) r) i), .int (am_it (pu_flS 0 1 sr ln Lc) (am_it (pu_flP 0 1 sr ln Lc) (1 <<< (nI n &&& 31)) r) i)] (hG σ sr ln Lc μ) rfl ?_
                cases e6 : am_hb (am_it (pu_flS 0 1 sr ln Lc) (am_it (pu_flP 0 1 sr ln Lc) (1 <<< (nI n &&& 31)) r) i) x with
                | false =>
                  refine am_call (y := 126) (vs := [.int (am_it (pu_flS 0 1 sr ln Lc) (am_it (pu_flP 0 1 sr ln Lc) (1 <<< (nI n &&& 31)) r) i), .int (ln i 0)]) (rest := [.int (am_it (pu_flS 0 1 sr ln Lc) (am_it (pu_flP 0 1 sr ln Lc) (1 <<< (nI n &&& 31)) r) i)]) (v := (some (.int 0))) (h1 := (hG σ sr ln Lc μ)) rfl rfl rfl (sp_X11_hasBit_v d _ _ _ hx1 _ e6) ?_
                  refine am_g 6 39 [some (.ref 14), some (.int (nI n)), some (.int 0), some (.int ((am_it (pu_flS 0 1 sr ln Lc) (am_it (pu_flP 0 1 sr ln Lc) (1 <<< (nI n &&& 31)) r) i) ||| 0)), some (.int 1), some (.int (nI r)), some (.int (am_it (pu_flP 0 1 sr ln Lc) (1 <<< (nI n &&& 31)) r)), some (.ref 22), some (.int 40), some (.int ((nI i) + 1)), some (.ref (75 + i)), some (.int (ln i 0)), some (.int (ln i 1))] [] (hG σ sr ln Lc μ) rfl ?_
                  have qq : (am_it (pu_flS 0 1 sr ln Lc) (am_it (pu_flP 0 1 sr ln Lc) (1 <<< (nI n &&& 31)) r) (i + 1)) = ((am_it (pu_flS 0 1 sr ln Lc) (am_it (pu_flP 0 1 sr ln Lc) (1 <<< (nI n &&& 31)) r) i) ||| 0) := by
                    rw [am_itS]
                    refine (if_pos hL2).trans ((if_neg c4).trans ((if_pos s0).trans ?_))
                    rw [show (ln i 0).toNatClampNeg = x from by rw [hx1, nI_clamp (by omega)], e6]
                    exact (am_or0 _).symm
                  rw [nI_up, ← qq]
                  exact ihb (i + 1) _ _ _ (by omega)
                | true =>
                  refine am_call (y := 126) (vs := [.int (am_it (pu_flS 0 1 sr ln Lc) (am_it (pu_flP 0 1 sr ln Lc) (1 <<< (nI n &&& 31)) r) i), .int (ln i 0)]) (rest := [.int (am_it (pu_flS 0 1 sr ln Lc) (am_it (pu_flP 0 1 sr ln Lc) (1 <<< (nI n &&& 31)) r) i)]) (v := (some (.int 1))) (h1 := (hG σ sr ln Lc μ)) rfl rfl rfl (sp_X11_hasBit_v d _ _ _ hx1 _ e6) ?_
                  refine am_g 9 39 [some (.ref 14), some (.int (nI n)), some (.int 0), some (.int ((am_it (pu_flS 0 1 sr ln Lc) (am_it (pu_flP 0 1 sr ln Lc) (1 <<< (nI n &&& 31)) r) i) ||| (1 <<< ((ln i 1) &&& 31)))), some (.int 1), some (.int (nI r)), some (.int (am_it (pu_flP 0 1 sr ln Lc) (1 <<< (nI n &&& 31)) r)), some (.ref 22), some (.int 40), some (.int ((nI i) + 1)), some (.ref (75 + i)), some (.int (ln i 0)), some (.int (ln i 1))] [] (hG σ sr ln Lc μ) rfl ?_
                  have qq : (am_it (pu_flS 0 1 sr ln Lc) (am_it (pu_flP 0 1 sr ln Lc) (1 <<< (nI n &&& 31)) r) (i + 1)) = ((am_it (pu_flS 0 1 sr ln Lc) (am_it (pu_flP 0 1 sr ln Lc) (1 <<< (nI n &&& 31)) r) i) ||| (1 <<< ((ln i 1) &&& 31))) := by
                    rw [am_itS]
                    refine (if_pos hL2).trans ((if_neg c4).trans ((if_pos s0).trans ?_))
                    rw [show (ln i 0).toNatClampNeg = x from by rw [hx1, nI_clamp (by omega)], e6]
                    rfl
                  rw [nI_up, ← qq]
                  exact ihb (i + 1) _ _ _ (by omega)
              · skip
                refine am_g 2 39 [some (.ref 14), some (.int (nI n)), some (.int 0), some (.int (am_it (pu_flS 0 1 sr ln Lc) (am_it (pu_flP 0 1 sr ln Lc) (1 <<< (nI n &&& 31)) r) i)), some (.int 1), some (.int (nI r)), some (.int (am_it (pu_flP 0 1 sr ln Lc) (1 <<< (nI n &&& 31)) r)), some (.ref 22), some (.int 40), some (.int ((nI i) + 1)), some (.ref (75 + i)), v1, v2] [] (hG σ sr ln Lc μ) rfl ?_
                have qq : (am_it (pu_flS 0 1 sr ln Lc) (am_it (pu_flP 0 1 sr ln Lc) (1 <<< (nI n &&& 31)) r) (i + 1)) = (am_it (pu_flS 0 1 sr ln Lc) (am_it (pu_flP 0 1 sr ln Lc) (1 <<< (nI n &&& 31)) r) i) := by
                  rw [am_itS]
                  exact (if_pos hL2).trans ((if_neg c4).trans (if_neg (fun q => c5 ((congrArg nI q).trans nI_0))))
                rw [nI_up, ← qq]
                exact ihb (i + 1) _ _ _ (by omega)
          · skip
            refine am_g 3 (if 40 ≤ (nI i) then 138 else 46) [some (.ref 14), some (.int (nI n)), some (.int 0), some (.int (am_it (pu_flS 0 1 sr ln Lc) (am_it (pu_flP 0 1 sr ln Lc) (1 <<< (nI n &&& 31)) r) i)), some (.int 1), some (.int (nI r)), some (.int (am_it (pu_flP 0 1 sr ln Lc) (1 <<< (nI n &&& 31)) r)), some (.ref 22), some (.int 40), some (.int (nI i)), v0, v1, v2] [] (hG σ sr ln Lc μ) rfl ?_
            rw [if_neg (show ¬ 40 ≤ (nI i) from (am_dnle (a := 40) (b := i) (rfl) (rfl) (by omega) (by omega) (by omega)))]
            refine am_g 2 50 [some (.ref 14), some (.int (nI n)), some (.int 0), some (.int (am_it (pu_flS 0 1 sr ln Lc) (am_it (pu_flP 0 1 sr ln Lc) (1 <<< (nI n &&& 31)) r) i)), some (.int 1), some (.int (nI r)), some (.int (am_it (pu_flP 0 1 sr ln Lc) (1 <<< (nI n &&& 31)) r)), some (.ref 22), some (.int 40), some (.int (nI i)), v0, v1, v2] [.int (nI i), .ref 22] (hG σ sr ln Lc μ) rfl ?_
            refine am_laldN (k := i) rfl (rfl) (hL2) (by omega) ?_
            refine am_g 5 39 [some (.ref 14), some (.int (nI n)), some (.int 0), some (.int (am_it (pu_flS 0 1 sr ln Lc) (am_it (pu_flP 0 1 sr ln Lc) (1 <<< (nI n &&& 31)) r) i)), some (.int 1), some (.int (nI r)), some (.int (am_it (pu_flP 0 1 sr ln Lc) (1 <<< (nI n &&& 31)) r)), some (.ref 22), some (.int 40), some (.int ((nI i) + 1)), some (.null), v1, v2] [] (hG σ sr ln Lc μ) rfl ?_
            have qq : (am_it (pu_flS 0 1 sr ln Lc) (am_it (pu_flP 0 1 sr ln Lc) (1 <<< (nI n &&& 31)) r) (i + 1)) = (am_it (pu_flS 0 1 sr ln Lc) (am_it (pu_flP 0 1 sr ln Lc) (1 <<< (nI n &&& 31)) r) i) := by
              rw [am_itS]
              exact if_neg hL2
            rw [nI_up, ← qq]
            exact ihb (i + 1) _ _ _ (by omega)
      exact lpb 40 0 _ _ _ (by omega)
  exact lpo k 0 _ _ _ _ _ _ _ (by omega)
theorem sp_X11_melted_ok (d : Nat) (n : Nat) (hn : n < 20) (A B : Int32) (hA : ∀ d, am_X xs LL (d + 2) 136 [.ref 14, .int (nI n), .int 1] (hG σ sr ln Lc μ) (some (.int A)) (hG σ sr ln Lc μ)) (hB : ∀ d, am_X xs LL (d + 2) 136 [.ref 14, .int (nI n), .int 0] (hG σ sr ln Lc μ) (some (.int B)) (hG σ sr ln Lc μ)) (m : Nat) (hbd : pu_bd 20 (A &&& B)) (hm : m < 20) (h1 : bt (A &&& B) m = true) (h0 : ∀ i, i < m → bt (A &&& B) i = false) : am_X xs LL (d + 3) 110 [.ref 14, .int (nI n)] (hG σ sr ln Lc μ) (some (.int (nI m))) (hG σ sr ln Lc μ) := by
  refine am_XR (d := d + 2) (C := cd_X11_melted) (L := [some (.ref 14), some (.int (nI n)), none]) rfl rfl rfl rfl ?_
  refine am_g 1 1 [some (.ref 14), some (.int (nI n)), none] [.int (nI n)] (hG σ sr ln Lc μ) rfl ?_
  refine am_call (y := 123) (vs := [.int (nI n)]) (rest := []) (v := (some (.int 1))) (h1 := (hG σ sr ln Lc μ)) rfl rfl rfl (sp_X11_isName d _ _ (am_in_of_nI hn (by omega))) ?_
  refine am_g 4 13 [some (.ref 14), some (.int (nI n)), none] [.int 1, .int (nI n), .ref 14] (hG σ sr ln Lc μ) rfl ?_
  refine am_call (y := 136) (vs := [.ref 14, .int (nI n), .int 1]) (rest := []) (v := (some (.int A))) (h1 := (hG σ sr ln Lc μ)) rfl rfl rfl (hA d) ?_
  refine am_g 3 19 [some (.ref 14), some (.int (nI n)), none] [.int 0, .int (nI n), .ref 14, .int A] (hG σ sr ln Lc μ) rfl ?_
  refine am_call (y := 136) (vs := [.ref 14, .int (nI n), .int 0]) (rest := [.int A]) (v := (some (.int B))) (h1 := (hG σ sr ln Lc μ)) rfl rfl rfl (hB d) ?_
  refine am_g 3 25 [some (.ref 14), some (.int (nI n)), some (.int (A &&& B))] [.int (A &&& B)] (hG σ sr ln Lc μ) rfl ?_
  refine am_call (y := 211) (vs := [.int (A &&& B)]) (rest := []) (v := (some (.int (nI m)))) (h1 := (hG σ sr ln Lc μ)) rfl rfl rfl (sp_ntz (d + 1) _ m _ hbd hm h1 h0) ?_
  exact am_ret2 rfl rfl rfl rfl rfl
theorem sp_X11_melted_bad (d : Nat) (n : Int32) (hb : am_in n 20 = false) : am_X xs LL (d + 3) 110 [.ref 14, .int n] (hG σ sr ln Lc μ) (some (.int (-2))) (hG σ sr ln Lc μ) := by
  refine am_XR (d := d + 2) (C := cd_X11_melted) (L := [some (.ref 14), some (.int n), none]) rfl rfl rfl rfl ?_
  refine am_g 1 1 [some (.ref 14), some (.int n), none] [.int n] (hG σ sr ln Lc μ) rfl ?_
  refine am_call (y := 123) (vs := [.int n]) (rest := []) (v := (some (.int 0))) (h1 := (hG σ sr ln Lc μ)) rfl rfl rfl (sp_X11_isName d _ _ hb) ?_
  refine am_g 2 9 [some (.ref 14), some (.int n), none] [.int (-2)] (hG σ sr ln Lc μ) rfl ?_
  exact am_ret2 rfl rfl rfl rfl rfl
def pu_rhS (F : Nat → Int32) (b : Int32) (a : Nat) (z : Int32) : Int32 := bif am_hb b a then z ||| F a else z
def pu_rhP (F : Nat → Int32) (_r : Nat) (b : Int32) : Int32 := am_it (pu_rhS F b) b 20
def pu_fwS (sr : Nat → Nat) (ln : Nat → Nat → Int32) (i : Nat) (F : Nat → Int32) : Nat → Int32 := if ln i 6 = 0 then F else if sr i = 0 then upd F (ln i 1).toNatClampNeg (F (ln i 1).toNatClampNeg ||| 1 <<< (ln i 0 &&& 31)) else F
def pu_fs (p : Nat → Bool) (n : Nat) : Nat → Nat → Nat
  | 0, _ => n
  | r + 1, a => bif p a then a else pu_fs p n r (a + 1)
def pu_bfP (f : Nat → Int32 → Int32) (a : Int32) : Nat → Int32
  | 0 => 0
  | r + 1 => am_it f a r
theorem sp_X12_reached (d : Nat) (n : Nat) (k : Nat) (hrun : ∀ r, r ≤ k → ¬ (pu_bfP (pu_rhP (μ 29)) (1 <<< (nI n &&& 31)) r) = (am_it (pu_rhP (μ 29)) (1 <<< (nI n &&& 31)) r)) (hk : (am_it (pu_rhP (μ 29)) (1 <<< (nI n &&& 31)) (k + 1)) = (am_it (pu_rhP (μ 29)) (1 <<< (nI n &&& 31)) k)) : am_X xs LL (d + 1) 189 [.ref 47, .int (nI n)] (hG σ sr ln Lc μ) (some (.int (am_it (pu_rhP (μ 29)) (1 <<< (nI n &&& 31)) k))) (hG σ sr ln Lc μ) := by
  refine am_XR (d := d + 0) (C := cd_X12_reached) (L := [some (.ref 47), some (.int (nI n)), none, none, none]) rfl rfl rfl rfl ?_
  refine am_g 6 6 [some (.ref 47), some (.int (nI n)), some (.int (1 <<< ((nI n) &&& 31))), some (.int 0), none] [] (hG σ sr ln Lc μ) rfl ?_
  have lpw : ∀ (q r : Nat) (w : Option Value), r + q = k + 1 → am_R xs LL cd_X12_reached (am_X xs LL (d + 0)) 6 [some (.ref 47), some (.int (nI n)), some (.int (am_it (pu_rhP (μ 29)) (1 <<< (nI n &&& 31)) r)), some (.int (pu_bfP (pu_rhP (μ 29)) (1 <<< (nI n &&& 31)) r)), w] [] (hG σ sr ln Lc μ) (some (.int (am_it (pu_rhP (μ 29)) (1 <<< (nI n &&& 31)) k))) (hG σ sr ln Lc μ) := by
    intro q
    induction q with
    | zero =>
      intro r w hr
      have hr2 : r = k + 1 := by omega
      rw [hr2]
      refine am_g 3 (if (pu_bfP (pu_rhP (μ 29)) (1 <<< (nI n &&& 31)) (k + 1)) = (am_it (pu_rhP (μ 29)) (1 <<< (nI n &&& 31)) (k + 1)) then 56 else 11) [some (.ref 47), some (.int (nI n)), some (.int (am_it (pu_rhP (μ 29)) (1 <<< (nI n &&& 31)) (k + 1))), some (.int (pu_bfP (pu_rhP (μ 29)) (1 <<< (nI n &&& 31)) (k + 1))), w] [] (hG σ sr ln Lc μ) rfl ?_
      rw [if_pos (show (pu_bfP (pu_rhP (μ 29)) (1 <<< (nI n &&& 31)) (k + 1)) = (am_it (pu_rhP (μ 29)) (1 <<< (nI n &&& 31)) (k + 1)) from hk.symm)]
      refine am_g 1 57 [some (.ref 47), some (.int (nI n)), some (.int (am_it (pu_rhP (μ 29)) (1 <<< (nI n &&& 31)) (k + 1))), some (.int (pu_bfP (pu_rhP (μ 29)) (1 <<< (nI n &&& 31)) (k + 1))), w] [.int (am_it (pu_rhP (μ 29)) (1 <<< (nI n &&& 31)) (k + 1))] (hG σ sr ln Lc μ) rfl ?_
      exact am_ret2 rfl rfl rfl (by rw [hk]) rfl
    | succ q ihw =>
      intro r w hr
      have hr2 : r ≤ k := by omega
      refine am_g 3 (if (pu_bfP (pu_rhP (μ 29)) (1 <<< (nI n &&& 31)) r) = (am_it (pu_rhP (μ 29)) (1 <<< (nI n &&& 31)) r) then 56 else 11) [some (.ref 47), some (.int (nI n)), some (.int (am_it (pu_rhP (μ 29)) (1 <<< (nI n &&& 31)) r)), some (.int (pu_bfP (pu_rhP (μ 29)) (1 <<< (nI n &&& 31)) r)), w] [] (hG σ sr ln Lc μ) rfl ?_
      rw [if_neg (show ¬ (pu_bfP (pu_rhP (μ 29)) (1 <<< (nI n &&& 31)) r) = (am_it (pu_rhP (μ 29)) (1 <<< (nI n &&& 31)) r) from (hrun r hr2))]
      refine am_g 4 16 [some (.ref 47), some (.int (nI n)), some (.int (am_it (pu_rhP (μ 29)) (1 <<< (nI n &&& 31)) r)), some (.int (am_it (pu_rhP (μ 29)) (1 <<< (nI n &&& 31)) r)), some (.int 0)] [] (hG σ sr ln Lc μ) rfl ?_
      have lpc : ∀ (rc a : Nat), a + rc = 20 → am_R xs LL cd_X12_reached (am_X xs LL (d + 0)) 16 [some (.ref 47), some (.int (nI n)), some (.int (am_it (pu_rhS (μ 29) (am_it (pu_rhP (μ 29)) (1 <<< (nI n &&& 31)) r)) (am_it (pu_rhP (μ 29)) (1 <<< (nI n &&& 31)) r) a)), some (.int (am_it (pu_rhP (μ 29)) (1 <<< (nI n &&& 31)) r)), some (.int (nI a))] [] (hG σ sr ln Lc μ) (some (.int (am_it (pu_rhP (μ 29)) (1 <<< (nI n &&& 31)) k))) (hG σ sr ln Lc μ) := by
        intro rc
        induction rc with
        | zero =>
          intro a  hic
          have hi2c : a = 20 := by omega
          rw [hi2c]
          refine am_g 3 (if 20 ≤ (nI 20) then 53 else 23) [some (.ref 47), some (.int (nI n)), some (.int (am_it (pu_rhS (μ 29) (am_it (pu_rhP (μ 29)) (1 <<< (nI n &&& 31)) r)) (am_it (pu_rhP (μ 29)) (1 <<< (nI n &&& 31)) r) 20)), some (.int (am_it (pu_rhP (μ 29)) (1 <<< (nI n &&& 31)) r)), some (.int (nI 20))] [] (hG σ sr ln Lc μ) rfl ?_
          rw [if_pos (show 20 ≤ (nI 20) from (am_dle (a := 20) (b := 20) (rfl) (rfl) (by omega) (by omega) (by omega)))]
          refine am_g 1 6 [some (.ref 47), some (.int (nI n)), some (.int (am_it (pu_rhS (μ 29) (am_it (pu_rhP (μ 29)) (1 <<< (nI n &&& 31)) r)) (am_it (pu_rhP (μ 29)) (1 <<< (nI n &&& 31)) r) 20)), some (.int (am_it (pu_rhP (μ 29)) (1 <<< (nI n &&& 31)) r)), some (.int (nI 20))] [] (hG σ sr ln Lc μ) rfl ?_
          exact ihw (r + 1) _ (by omega)
        | succ rc ihc =>
          intro a  hic
          have hi2c : a < 20 := by omega
          refine am_g 3 (if 20 ≤ (nI a) then 53 else 23) [some (.ref 47), some (.int (nI n)), some (.int (am_it (pu_rhS (μ 29) (am_it (pu_rhP (μ 29)) (1 <<< (nI n &&& 31)) r)) (am_it (pu_rhP (μ 29)) (1 <<< (nI n &&& 31)) r) a)), some (.int (am_it (pu_rhP (μ 29)) (1 <<< (nI n &&& 31)) r)), some (.int (nI a))] [] (hG σ sr ln Lc μ) rfl ?_
          rw [if_neg (show ¬ 20 ≤ (nI a) from (am_dnle (a := 20) (b := a) (rfl) (rfl) (by omega) (by omega) (by omega)))]
          refine am_g 8 (if (((am_it (pu_rhP (μ 29)) (1 <<< (nI n &&& 31)) r) >>> ((nI a) &&& 31)) &&& 1) = 1 then 34 else 44) [some (.ref 47), some (.int (nI n)), some (.int (am_it (pu_rhS (μ 29) (am_it (pu_rhP (μ 29)) (1 <<< (nI n &&& 31)) r)) (am_it (pu_rhP (μ 29)) (1 <<< (nI n &&& 31)) r) a)), some (.int (am_it (pu_rhP (μ 29)) (1 <<< (nI n &&& 31)) r)), some (.int (nI a))] [.int (am_it (pu_rhS (μ 29) (am_it (pu_rhP (μ 29)) (1 <<< (nI n &&& 31)) r)) (am_it (pu_rhP (μ 29)) (1 <<< (nI n &&& 31)) r) a)] (hG σ sr ln Lc μ) rfl (am_brR (fun c1 => ?_) (fun c1 => ?_))
          · skip
            refine am_g 3 40 [some (.ref 47), some (.int (nI n)), some (.int (am_it (pu_rhS (μ 29) (am_it (pu_rhP (μ 29)) (1 <<< (nI n &&& 31)) r)) (am_it (pu_rhP (μ 29)) (1 <<< (nI n &&& 31)) r) a)), some (.int (am_it (pu_rhP (μ 29)) (1 <<< (nI n &&& 31)) r)), some (.int (nI a))] [.int (nI a), .ref 67, .int (am_it (pu_rhS (μ 29) (am_it (pu_rhP (μ 29)) (1 <<< (nI n &&& 31)) r)) (am_it (pu_rhP (μ 29)) (1 <<< (nI n &&& 31)) r) a)] (hG σ sr ln Lc μ) rfl ?_
            refine am_ialdR (n := 20) (f := (μ 29)) (k := a) rfl rfl (rfl) (by omega) (by decide) ?_
            refine am_g 5 16 [some (.ref 47), some (.int (nI n)), some (.int ((am_it (pu_rhS (μ 29) (am_it (pu_rhP (μ 29)) (1 <<< (nI n &&& 31)) r)) (am_it (pu_rhP (μ 29)) (1 <<< (nI n &&& 31)) r) a) ||| (μ 29 a))), some (.int (am_it (pu_rhP (μ 29)) (1 <<< (nI n &&& 31)) r)), some (.int ((nI a) + 1))] [] (hG σ sr ln Lc μ) rfl ?_
            have qq : (am_it (pu_rhS (μ 29) (am_it (pu_rhP (μ 29)) (1 <<< (nI n &&& 31)) r)) (am_it (pu_rhP (μ 29)) (1 <<< (nI n &&& 31)) r) (a + 1)) = ((am_it (pu_rhS (μ 29) (am_it (pu_rhP (μ 29)) (1 <<< (nI n &&& 31)) r)) (am_it (pu_rhP (μ 29)) (1 <<< (nI n &&& 31)) r) a) ||| (μ 29 a)) := by
              rw [am_itS]
              unfold pu_rhS; rw [show am_hb (am_it (pu_rhP (μ 29)) (1 <<< (nI n &&& 31)) r) a = true from decide_eq_true c1]; rfl
            rw [nI_up, ← qq]
            exact ihc (a + 1) (by omega)
          · skip
            refine am_g 5 16 [some (.ref 47), some (.int (nI n)), some (.int ((am_it (pu_rhS (μ 29) (am_it (pu_rhP (μ 29)) (1 <<< (nI n &&& 31)) r)) (am_it (pu_rhP (μ 29)) (1 <<< (nI n &&& 31)) r) a) ||| 0)), some (.int (am_it (pu_rhP (μ 29)) (1 <<< (nI n &&& 31)) r)), some (.int ((nI a) + 1))] [] (hG σ sr ln Lc μ) rfl ?_
            have qq : (am_it (pu_rhS (μ 29) (am_it (pu_rhP (μ 29)) (1 <<< (nI n &&& 31)) r)) (am_it (pu_rhP (μ 29)) (1 <<< (nI n &&& 31)) r) (a + 1)) = ((am_it (pu_rhS (μ 29) (am_it (pu_rhP (μ 29)) (1 <<< (nI n &&& 31)) r)) (am_it (pu_rhP (μ 29)) (1 <<< (nI n &&& 31)) r) a) ||| 0) := by
              rw [am_itS]
              unfold pu_rhS; rw [show am_hb (am_it (pu_rhP (μ 29)) (1 <<< (nI n &&& 31)) r) a = false from decide_eq_false c1]; exact (am_or0 _).symm
            rw [nI_up, ← qq]
            exact ihc (a + 1) (by omega)
      exact lpc 20 0 (by omega)
  exact lpw (k + 1) 0 _ (by omega)
theorem sp_X12_melted_ok (d : Nat) (hsr : ∀ i, i < Lc → sr i < 6) (hwl : ∀ i, i < Lc → am_wl (sr i) (ln i)) (hL40 : Lc ≤ 40) (hRL : am_RL sr ln Lc μ) (n : Nat) (hn : n < 20) (RC : Nat → Int32) (hRC : ∀ a, a < 20 → ∀ d, am_X xs LL (d + 1) 189 [.ref 47, .int (nI a)] (hG σ sr ln Lc (am_up μ 29 (am_it (pu_fwS sr ln) (am_fill (fun _ => 0) (μ 29) 20 0) Lc))) (some (.int (RC a))) (hG σ sr ln Lc (am_up μ 29 (am_it (pu_fwS sr ln) (am_fill (fun _ => 0) (μ 29) 20 0) Lc)))) : am_X xs LL (d + 3) 190 [.ref 47, .int (nI n)] (hG σ sr ln Lc μ) (some (.int (nI (pu_fs (fun a => am_hb (RC n) a && am_hb (RC a) n) n n 0)))) (hG σ sr ln Lc (am_up μ 29 (am_it (pu_fwS sr ln) (am_fill (fun _ => 0) (μ 29) 20 0) Lc))) := by
  refine am_XR (d := d + 2) (C := cd_X12_melted) (L := [some (.ref 47), some (.int (nI n)), none, none]) rfl rfl rfl rfl ?_
  refine am_g 1 1 [some (.ref 47), some (.int (nI n)), none, none] [.int (nI n)] (hG σ sr ln Lc μ) rfl ?_
  refine am_call (y := 143) (vs := [.int (nI n)]) (rest := []) (v := (some (.int 1))) (h1 := (hG σ sr ln Lc μ)) rfl rfl rfl (sp_X12_isName d _ _ (am_in_of_nI hn (by omega))) ?_
  refine am_g 3 12 [some (.ref 47), some (.int (nI n)), some (.int 0), none] [] (hG σ sr ln Lc μ) rfl ?_
  have lpa : ∀ (ra i : Nat) (w : Option Value), i + ra = 20 → am_R xs LL cd_X12_melted (am_X xs LL (d + 2)) 12 [some (.ref 47), some (.int (nI n)), some (.int (nI i)), w] [] (hG σ sr ln Lc (am_up μ 29 (am_fill (fun _ => 0) (μ 29) i 0))) (some (.int (nI (pu_fs (fun a => am_hb (RC n) a && am_hb (RC a) n) n n 0)))) (hG σ sr ln Lc (am_up μ 29 (am_it (pu_fwS sr ln) (am_fill (fun _ => 0) (μ 29) 20 0) Lc))) := by
    intro ra
    induction ra with
    | zero =>
      intro i w hia
      have hi2a : i = 20 := by omega
      rw [hi2a]
      refine am_g 3 (if 20 ≤ (nI 20) then 31 else 18) [some (.ref 47), some (.int (nI n)), some (.int (nI 20)), w] [] (hG σ sr ln Lc (am_up μ 29 (am_fill (fun _ => 0) (μ 29) 20 0))) rfl ?_
      rw [if_pos (show 20 ≤ (nI 20) from (am_dle (a := 20) (b := 20) (rfl) (rfl) (by omega) (by omega) (by omega)))]
      refine am_g 2 33 [some (.ref 47), some (.int (nI n)), some (.int 0), w] [] (hG σ sr ln Lc (am_up μ 29 (am_fill (fun _ => 0) (μ 29) 20 0))) rfl ?_
      have lpb : ∀ (rb i : Nat) (w : Option Value), i + rb = Lc → am_R xs LL cd_X12_melted (am_X xs LL (d + 2)) 33 [some (.ref 47), some (.int (nI n)), some (.int (nI i)), w] [] (hG σ sr ln Lc (am_up μ 29 (am_it (pu_fwS sr ln) (am_fill (fun _ => 0) (μ 29) 20 0) i))) (some (.int (nI (pu_fs (fun a => am_hb (RC n) a && am_hb (RC a) n) n n 0)))) (hG σ sr ln Lc (am_up μ 29 (am_it (pu_fwS sr ln) (am_fill (fun _ => 0) (μ 29) 20 0) Lc))) := by
        intro rb
        induction rb with
        | zero =>
          intro i w hib
          have hi2b : i = Lc := by omega
          rw [hi2b]
          refine am_g 3 38 [some (.ref 47), some (.int (nI n)), some (.int (nI Lc)), w] [.int (μ 17 0), .int (nI Lc)] (hG σ sr ln Lc (am_up μ 29 (am_it (pu_fwS sr ln) (am_fill (fun _ => 0) (μ 29) 20 0) Lc))) rfl ?_
          rw [show (μ 17 0) = (nI Lc) from hRL.1]
          refine am_g 1 (if (nI Lc) ≤ (nI Lc) then 87 else 41) [some (.ref 47), some (.int (nI n)), some (.int (nI Lc)), w] [] (hG σ sr ln Lc (am_up μ 29 (am_it (pu_fwS sr ln) (am_fill (fun _ => 0) (μ 29) 20 0) Lc))) rfl ?_
          rw [if_pos (show (nI Lc) ≤ (nI Lc) from (am_dle (a := Lc) (b := Lc) (rfl) (rfl) (by omega) (by omega) (by omega)))]
          refine am_g 2 89 [some (.ref 47), some (.int (nI n)), some (.int (nI Lc)), w] [.int (nI n), .ref 47] (hG σ sr ln Lc (am_up μ 29 (am_it (pu_fwS sr ln) (am_fill (fun _ => 0) (μ 29) 20 0) Lc))) rfl ?_
          refine am_call (y := 189) (vs := [.ref 47, .int (nI n)]) (rest := []) (v := (some (.int (RC n)))) (h1 := (hG σ sr ln Lc (am_up μ 29 (am_it (pu_fwS sr ln) (am_fill (fun _ => 0) (μ 29) 20 0) Lc)))) rfl rfl rfl (hRC n (by omega) (d + 1)) ?_
          refine am_g 3 95 [some (.ref 47), some (.int (nI n)), some (.int (RC n)), some (.int 0)] [] (hG σ sr ln Lc (am_up μ 29 (am_it (pu_fwS sr ln) (am_fill (fun _ => 0) (μ 29) 20 0) Lc))) rfl ?_
          have lps : ∀ (r a : Nat), a + r = n → am_R xs LL cd_X12_melted (am_X xs LL (d + 2)) 95 [some (.ref 47), some (.int (nI n)), some (.int (RC n)), some (.int (nI a))] [] (hG σ sr ln Lc (am_up μ 29 (am_it (pu_fwS sr ln) (am_fill (fun _ => 0) (μ 29) 20 0) Lc))) (some (.int (nI (pu_fs (fun a => am_hb (RC n) a && am_hb (RC a) n) n r a)))) (hG σ sr ln Lc (am_up μ 29 (am_it (pu_fwS sr ln) (am_fill (fun _ => 0) (μ 29) 20 0) Lc))) := by
            intro r
            induction r with
            | zero =>
              intro a hr
              have hr2 : a = n := by omega
              rw [hr2]
              refine am_g 3 (if (nI n) ≤ (nI n) then 130 else 100) [some (.ref 47), some (.int (nI n)), some (.int (RC n)), some (.int (nI n))] [] (hG σ sr ln Lc (am_up μ 29 (am_it (pu_fwS sr ln) (am_fill (fun _ => 0) (μ 29) 20 0) Lc))) rfl ?_
              rw [if_pos (show (nI n) ≤ (nI n) from (am_dle (a := n) (b := n) (rfl) (rfl) (by omega) (by omega) (by omega)))]
              refine am_g 1 131 [some (.ref 47), some (.int (nI n)), some (.int (RC n)), some (.int (nI n))] [.int (nI n)] (hG σ sr ln Lc (am_up μ 29 (am_it (pu_fwS sr ln) (am_fill (fun _ => 0) (μ 29) 20 0) Lc))) rfl ?_
              exact am_ret2 rfl rfl rfl rfl rfl
            | succ r ihs =>
              intro a hr
              have hr2 : a < n := by omega
              refine am_g 3 (if (nI n) ≤ (nI a) then 130 else 100) [some (.ref 47), some (.int (nI n)), some (.int (RC n)), some (.int (nI a))] [] (hG σ sr ln Lc (am_up μ 29 (am_it (pu_fwS sr ln) (am_fill (fun _ => 0) (μ 29) 20 0) Lc))) rfl ?_
              rw [if_neg (show ¬ (nI n) ≤ (nI a) from (am_dnle (a := n) (b := a) (rfl) (rfl) (by omega) (by omega) (by omega)))]
              refine am_g 7 (if (((RC n) >>> ((nI a) &&& 31)) &&& 1) = 1 then 109 else 124) [some (.ref 47), some (.int (nI n)), some (.int (RC n)), some (.int (nI a))] [] (hG σ sr ln Lc (am_up μ 29 (am_it (pu_fwS sr ln) (am_fill (fun _ => 0) (μ 29) 20 0) Lc))) rfl (am_brR (fun c1 => ?_) (fun c1 => ?_))
              · skip
                refine am_g 2 111 [some (.ref 47), some (.int (nI n)), some (.int (RC n)), some (.int (nI a))] [.int (nI a), .ref 47] (hG σ sr ln Lc (am_up μ 29 (am_it (pu_fwS sr ln) (am_fill (fun _ => 0) (μ 29) 20 0) Lc))) rfl ?_
                refine am_call (y := 189) (vs := [.ref 47, .int (nI a)]) (rest := []) (v := (some (.int (RC a)))) (h1 := (hG σ sr ln Lc (am_up μ 29 (am_it (pu_fwS sr ln) (am_fill (fun _ => 0) (μ 29) 20 0) Lc)))) rfl rfl rfl (hRC a (by omega) (d + 1)) ?_
                refine am_g 6 (if (((RC a) >>> ((nI n) &&& 31)) &&& 1) = 1 then 122 else 124) [some (.ref 47), some (.int (nI n)), some (.int (RC n)), some (.int (nI a))] [] (hG σ sr ln Lc (am_up μ 29 (am_it (pu_fwS sr ln) (am_fill (fun _ => 0) (μ 29) 20 0) Lc))) rfl (am_brR (fun c2 => ?_) (fun c2 => ?_))
                · skip
                  refine am_g 1 123 [some (.ref 47), some (.int (nI n)), some (.int (RC n)), some (.int (nI a))] [.int (nI a)] (hG σ sr ln Lc (am_up μ 29 (am_it (pu_fwS sr ln) (am_fill (fun _ => 0) (μ 29) 20 0) Lc))) rfl ?_
                  exact am_ret2 rfl rfl rfl (by unfold pu_fs; rw [show am_hb (RC n) a = true from decide_eq_true c1, show am_hb (RC a) n = true from decide_eq_true c2]; rfl) rfl
                · skip
                  refine am_g 2 95 [some (.ref 47), some (.int (nI n)), some (.int (RC n)), some (.int ((nI a) + 1))] [] (hG σ sr ln Lc (am_up μ 29 (am_it (pu_fwS sr ln) (am_fill (fun _ => 0) (μ 29) 20 0) Lc))) rfl ?_
                  rw [show pu_fs (fun a => am_hb (RC n) a && am_hb (RC a) n) n (r + 1) a = pu_fs (fun a => am_hb (RC n) a && am_hb (RC a) n) n r (a + 1) from by show (bif (am_hb (RC n) a && am_hb (RC a) n) then _ else _) = _; rw [show am_hb (RC a) n = false from decide_eq_false c2, Bool.and_false]; rfl, nI_up]
                  exact ihs (a + 1) (by omega)
              · skip
                refine am_g 2 95 [some (.ref 47), some (.int (nI n)), some (.int (RC n)), some (.int ((nI a) + 1))] [] (hG σ sr ln Lc (am_up μ 29 (am_it (pu_fwS sr ln) (am_fill (fun _ => 0) (μ 29) 20 0) Lc))) rfl ?_
                rw [show pu_fs (fun a => am_hb (RC n) a && am_hb (RC a) n) n (r + 1) a = pu_fs (fun a => am_hb (RC n) a && am_hb (RC a) n) n r (a + 1) from by show (bif (am_hb (RC n) a && am_hb (RC a) n) then _ else _) = _; rw [show am_hb (RC n) a = false from decide_eq_false c1, Bool.false_and]; rfl, nI_up]
                exact ihs (a + 1) (by omega)
          exact lps n 0 (by omega)
        | succ rb ihb =>
          intro i w hib
          have hi2b : i < Lc := by omega
          refine am_g 3 38 [some (.ref 47), some (.int (nI n)), some (.int (nI i)), w] [.int (μ 17 0), .int (nI i)] (hG σ sr ln Lc (am_up μ 29 (am_it (pu_fwS sr ln) (am_fill (fun _ => 0) (μ 29) 20 0) i))) rfl ?_
          rw [show (μ 17 0) = (nI Lc) from hRL.1]
          refine am_g 1 (if (nI Lc) ≤ (nI i) then 87 else 41) [some (.ref 47), some (.int (nI n)), some (.int (nI i)), w] [] (hG σ sr ln Lc (am_up μ 29 (am_it (pu_fwS sr ln) (am_fill (fun _ => 0) (μ 29) 20 0) i))) rfl ?_
          rw [if_neg (show ¬ (nI Lc) ≤ (nI i) from (am_dnle (a := Lc) (b := i) (rfl) (rfl) (by omega) (by omega) (by omega)))]
          refine am_g 3 46 [some (.ref 47), some (.int (nI n)), some (.int (nI i)), w] [.int (nI i), .ref 60] (hG σ sr ln Lc (am_up μ 29 (am_it (pu_fwS sr ln) (am_fill (fun _ => 0) (μ 29) 20 0) i))) rfl ?_
          refine am_baldV (n := 40) (f := (μ 14)) (k := i) (w := (ln i 6)) rfl rfl (rfl) (by omega) (by decide) (hRL.2.2.2.2.2.2.2.2.1 i hi2b) ?_
          refine am_g 1 (if (ln i 6) = 0 then 81 else 50) [some (.ref 47), some (.int (nI n)), some (.int (nI i)), w] [] (hG σ sr ln Lc (am_up μ 29 (am_it (pu_fwS sr ln) (am_fill (fun _ => 0) (μ 29) 20 0) i))) rfl (am_brR (fun c3 => ?_) (fun c3 => ?_))
          · skip
            refine am_g 2 33 [some (.ref 47), some (.int (nI n)), some (.int ((nI i) + 1)), w] [] (hG σ sr ln Lc (am_up μ 29 (am_it (pu_fwS sr ln) (am_fill (fun _ => 0) (μ 29) 20 0) i))) rfl ?_
            have qq : (am_it (pu_fwS sr ln) (am_fill (fun _ => 0) (μ 29) 20 0) (i + 1)) = (am_it (pu_fwS sr ln) (am_fill (fun _ => 0) (μ 29) 20 0) i) := by
              rw [am_itS]
              exact if_pos c3
            rw [nI_up, ← qq]
            exact ihb (i + 1) _ (by omega)
          · skip
            refine am_g 3 55 [some (.ref 47), some (.int (nI n)), some (.int (nI i)), w] [.int (nI i), .ref 53] (hG σ sr ln Lc (am_up μ 29 (am_it (pu_fwS sr ln) (am_fill (fun _ => 0) (μ 29) 20 0) i))) rfl ?_
            refine am_ialdV (n := 40) (f := (μ 7)) (k := i) (w := (nI (sr i))) rfl rfl (rfl) (by omega) (by decide) (hRL.2.1 i hi2b) ?_
            refine am_g 1 (if (nI (sr i)) = 0 then 59 else 81) [some (.ref 47), some (.int (nI n)), some (.int (nI i)), w] [] (hG σ sr ln Lc (am_up μ 29 (am_it (pu_fwS sr ln) (am_fill (fun _ => 0) (μ 29) 20 0) i))) rfl (am_brR (fun c4 => ?_) (fun c4 => ?_))
            · skip
              have s0 : sr i = 0 := nI_s4 (hsr i hi2b) (c4.trans nI_0.symm)
              obtain ⟨y, hy, hy1⟩ := (hwl i hi2b).2.2.1 (by rw [s0]; decide)
              refine am_g 5 68 [some (.ref 47), some (.int (nI n)), some (.int (nI i)), w] [.int (nI i), .ref 55, .ref 67] (hG σ sr ln Lc (am_up μ 29 (am_it (pu_fwS sr ln) (am_fill (fun _ => 0) (μ 29) 20 0) i))) rfl ?_
              refine am_ialdV (n := 40) (f := (μ 9)) (k := i) (w := (nI y)) rfl rfl (rfl) (by omega) (by decide) ((hRL.2.2.2.1 i hi2b).trans hy1) ?_
              refine am_g 1 70 [some (.ref 47), some (.int (nI n)), some (.int (nI i)), w] [.int (nI y), .ref 67, .int (nI y), .ref 67] (hG σ sr ln Lc (am_up μ 29 (am_it (pu_fwS sr ln) (am_fill (fun _ => 0) (μ 29) 20 0) i))) rfl ?_
              refine am_ialdR (n := 20) (f := (am_it (pu_fwS sr ln) (am_fill (fun _ => 0) (μ 29) 20 0) i)) (k := y) rfl rfl (rfl) (by omega) (by decide) ?_
              refine am_g 4 77 [some (.ref 47), some (.int (nI n)), some (.int (nI i)), w] [.int (nI i), .ref 54, .int 1, .int ((am_it (pu_fwS sr ln) (am_fill (fun _ => 0) (μ 29) 20 0) i) y), .int (nI y), .ref 67] (hG σ sr ln Lc (am_up μ 29 (am_it (pu_fwS sr ln) (am_fill (fun _ => 0) (μ 29) 20 0) i))) rfl ?_
              refine am_ialdV (n := 40) (f := (μ 8)) (k := i) (w := (ln i 0)) rfl rfl (rfl) (by omega) (by decide) (hRL.2.2.1 i hi2b) ?_
              refine am_g 2 80 [some (.ref 47), some (.int (nI n)), some (.int (nI i)), w] [.int (((am_it (pu_fwS sr ln) (am_fill (fun _ => 0) (μ 29) 20 0) i) y) ||| (1 <<< ((ln i 0) &&& 31))), .int (nI y), .ref 67] (hG σ sr ln Lc (am_up μ 29 (am_it (pu_fwS sr ln) (am_fill (fun _ => 0) (μ 29) 20 0) i))) rfl ?_
              refine am_iastR (n := 20) (f := (am_it (pu_fwS sr ln) (am_fill (fun _ => 0) (μ 29) 20 0) i)) (k := y) (h1 := (hG σ sr ln Lc (am_up μ 29 (upd (am_it (pu_fwS sr ln) (am_fill (fun _ => 0) (μ 29) 20 0) i) y (((am_it (pu_fwS sr ln) (am_fill (fun _ => 0) (μ 29) 20 0) i) y) ||| (1 <<< ((ln i 0) &&& 31))))))) rfl rfl (rfl) (by omega) (by decide) rfl ?_
              refine am_g 2 33 [some (.ref 47), some (.int (nI n)), some (.int ((nI i) + 1)), w] [] (hG σ sr ln Lc (am_up μ 29 (upd (am_it (pu_fwS sr ln) (am_fill (fun _ => 0) (μ 29) 20 0) i) y (((am_it (pu_fwS sr ln) (am_fill (fun _ => 0) (μ 29) 20 0) i) y) ||| (1 <<< ((ln i 0) &&& 31)))))) rfl ?_
              have qq : (am_it (pu_fwS sr ln) (am_fill (fun _ => 0) (μ 29) 20 0) (i + 1)) = (upd (am_it (pu_fwS sr ln) (am_fill (fun _ => 0) (μ 29) 20 0) i) y (((am_it (pu_fwS sr ln) (am_fill (fun _ => 0) (μ 29) 20 0) i) y) ||| (1 <<< ((ln i 0) &&& 31)))) := by
                rw [am_itS]
                refine (if_neg c3).trans ((if_pos s0).trans ?_)
                rw [show (ln i 1).toNatClampNeg = y from by rw [hy1, nI_clamp (by omega)]]
              rw [nI_up, ← qq]
              exact ihb (i + 1) _ (by omega)
            · skip
              refine am_g 2 33 [some (.ref 47), some (.int (nI n)), some (.int ((nI i) + 1)), w] [] (hG σ sr ln Lc (am_up μ 29 (am_it (pu_fwS sr ln) (am_fill (fun _ => 0) (μ 29) 20 0) i))) rfl ?_
              have qq : (am_it (pu_fwS sr ln) (am_fill (fun _ => 0) (μ 29) 20 0) (i + 1)) = (am_it (pu_fwS sr ln) (am_fill (fun _ => 0) (μ 29) 20 0) i) := by
                rw [am_itS]
                exact (if_neg c3).trans (if_neg (fun q => c4 ((congrArg nI q).trans nI_0)))
              rw [nI_up, ← qq]
              exact ihb (i + 1) _ (by omega)
      exact lpb Lc 0 _ (by omega)
    | succ ra iha =>
      intro i w hia
      have hi2a : i < 20 := by omega
      refine am_g 3 (if 20 ≤ (nI i) then 31 else 18) [some (.ref 47), some (.int (nI n)), some (.int (nI i)), w] [] (hG σ sr ln Lc (am_up μ 29 (am_fill (fun _ => 0) (μ 29) i 0))) rfl ?_
      rw [if_neg (show ¬ 20 ≤ (nI i) from (am_dnle (a := 20) (b := i) (rfl) (rfl) (by omega) (by omega) (by omega)))]
      refine am_g 4 24 [some (.ref 47), some (.int (nI n)), some (.int (nI i)), w] [.int 0, .int (nI i), .ref 67] (hG σ sr ln Lc (am_up μ 29 (am_fill (fun _ => 0) (μ 29) i 0))) rfl ?_
      refine am_iastR (n := 20) (f := (am_fill (fun _ => 0) (μ 29) i 0)) (k := i) (h1 := (hG σ sr ln Lc (am_up μ 29 (upd (am_fill (fun _ => 0) (μ 29) i 0) i 0)))) rfl rfl (rfl) (by omega) (by decide) rfl ?_
      refine am_g 2 12 [some (.ref 47), some (.int (nI n)), some (.int ((nI i) + 1)), w] [] (hG σ sr ln Lc (am_up μ 29 (upd (am_fill (fun _ => 0) (μ 29) i 0) i 0))) rfl ?_
      rw [nI_up, show upd (am_fill (fun _ => 0) (μ 29) i 0) i 0 = am_fill (fun _ => 0) (μ 29) (i + 1) 0 from (pu_fillS (fun _ => 0) (μ 29) i).symm]
      exact iha (i + 1) _ (by omega)
  have e := lpa 20 0 none (by omega)
  rw [pu_fill0, am_up_id] at e
  exact e
theorem sp_X12_melted_bad (d : Nat) (n : Int32) (hb : am_in n 20 = false) : am_X xs LL (d + 3) 190 [.ref 47, .int n] (hG σ sr ln Lc μ) (some (.int (-2))) (hG σ sr ln Lc μ) := by
  refine am_XR (d := d + 2) (C := cd_X12_melted) (L := [some (.ref 47), some (.int n), none, none]) rfl rfl rfl rfl ?_
  refine am_g 1 1 [some (.ref 47), some (.int n), none, none] [.int n] (hG σ sr ln Lc μ) rfl ?_
  refine am_call (y := 143) (vs := [.int n]) (rest := []) (v := (some (.int 0))) (h1 := (hG σ sr ln Lc μ)) rfl rfl rfl (sp_X12_isName d _ _ hb) ?_
  refine am_g 2 9 [some (.ref 47), some (.int n), none, none] [.int (-2)] (hG σ sr ln Lc μ) rfl ?_
  exact am_ret2 rfl rfl rfl rfl rfl
end ME
