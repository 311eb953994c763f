/-! the reference: what a name gets -/
theorem am_fAt (o f : Nat) : (20 : Int32) + 3 * nI o + nI f = nI (20 + 3 * o + f) := by
  show Int32.ofNat 20 + Int32.ofNat 3 * Int32.ofNat o + Int32.ofNat f = Int32.ofNat (20 + 3 * o + f)
  rw [Int32.ofNat_add, Int32.ofNat_add, Int32.ofNat_mul]
def am_bitM (v : Int32) : Int32 := if v = -1 then 0 else 1 <<< (v &&& 31)
section MG
variable {xs : Nat → Int32} {LL : Nat} {σ μ : Nat → Nat → Int32} {sr : Nat → Nat} {ln : Nat → Nat → Int32} {Lc : Nat}
theorem sp_X12_fieldAt (d : Nat) (h : am_H) (o f : Nat) (ho : o < 16) (hf : f < 3) : am_X xs LL (d + 1) 167 [.int (nI o), .int (nI f)] h (some (.int (nI (20 + 3 * o + f)))) h := by
  refine am_XR (d := d + 0) (C := cd_X12_fieldAt) (L := [some (.int (nI o)), some (.int (nI f))]) rfl rfl rfl rfl ?_
  refine am_g 7 8 [some (.int (nI o)), some (.int (nI f))] [.int ((20 + (3 * (nI o))) + (nI f))] h rfl ?_
  exact am_ret2 rfl rfl rfl (by rw [am_fAt]) rfl
theorem sp_X12_gets (d : Nat) (n : Nat) (hn : n < 20) (v : Int32) : am_X xs LL (d + 1) 196 [.ref 47, .int (nI n), .int v] (hG σ sr ln Lc μ) none (hG σ sr ln Lc (am_up (am_up μ 30 (upd (μ 30) n v)) 31 (upd (μ 31) n (μ 31 n ||| am_bitM v)))) := by
  refine am_XR (d := d + 0) (C := cd_X12_gets) (L := [some (.ref 47), some (.int (nI n)), some (.int v)]) rfl rfl rfl rfl ?_
  refine am_g 4 6 [some (.ref 47), some (.int (nI n)), some (.int v)] [.int v, .int (nI n), .ref 68] (hG σ sr ln Lc μ) rfl ?_
  refine am_iastR (n := 20) (f := (μ 30)) (k := n) (h1 := (hG σ sr ln Lc (am_up μ 30 (upd (μ 30) n v)))) rfl rfl (rfl) (by omega) (by decide) rfl ?_
  refine am_g 4 13 [some (.ref 47), some (.int (nI n)), some (.int v)] [.int (nI n), .ref 69, .int (nI n), .ref 69] (hG σ sr ln Lc (am_up μ 30 (upd (μ 30) n v))) rfl ?_
  refine am_ialdR (n := 20) (f := (μ 31)) (k := n) rfl rfl (rfl) (by omega) (by decide) ?_
  refine am_g 3 (if v = (-1) then 19 else 23) [some (.ref 47), some (.int (nI n)), some (.int v)] [.int (μ 31 n), .int (nI n), .ref 69] (hG σ sr ln Lc (am_up μ 30 (upd (μ 30) n v))) rfl (am_brR (fun c1 => ?_) (fun c1 => ?_))
  · skip
    refine am_g 3 27 [some (.ref 47), some (.int (nI n)), some (.int v)] [.int ((μ 31 n) ||| 0), .int (nI n), .ref 69] (hG σ sr ln Lc (am_up μ 30 (upd (μ 30) n v))) rfl ?_
    refine am_iastR (n := 20) (f := (μ 31)) (k := n) (h1 := (hG σ sr ln Lc (am_up (am_up μ 30 (upd (μ 30) n v)) 31 (upd (μ 31) n ((μ 31 n) ||| 0))))) rfl rfl (rfl) (by omega) (by decide) rfl ?_
    exact am_ret2 rfl rfl rfl rfl (by rw [show am_bitM v = 0 from if_pos c1])
  · skip
    refine am_g 4 27 [some (.ref 47), some (.int (nI n)), some (.int v)] [.int ((μ 31 n) ||| (1 <<< (v &&& 31))), .int (nI n), .ref 69] (hG σ sr ln Lc (am_up μ 30 (upd (μ 30) n v))) rfl ?_
    refine am_iastR (n := 20) (f := (μ 31)) (k := n) (h1 := (hG σ sr ln Lc (am_up (am_up μ 30 (upd (μ 30) n v)) 31 (upd (μ 31) n ((μ 31 n) ||| (1 <<< (v &&& 31))))))) rfl rfl (rfl) (by omega) (by decide) rfl ?_
    exact am_ret2 rfl rfl rfl rfl (by rw [show am_bitM v = 1 <<< (v &&& 31) from if_neg c1])
theorem sp_X12_kindFor_yes (d : Nat) (v : Int32) (h0 : ¬ μ 27 0 = 0) : am_X xs LL (d + 2) 166 [.ref 47, .int v] (hG σ sr ln Lc μ) (some (.int v)) (hG σ sr ln Lc μ) := by
  refine am_XR (d := d + 1) (C := cd_X12_kindFor) (L := [some (.ref 47), some (.int v)]) rfl rfl rfl rfl ?_
  refine am_g 3 (if (μ 27 0) = 0 then 11 else 7) [some (.ref 47), some (.int v)] [] (hG σ sr ln Lc μ) rfl ?_
  rw [if_neg (show ¬ (μ 27 0) = 0 from h0)]
  refine am_g 2 16 [some (.ref 47), some (.int v)] [.int v] (hG σ sr ln Lc μ) rfl ?_
  exact am_ret2 rfl rfl rfl rfl rfl
theorem sp_X12_kindFor_no (d : Nat) (o l : Nat) (ho : o < 16) (hm : μ 18 o = nI l) (hl : l < 40) (h0 : μ 27 0 = 0) : am_X xs LL (d + 2) 166 [.ref 47, .int (nI o)] (hG σ sr ln Lc μ) (some (.int (μ 10 l))) (hG σ sr ln Lc μ) := by
  refine am_XR (d := d + 1) (C := cd_X12_kindFor) (L := [some (.ref 47), some (.int (nI o))]) rfl rfl rfl rfl ?_
  refine am_g 3 (if (μ 27 0) = 0 then 11 else 7) [some (.ref 47), some (.int (nI o))] [] (hG σ sr ln Lc μ) rfl ?_
  rw [if_pos (show (μ 27 0) = 0 from h0)]
  refine am_g 2 13 [some (.ref 47), some (.int (nI o))] [.int (nI o), .ref 47] (hG σ sr ln Lc μ) rfl ?_
  refine am_call (y := 154) (vs := [.ref 47, .int (nI o)]) (rest := []) (v := (some (.int (μ 10 l)))) (h1 := (hG σ sr ln Lc μ)) rfl rfl rfl (sp_X12_kindOf (σ := σ) (μ := μ) d o l ho hm hl) ?_
  exact am_ret2 rfl rfl rfl rfl rfl
end MG
