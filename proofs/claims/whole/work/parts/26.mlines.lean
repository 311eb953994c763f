/-! the reference: lines -/
def am_wk (s : Nat) : Nat := match s with
  | 1 => 2
  | 2 => 3
  | 3 => 6
  | 4 => 6
  | _ => 1
section ML
variable {xs : Nat → Int32} {LL : Nat} {σ μ : Nat → Nat → Int32} {sr : Nat → Nat} {ln : Nat → Nat → Int32} {Lc : Nat}
theorem sp_X12_workOf (d : Nat) (h : am_H) (s : Nat) (hs : s < 6) : am_X xs LL (d + 1) 155 [.int (nI s)] h (some (.int (nI (am_wk s)))) h := by
  match s, hs with
  | 0, _ =>
    refine am_XR (d := d + 0) (C := cd_X12_workOf) (L := [some (.int 0)]) rfl rfl rfl rfl ?_
    refine am_g 3 43 [some (.int 0)] [.int 1] h rfl ?_
    exact am_ret2 rfl rfl rfl rfl rfl
  | 1, _ =>
    refine am_XR (d := d + 0) (C := cd_X12_workOf) (L := [some (.int 1)]) rfl rfl rfl rfl ?_
    refine am_g 3 33 [some (.int 1)] [.int 2] h rfl ?_
    exact am_ret2 rfl rfl rfl rfl rfl
  | 2, _ =>
    refine am_XR (d := d + 0) (C := cd_X12_workOf) (L := [some (.int 2)]) rfl rfl rfl rfl ?_
    refine am_g 3 35 [some (.int 2)] [.int 3] h rfl ?_
    exact am_ret2 rfl rfl rfl rfl rfl
  | 3, _ =>
    refine am_XR (d := d + 0) (C := cd_X12_workOf) (L := [some (.int 3)]) rfl rfl rfl rfl ?_
    refine am_g 3 38 [some (.int 3)] [.int 6] h rfl ?_
    exact am_ret2 rfl rfl rfl rfl rfl
  | 4, _ =>
    refine am_XR (d := d + 0) (C := cd_X12_workOf) (L := [some (.int 4)]) rfl rfl rfl rfl ?_
    refine am_g 3 41 [some (.int 4)] [.int 6] h rfl ?_
    exact am_ret2 rfl rfl rfl rfl rfl
  | 5, _ =>
    refine am_XR (d := d + 0) (C := cd_X12_workOf) (L := [some (.int 5)]) rfl rfl rfl rfl ?_
    refine am_g 3 43 [some (.int 5)] [.int 1] h rfl ?_
    exact am_ret2 rfl rfl rfl rfl rfl
  | z + 6, hz => exact absurd hz (by omega)
theorem sp_X12_kindOf (d : Nat) (o l : Nat) (ho : o < 16) (hm : μ 18 o = nI l) (hl : l < 40) : am_X xs LL (d + 1) 154 [.ref 47, .int (nI o)] (hG σ sr ln Lc μ) (some (.int (μ 10 l))) (hG σ sr ln Lc μ) := by
  refine am_XR (d := d + 0) (C := cd_X12_kindOf) (L := [some (.ref 47), some (.int (nI o))]) rfl rfl rfl rfl ?_
  refine am_g 5 9 [some (.ref 47), some (.int (nI o))] [.int (nI o), .ref 63, .ref 56] (hG σ sr ln Lc μ) rfl ?_
  refine am_ialdR (n := 16) (f := (μ 18)) (k := o) rfl rfl (rfl) (by omega) (by decide) ?_
  refine am_ialdR (n := 40) (f := (μ 10)) (k := l) rfl rfl (hm) (by omega) (by decide) ?_
  exact am_ret2 rfl rfl rfl rfl rfl
end ML
