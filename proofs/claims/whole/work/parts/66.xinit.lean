/-! a new line is made -/
section NI
variable {xs : Nat → Int32} {LL : Nat} {σ μ : Nat → Nat → Int32} {Lc : Nat} {cs : am_H}
theorem sp_X2_init_0 (d n : Nat) (hcs : cs.length = n) (x y k : Int32) : am_X xs LL (d + 1) 12 [.ref (75 + n), .int x, .int y, .int k] (hXC σ Lc μ (cs ++ [.inr (2, [.int 0, .int 0, .int 0, .int 0, .int 0, .int 0, .int 0])])) none (hXC σ Lc μ (cs ++ [.inr (2, [.int x, .int y, .int k, .int 0, .int 0, .int (-1), .int 1])])) := by
  refine am_XR (d := d + 0) (C := cd_X2_init) (L := [some (.ref (75 + n)), some (.int x), some (.int y), some (.int k)]) rfl rfl rfl rfl ?_
  refine am_g 4 6 [some (.ref (75 + n)), some (.int x), some (.int y), some (.int k)] [.int (-1), .ref (75 + n)] (hXC σ Lc μ (cs ++ [.inr (2, [.int 0, .int 0, .int 0, .int 0, .int 0, .int 0, .int 0])])) rfl ?_
  refine am_nputR hcs rfl rfl rfl rfl ?_
  refine am_g 2 11 [some (.ref (75 + n)), some (.int x), some (.int y), some (.int k)] [.int 1, .ref (75 + n)] (hXC σ Lc μ (cs ++ [.inr (2, [.int 0, .int 0, .int 0, .int 0, .int 0, .int (-1), .int 0])])) rfl ?_
  refine am_nputR hcs rfl rfl rfl rfl ?_
  refine am_g 2 16 [some (.ref (75 + n)), some (.int x), some (.int y), some (.int k)] [.int x, .ref (75 + n)] (hXC σ Lc μ (cs ++ [.inr (2, [.int 0, .int 0, .int 0, .int 0, .int 0, .int (-1), .int 1])])) rfl ?_
  refine am_nputR hcs rfl rfl rfl rfl ?_
  refine am_g 2 21 [some (.ref (75 + n)), some (.int x), some (.int y), some (.int k)] [.int y, .ref (75 + n)] (hXC σ Lc μ (cs ++ [.inr (2, [.int x, .int 0, .int 0, .int 0, .int 0, .int (-1), .int 1])])) rfl ?_
  refine am_nputR hcs rfl rfl rfl rfl ?_
  refine am_g 2 26 [some (.ref (75 + n)), some (.int x), some (.int y), some (.int k)] [.int k, .ref (75 + n)] (hXC σ Lc μ (cs ++ [.inr (2, [.int x, .int y, .int 0, .int 0, .int 0, .int (-1), .int 1])])) rfl ?_
  refine am_nputR hcs rfl rfl rfl rfl ?_
  exact am_ret2 rfl rfl rfl rfl rfl
theorem sp_X2_init_1 (d n : Nat) (hcs : cs.length = n) (x y k : Int32) : am_X xs LL (d + 1) 12 [.ref (75 + n), .int x, .int y, .int k] (hXC σ Lc μ (cs ++ [.inr (1, [.int 0, .int 0, .int 0, .int 0, .int 0, .int 0, .int 0])])) none (hXC σ Lc μ (cs ++ [.inr (1, [.int x, .int y, .int k, .int 0, .int 0, .int (-1), .int 1])])) := by
  refine am_XR (d := d + 0) (C := cd_X2_init) (L := [some (.ref (75 + n)), some (.int x), some (.int y), some (.int k)]) rfl rfl rfl rfl ?_
  refine am_g 4 6 [some (.ref (75 + n)), some (.int x), some (.int y), some (.int k)] [.int (-1), .ref (75 + n)] (hXC σ Lc μ (cs ++ [.inr (1, [.int 0, .int 0, .int 0, .int 0, .int 0, .int 0, .int 0])])) rfl ?_
  refine am_nputR hcs rfl rfl rfl rfl ?_
  refine am_g 2 11 [some (.ref (75 + n)), some (.int x), some (.int y), some (.int k)] [.int 1, .ref (75 + n)] (hXC σ Lc μ (cs ++ [.inr (1, [.int 0, .int 0, .int 0, .int 0, .int 0, .int (-1), .int 0])])) rfl ?_
  refine am_nputR hcs rfl rfl rfl rfl ?_
  refine am_g 2 16 [some (.ref (75 + n)), some (.int x), some (.int y), some (.int k)] [.int x, .ref (75 + n)] (hXC σ Lc μ (cs ++ [.inr (1, [.int 0, .int 0, .int 0, .int 0, .int 0, .int (-1), .int 1])])) rfl ?_
  refine am_nputR hcs rfl rfl rfl rfl ?_
  refine am_g 2 21 [some (.ref (75 + n)), some (.int x), some (.int y), some (.int k)] [.int y, .ref (75 + n)] (hXC σ Lc μ (cs ++ [.inr (1, [.int x, .int 0, .int 0, .int 0, .int 0, .int (-1), .int 1])])) rfl ?_
  refine am_nputR hcs rfl rfl rfl rfl ?_
  refine am_g 2 26 [some (.ref (75 + n)), some (.int x), some (.int y), some (.int k)] [.int k, .ref (75 + n)] (hXC σ Lc μ (cs ++ [.inr (1, [.int x, .int y, .int 0, .int 0, .int 0, .int (-1), .int 1])])) rfl ?_
  refine am_nputR hcs rfl rfl rfl rfl ?_
  exact am_ret2 rfl rfl rfl rfl rfl
theorem sp_X1_init_1 (d n : Nat) (hcs : cs.length = n) (x y k : Int32) : am_X xs LL (d + 2) 7 [.ref (75 + n), .int x, .int y, .int k] (hXC σ Lc μ (cs ++ [.inr (1, [.int 0, .int 0, .int 0, .int 0, .int 0, .int 0, .int 0])])) none (hXC σ Lc μ (cs ++ [.inr (1, [.int x, .int y, .int k, .int 0, .int 0, .int (-1), .int 1])])) := by
  refine am_XR (d := d + 1) (C := cd_X1_init) (L := [some (.ref (75 + n)), some (.int x), some (.int y), some (.int k)]) rfl rfl rfl rfl ?_
  refine am_g 4 4 [some (.ref (75 + n)), some (.int x), some (.int y), some (.int k)] [.int k, .int y, .int x, .ref (75 + n)] (hXC σ Lc μ (cs ++ [.inr (1, [.int 0, .int 0, .int 0, .int 0, .int 0, .int 0, .int 0])])) rfl ?_
  refine am_call (y := 12) (vs := [.ref (75 + n), .int x, .int y, .int k]) (rest := []) (v := none) (h1 := (hXC σ Lc μ (cs ++ [.inr (1, [.int x, .int y, .int k, .int 0, .int 0, .int (-1), .int 1])]))) rfl rfl (am_tgtN hcs rfl rfl rfl rfl) (sp_X2_init_1 d n hcs x y k) ?_
  exact am_ret2 rfl rfl rfl rfl rfl
theorem sp_X2_init_2 (d n : Nat) (hcs : cs.length = n) (x y k : Int32) : am_X xs LL (d + 1) 12 [.ref (75 + n), .int x, .int y, .int k] (hXC σ Lc μ (cs ++ [.inr (6, [.int 0, .int 0, .int 0, .int 0, .int 0, .int 0, .int 0])])) none (hXC σ Lc μ (cs ++ [.inr (6, [.int x, .int y, .int k, .int 0, .int 0, .int (-1), .int 1])])) := by
  refine am_XR (d := d + 0) (C := cd_X2_init) (L := [some (.ref (75 + n)), some (.int x), some (.int y), some (.int k)]) rfl rfl rfl rfl ?_
  refine am_g 4 6 [some (.ref (75 + n)), some (.int x), some (.int y), some (.int k)] [.int (-1), .ref (75 + n)] (hXC σ Lc μ (cs ++ [.inr (6, [.int 0, .int 0, .int 0, .int 0, .int 0, .int 0, .int 0])])) rfl ?_
  refine am_nputR hcs rfl rfl rfl rfl ?_
  refine am_g 2 11 [some (.ref (75 + n)), some (.int x), some (.int y), some (.int k)] [.int 1, .ref (75 + n)] (hXC σ Lc μ (cs ++ [.inr (6, [.int 0, .int 0, .int 0, .int 0, .int 0, .int (-1), .int 0])])) rfl ?_
  refine am_nputR hcs rfl rfl rfl rfl ?_
  refine am_g 2 16 [some (.ref (75 + n)), some (.int x), some (.int y), some (.int k)] [.int x, .ref (75 + n)] (hXC σ Lc μ (cs ++ [.inr (6, [.int 0, .int 0, .int 0, .int 0, .int 0, .int (-1), .int 1])])) rfl ?_
  refine am_nputR hcs rfl rfl rfl rfl ?_
  refine am_g 2 21 [some (.ref (75 + n)), some (.int x), some (.int y), some (.int k)] [.int y, .ref (75 + n)] (hXC σ Lc μ (cs ++ [.inr (6, [.int x, .int 0, .int 0, .int 0, .int 0, .int (-1), .int 1])])) rfl ?_
  refine am_nputR hcs rfl rfl rfl rfl ?_
  refine am_g 2 26 [some (.ref (75 + n)), some (.int x), some (.int y), some (.int k)] [.int k, .ref (75 + n)] (hXC σ Lc μ (cs ++ [.inr (6, [.int x, .int y, .int 0, .int 0, .int 0, .int (-1), .int 1])])) rfl ?_
  refine am_nputR hcs rfl rfl rfl rfl ?_
  exact am_ret2 rfl rfl rfl rfl rfl
theorem sp_X6_init_2 (d n : Nat) (hcs : cs.length = n) (x y k : Int32) : am_X xs LL (d + 2) 45 [.ref (75 + n), .int x, .int y, .int k] (hXC σ Lc μ (cs ++ [.inr (6, [.int 0, .int 0, .int 0, .int 0, .int 0, .int 0, .int 0])])) none (hXC σ Lc μ (cs ++ [.inr (6, [.int x, .int y, .int k, .int 0, .int 0, .int (-1), .int 1])])) := by
  refine am_XR (d := d + 1) (C := cd_X6_init) (L := [some (.ref (75 + n)), some (.int x), some (.int y), some (.int k)]) rfl rfl rfl rfl ?_
  refine am_g 4 4 [some (.ref (75 + n)), some (.int x), some (.int y), some (.int k)] [.int k, .int y, .int x, .ref (75 + n)] (hXC σ Lc μ (cs ++ [.inr (6, [.int 0, .int 0, .int 0, .int 0, .int 0, .int 0, .int 0])])) rfl ?_
  refine am_call (y := 12) (vs := [.ref (75 + n), .int x, .int y, .int k]) (rest := []) (v := none) (h1 := (hXC σ Lc μ (cs ++ [.inr (6, [.int x, .int y, .int k, .int 0, .int 0, .int (-1), .int 1])]))) rfl rfl (am_tgtN hcs rfl rfl rfl rfl) (sp_X2_init_2 d n hcs x y k) ?_
  exact am_ret2 rfl rfl rfl rfl rfl
theorem sp_X2_init_3 (d n : Nat) (hcs : cs.length = n) (x y k : Int32) : am_X xs LL (d + 1) 12 [.ref (75 + n), .int x, .int y, .int k] (hXC σ Lc μ (cs ++ [.inr (10, [.int 0, .int 0, .int 0, .int 0, .int 0, .int 0, .int 0])])) none (hXC σ Lc μ (cs ++ [.inr (10, [.int x, .int y, .int k, .int 0, .int 0, .int (-1), .int 1])])) := by
  refine am_XR (d := d + 0) (C := cd_X2_init) (L := [some (.ref (75 + n)), some (.int x), some (.int y), some (.int k)]) rfl rfl rfl rfl ?_
  refine am_g 4 6 [some (.ref (75 + n)), some (.int x), some (.int y), some (.int k)] [.int (-1), .ref (75 + n)] (hXC σ Lc μ (cs ++ [.inr (10, [.int 0, .int 0, .int 0, .int 0, .int 0, .int 0, .int 0])])) rfl ?_
  refine am_nputR hcs rfl rfl rfl rfl ?_
  refine am_g 2 11 [some (.ref (75 + n)), some (.int x), some (.int y), some (.int k)] [.int 1, .ref (75 + n)] (hXC σ Lc μ (cs ++ [.inr (10, [.int 0, .int 0, .int 0, .int 0, .int 0, .int (-1), .int 0])])) rfl ?_
  refine am_nputR hcs rfl rfl rfl rfl ?_
  refine am_g 2 16 [some (.ref (75 + n)), some (.int x), some (.int y), some (.int k)] [.int x, .ref (75 + n)] (hXC σ Lc μ (cs ++ [.inr (10, [.int 0, .int 0, .int 0, .int 0, .int 0, .int (-1), .int 1])])) rfl ?_
  refine am_nputR hcs rfl rfl rfl rfl ?_
  refine am_g 2 21 [some (.ref (75 + n)), some (.int x), some (.int y), some (.int k)] [.int y, .ref (75 + n)] (hXC σ Lc μ (cs ++ [.inr (10, [.int x, .int 0, .int 0, .int 0, .int 0, .int (-1), .int 1])])) rfl ?_
  refine am_nputR hcs rfl rfl rfl rfl ?_
  refine am_g 2 26 [some (.ref (75 + n)), some (.int x), some (.int y), some (.int k)] [.int k, .ref (75 + n)] (hXC σ Lc μ (cs ++ [.inr (10, [.int x, .int y, .int 0, .int 0, .int 0, .int (-1), .int 1])])) rfl ?_
  refine am_nputR hcs rfl rfl rfl rfl ?_
  exact am_ret2 rfl rfl rfl rfl rfl
theorem sp_X6_init_3 (d n : Nat) (hcs : cs.length = n) (x y k : Int32) : am_X xs LL (d + 2) 45 [.ref (75 + n), .int x, .int y, .int k] (hXC σ Lc μ (cs ++ [.inr (10, [.int 0, .int 0, .int 0, .int 0, .int 0, .int 0, .int 0])])) none (hXC σ Lc μ (cs ++ [.inr (10, [.int x, .int y, .int k, .int 0, .int 0, .int (-1), .int 1])])) := by
  refine am_XR (d := d + 1) (C := cd_X6_init) (L := [some (.ref (75 + n)), some (.int x), some (.int y), some (.int k)]) rfl rfl rfl rfl ?_
  refine am_g 4 4 [some (.ref (75 + n)), some (.int x), some (.int y), some (.int k)] [.int k, .int y, .int x, .ref (75 + n)] (hXC σ Lc μ (cs ++ [.inr (10, [.int 0, .int 0, .int 0, .int 0, .int 0, .int 0, .int 0])])) rfl ?_
  refine am_call (y := 12) (vs := [.ref (75 + n), .int x, .int y, .int k]) (rest := []) (v := none) (h1 := (hXC σ Lc μ (cs ++ [.inr (10, [.int x, .int y, .int k, .int 0, .int 0, .int (-1), .int 1])]))) rfl rfl (am_tgtN hcs rfl rfl rfl rfl) (sp_X2_init_3 d n hcs x y k) ?_
  exact am_ret2 rfl rfl rfl rfl rfl
theorem sp_X10_init_3 (d n : Nat) (hcs : cs.length = n) (x y k : Int32) : am_X xs LL (d + 3) 81 [.ref (75 + n), .int x, .int k, .int y] (hXC σ Lc μ (cs ++ [.inr (10, [.int 0, .int 0, .int 0, .int 0, .int 0, .int 0, .int 0])])) none (hXC σ Lc μ (cs ++ [.inr (10, [.int x, .int y, .int k, .int 0, .int 0, .int (-1), .int 1])])) := by
  refine am_XR (d := d + 2) (C := cd_X10_init) (L := [some (.ref (75 + n)), some (.int x), some (.int k), some (.int y)]) rfl rfl rfl rfl ?_
  refine am_g 4 4 [some (.ref (75 + n)), some (.int x), some (.int k), some (.int y)] [.int k, .int y, .int x, .ref (75 + n)] (hXC σ Lc μ (cs ++ [.inr (10, [.int 0, .int 0, .int 0, .int 0, .int 0, .int 0, .int 0])])) rfl ?_
  refine am_call (y := 45) (vs := [.ref (75 + n), .int x, .int y, .int k]) (rest := []) (v := none) (h1 := (hXC σ Lc μ (cs ++ [.inr (10, [.int x, .int y, .int k, .int 0, .int 0, .int (-1), .int 1])]))) rfl rfl (am_tgtN hcs rfl rfl rfl rfl) (sp_X6_init_3 d n hcs x y k) ?_
  exact am_ret2 rfl rfl rfl rfl rfl
theorem sp_X2_init_4 (d n : Nat) (hcs : cs.length = n) (x y k : Int32) : am_X xs LL (d + 1) 12 [.ref (75 + n), .int x, .int y, .int k] (hXC σ Lc μ (cs ++ [.inr (0, [.int 0, .int 0, .int 0, .int 0, .int 0, .int 0, .int 0, .int 0])])) none (hXC σ Lc μ (cs ++ [.inr (0, [.int x, .int y, .int k, .int 0, .int 0, .int (-1), .int 1, .int 0])])) := by
  refine am_XR (d := d + 0) (C := cd_X2_init) (L := [some (.ref (75 + n)), some (.int x), some (.int y), some (.int k)]) rfl rfl rfl rfl ?_
  refine am_g 4 6 [some (.ref (75 + n)), some (.int x), some (.int y), some (.int k)] [.int (-1), .ref (75 + n)] (hXC σ Lc μ (cs ++ [.inr (0, [.int 0, .int 0, .int 0, .int 0, .int 0, .int 0, .int 0, .int 0])])) rfl ?_
  refine am_nputR hcs rfl rfl rfl rfl ?_
  refine am_g 2 11 [some (.ref (75 + n)), some (.int x), some (.int y), some (.int k)] [.int 1, .ref (75 + n)] (hXC σ Lc μ (cs ++ [.inr (0, [.int 0, .int 0, .int 0, .int 0, .int 0, .int (-1), .int 0, .int 0])])) rfl ?_
  refine am_nputR hcs rfl rfl rfl rfl ?_
  refine am_g 2 16 [some (.ref (75 + n)), some (.int x), some (.int y), some (.int k)] [.int x, .ref (75 + n)] (hXC σ Lc μ (cs ++ [.inr (0, [.int 0, .int 0, .int 0, .int 0, .int 0, .int (-1), .int 1, .int 0])])) rfl ?_
  refine am_nputR hcs rfl rfl rfl rfl ?_
  refine am_g 2 21 [some (.ref (75 + n)), some (.int x), some (.int y), some (.int k)] [.int y, .ref (75 + n)] (hXC σ Lc μ (cs ++ [.inr (0, [.int x, .int 0, .int 0, .int 0, .int 0, .int (-1), .int 1, .int 0])])) rfl ?_
  refine am_nputR hcs rfl rfl rfl rfl ?_
  refine am_g 2 26 [some (.ref (75 + n)), some (.int x), some (.int y), some (.int k)] [.int k, .ref (75 + n)] (hXC σ Lc μ (cs ++ [.inr (0, [.int x, .int y, .int 0, .int 0, .int 0, .int (-1), .int 1, .int 0])])) rfl ?_
  refine am_nputR hcs rfl rfl rfl rfl ?_
  exact am_ret2 rfl rfl rfl rfl rfl
theorem sp_X6_init_4 (d n : Nat) (hcs : cs.length = n) (x y k : Int32) : am_X xs LL (d + 2) 45 [.ref (75 + n), .int x, .int y, .int k] (hXC σ Lc μ (cs ++ [.inr (0, [.int 0, .int 0, .int 0, .int 0, .int 0, .int 0, .int 0, .int 0])])) none (hXC σ Lc μ (cs ++ [.inr (0, [.int x, .int y, .int k, .int 0, .int 0, .int (-1), .int 1, .int 0])])) := by
  refine am_XR (d := d + 1) (C := cd_X6_init) (L := [some (.ref (75 + n)), some (.int x), some (.int y), some (.int k)]) rfl rfl rfl rfl ?_
  refine am_g 4 4 [some (.ref (75 + n)), some (.int x), some (.int y), some (.int k)] [.int k, .int y, .int x, .ref (75 + n)] (hXC σ Lc μ (cs ++ [.inr (0, [.int 0, .int 0, .int 0, .int 0, .int 0, .int 0, .int 0, .int 0])])) rfl ?_
  refine am_call (y := 12) (vs := [.ref (75 + n), .int x, .int y, .int k]) (rest := []) (v := none) (h1 := (hXC σ Lc μ (cs ++ [.inr (0, [.int x, .int y, .int k, .int 0, .int 0, .int (-1), .int 1, .int 0])]))) rfl rfl (am_tgtN hcs rfl rfl rfl rfl) (sp_X2_init_4 d n hcs x y k) ?_
  exact am_ret2 rfl rfl rfl rfl rfl
theorem sp_X0_init_4 (d n : Nat) (hcs : cs.length = n) (x y k z : Int32) : am_X xs LL (d + 3) 0 [.ref (75 + n), .int x, .int y, .int k, .int z] (hXC σ Lc μ (cs ++ [.inr (0, [.int 0, .int 0, .int 0, .int 0, .int 0, .int 0, .int 0, .int 0])])) none (hXC σ Lc μ (cs ++ [.inr (0, [.int x, .int y, .int k, .int 0, .int 0, .int (-1), .int 1, .int z])])) := by
  refine am_XR (d := d + 2) (C := cd_X0_init) (L := [some (.ref (75 + n)), some (.int x), some (.int y), some (.int k), some (.int z)]) rfl rfl rfl rfl ?_
  refine am_g 4 4 [some (.ref (75 + n)), some (.int x), some (.int y), some (.int k), some (.int z)] [.int k, .int y, .int x, .ref (75 + n)] (hXC σ Lc μ (cs ++ [.inr (0, [.int 0, .int 0, .int 0, .int 0, .int 0, .int 0, .int 0, .int 0])])) rfl ?_
  refine am_call (y := 45) (vs := [.ref (75 + n), .int x, .int y, .int k]) (rest := []) (v := none) (h1 := (hXC σ Lc μ (cs ++ [.inr (0, [.int x, .int y, .int k, .int 0, .int 0, .int (-1), .int 1, .int 0])]))) rfl rfl (am_tgtN hcs rfl rfl rfl rfl) (sp_X6_init_4 d n hcs x y k) ?_
  refine am_g 2 10 [some (.ref (75 + n)), some (.int x), some (.int y), some (.int k), some (.int z)] [.int z, .ref (75 + n)] (hXC σ Lc μ (cs ++ [.inr (0, [.int x, .int y, .int k, .int 0, .int 0, .int (-1), .int 1, .int 0])])) rfl ?_
  refine am_nputR hcs rfl rfl rfl rfl ?_
  exact am_ret2 rfl rfl rfl rfl rfl
theorem sp_X2_init_5 (d n : Nat) (hcs : cs.length = n) (x y k : Int32) : am_X xs LL (d + 1) 12 [.ref (75 + n), .int x, .int y, .int k] (hXC σ Lc μ (cs ++ [.inr (5, [.int 0, .int 0, .int 0, .int 0, .int 0, .int 0, .int 0, .int 0])])) none (hXC σ Lc μ (cs ++ [.inr (5, [.int x, .int y, .int k, .int 0, .int 0, .int (-1), .int 1, .int 0])])) := by
  refine am_XR (d := d + 0) (C := cd_X2_init) (L := [some (.ref (75 + n)), some (.int x), some (.int y), some (.int k)]) rfl rfl rfl rfl ?_
  refine am_g 4 6 [some (.ref (75 + n)), some (.int x), some (.int y), some (.int k)] [.int (-1), .ref (75 + n)] (hXC σ Lc μ (cs ++ [.inr (5, [.int 0, .int 0, .int 0, .int 0, .int 0, .int 0, .int 0, .int 0])])) rfl ?_
  refine am_nputR hcs rfl rfl rfl rfl ?_
  refine am_g 2 11 [some (.ref (75 + n)), some (.int x), some (.int y), some (.int k)] [.int 1, .ref (75 + n)] (hXC σ Lc μ (cs ++ [.inr (5, [.int 0, .int 0, .int 0, .int 0, .int 0, .int (-1), .int 0, .int 0])])) rfl ?_
  refine am_nputR hcs rfl rfl rfl rfl ?_
  refine am_g 2 16 [some (.ref (75 + n)), some (.int x), some (.int y), some (.int k)] [.int x, .ref (75 + n)] (hXC σ Lc μ (cs ++ [.inr (5, [.int 0, .int 0, .int 0, .int 0, .int 0, .int (-1), .int 1, .int 0])])) rfl ?_
  refine am_nputR hcs rfl rfl rfl rfl ?_
  refine am_g 2 21 [some (.ref (75 + n)), some (.int x), some (.int y), some (.int k)] [.int y, .ref (75 + n)] (hXC σ Lc μ (cs ++ [.inr (5, [.int x, .int 0, .int 0, .int 0, .int 0, .int (-1), .int 1, .int 0])])) rfl ?_
  refine am_nputR hcs rfl rfl rfl rfl ?_
  refine am_g 2 26 [some (.ref (75 + n)), some (.int x), some (.int y), some (.int k)] [.int k, .ref (75 + n)] (hXC σ Lc μ (cs ++ [.inr (5, [.int x, .int y, .int 0, .int 0, .int 0, .int (-1), .int 1, .int 0])])) rfl ?_
  refine am_nputR hcs rfl rfl rfl rfl ?_
  exact am_ret2 rfl rfl rfl rfl rfl
theorem sp_X5_init_5 (d n : Nat) (hcs : cs.length = n) (x k o : Int32) : am_X xs LL (d + 2) 40 [.ref (75 + n), .int x, .int k, .int o] (hXC σ Lc μ (cs ++ [.inr (5, [.int 0, .int 0, .int 0, .int 0, .int 0, .int 0, .int 0, .int 0])])) none (hXC σ Lc μ (cs ++ [.inr (5, [.int x, .int (-1), .int k, .int 0, .int 0, .int (-1), .int 1, .int o])])) := by
  refine am_XR (d := d + 1) (C := cd_X5_init) (L := [some (.ref (75 + n)), some (.int x), some (.int k), some (.int o)]) rfl rfl rfl rfl ?_
  refine am_g 4 4 [some (.ref (75 + n)), some (.int x), some (.int k), some (.int o)] [.int k, .int (-1), .int x, .ref (75 + n)] (hXC σ Lc μ (cs ++ [.inr (5, [.int 0, .int 0, .int 0, .int 0, .int 0, .int 0, .int 0, .int 0])])) rfl ?_
  refine am_call (y := 12) (vs := [.ref (75 + n), .int x, .int (-1), .int k]) (rest := []) (v := none) (h1 := (hXC σ Lc μ (cs ++ [.inr (5, [.int x, .int (-1), .int k, .int 0, .int 0, .int (-1), .int 1, .int 0])]))) rfl rfl (am_tgtN hcs rfl rfl rfl rfl) (sp_X2_init_5 d n hcs x (-1) k) ?_
  refine am_g 2 9 [some (.ref (75 + n)), some (.int x), some (.int k), some (.int o)] [.int o, .ref (75 + n)] (hXC σ Lc μ (cs ++ [.inr (5, [.int x, .int (-1), .int k, .int 0, .int 0, .int (-1), .int 1, .int 0])])) rfl ?_
  refine am_nputR hcs rfl rfl rfl rfl ?_
  exact am_ret2 rfl rfl rfl rfl rfl
end NI
