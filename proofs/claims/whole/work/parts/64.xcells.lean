/-! the class's heap with its cells behind the fixed ones free (a line being made) -/
def hXC (σ : Nat → Nat → Int32) (Lc : Nat) (μ : Nat → Nat → Int32) (cs : am_H) : am_H := hXM σ Lc μ ++ cs
theorem hXC_hG {σ μ : Nat → Nat → Int32} {sr : Nat → Nat} {ln : Nat → Nat → Int32} {Lc : Nat} : hG σ sr ln Lc μ = hXC σ Lc μ ((List.range Lc).map (hLn sr ln)) := rfl
section TX
variable {xs : Nat → Int32} {LL : Nat} {σ μ : Nat → Nat → Int32} {Lc : Nat} {cs : am_H}
theorem sp_X9_byteAt_x (d : Nat) {T : Nat} (hT : σ 8 0 = nI T) (hT20 : T ≤ 20) (i : Nat) (hi : i < T) : am_X xs LL (d + 1) 73 [.ref 20, .int (nI i)] (hXC σ Lc μ cs) (some (.int (σ 7 i))) (hXC σ Lc μ cs) := by
  refine am_XR (d := d + 0) (C := cd_X9_byteAt) (L := [some (.ref 20), some (.int (nI i))]) rfl rfl rfl rfl ?_
  refine am_g 2 (if (nI i) < 0 then 30 else 4) [some (.ref 20), some (.int (nI i))] [] (hXC σ Lc μ cs) rfl ?_
  rw [if_neg (show ¬ (nI i) < 0 from (nI_pos (by omega)))]
  refine am_g 3 9 [some (.ref 20), some (.int (nI i))] [.int (σ 8 0), .int (nI i)] (hXC σ Lc μ cs) rfl ?_
  rw [show (σ 8 0) = (nI T) from hT]
  refine am_g 1 (if (nI T) ≤ (nI i) then 30 else 12) [some (.ref 20), some (.int (nI i))] [] (hXC σ Lc μ cs) rfl ?_
  rw [if_neg (show ¬ (nI T) ≤ (nI i) from (nI_ge hi (by omega)))]
  refine am_g 5 (if 20 ≤ (nI i) then 30 else 21) [some (.ref 20), some (.int (nI i))] [] (hXC σ Lc μ cs) rfl ?_
  rw [if_neg (show ¬ 20 ≤ (nI i) from (am_dnle (a := 20) (b := i) rfl rfl (by omega) (by omega) (by omega)))]
  refine am_g 3 26 [some (.ref 20), some (.int (nI i))] [.int (nI i), .ref 21] (hXC σ Lc μ cs) rfl ?_
  refine am_ialdR (n := 20) (f := (σ 7)) (k := i) rfl rfl (rfl) (by omega) (by decide) ?_
  refine am_g 1 31 [some (.ref 20), some (.int (nI i))] [.int (σ 7 i)] (hXC σ Lc μ cs) rfl ?_
  exact am_ret2 rfl rfl rfl rfl rfl
theorem sp_X9_letterOf_x122 (d : Nat) {T : Nat} (hT : σ 8 0 = nI T) (hT20 : T ≤ 20) (hp : 6 < T) : am_X xs LL (d + 5) 79 [.ref 20, .int 4, .int 122] (hXC σ Lc μ cs) (some (.int ((σ 7 6) - 97))) (hXC σ Lc μ cs) := by
  refine am_XR (d := d + 4) (C := cd_X9_letterOf) (L := [some (.ref 20), some (.int 4), some (.int 122), none]) rfl rfl rfl rfl ?_
  refine am_g 1 1 [some (.ref 20), some (.int 4), some (.int 122), none] [.int 4] (hXC σ Lc μ cs) rfl ?_
  refine am_call (y := 74) (vs := [.int 4]) (rest := []) (v := (some (.ref 4))) (h1 := (hXC σ Lc μ cs)) rfl rfl rfl (sp_X9_formOf_4 (d + 3) _) ?_
  refine am_g 1 5 [some (.ref 20), some (.int 4), some (.int 122), none] [.int 122, .ref 4] (hXC σ Lc μ cs) rfl ?_
  refine am_call (y := 214) (vs := [.ref 4, .int 122]) (rest := []) (v := (some (.int 6))) (h1 := (hXC σ Lc μ cs)) rfl rfl rfl (sp_J0_indexOf_0f7a4_4_122 d _) ?_
  refine am_g 5 19 [some (.ref 20), some (.int 4), some (.int 122), some (.int 6)] [.int 6, .ref 20] (hXC σ Lc μ cs) rfl ?_
  refine am_call (y := 73) (vs := [.ref 20, .int 6]) (rest := []) (v := (some (.int (σ 7 6)))) (h1 := (hXC σ Lc μ cs)) rfl rfl rfl (sp_X9_byteAt_x (σ := σ) (μ := μ) (d + 3) hT hT20 6 (by omega)) ?_
  refine am_g 2 25 [some (.ref 20), some (.int 4), some (.int 122), some (.int 6)] [.int ((σ 7 6) - 97)] (hXC σ Lc μ cs) rfl ?_
  exact am_ret2 rfl rfl rfl rfl rfl
theorem sp_X3_hasRoomForObject_x (d : Nat) {O : Nat} (hO : σ 6 0 = nI O) (hO16 : O < 16) : am_X xs LL (d + 1) 29 [.ref 15] (hXC σ Lc μ cs) (some (.int 1)) (hXC σ Lc μ cs) := by
  refine am_XR (d := d + 0) (C := cd_X3_hasRoomForObject) (L := [some (.ref 15)]) rfl rfl rfl rfl ?_
  refine am_g 2 4 [some (.ref 15)] [.int (σ 6 0)] (hXC σ Lc μ cs) rfl ?_
  rw [show (σ 6 0) = (nI O) from hO]
  refine am_g 1 (if (nI O) < 0 then 23 else 7) [some (.ref 15)] [] (hXC σ Lc μ cs) rfl ?_
  rw [if_neg (show ¬ (nI O) < 0 from (am_dnlt (a := O) (b := 0) (rfl) (rfl) (by omega) (by omega) (by omega)))]
  refine am_g 2 11 [some (.ref 15)] [.int (σ 6 0)] (hXC σ Lc μ cs) rfl ?_
  rw [show (σ 6 0) = (nI O) from hO]
  refine am_g 4 (if 16 ≤ (nI O) then 23 else 19) [some (.ref 15)] [] (hXC σ Lc μ cs) rfl ?_
  rw [if_neg (show ¬ 16 ≤ (nI O) from (am_dnle (a := 16) (b := O) (rfl) (rfl) (by omega) (by omega) (by omega)))]
  refine am_g 2 24 [some (.ref 15)] [.int 1] (hXC σ Lc μ cs) rfl ?_
  exact am_ret2 rfl rfl rfl rfl rfl
theorem sp_X3_makeObject_x (d : Nat) {O : Nat} (hO : σ 6 0 = nI O) (hO16 : O < 16) (k : Int32) : am_X xs LL (d + 2) 30 [.ref 15, .int k] (hXC σ Lc μ cs) (some (.int (nI O))) (hXC (am_us (am_up σ 4 (upd (σ 4) O k)) 6 (nI (O + 1))) Lc μ cs) := by
  refine am_XR (d := d + 1) (C := cd_X3_makeObject) (L := [some (.ref 15), some (.int k)]) rfl rfl rfl rfl ?_
  refine am_g 1 1 [some (.ref 15), some (.int k)] [.ref 15] (hXC σ Lc μ cs) rfl ?_
  refine am_call (y := 29) (vs := [.ref 15]) (rest := []) (v := (some (.int 1))) (h1 := (hXC σ Lc μ cs)) rfl rfl rfl (sp_X3_hasRoomForObject_x (σ := σ) (μ := μ) d hO hO16) ?_
  refine am_g 5 17 [some (.ref 15), some (.int k)] [.int (σ 6 0), .ref 19] (hXC σ Lc μ cs) rfl ?_
  rw [show (σ 6 0) = (nI O) from hO]
  refine am_g 1 18 [some (.ref 15), some (.int k)] [.int k, .int (nI O), .ref 19] (hXC σ Lc μ cs) rfl ?_
  refine am_iastR (n := 16) (f := (σ 4)) (k := O) (h1 := (hXC (am_up σ 4 (upd (σ 4) O k)) Lc μ cs)) rfl rfl (rfl) (by omega) (by decide) rfl ?_
  refine am_g 3 24 [some (.ref 15), some (.int k)] [.int (σ 6 0), .ref 15] (hXC (am_up σ 4 (upd (σ 4) O k)) Lc μ cs) rfl ?_
  rw [show (σ 6 0) = (nI O) from hO]
  refine am_g 4 30 [some (.ref 15), some (.int k)] [.int (nI O)] (hXC (am_us (am_up σ 4 (upd (σ 4) O k)) 6 ((nI O) + 1)) Lc μ cs) rfl ?_
  exact am_ret2 rfl rfl rfl rfl (by rw [nI_up])
theorem sp_X9_clear_x (d : Nat)  : am_X xs LL (d + 1) 72 [.ref 20] (hXC σ Lc μ cs) none (hXC (am_us σ 8 0) Lc μ cs) := by
  refine am_XR (d := d + 0) (C := cd_X9_clear) (L := [some (.ref 20)]) rfl rfl rfl rfl ?_
  refine am_g 3 5 [some (.ref 20)] [] (hXC (am_us σ 8 0) Lc μ cs) rfl ?_
  exact am_ret2 rfl rfl rfl rfl rfl
theorem sp_X11_forgetSets_x (d : Nat)  : am_X xs LL (d + 1) 131 [.ref 14] (hXC σ Lc μ cs) none (hXC (am_us (am_us σ 10 0) 20 0) Lc μ cs) := by
  refine am_XR (d := d + 0) (C := cd_X11_forgetSets) (L := [some (.ref 14)]) rfl rfl rfl rfl ?_
  refine am_g 8 16 [some (.ref 14)] [] (hXC (am_us (am_us σ 10 0) 20 0) Lc μ cs) rfl ?_
  exact am_ret2 rfl rfl rfl rfl rfl
end TX
