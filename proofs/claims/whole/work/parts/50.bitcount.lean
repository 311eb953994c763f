/-! bits counted, the lowest bit (nx_ rows pasted from the starting texts) -/
theorem nx_and (a b : Nat) : nI a &&& nI b = nI (a &&& b) := by
  apply Int32.toBitVec_inj.1
  show BitVec.ofNat 32 a &&& BitVec.ofNat 32 b = BitVec.ofNat 32 (a &&& b)
  apply BitVec.eq_of_getLsbD_eq
  intro i hi
  simp [hi]
theorem nx_cnt : ∀ j : Fin 32, (UInt32.ofNat j.val &&& Int32.toUInt32 31).toNat % 32 = j.val := by decide +kernel
theorem nx_ush {k j : Nat} (hk : k < 65536) (hj : j < 32) : ((nI k).toUInt32 >>> ((nI j).toUInt32 &&& Int32.toUInt32 31)).toInt32 = nI (k >>> j) := by
  have hs : k >>> j ≤ k := by
    rw [Nat.shiftRight_eq_div_pow]
    exact Nat.div_le_self _ _
  have e2 : UInt32.ofNat k >>> (UInt32.ofNat j &&& Int32.toUInt32 31) = UInt32.ofNat (k >>> j) := by
    apply UInt32.toNat_inj.1
    have h1 : (UInt32.ofNat k).toNat = k := Nat.mod_eq_of_lt (by omega)
    have h2 : (UInt32.ofNat (k >>> j)).toNat = k >>> j := Nat.mod_eq_of_lt (by omega)
    rw [UInt32.toNat_shiftRight, nx_cnt ⟨j, hj⟩, h1, h2]
  show (UInt32.ofNat k >>> (UInt32.ofNat j &&& Int32.toUInt32 31)).toInt32 = _
  rw [e2]
  rfl
def am_bcE (v : Int32) : Int32 := ((((((((v - ((v.toUInt32 >>> ((1 : Int32).toUInt32 &&& Int32.toUInt32 31)).toInt32 &&& 1431655765)) &&& 858993459) + (((v - ((v.toUInt32 >>> ((1 : Int32).toUInt32 &&& Int32.toUInt32 31)).toInt32 &&& 1431655765)).toUInt32 >>> ((2 : Int32).toUInt32 &&& Int32.toUInt32 31)).toInt32 &&& 858993459)) + ((((v - ((v.toUInt32 >>> ((1 : Int32).toUInt32 &&& Int32.toUInt32 31)).toInt32 &&& 1431655765)) &&& 858993459) + (((v - ((v.toUInt32 >>> ((1 : Int32).toUInt32 &&& Int32.toUInt32 31)).toInt32 &&& 1431655765)).toUInt32 >>> ((2 : Int32).toUInt32 &&& Int32.toUInt32 31)).toInt32 &&& 858993459)).toUInt32 >>> ((4 : Int32).toUInt32 &&& Int32.toUInt32 31)).toInt32) &&& 252645135) + ((((((v - ((v.toUInt32 >>> ((1 : Int32).toUInt32 &&& Int32.toUInt32 31)).toInt32 &&& 1431655765)) &&& 858993459) + (((v - ((v.toUInt32 >>> ((1 : Int32).toUInt32 &&& Int32.toUInt32 31)).toInt32 &&& 1431655765)).toUInt32 >>> ((2 : Int32).toUInt32 &&& Int32.toUInt32 31)).toInt32 &&& 858993459)) + ((((v - ((v.toUInt32 >>> ((1 : Int32).toUInt32 &&& Int32.toUInt32 31)).toInt32 &&& 1431655765)) &&& 858993459) + (((v - ((v.toUInt32 >>> ((1 : Int32).toUInt32 &&& Int32.toUInt32 31)).toInt32 &&& 1431655765)).toUInt32 >>> ((2 : Int32).toUInt32 &&& Int32.toUInt32 31)).toInt32 &&& 858993459)).toUInt32 >>> ((4 : Int32).toUInt32 &&& Int32.toUInt32 31)).toInt32) &&& 252645135).toUInt32 >>> ((8 : Int32).toUInt32 &&& Int32.toUInt32 31)).toInt32) + (((((((v - ((v.toUInt32 >>> ((1 : Int32).toUInt32 &&& Int32.toUInt32 31)).toInt32 &&& 1431655765)) &&& 858993459) + (((v - ((v.toUInt32 >>> ((1 : Int32).toUInt32 &&& Int32.toUInt32 31)).toInt32 &&& 1431655765)).toUInt32 >>> ((2 : Int32).toUInt32 &&& Int32.toUInt32 31)).toInt32 &&& 858993459)) + ((((v - ((v.toUInt32 >>> ((1 : Int32).toUInt32 &&& Int32.toUInt32 31)).toInt32 &&& 1431655765)) &&& 858993459) + (((v - ((v.toUInt32 >>> ((1 : Int32).toUInt32 &&& Int32.toUInt32 31)).toInt32 &&& 1431655765)).toUInt32 >>> ((2 : Int32).toUInt32 &&& Int32.toUInt32 31)).toInt32 &&& 858993459)).toUInt32 >>> ((4 : Int32).toUInt32 &&& Int32.toUInt32 31)).toInt32) &&& 252645135) + ((((((v - ((v.toUInt32 >>> ((1 : Int32).toUInt32 &&& Int32.toUInt32 31)).toInt32 &&& 1431655765)) &&& 858993459) + (((v - ((v.toUInt32 >>> ((1 : Int32).toUInt32 &&& Int32.toUInt32 31)).toInt32 &&& 1431655765)).toUInt32 >>> ((2 : Int32).toUInt32 &&& Int32.toUInt32 31)).toInt32 &&& 858993459)) + ((((v - ((v.toUInt32 >>> ((1 : Int32).toUInt32 &&& Int32.toUInt32 31)).toInt32 &&& 1431655765)) &&& 858993459) + (((v - ((v.toUInt32 >>> ((1 : Int32).toUInt32 &&& Int32.toUInt32 31)).toInt32 &&& 1431655765)).toUInt32 >>> ((2 : Int32).toUInt32 &&& Int32.toUInt32 31)).toInt32 &&& 858993459)).toUInt32 >>> ((4 : Int32).toUInt32 &&& Int32.toUInt32 31)).toInt32) &&& 252645135).toUInt32 >>> ((8 : Int32).toUInt32 &&& Int32.toUInt32 31)).toInt32).toUInt32 >>> ((16 : Int32).toUInt32 &&& Int32.toUInt32 31)).toInt32) &&& 63)
section BCE
variable {xs : Nat → Int32} {LL : Nat}
theorem sp_J6_bitCount_0f7a4_E (d : Nat) (v : Int32) (h : am_H) : am_X xs LL (d + 1) 210 [.int v] h (some (.int (am_bcE v))) h := by
  refine am_XR (d := d + 0) (C := cd_J6_bitCount_0f7a4) (L := [some (.int v)]) rfl rfl rfl rfl ?_
  refine am_g 41 52 [some (.int (((((((v - ((v.toUInt32 >>> ((1 : Int32).toUInt32 &&& Int32.toUInt32 31)).toInt32 &&& 1431655765)) &&& 858993459) + (((v - ((v.toUInt32 >>> ((1 : Int32).toUInt32 &&& Int32.toUInt32 31)).toInt32 &&& 1431655765)).toUInt32 >>> ((2 : Int32).toUInt32 &&& Int32.toUInt32 31)).toInt32 &&& 858993459)) + ((((v - ((v.toUInt32 >>> ((1 : Int32).toUInt32 &&& Int32.toUInt32 31)).toInt32 &&& 1431655765)) &&& 858993459) + (((v - ((v.toUInt32 >>> ((1 : Int32).toUInt32 &&& Int32.toUInt32 31)).toInt32 &&& 1431655765)).toUInt32 >>> ((2 : Int32).toUInt32 &&& Int32.toUInt32 31)).toInt32 &&& 858993459)).toUInt32 >>> ((4 : Int32).toUInt32 &&& Int32.toUInt32 31)).toInt32) &&& 252645135) + ((((((v - ((v.toUInt32 >>> ((1 : Int32).toUInt32 &&& Int32.toUInt32 31)).toInt32 &&& 1431655765)) &&& 858993459) + (((v - ((v.toUInt32 >>> ((1 : Int32).toUInt32 &&& Int32.toUInt32 31)).toInt32 &&& 1431655765)).toUInt32 >>> ((2 : Int32).toUInt32 &&& Int32.toUInt32 31)).toInt32 &&& 858993459)) + ((((v - ((v.toUInt32 >>> ((1 : Int32).toUInt32 &&& Int32.toUInt32 31)).toInt32 &&& 1431655765)) &&& 858993459) + (((v - ((v.toUInt32 >>> ((1 : Int32).toUInt32 &&& Int32.toUInt32 31)).toInt32 &&& 1431655765)).toUInt32 >>> ((2 : Int32).toUInt32 &&& Int32.toUInt32 31)).toInt32 &&& 858993459)).toUInt32 >>> ((4 : Int32).toUInt32 &&& Int32.toUInt32 31)).toInt32) &&& 252645135).toUInt32 >>> ((8 : Int32).toUInt32 &&& Int32.toUInt32 31)).toInt32) + (((((((v - ((v.toUInt32 >>> ((1 : Int32).toUInt32 &&& Int32.toUInt32 31)).toInt32 &&& 1431655765)) &&& 858993459) + (((v - ((v.toUInt32 >>> ((1 : Int32).toUInt32 &&& Int32.toUInt32 31)).toInt32 &&& 1431655765)).toUInt32 >>> ((2 : Int32).toUInt32 &&& Int32.toUInt32 31)).toInt32 &&& 858993459)) + ((((v - ((v.toUInt32 >>> ((1 : Int32).toUInt32 &&& Int32.toUInt32 31)).toInt32 &&& 1431655765)) &&& 858993459) + (((v - ((v.toUInt32 >>> ((1 : Int32).toUInt32 &&& Int32.toUInt32 31)).toInt32 &&& 1431655765)).toUInt32 >>> ((2 : Int32).toUInt32 &&& Int32.toUInt32 31)).toInt32 &&& 858993459)).toUInt32 >>> ((4 : Int32).toUInt32 &&& Int32.toUInt32 31)).toInt32) &&& 252645135) + ((((((v - ((v.toUInt32 >>> ((1 : Int32).toUInt32 &&& Int32.toUInt32 31)).toInt32 &&& 1431655765)) &&& 858993459) + (((v - ((v.toUInt32 >>> ((1 : Int32).toUInt32 &&& Int32.toUInt32 31)).toInt32 &&& 1431655765)).toUInt32 >>> ((2 : Int32).toUInt32 &&& Int32.toUInt32 31)).toInt32 &&& 858993459)) + ((((v - ((v.toUInt32 >>> ((1 : Int32).toUInt32 &&& Int32.toUInt32 31)).toInt32 &&& 1431655765)) &&& 858993459) + (((v - ((v.toUInt32 >>> ((1 : Int32).toUInt32 &&& Int32.toUInt32 31)).toInt32 &&& 1431655765)).toUInt32 >>> ((2 : Int32).toUInt32 &&& Int32.toUInt32 31)).toInt32 &&& 858993459)).toUInt32 >>> ((4 : Int32).toUInt32 &&& Int32.toUInt32 31)).toInt32) &&& 252645135).toUInt32 >>> ((8 : Int32).toUInt32 &&& Int32.toUInt32 31)).toInt32).toUInt32 >>> ((16 : Int32).toUInt32 &&& Int32.toUInt32 31)).toInt32))] [.int ((((((((v - ((v.toUInt32 >>> ((1 : Int32).toUInt32 &&& Int32.toUInt32 31)).toInt32 &&& 1431655765)) &&& 858993459) + (((v - ((v.toUInt32 >>> ((1 : Int32).toUInt32 &&& Int32.toUInt32 31)).toInt32 &&& 1431655765)).toUInt32 >>> ((2 : Int32).toUInt32 &&& Int32.toUInt32 31)).toInt32 &&& 858993459)) + ((((v - ((v.toUInt32 >>> ((1 : Int32).toUInt32 &&& Int32.toUInt32 31)).toInt32 &&& 1431655765)) &&& 858993459) + (((v - ((v.toUInt32 >>> ((1 : Int32).toUInt32 &&& Int32.toUInt32 31)).toInt32 &&& 1431655765)).toUInt32 >>> ((2 : Int32).toUInt32 &&& Int32.toUInt32 31)).toInt32 &&& 858993459)).toUInt32 >>> ((4 : Int32).toUInt32 &&& Int32.toUInt32 31)).toInt32) &&& 252645135) + ((((((v - ((v.toUInt32 >>> ((1 : Int32).toUInt32 &&& Int32.toUInt32 31)).toInt32 &&& 1431655765)) &&& 858993459) + (((v - ((v.toUInt32 >>> ((1 : Int32).toUInt32 &&& Int32.toUInt32 31)).toInt32 &&& 1431655765)).toUInt32 >>> ((2 : Int32).toUInt32 &&& Int32.toUInt32 31)).toInt32 &&& 858993459)) + ((((v - ((v.toUInt32 >>> ((1 : Int32).toUInt32 &&& Int32.toUInt32 31)).toInt32 &&& 1431655765)) &&& 858993459) + (((v - ((v.toUInt32 >>> ((1 : Int32).toUInt32 &&& Int32.toUInt32 31)).toInt32 &&& 1431655765)).toUInt32 >>> ((2 : Int32).toUInt32 &&& Int32.toUInt32 31)).toInt32 &&& 858993459)).toUInt32 >>> ((4 : Int32).toUInt32 &&& Int32.toUInt32 31)).toInt32) &&& 252645135).toUInt32 >>> ((8 : Int32).toUInt32 &&& Int32.toUInt32 31)).toInt32) + (((((((v - ((v.toUInt32 >>> ((1 : Int32).toUInt32 &&& Int32.toUInt32 31)).toInt32 &&& 1431655765)) &&& 858993459) + (((v - ((v.toUInt32 >>> ((1 : Int32).toUInt32 &&& Int32.toUInt32 31)).toInt32 &&& 1431655765)).toUInt32 >>> ((2 : Int32).toUInt32 &&& Int32.toUInt32 31)).toInt32 &&& 858993459)) + ((((v - ((v.toUInt32 >>> ((1 : Int32).toUInt32 &&& Int32.toUInt32 31)).toInt32 &&& 1431655765)) &&& 858993459) + (((v - ((v.toUInt32 >>> ((1 : Int32).toUInt32 &&& Int32.toUInt32 31)).toInt32 &&& 1431655765)).toUInt32 >>> ((2 : Int32).toUInt32 &&& Int32.toUInt32 31)).toInt32 &&& 858993459)).toUInt32 >>> ((4 : Int32).toUInt32 &&& Int32.toUInt32 31)).toInt32) &&& 252645135) + ((((((v - ((v.toUInt32 >>> ((1 : Int32).toUInt32 &&& Int32.toUInt32 31)).toInt32 &&& 1431655765)) &&& 858993459) + (((v - ((v.toUInt32 >>> ((1 : Int32).toUInt32 &&& Int32.toUInt32 31)).toInt32 &&& 1431655765)).toUInt32 >>> ((2 : Int32).toUInt32 &&& Int32.toUInt32 31)).toInt32 &&& 858993459)) + ((((v - ((v.toUInt32 >>> ((1 : Int32).toUInt32 &&& Int32.toUInt32 31)).toInt32 &&& 1431655765)) &&& 858993459) + (((v - ((v.toUInt32 >>> ((1 : Int32).toUInt32 &&& Int32.toUInt32 31)).toInt32 &&& 1431655765)).toUInt32 >>> ((2 : Int32).toUInt32 &&& Int32.toUInt32 31)).toInt32 &&& 858993459)).toUInt32 >>> ((4 : Int32).toUInt32 &&& Int32.toUInt32 31)).toInt32) &&& 252645135).toUInt32 >>> ((8 : Int32).toUInt32 &&& Int32.toUInt32 31)).toInt32).toUInt32 >>> ((16 : Int32).toUInt32 &&& Int32.toUInt32 31)).toInt32) &&& 63)] h rfl ?_
  exact am_ret2 rfl rfl rfl rfl rfl
end BCE
def pc_R (w : Nat) : Nat → Nat
  | 0 => 0
  | n + 1 => pc_R w n + (w >>> n) % 2
def pc_1 (w : Nat) : Nat := w - ((w >>> 1) &&& 1431655765)
def pc_2 (w : Nat) : Nat := (w &&& 858993459) + ((w >>> 2) &&& 858993459)
def pc_3 (w : Nat) : Nat := (w + (w >>> 4)) &&& 252645135
def pc_4 (w : Nat) : Nat := w + (w >>> 8)
def pc_5 (w : Nat) : Nat := (w + (w >>> 16)) &&& 63
def pc_E (w : Nat) : Nat := pc_5 (pc_4 (pc_3 (pc_2 (pc_1 w))))
def pc_all (f : Nat → Bool) : Nat → Bool
  | 0 => true
  | n + 1 => f n && pc_all f n
theorem pc_all_of {f : Nat → Bool} : ∀ n, pc_all f n = true → ∀ i, i < n → f i = true := by
  intro n
  induction n with
  | zero => intro _ i h; exact absurd h (Nat.not_lt_zero _)
  | succ n ih =>
    intro h i hi
    have h2 : f n = true ∧ pc_all f n = true := by
      have h : (f n && pc_all f n) = true := h
      rw [Bool.and_eq_true] at h; exact h
    by_cases e : i = n
    · subst e; exact h2.1
    · exact ih h2.2 i (by omega)
theorem pc_c0 : pc_all (fun a => pc_all (fun b => Nat.beq (pc_E (256 * (8 * 0 + a) + b)) (pc_E (8 * 0 + a) + pc_E b)) 256) 8 = true := by decide +kernel
theorem pc_c1 : pc_all (fun a => pc_all (fun b => Nat.beq (pc_E (256 * (8 * 1 + a) + b)) (pc_E (8 * 1 + a) + pc_E b)) 256) 8 = true := by decide +kernel
theorem pc_c2 : pc_all (fun a => pc_all (fun b => Nat.beq (pc_E (256 * (8 * 2 + a) + b)) (pc_E (8 * 2 + a) + pc_E b)) 256) 8 = true := by decide +kernel
theorem pc_c3 : pc_all (fun a => pc_all (fun b => Nat.beq (pc_E (256 * (8 * 3 + a) + b)) (pc_E (8 * 3 + a) + pc_E b)) 256) 8 = true := by decide +kernel
theorem pc_c4 : pc_all (fun a => pc_all (fun b => Nat.beq (pc_E (256 * (8 * 4 + a) + b)) (pc_E (8 * 4 + a) + pc_E b)) 256) 8 = true := by decide +kernel
theorem pc_c5 : pc_all (fun a => pc_all (fun b => Nat.beq (pc_E (256 * (8 * 5 + a) + b)) (pc_E (8 * 5 + a) + pc_E b)) 256) 8 = true := by decide +kernel
theorem pc_c6 : pc_all (fun a => pc_all (fun b => Nat.beq (pc_E (256 * (8 * 6 + a) + b)) (pc_E (8 * 6 + a) + pc_E b)) 256) 8 = true := by decide +kernel
theorem pc_c7 : pc_all (fun a => pc_all (fun b => Nat.beq (pc_E (256 * (8 * 7 + a) + b)) (pc_E (8 * 7 + a) + pc_E b)) 256) 8 = true := by decide +kernel
theorem pc_c8 : pc_all (fun a => pc_all (fun b => Nat.beq (pc_E (256 * (8 * 8 + a) + b)) (pc_E (8 * 8 + a) + pc_E b)) 256) 8 = true := by decide +kernel
theorem pc_c9 : pc_all (fun a => pc_all (fun b => Nat.beq (pc_E (256 * (8 * 9 + a) + b)) (pc_E (8 * 9 + a) + pc_E b)) 256) 8 = true := by decide +kernel
theorem pc_c10 : pc_all (fun a => pc_all (fun b => Nat.beq (pc_E (256 * (8 * 10 + a) + b)) (pc_E (8 * 10 + a) + pc_E b)) 256) 8 = true := by decide +kernel
theorem pc_c11 : pc_all (fun a => pc_all (fun b => Nat.beq (pc_E (256 * (8 * 11 + a) + b)) (pc_E (8 * 11 + a) + pc_E b)) 256) 8 = true := by decide +kernel
theorem pc_c12 : pc_all (fun a => pc_all (fun b => Nat.beq (pc_E (256 * (8 * 12 + a) + b)) (pc_E (8 * 12 + a) + pc_E b)) 256) 8 = true := by decide +kernel
theorem pc_c13 : pc_all (fun a => pc_all (fun b => Nat.beq (pc_E (256 * (8 * 13 + a) + b)) (pc_E (8 * 13 + a) + pc_E b)) 256) 8 = true := by decide +kernel
theorem pc_c14 : pc_all (fun a => pc_all (fun b => Nat.beq (pc_E (256 * (8 * 14 + a) + b)) (pc_E (8 * 14 + a) + pc_E b)) 256) 8 = true := by decide +kernel
theorem pc_c15 : pc_all (fun a => pc_all (fun b => Nat.beq (pc_E (256 * (8 * 15 + a) + b)) (pc_E (8 * 15 + a) + pc_E b)) 256) 8 = true := by decide +kernel
theorem pc_c16 : pc_all (fun a => pc_all (fun b => Nat.beq (pc_E (256 * (8 * 16 + a) + b)) (pc_E (8 * 16 + a) + pc_E b)) 256) 8 = true := by decide +kernel
theorem pc_c17 : pc_all (fun a => pc_all (fun b => Nat.beq (pc_E (256 * (8 * 17 + a) + b)) (pc_E (8 * 17 + a) + pc_E b)) 256) 8 = true := by decide +kernel
theorem pc_c18 : pc_all (fun a => pc_all (fun b => Nat.beq (pc_E (256 * (8 * 18 + a) + b)) (pc_E (8 * 18 + a) + pc_E b)) 256) 8 = true := by decide +kernel
theorem pc_c19 : pc_all (fun a => pc_all (fun b => Nat.beq (pc_E (256 * (8 * 19 + a) + b)) (pc_E (8 * 19 + a) + pc_E b)) 256) 8 = true := by decide +kernel
theorem pc_c20 : pc_all (fun a => pc_all (fun b => Nat.beq (pc_E (256 * (8 * 20 + a) + b)) (pc_E (8 * 20 + a) + pc_E b)) 256) 8 = true := by decide +kernel
theorem pc_c21 : pc_all (fun a => pc_all (fun b => Nat.beq (pc_E (256 * (8 * 21 + a) + b)) (pc_E (8 * 21 + a) + pc_E b)) 256) 8 = true := by decide +kernel
theorem pc_c22 : pc_all (fun a => pc_all (fun b => Nat.beq (pc_E (256 * (8 * 22 + a) + b)) (pc_E (8 * 22 + a) + pc_E b)) 256) 8 = true := by decide +kernel
theorem pc_c23 : pc_all (fun a => pc_all (fun b => Nat.beq (pc_E (256 * (8 * 23 + a) + b)) (pc_E (8 * 23 + a) + pc_E b)) 256) 8 = true := by decide +kernel
theorem pc_c24 : pc_all (fun a => pc_all (fun b => Nat.beq (pc_E (256 * (8 * 24 + a) + b)) (pc_E (8 * 24 + a) + pc_E b)) 256) 8 = true := by decide +kernel
theorem pc_c25 : pc_all (fun a => pc_all (fun b => Nat.beq (pc_E (256 * (8 * 25 + a) + b)) (pc_E (8 * 25 + a) + pc_E b)) 256) 8 = true := by decide +kernel
theorem pc_c26 : pc_all (fun a => pc_all (fun b => Nat.beq (pc_E (256 * (8 * 26 + a) + b)) (pc_E (8 * 26 + a) + pc_E b)) 256) 8 = true := by decide +kernel
theorem pc_c27 : pc_all (fun a => pc_all (fun b => Nat.beq (pc_E (256 * (8 * 27 + a) + b)) (pc_E (8 * 27 + a) + pc_E b)) 256) 8 = true := by decide +kernel
theorem pc_c28 : pc_all (fun a => pc_all (fun b => Nat.beq (pc_E (256 * (8 * 28 + a) + b)) (pc_E (8 * 28 + a) + pc_E b)) 256) 8 = true := by decide +kernel
theorem pc_c29 : pc_all (fun a => pc_all (fun b => Nat.beq (pc_E (256 * (8 * 29 + a) + b)) (pc_E (8 * 29 + a) + pc_E b)) 256) 8 = true := by decide +kernel
theorem pc_c30 : pc_all (fun a => pc_all (fun b => Nat.beq (pc_E (256 * (8 * 30 + a) + b)) (pc_E (8 * 30 + a) + pc_E b)) 256) 8 = true := by decide +kernel
theorem pc_c31 : pc_all (fun a => pc_all (fun b => Nat.beq (pc_E (256 * (8 * 31 + a) + b)) (pc_E (8 * 31 + a) + pc_E b)) 256) 8 = true := by decide +kernel
theorem pc_b8 : pc_all (fun b => Nat.beq (pc_E b) (pc_R b 8)) 256 = true := by decide +kernel
theorem pc_add {a b : Nat} (ha : a < 256) (hb : b < 256) : pc_E (256 * a + b) = pc_E a + pc_E b := by
  apply Nat.eq_of_beq_eq_true
  obtain ⟨k, r, hk, hr, rfl⟩ : ∃ k r, k < 32 ∧ r < 8 ∧ a = 8 * k + r := ⟨a / 8, a % 8, by omega, by omega, by omega⟩
  clear ha
  match k, hk with
  | 0, _ => exact pc_all_of 256 (pc_all_of 8 pc_c0 r hr) b hb
  | 1, _ => exact pc_all_of 256 (pc_all_of 8 pc_c1 r hr) b hb
  | 2, _ => exact pc_all_of 256 (pc_all_of 8 pc_c2 r hr) b hb
  | 3, _ => exact pc_all_of 256 (pc_all_of 8 pc_c3 r hr) b hb
  | 4, _ => exact pc_all_of 256 (pc_all_of 8 pc_c4 r hr) b hb
  | 5, _ => exact pc_all_of 256 (pc_all_of 8 pc_c5 r hr) b hb
  | 6, _ => exact pc_all_of 256 (pc_all_of 8 pc_c6 r hr) b hb
  | 7, _ => exact pc_all_of 256 (pc_all_of 8 pc_c7 r hr) b hb
  | 8, _ => exact pc_all_of 256 (pc_all_of 8 pc_c8 r hr) b hb
  | 9, _ => exact pc_all_of 256 (pc_all_of 8 pc_c9 r hr) b hb
  | 10, _ => exact pc_all_of 256 (pc_all_of 8 pc_c10 r hr) b hb
  | 11, _ => exact pc_all_of 256 (pc_all_of 8 pc_c11 r hr) b hb
  | 12, _ => exact pc_all_of 256 (pc_all_of 8 pc_c12 r hr) b hb
  | 13, _ => exact pc_all_of 256 (pc_all_of 8 pc_c13 r hr) b hb
  | 14, _ => exact pc_all_of 256 (pc_all_of 8 pc_c14 r hr) b hb
  | 15, _ => exact pc_all_of 256 (pc_all_of 8 pc_c15 r hr) b hb
  | 16, _ => exact pc_all_of 256 (pc_all_of 8 pc_c16 r hr) b hb
  | 17, _ => exact pc_all_of 256 (pc_all_of 8 pc_c17 r hr) b hb
  | 18, _ => exact pc_all_of 256 (pc_all_of 8 pc_c18 r hr) b hb
  | 19, _ => exact pc_all_of 256 (pc_all_of 8 pc_c19 r hr) b hb
  | 20, _ => exact pc_all_of 256 (pc_all_of 8 pc_c20 r hr) b hb
  | 21, _ => exact pc_all_of 256 (pc_all_of 8 pc_c21 r hr) b hb
  | 22, _ => exact pc_all_of 256 (pc_all_of 8 pc_c22 r hr) b hb
  | 23, _ => exact pc_all_of 256 (pc_all_of 8 pc_c23 r hr) b hb
  | 24, _ => exact pc_all_of 256 (pc_all_of 8 pc_c24 r hr) b hb
  | 25, _ => exact pc_all_of 256 (pc_all_of 8 pc_c25 r hr) b hb
  | 26, _ => exact pc_all_of 256 (pc_all_of 8 pc_c26 r hr) b hb
  | 27, _ => exact pc_all_of 256 (pc_all_of 8 pc_c27 r hr) b hb
  | 28, _ => exact pc_all_of 256 (pc_all_of 8 pc_c28 r hr) b hb
  | 29, _ => exact pc_all_of 256 (pc_all_of 8 pc_c29 r hr) b hb
  | 30, _ => exact pc_all_of 256 (pc_all_of 8 pc_c30 r hr) b hb
  | 31, _ => exact pc_all_of 256 (pc_all_of 8 pc_c31 r hr) b hb
  | nn + 32, h => exact absurd h (by omega)
theorem pc_byte {b : Nat} (hb : b < 256) : pc_E b = pc_R b 8 := Nat.eq_of_beq_eq_true (pc_all_of 256 pc_b8 b hb)
theorem pc_R_lo (a b : Nat) (hb : b < 256) : ∀ n, n ≤ 8 → pc_R (256 * a + b) n = pc_R b n := by
  intro n
  induction n with
  | zero => intro _; rfl
  | succ n ih =>
    intro hn
    show pc_R (256 * a + b) n + ((256 * a + b) >>> n) % 2 = pc_R b n + (b >>> n) % 2
    rw [ih (by omega)]
    congr 1
    have h8 : n < 8 := by omega
    clear ih hn
    match n, h8 with
    | 0, _ => show (256 * a + b) % 2 = b % 2; omega
    | 1, _ => simp only [Nat.shiftRight_eq_div_pow]; omega
    | 2, _ => simp only [Nat.shiftRight_eq_div_pow]; omega
    | 3, _ => simp only [Nat.shiftRight_eq_div_pow]; omega
    | 4, _ => simp only [Nat.shiftRight_eq_div_pow]; omega
    | 5, _ => simp only [Nat.shiftRight_eq_div_pow]; omega
    | 6, _ => simp only [Nat.shiftRight_eq_div_pow]; omega
    | 7, _ => simp only [Nat.shiftRight_eq_div_pow]; omega
theorem pc_R_hi (a b : Nat) (hb : b < 256) : ∀ n, n ≤ 8 → pc_R (256 * a + b) (8 + n) = pc_R (256 * a + b) 8 + pc_R a n := by
  intro n
  induction n with
  | zero => intro _; rfl
  | succ n ih =>
    intro hn
    show pc_R (256 * a + b) (8 + n) + ((256 * a + b) >>> (8 + n)) % 2 = pc_R (256 * a + b) 8 + (pc_R a n + (a >>> n) % 2)
    rw [ih (by omega), Nat.shiftRight_add, show (256 * a + b) >>> 8 = a from by simp only [Nat.shiftRight_eq_div_pow]; omega, Nat.add_assoc]
theorem pc_16 {w : Nat} (h : w < 65536) : pc_E w = pc_R w 16 := by
  have e : w = 256 * (w / 256) + w % 256 := by omega
  rw [e, pc_add (by omega) (by omega), pc_byte (by omega), pc_byte (by omega), show (16 : Nat) = 8 + 8 from rfl, pc_R_hi _ _ (by omega) 8 (by decide), pc_R_lo _ _ (by omega) 8 (by decide), Nat.add_comm]
theorem pc_ush {k j : Nat} (hk : k < 2 ^ 31) (hj : j < 32) : ((nI k).toUInt32 >>> ((nI j).toUInt32 &&& Int32.toUInt32 31)).toInt32 = nI (k >>> j) := by
  have hs : k >>> j ≤ k := by
    rw [Nat.shiftRight_eq_div_pow]
    exact Nat.div_le_self _ _
  have e2 : UInt32.ofNat k >>> (UInt32.ofNat j &&& Int32.toUInt32 31) = UInt32.ofNat (k >>> j) := by
    apply UInt32.toNat_inj.1
    have h1 : (UInt32.ofNat k).toNat = k := Nat.mod_eq_of_lt (by omega)
    have h2 : (UInt32.ofNat (k >>> j)).toNat = k >>> j := Nat.mod_eq_of_lt (by omega)
    rw [UInt32.toNat_shiftRight, nx_cnt ⟨j, hj⟩, h1, h2]
  show (UInt32.ofNat k >>> (UInt32.ofNat j &&& Int32.toUInt32 31)).toInt32 = _
  rw [e2]
  rfl
theorem pc_sub {a b : Nat} (h : b ≤ a) : nI a - nI b = nI (a - b) := by
  have e : nI a = nI (a - b) + nI b := by rw [nI_add]; congr 1; omega
  rw [e, Int32.add_sub_cancel]
theorem pc_bc {w : Nat} (h : w < 65536) : am_bcE (nI w) = nI (pc_R w 16) := by
  have k0 : (w >>> 1) &&& 1431655765 ≤ w := Nat.le_trans Nat.and_le_left (by rw [Nat.shiftRight_eq_div_pow]; exact Nat.div_le_self _ _)
  have k1 : pc_1 w < 2 ^ 31 := by unfold pc_1; omega
  have k2 : pc_2 (pc_1 w) < 2 ^ 31 := by
    unfold pc_2
    have h1 : pc_1 w &&& 858993459 ≤ 858993459 := Nat.and_le_right
    have h2 : (pc_1 w >>> 2) &&& 858993459 ≤ 858993459 := Nat.and_le_right
    omega
  have k3 : pc_3 (pc_2 (pc_1 w)) ≤ 252645135 := Nat.and_le_right
  have k4 : pc_4 (pc_3 (pc_2 (pc_1 w))) < 2 ^ 31 := by
    unfold pc_4
    have h2 : pc_3 (pc_2 (pc_1 w)) >>> 8 ≤ pc_3 (pc_2 (pc_1 w)) := by rw [Nat.shiftRight_eq_div_pow]; exact Nat.div_le_self _ _
    omega
  have s1 := pc_ush (k := w) (j := 1) (by omega) (by decide)
  have e1 : nI w - ((((nI w).toUInt32 >>> ((1 : Int32).toUInt32 &&& Int32.toUInt32 31)).toInt32) &&& 1431655765) = nI (pc_1 w) := by
    rw [show (1 : Int32) = nI 1 from rfl, s1, show (1431655765 : Int32) = nI 1431655765 from rfl, nx_and, pc_sub k0]
    rfl
  have s2 := pc_ush (k := pc_1 w) (j := 2) k1 (by decide)
  have e2 : (nI (pc_1 w) &&& 858993459) + ((((nI (pc_1 w)).toUInt32 >>> ((2 : Int32).toUInt32 &&& Int32.toUInt32 31)).toInt32) &&& 858993459) = nI (pc_2 (pc_1 w)) := by
    rw [show (2 : Int32) = nI 2 from rfl, s2, show (858993459 : Int32) = nI 858993459 from rfl, nx_and, nx_and, nI_add]
    rfl
  have s3 := pc_ush (k := pc_2 (pc_1 w)) (j := 4) k2 (by decide)
  have e3 : (nI (pc_2 (pc_1 w)) + (((nI (pc_2 (pc_1 w))).toUInt32 >>> ((4 : Int32).toUInt32 &&& Int32.toUInt32 31)).toInt32)) &&& 252645135 = nI (pc_3 (pc_2 (pc_1 w))) := by
    rw [show (4 : Int32) = nI 4 from rfl, s3, show (252645135 : Int32) = nI 252645135 from rfl, nI_add, nx_and]
    rfl
  have s4 := pc_ush (k := pc_3 (pc_2 (pc_1 w))) (j := 8) (by omega) (by decide)
  have e4 : nI (pc_3 (pc_2 (pc_1 w))) + (((nI (pc_3 (pc_2 (pc_1 w)))).toUInt32 >>> ((8 : Int32).toUInt32 &&& Int32.toUInt32 31)).toInt32) = nI (pc_4 (pc_3 (pc_2 (pc_1 w)))) := by
    rw [show (8 : Int32) = nI 8 from rfl, s4, nI_add]
    rfl
  have s5 := pc_ush (k := pc_4 (pc_3 (pc_2 (pc_1 w)))) (j := 16) k4 (by decide)
  have e5 : (nI (pc_4 (pc_3 (pc_2 (pc_1 w)))) + (((nI (pc_4 (pc_3 (pc_2 (pc_1 w))))).toUInt32 >>> ((16 : Int32).toUInt32 &&& Int32.toUInt32 31)).toInt32)) &&& 63 = nI (pc_R w 16) := by
    rw [show (16 : Int32) = nI 16 from rfl, s5, nI_add, show (63 : Int32) = nI 63 from rfl, nx_and, ← pc_16 h]
    rfl
  unfold am_bcE
  rw [e1, e2, e3, e4, e5]
theorem nI_bt (w : Nat) {i : Nat} (hi : i < 32) : bt (nI w) i = w.testBit i := by
  show (BitVec.ofNat 32 w).getLsbD i = _
  rw [BitVec.getLsbD_ofNat, decide_eq_true hi, Bool.true_and]
theorem pc_cn (w : Nat) : ∀ n, n ≤ 32 → pu_cn (nI w) n = pc_R w n := by
  intro n
  induction n with
  | zero => intro _; rfl
  | succ n ih =>
    intro hn
    show pu_cn (nI w) n + (bt (nI w) n).toNat = pc_R w n + (w >>> n) % 2
    rw [ih (by omega), nI_bt w (by omega), Nat.testBit_eq_decide_div_mod_eq, Nat.shiftRight_eq_div_pow]
    congr 1
    have : w / 2 ^ n % 2 < 2 := Nat.mod_lt _ (by decide)
    by_cases h : w / 2 ^ n % 2 = 1
    · rw [decide_eq_true h, h]; rfl
    · rw [decide_eq_false h]
      show 0 = _
      omega
/-- an int of bits below 16 alone is a number below 65536 -/
theorem pu_nat {v : Int32} {M : Nat} (hM : M ≤ 31) (h : pu_bd M v) : ∃ w, w < 2 ^ M ∧ v = nI w := by
  refine ⟨v.toBitVec.toNat, ?_, ?_⟩
  · apply Nat.lt_pow_two_of_testBit
    intro i hi
    rcases Nat.lt_or_ge i 32 with h2 | h2
    · cases e : v.toBitVec.toNat.testBit i with
      | false => rfl
      | true =>
        have := h i h2 e
        omega
    · exact Nat.testBit_lt_two_pow (Nat.lt_of_lt_of_le v.toBitVec.isLt (Nat.pow_le_pow_right (by decide) h2))
  · apply Int32.toBitVec_inj.1
    show v.toBitVec = BitVec.ofNat 32 v.toBitVec.toNat
    rw [BitVec.ofNat_toNat, BitVec.setWidth_eq]
theorem sp_bitCount {xs : Nat → Int32} {LL : Nat} (d : Nat) (v : Int32) (h : am_H) (hv : pu_bd 16 v) : am_X xs LL (d + 1) 210 [.int v] h (some (.int (nI (pu_cn v 16)))) h := by
  obtain ⟨w, hw, rfl⟩ := pu_nat (by decide) hv
  rw [pc_cn w 16 (by decide), ← pc_bc hw]
  exact sp_J6_bitCount_0f7a4_E d _ h
