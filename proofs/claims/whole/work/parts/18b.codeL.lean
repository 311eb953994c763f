theorem ck_law : ∀ pc en, cd_L_law pc = some en → am_chk "PointHouseLaw" "law" code 4 (some .boolean) pc en = true := by
  intro pc en he
  have hlt : pc < 1285 := by
    unfold cd_L_law am_gd at he
    cases hb : Nat.blt pc 1285 with
    | true => exact Nat.blt_eq.mp hb
    | false => rw [hb] at he; cases he
  have key : ∀ c : Nat, (List.range 48).all (fun j => match cd_L_law (c * 48 + j) with
    | some en => am_chk "PointHouseLaw" "law" code 4 (some .boolean) (c * 48 + j) en
    | none => true) = true → c * 48 ≤ pc → pc < c * 48 + 48 → am_chk "PointHouseLaw" "law" code 4 (some .boolean) pc en = true := by
    intro c h h1 h2
    have h3 := List.all_eq_true.mp h (pc - c * 48) (List.mem_range.mpr (by omega))
    rw [show c * 48 + (pc - c * 48) = pc by omega, he] at h3
    exact h3
  have hq : pc / 48 < 27 := by omega
  generalize hc : pc / 48 = c at hq
  have h1 : c * 48 ≤ pc := by omega
  have h2 : pc < c * 48 + 48 := by omega
  match c, hq with
  | 0, _ => exact key 0 ckl_0 h1 h2
  | 1, _ => exact key 1 ckl_1 h1 h2
  | 2, _ => exact key 2 ckl_2 h1 h2
  | 3, _ => exact key 3 ckl_3 h1 h2
  | 4, _ => exact key 4 ckl_4 h1 h2
  | 5, _ => exact key 5 ckl_5 h1 h2
  | 6, _ => exact key 6 ckl_6 h1 h2
  | 7, _ => exact key 7 ckl_7 h1 h2
  | 8, _ => exact key 8 ckl_8 h1 h2
  | 9, _ => exact key 9 ckl_9 h1 h2
  | 10, _ => exact key 10 ckl_10 h1 h2
  | 11, _ => exact key 11 ckl_11 h1 h2
  | 12, _ => exact key 12 ckl_12 h1 h2
  | 13, _ => exact key 13 ckl_13 h1 h2
  | 14, _ => exact key 14 ckl_14 h1 h2
  | 15, _ => exact key 15 ckl_15 h1 h2
  | 16, _ => exact key 16 ckl_16 h1 h2
  | 17, _ => exact key 17 ckl_17 h1 h2
  | 18, _ => exact key 18 ckl_18 h1 h2
  | 19, _ => exact key 19 ckl_19 h1 h2
  | 20, _ => exact key 20 ckl_20 h1 h2
  | 21, _ => exact key 21 ckl_21 h1 h2
  | 22, _ => exact key 22 ckl_22 h1 h2
  | 23, _ => exact key 23 ckl_23 h1 h2
  | 24, _ => exact key 24 ckl_24 h1 h2
  | 25, _ => exact key 25 ckl_25 h1 h2
  | 26, _ => exact key 26 ckl_26 h1 h2
  | n + 27, hq => omega
