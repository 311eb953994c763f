/-! the states: of the class σ, sr, ln, Lc (its lines), of the reference μ; the heap out of them -/
def am_up (m : Nat → Nat → Int32) (k : Nat) (f : Nat → Int32) : Nat → Nat → Int32 := fun j => bif Nat.beq j k then f else m j
def am_us (m : Nat → Nat → Int32) (k : Nat) (v : Int32) : Nat → Nat → Int32 := am_up m k (fun _ => v)
def am_lc (s : Nat) : Nat := match s with
  | 0 => 2
  | 1 => 1
  | 2 => 6
  | 3 => 10
  | 4 => 0
  | _ => 5
def hLn (sr : Nat → Nat) (ln : Nat → Nat → Int32) (i : Nat) : am_E := .inr (am_lc (sr i), [.int (ln i 0), .int (ln i 1), .int (ln i 2), .int (ln i 3), .int (ln i 4), .int (ln i 5), .int (ln i 6)] ++ (bif Nat.blt 3 (sr i) then [.int (ln i 7)] else []))
def hXM (σ : Nat → Nat → Int32) (Lc : Nat) (μ : Nat → Nat → Int32) : am_H := [
  .inr (11, [.ref 15, .ref 20, .ref 22, .int (nI Lc), .ref 23, .ref 27, .ref 31, .ref 35, .ref 38]),
  .inr (3, [.ref 16, .ref 17, .ref 18, .ref 19, .int (σ 5 0), .int (σ 6 0)]),
  .inl (0, 8, .inl (σ 1)),
  .inl (0, 24, .inl (σ 2)),
  .inl (0, 18, .inl (σ 3)),
  .inl (0, 16, .inl (σ 4)),
  .inr (9, [.ref 21, .int (σ 8 0)]),
  .inl (0, 20, .inl (σ 7)),
  .inl (2, 40, .inr (fun j => if j < Lc then some (75 + j) else none)),
  .inr (7, [.ref 15, .int 0, .ref 22, .int (σ 10 0), .int (σ 11 0), .ref 24, .ref 25, .ref 26]),
  .inl (0, 68, .inl (σ 12)),
  .inl (0, 68, .inl (σ 13)),
  .inl (0, 320, .inl (σ 14)),
  .inr (7, [.ref 15, .int 1, .ref 22, .int (σ 20 0), .int (σ 21 0), .ref 28, .ref 29, .ref 30]),
  .inl (0, 68, .inl (σ 22)),
  .inl (0, 68, .inl (σ 23)),
  .inl (0, 320, .inl (σ 24)),
  .inr (7, [.ref 15, .int 0, .ref 22, .int (σ 30 0), .int (σ 31 0), .ref 32, .ref 33, .ref 34]),
  .inl (0, 68, .inl (σ 32)),
  .inl (0, 68, .inl (σ 33)),
  .inl (0, 320, .inl (σ 34)),
  .inr (4, [.ref 15, .ref 36, .ref 37]),
  .inl (0, 68, .inl (σ 40)),
  .inl (0, 68, .inl (σ 41)),
  .inl (3, 4, .inr (fun j => if j < 4 then some (39 + 2 * j) else none)),
  .inr (8, [.ref 40, .int (σ 51 0), .int (σ 52 0)]),
  .inl (0, 40, .inl (σ 50)),
  .inr (8, [.ref 42, .int (σ 54 0), .int (σ 55 0)]),
  .inl (0, 40, .inl (σ 53)),
  .inr (8, [.ref 44, .int (σ 57 0), .int (σ 58 0)]),
  .inl (0, 40, .inl (σ 56)),
  .inr (8, [.ref 46, .int (σ 60 0), .int (σ 61 0)]),
  .inl (0, 40, .inl (σ 59)),
  .inr (12, [.int (μ 0 0), .ref 48, .ref 49, .int (μ 3 0), .ref 50, .ref 51, .ref 52, .ref 53, .ref 54, .ref 55, .ref 56, .ref 57, .ref 58, .ref 59, .ref 60, .ref 61, .ref 62, .int (μ 17 0), .ref 63, .int (μ 19 0), .ref 64, .int (μ 21 0), .int (μ 22 0), .int (μ 23 0), .ref 65, .ref 66, .int (μ 26 0), .int (μ 27 0), .int (μ 28 0), .ref 67, .ref 68, .ref 69, .ref 70, .ref 71, .ref 72, .ref 73, .ref 74]),
  .inl (0, 8, .inl (μ 1)),
  .inl (0, 24, .inl (μ 2)),
  .inl (0, 6, .inl (μ 4)),
  .inl (0, 6, .inl (μ 5)),
  .inl (0, 6, .inl (μ 6)),
  .inl (0, 40, .inl (μ 7)),
  .inl (0, 40, .inl (μ 8)),
  .inl (0, 40, .inl (μ 9)),
  .inl (0, 40, .inl (μ 10)),
  .inl (0, 40, .inl (μ 11)),
  .inl (0, 40, .inl (μ 12)),
  .inl (0, 40, .inl (μ 13)),
  .inl (1, 40, .inl (μ 14)),
  .inl (0, 40, .inl (μ 15)),
  .inl (0, 40, .inl (μ 16)),
  .inl (0, 16, .inl (μ 18)),
  .inl (0, 20, .inl (μ 20)),
  .inl (0, 68, .inl (μ 24)),
  .inl (0, 68, .inl (μ 25)),
  .inl (0, 20, .inl (μ 29)),
  .inl (0, 20, .inl (μ 30)),
  .inl (0, 20, .inl (μ 31)),
  .inl (0, 48, .inl (μ 32)),
  .inl (1, 4, .inl (μ 33)),
  .inl (0, 4, .inl (μ 34)),
  .inl (0, 4, .inl (μ 35)),
  .inl (0, 160, .inl (μ 36))]
def hG (σ : Nat → Nat → Int32) (sr : Nat → Nat) (ln : Nat → Nat → Int32) (Lc : Nat) (μ : Nat → Nat → Int32) : am_H := hXM σ Lc μ ++ (List.range Lc).map (hLn sr ln)
def am_in (x : Int32) (n : Nat) : Bool := decide (0 ≤ x.toInt ∧ x.toInt < (n : Int))
def am_b2 (b : Bool) : Int32 := bif b then 1 else 0
section PUR2
variable {xs : Nat → Int32} {LL : Nat} {C : Nat → Option am_En} {K : Nat → List Value → am_H → Option Value → am_H → Prop} {pc : Nat} {L : am_L} {st : List Value} {h : am_H} {r : Option Value} {h' : am_H}
theorem am_g (n pc' : Nat) (L' : am_L) (st' : List Value) (h1 : am_H) (hg : am_go xs LL C n (pc, L, st, h) = some (pc', L', st', h1)) (k : am_R xs LL C K pc' L' st' h1 r h') : am_R xs LL C K pc L st h r h' := am_goR n hg k
theorem am_ret2 {en : am_En} {r0 : Option Value} (hc : C pc = some en) (hk : am_kd en = 2) (hr : am_ret en st = some r0) (e1 : r0 = r) (e2 : h = h') : am_R xs LL C K pc L st h r h' := by
  subst e1; subst e2
  exact am_retR hc hk hr
end PUR2
