/-! THE CLASS: Point, its cells -/
/-- what a Point holds: how many readings, the split's variable and bound, the readings, the sides -/
abbrev PS : Type := Nat × Int32 × Int32 × (Nat → Nat → Int32) × (Nat → FS)
def fA (q k s : Nat) : Nat := if s = 0 then q + 43 else if s = 1 then q + (3 * k + 60) else q + (6 * k + 77)
def pC (q k : Nat) (P : PS) (o : Nat) : aE :=
  if o = 0 then .inr (3, FD3 (nI k) (q + 1) (q + 42) (nI P.1) P.2.1 P.2.2.1)
  else if o = 1 then rA 3 40 (rfs 40 (q + 2))
  else if o < 42 then iA k (P.2.2.2.1 (o - 2))
  else if o = 42 then rA 6 3 (fun s => if s < 3 then some (fA q k s) else none)
  else if o < 3 * k + 60 then fC (q + 43) k (P.2.2.2.2 0) (o - 43)
  else if o < 6 * k + 77 then fC (q + (3 * k + 60)) k (P.2.2.2.2 1) (o - (3 * k + 60))
  else fC (q + (6 * k + 77)) k (P.2.2.2.2 2) (o - (6 * k + 77))
def ph (q k : Nat) (P : PS) (G : Nat → Option aE) : Nat → Option aE := ov q (9 * k + 94) (pC q k P) G
section PH
variable {q k sz i a n s : Nat} {sv sb : Int32} {R : Nat → Nat → Int32} {S : Nat → FS} {G : Nat → Option aE}
theorem ph_obj : ph q k (n, sv, sb, R, S) G q = some (.inr (3, FD3 (nI k) (q + 1) (q + 42) (nI n) sv sb)) := ov_at ⟨0, by omega, rfl, rfl⟩
theorem ph_rds : ph q k (n, sv, sb, R, S) G (q + 1) = some (rA 3 40 (rfs 40 (q + 2))) := ov_at ⟨1, by omega, rfl, rfl⟩
theorem ph_rd (h : i < 40) : ph q k (n, sv, sb, R, S) G (q + 2 + i) = some (iA k (R i)) := ov_at ⟨2 + i, by omega, by omega, by unfold pC; dsimp only; rw [if_neg (by omega), if_neg (by omega), if_pos (by omega), show 2 + i - 2 = i by omega]⟩
theorem ph_sds : ph q k (n, sv, sb, R, S) G (q + 42) = some (rA 6 3 (fun s => if s < 3 then some (fA q k s) else none)) := ov_at ⟨42, by omega, by omega, by unfold pC; dsimp only; rw [if_neg (by omega), if_neg (by omega), if_neg (by omega), if_pos (by omega)]⟩
theorem ph_out (h : a < q ∨ q + (9 * k + 94) ≤ a) : ph q k (n, sv, sb, R, S) G a = G a := ov_out h
theorem ph_g {w : Nat} {e : aE} (h : w < q ∨ q + (9 * k + 94) ≤ w) : hset (sz, ph q k (n, sv, sb, R, S) G) w e = (sz, ph q k (n, sv, sb, R, S) (gset G w e)) := ov_g h
theorem ph_sO {n' : Nat} {sv' sb' : Int32} : hset (sz, ph q k (n, sv, sb, R, S) G) q (.inr (3, FD3 (nI k) (q + 1) (q + 42) (nI n') sv' sb')) = (sz, ph q k (n', sv', sb', R, S) G) := by
  refine ov_set ⟨0, by omega, by omega, rfl, fun o h1 h2 => ?_⟩
  unfold pC; dsimp only
  rw [if_neg h2, if_neg h2]
theorem ph_sR {f : Nat → Int32} (h : i < 40) : hset (sz, ph q k (n, sv, sb, R, S) G) (q + 2 + i) (iA k f) = (sz, ph q k (n, sv, sb, upR R i f, S) G) := by
  refine ov_set ⟨2 + i, by omega, by omega, ?_, fun o h1 h2 => ?_⟩
  · unfold pC; dsimp only; rw [if_neg (by omega), if_neg (by omega), if_pos (by omega), show 2 + i - 2 = i by omega, upR_at]
  · unfold pC; dsimp only
    split
    · rfl
    · split
      · rfl
      · split
        · rw [upR_ne (by omega)]
        · rfl
theorem fA_lt (h : s < 3) : q + 43 ≤ fA q k s ∧ fA q k s + (3 * k + 17) ≤ q + (9 * k + 94) := by
  unfold fA
  rcases (show s = 0 ∨ s = 1 ∨ s = 2 by omega) with rfl | rfl | rfl
  · rw [if_pos rfl]; omega
  · rw [if_neg (by omega), if_pos rfl]; omega
  · rw [if_neg (by omega), if_neg (by omega)]; omega
/-- the Facts of a side -/
theorem ph_fh (h : s < 3) : ph q k (n, sv, sb, R, S) G = fh (fA q k s) k (S s) (ph q k (n, sv, sb, R, S) G) := by
  refine (ov_self (fun o ho => ?_)).symm
  unfold fA
  rcases (show s = 0 ∨ s = 1 ∨ s = 2 by omega) with rfl | rfl | rfl
  · rw [if_pos rfl]
    refine ov_at ⟨o + 43, by omega, by omega, ?_⟩
    unfold pC; dsimp only
    rw [if_neg (by omega), if_neg (by omega), if_neg (by omega), if_neg (by omega), if_pos (by omega), show o + 43 - 43 = o by omega]
  · rw [if_neg (by omega), if_pos rfl]
    refine ov_at ⟨o + (3 * k + 60), by omega, by omega, ?_⟩
    unfold pC; dsimp only
    rw [if_neg (by omega), if_neg (by omega), if_neg (by omega), if_neg (by omega), if_neg (by omega), if_pos (by omega), show o + (3 * k + 60) - (3 * k + 60) = o by omega]
  · rw [if_neg (by omega), if_neg (by omega)]
    refine ov_at ⟨o + (6 * k + 77), by omega, by omega, ?_⟩
    unfold pC; dsimp only
    rw [if_neg (by omega), if_neg (by omega), if_neg (by omega), if_neg (by omega), if_neg (by omega), if_neg (by omega), show o + (6 * k + 77) - (6 * k + 77) = o by omega]
theorem ph_fh2 {S' : FS} (h : s < 3) : fh (fA q k s) k S' (ph q k (n, sv, sb, R, S) G) = ph q k (n, sv, sb, R, upG S s S') G := by
  funext a
  have hl := fA_lt (q := q) (k := k) h
  by_cases w : q ≤ a ∧ a < q + (9 * k + 94)
  · by_cases w2 : fA q k s ≤ a ∧ a < fA q k s + (3 * k + 17)
    · have e : fh (fA q k s) k S' (ph q k (n, sv, sb, R, S) G) a = some (fC (fA q k s) k S' (a - fA q k s)) := ov_at ⟨a - fA q k s, by omega, by omega, rfl⟩
      rw [e]
      refine (ov_at ⟨a - q, by omega, by omega, ?_⟩).symm
      unfold pC; dsimp only
      rcases (show s = 0 ∨ s = 1 ∨ s = 2 by omega) with rfl | rfl | rfl
      · rw [show fA q k 0 = q + 43 from rfl] at w2 ⊢
        rw [if_neg (by omega), if_neg (by omega), if_neg (by omega), if_neg (by omega), if_pos (by omega), upG_at, show a - q - 43 = a - (q + 43) by omega]
      · rw [show fA q k 1 = q + (3 * k + 60) from rfl] at w2 ⊢
        rw [if_neg (by omega), if_neg (by omega), if_neg (by omega), if_neg (by omega), if_neg (by omega), if_pos (by omega), upG_at, show a - q - (3 * k + 60) = a - (q + (3 * k + 60)) by omega]
      · rw [show fA q k 2 = q + (6 * k + 77) from rfl] at w2 ⊢
        rw [if_neg (by omega), if_neg (by omega), if_neg (by omega), if_neg (by omega), if_neg (by omega), if_neg (by omega), upG_at, show a - q - (6 * k + 77) = a - (q + (6 * k + 77)) by omega]
    · rw [show fh (fA q k s) k S' (ph q k (n, sv, sb, R, S) G) a = ph q k (n, sv, sb, R, S) G a from ov_out (by omega)]
      unfold ph ov
      rw [if_pos w, if_pos w]
      congr 1
      unfold fA at w2
      unfold pC; dsimp only
      by_cases c1 : a - q = 0
      · rw [if_pos c1, if_pos c1]
      rw [if_neg c1, if_neg c1]
      by_cases c2 : a - q = 1
      · rw [if_pos c2, if_pos c2]
      rw [if_neg c2, if_neg c2]
      by_cases c3 : a - q < 42
      · rw [if_pos c3, if_pos c3]
      rw [if_neg c3, if_neg c3]
      by_cases c4 : a - q = 42
      · rw [if_pos c4, if_pos c4]
      rw [if_neg c4, if_neg c4]
      by_cases c5 : a - q < 3 * k + 60
      · rw [if_pos c5, if_pos c5, upG_ne (fun e => w2 (by rw [if_pos e.symm]; omega))]
      rw [if_neg c5, if_neg c5]
      by_cases c6 : a - q < 6 * k + 77
      · rw [if_pos c6, if_pos c6, upG_ne (fun e => w2 (by rw [if_neg (by omega), if_pos e.symm]; omega))]
      rw [if_neg c6, if_neg c6, upG_ne (fun e => w2 (by rw [if_neg (by omega), if_neg (by omega)]; omega))]
  · rw [show ph q k (n, sv, sb, R, upG S s S') G a = G a from ov_out (by omega), show fh (fA q k s) k S' (ph q k (n, sv, sb, R, S) G) a = ph q k (n, sv, sb, R, S) G a from ov_out (by omega)]
    exact ov_out (by omega)
end PH
