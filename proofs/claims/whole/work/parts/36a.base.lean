/-! THE CLASS: what RunLaws() makes (33 cells at b), the points and acts (D) behind it -/
/-- how many points, acts; their addresses; the points' sizes; acts from, to; what the points hold, what the acts make -/
abbrev DS : Type := Nat × Nat × (Nat → Nat) × (Nat → Nat) × (Nat → Nat) × (Nat → Nat) × (Nat → Nat) × (Nat → PS) × (Nat → Nat → Nat → Int32)
def dNp (D : DS) : Nat := D.1
def dNa (D : DS) : Nat := D.2.1
def dPa (D : DS) : Nat → Nat := D.2.2.1
def dAa (D : DS) : Nat → Nat := D.2.2.2.1
def dK (D : DS) : Nat → Nat := D.2.2.2.2.1
def dFr (D : DS) : Nat → Nat := D.2.2.2.2.2.1
def dTo (D : DS) : Nat → Nat := D.2.2.2.2.2.2.1
def dP (D : DS) : Nat → PS := D.2.2.2.2.2.2.2.1
def dM (D : DS) : Nat → Nat → Nat → Int32 := D.2.2.2.2.2.2.2.2
def dsP (D : DS) (p : Nat) (P : PS) : DS := (D.1, D.2.1, D.2.2.1, D.2.2.2.1, D.2.2.2.2.1, D.2.2.2.2.2.1, D.2.2.2.2.2.2.1, upG D.2.2.2.2.2.2.2.1 p P, D.2.2.2.2.2.2.2.2)
def dsM (D : DS) (a : Nat) (M : Nat → Nat → Int32) : DS := (D.1, D.2.1, D.2.2.1, D.2.2.2.1, D.2.2.2.2.1, D.2.2.2.2.2.1, D.2.2.2.2.2.2.1, D.2.2.2.2.2.2.2.1, upG D.2.2.2.2.2.2.2.2 a M)
/-- a point more -/
def dnP (D : DS) (q k : Nat) (P : PS) : DS := (D.1 + 1, D.2.1, upG D.2.2.1 D.1 q, D.2.2.2.1, upG D.2.2.2.2.1 D.1 k, D.2.2.2.2.2.1, D.2.2.2.2.2.2.1, upG D.2.2.2.2.2.2.2.1 D.1 P, D.2.2.2.2.2.2.2.2)
/-- an act more -/
def dnA (D : DS) (q f t : Nat) (M : Nat → Nat → Int32) : DS := (D.1, D.2.1 + 1, D.2.2.1, upG D.2.2.2.1 D.2.1 q, D.2.2.2.2.1, upG D.2.2.2.2.2.1 D.2.1 f, upG D.2.2.2.2.2.2.1 D.2.1 t, D.2.2.2.2.2.2.2.1, upG D.2.2.2.2.2.2.2.2 D.2.1 M)
def ptR (D : DS) : Nat → Option Nat := fun p => if p < dNp D then some (dPa D p) else none
def acR (D : DS) : Nat → Option Nat := fun a => if a < dNa D then some (dAa D a) else none
def cln (o : Nat) : Nat := match o with
  | 4 => 4
  | 8 => 1024
  | 9 => 1024
  | 11 => 60
  | 12 => 60
  | 13 => 60
  | 14 => 60
  | 15 => 60
  | 16 => 60
  | 17 => 6
  | 19 => 4
  | 20 => 4
  | 21 => 4
  | 22 => 4
  | 23 => 4
  | 24 => 4
  | 25 => 6
  | 26 => 5
  | 27 => 4
  | 28 => 5
  | 29 => 4
  | 30 => 4
  | 31 => 60
  | 32 => 180
  | _ => 0
def cC (b : Nat) (I : Nat → Int32) (A : Nat → Nat → Int32) (B : Nat → Int64) (D : DS) (o : Nat) : aE := match o with
  | 0 => .inr (7, FD7 (b + 1) (b + 6) (b + 29) (b + 30) (b + 31) (b + 32) (I 0))
  | 1 => .inr (4, FD4 (b + 2) (b + 3) (b + 4) (b + 5) (nI (dNp D)) (nI (dNa D)) (I 3))
  | 2 => rA 5 6 (ptR D)
  | 3 => rA 7 10 (acR D)
  | 5 => lA 5 B
  | 6 => .inr (5, FD5 (b + 1) (b + 7) (b + 10) (b + 17) (b + 18) (b + 25) (b + 26) (I 4) (b + 27) (b + 28) (I 5) (I 6) (I 7) (I 8))
  | 7 => .inr (2, FD2 (b + 8) (b + 9))
  | 10 => rA 3 6 (rfs 6 (b + 11))
  | 18 => rA 3 6 (rfs 6 (b + 19))
  | o => iA (cln o) (A o)
def ch (b : Nat) (I : Nat → Int32) (A : Nat → Nat → Int32) (B : Nat → Int64) (D : DS) (g : Nat → Option aE) : Nat → Option aE := ov b 33 (cC b I A B D) g
section CH
variable {b sz a : Nat} {I : Nat → Int32} {A : Nat → Nat → Int32} {B : Nat → Int64} {D : DS} {g : Nat → Option aE}
theorem ch_obj : ch b I A B D g b = some (.inr (7, FD7 (b + 1) (b + 6) (b + 29) (b + 30) (b + 31) (b + 32) (I 0))) := ov_at ⟨0, by omega, rfl, rfl⟩
theorem ch_prg : ch b I A B D g (b + 1) = some (.inr (4, FD4 (b + 2) (b + 3) (b + 4) (b + 5) (nI (dNp D)) (nI (dNa D)) (I 3))) := ov_at ⟨1, by omega, rfl, rfl⟩
theorem ch_pts : ch b I A B D g (b + 2) = some (rA 5 6 (ptR D)) := ov_at ⟨2, by omega, rfl, rfl⟩
theorem ch_acs : ch b I A B D g (b + 3) = some (rA 7 10 (acR D)) := ov_at ⟨3, by omega, rfl, rfl⟩
theorem ch_pul : ch b I A B D g (b + 5) = some (lA 5 B) := ov_at ⟨5, by omega, rfl, rfl⟩
theorem ch_sea : ch b I A B D g (b + 6) = some (.inr (5, FD5 (b + 1) (b + 7) (b + 10) (b + 17) (b + 18) (b + 25) (b + 26) (I 4) (b + 27) (b + 28) (I 5) (I 6) (I 7) (I 8))) := ov_at ⟨6, by omega, rfl, rfl⟩
theorem ch_pas : ch b I A B D g (b + 7) = some (.inr (2, FD2 (b + 8) (b + 9))) := ov_at ⟨7, by omega, rfl, rfl⟩
theorem ch_tcs : ch b I A B D g (b + 10) = some (rA 3 6 (rfs 6 (b + 11))) := ov_at ⟨10, by omega, rfl, rfl⟩
theorem ch_sts : ch b I A B D g (b + 18) = some (rA 3 6 (rfs 6 (b + 19))) := ov_at ⟨18, by omega, rfl, rfl⟩
theorem ch_4 : ch b I A B D g (b + 4) = some (iA 4 (A 4)) := ov_at ⟨4, by omega, rfl, rfl⟩
theorem ch_8 : ch b I A B D g (b + 8) = some (iA 1024 (A 8)) := ov_at ⟨8, by omega, rfl, rfl⟩
theorem ch_9 : ch b I A B D g (b + 9) = some (iA 1024 (A 9)) := ov_at ⟨9, by omega, rfl, rfl⟩
theorem ch_11 : ch b I A B D g (b + 11) = some (iA 60 (A 11)) := ov_at ⟨11, by omega, rfl, rfl⟩
theorem ch_12 : ch b I A B D g (b + 12) = some (iA 60 (A 12)) := ov_at ⟨12, by omega, rfl, rfl⟩
theorem ch_13 : ch b I A B D g (b + 13) = some (iA 60 (A 13)) := ov_at ⟨13, by omega, rfl, rfl⟩
theorem ch_14 : ch b I A B D g (b + 14) = some (iA 60 (A 14)) := ov_at ⟨14, by omega, rfl, rfl⟩
theorem ch_15 : ch b I A B D g (b + 15) = some (iA 60 (A 15)) := ov_at ⟨15, by omega, rfl, rfl⟩
theorem ch_16 : ch b I A B D g (b + 16) = some (iA 60 (A 16)) := ov_at ⟨16, by omega, rfl, rfl⟩
theorem ch_17 : ch b I A B D g (b + 17) = some (iA 6 (A 17)) := ov_at ⟨17, by omega, rfl, rfl⟩
theorem ch_19 : ch b I A B D g (b + 19) = some (iA 4 (A 19)) := ov_at ⟨19, by omega, rfl, rfl⟩
theorem ch_20 : ch b I A B D g (b + 20) = some (iA 4 (A 20)) := ov_at ⟨20, by omega, rfl, rfl⟩
theorem ch_21 : ch b I A B D g (b + 21) = some (iA 4 (A 21)) := ov_at ⟨21, by omega, rfl, rfl⟩
theorem ch_22 : ch b I A B D g (b + 22) = some (iA 4 (A 22)) := ov_at ⟨22, by omega, rfl, rfl⟩
theorem ch_23 : ch b I A B D g (b + 23) = some (iA 4 (A 23)) := ov_at ⟨23, by omega, rfl, rfl⟩
theorem ch_24 : ch b I A B D g (b + 24) = some (iA 4 (A 24)) := ov_at ⟨24, by omega, rfl, rfl⟩
theorem ch_25 : ch b I A B D g (b + 25) = some (iA 6 (A 25)) := ov_at ⟨25, by omega, rfl, rfl⟩
theorem ch_26 : ch b I A B D g (b + 26) = some (iA 5 (A 26)) := ov_at ⟨26, by omega, rfl, rfl⟩
theorem ch_27 : ch b I A B D g (b + 27) = some (iA 4 (A 27)) := ov_at ⟨27, by omega, rfl, rfl⟩
theorem ch_28 : ch b I A B D g (b + 28) = some (iA 5 (A 28)) := ov_at ⟨28, by omega, rfl, rfl⟩
theorem ch_29 : ch b I A B D g (b + 29) = some (iA 4 (A 29)) := ov_at ⟨29, by omega, rfl, rfl⟩
theorem ch_30 : ch b I A B D g (b + 30) = some (iA 4 (A 30)) := ov_at ⟨30, by omega, rfl, rfl⟩
theorem ch_31 : ch b I A B D g (b + 31) = some (iA 60 (A 31)) := ov_at ⟨31, by omega, rfl, rfl⟩
theorem ch_32 : ch b I A B D g (b + 32) = some (iA 180 (A 32)) := ov_at ⟨32, by omega, rfl, rfl⟩
theorem ch_t {p : Nat} (h : p < 6) : ch b I A B D g (b + 11 + p) = some (iA 60 (A (11 + p))) := by
  rcases (show p = 0 ∨ p = 1 ∨ p = 2 ∨ p = 3 ∨ p = 4 ∨ p = 5 by omega) with rfl | rfl | rfl | rfl | rfl | rfl
  · exact ch_11
  · exact ch_12
  · exact ch_13
  · exact ch_14
  · exact ch_15
  · exact ch_16
theorem ch_s {p : Nat} (h : p < 6) : ch b I A B D g (b + 19 + p) = some (iA 4 (A (19 + p))) := by
  rcases (show p = 0 ∨ p = 1 ∨ p = 2 ∨ p = 3 ∨ p = 4 ∨ p = 5 by omega) with rfl | rfl | rfl | rfl | rfl | rfl
  · exact ch_19
  · exact ch_20
  · exact ch_21
  · exact ch_22
  · exact ch_23
  · exact ch_24
theorem ch_out (h : a < b ∨ b + 33 ≤ a) : ch b I A B D g a = g a := ov_out h
theorem ch_g {w : Nat} {e : aE} (h : w < b ∨ b + 33 ≤ w) : hset (sz, ch b I A B D g) w e = (sz, ch b I A B D (gset g w e)) := ov_g h
theorem cC_A {o o' : Nat} {f : Nat → Int32} (h : o' ≠ o) : cC b I (upR A o f) B D o' = cC b I A B D o' := by
  unfold cC
  split <;> first | rfl | rw [upR_ne h]
theorem ch_s4 {f : Nat → Int32} : hset (sz, ch b I A B D g) (b + 4) (iA 4 f) = (sz, ch b I (upR A 4 f) B D g) := ov_set ⟨4, by omega, rfl, by show iA 4 (upR A 4 f 4) = _; rw [upR_at], fun o h1 h2 => cC_A h2⟩
theorem ch_s8 {f : Nat → Int32} : hset (sz, ch b I A B D g) (b + 8) (iA 1024 f) = (sz, ch b I (upR A 8 f) B D g) := ov_set ⟨8, by omega, rfl, by show iA 1024 (upR A 8 f 8) = _; rw [upR_at], fun o h1 h2 => cC_A h2⟩
theorem ch_s9 {f : Nat → Int32} : hset (sz, ch b I A B D g) (b + 9) (iA 1024 f) = (sz, ch b I (upR A 9 f) B D g) := ov_set ⟨9, by omega, rfl, by show iA 1024 (upR A 9 f 9) = _; rw [upR_at], fun o h1 h2 => cC_A h2⟩
theorem ch_s11 {f : Nat → Int32} : hset (sz, ch b I A B D g) (b + 11) (iA 60 f) = (sz, ch b I (upR A 11 f) B D g) := ov_set ⟨11, by omega, rfl, by show iA 60 (upR A 11 f 11) = _; rw [upR_at], fun o h1 h2 => cC_A h2⟩
theorem ch_s12 {f : Nat → Int32} : hset (sz, ch b I A B D g) (b + 12) (iA 60 f) = (sz, ch b I (upR A 12 f) B D g) := ov_set ⟨12, by omega, rfl, by show iA 60 (upR A 12 f 12) = _; rw [upR_at], fun o h1 h2 => cC_A h2⟩
theorem ch_s13 {f : Nat → Int32} : hset (sz, ch b I A B D g) (b + 13) (iA 60 f) = (sz, ch b I (upR A 13 f) B D g) := ov_set ⟨13, by omega, rfl, by show iA 60 (upR A 13 f 13) = _; rw [upR_at], fun o h1 h2 => cC_A h2⟩
theorem ch_s14 {f : Nat → Int32} : hset (sz, ch b I A B D g) (b + 14) (iA 60 f) = (sz, ch b I (upR A 14 f) B D g) := ov_set ⟨14, by omega, rfl, by show iA 60 (upR A 14 f 14) = _; rw [upR_at], fun o h1 h2 => cC_A h2⟩
theorem ch_s15 {f : Nat → Int32} : hset (sz, ch b I A B D g) (b + 15) (iA 60 f) = (sz, ch b I (upR A 15 f) B D g) := ov_set ⟨15, by omega, rfl, by show iA 60 (upR A 15 f 15) = _; rw [upR_at], fun o h1 h2 => cC_A h2⟩
theorem ch_s16 {f : Nat → Int32} : hset (sz, ch b I A B D g) (b + 16) (iA 60 f) = (sz, ch b I (upR A 16 f) B D g) := ov_set ⟨16, by omega, rfl, by show iA 60 (upR A 16 f 16) = _; rw [upR_at], fun o h1 h2 => cC_A h2⟩
theorem ch_s17 {f : Nat → Int32} : hset (sz, ch b I A B D g) (b + 17) (iA 6 f) = (sz, ch b I (upR A 17 f) B D g) := ov_set ⟨17, by omega, rfl, by show iA 6 (upR A 17 f 17) = _; rw [upR_at], fun o h1 h2 => cC_A h2⟩
theorem ch_s19 {f : Nat → Int32} : hset (sz, ch b I A B D g) (b + 19) (iA 4 f) = (sz, ch b I (upR A 19 f) B D g) := ov_set ⟨19, by omega, rfl, by show iA 4 (upR A 19 f 19) = _; rw [upR_at], fun o h1 h2 => cC_A h2⟩
theorem ch_s20 {f : Nat → Int32} : hset (sz, ch b I A B D g) (b + 20) (iA 4 f) = (sz, ch b I (upR A 20 f) B D g) := ov_set ⟨20, by omega, rfl, by show iA 4 (upR A 20 f 20) = _; rw [upR_at], fun o h1 h2 => cC_A h2⟩
theorem ch_s21 {f : Nat → Int32} : hset (sz, ch b I A B D g) (b + 21) (iA 4 f) = (sz, ch b I (upR A 21 f) B D g) := ov_set ⟨21, by omega, rfl, by show iA 4 (upR A 21 f 21) = _; rw [upR_at], fun o h1 h2 => cC_A h2⟩
theorem ch_s22 {f : Nat → Int32} : hset (sz, ch b I A B D g) (b + 22) (iA 4 f) = (sz, ch b I (upR A 22 f) B D g) := ov_set ⟨22, by omega, rfl, by show iA 4 (upR A 22 f 22) = _; rw [upR_at], fun o h1 h2 => cC_A h2⟩
theorem ch_s23 {f : Nat → Int32} : hset (sz, ch b I A B D g) (b + 23) (iA 4 f) = (sz, ch b I (upR A 23 f) B D g) := ov_set ⟨23, by omega, rfl, by show iA 4 (upR A 23 f 23) = _; rw [upR_at], fun o h1 h2 => cC_A h2⟩
theorem ch_s24 {f : Nat → Int32} : hset (sz, ch b I A B D g) (b + 24) (iA 4 f) = (sz, ch b I (upR A 24 f) B D g) := ov_set ⟨24, by omega, rfl, by show iA 4 (upR A 24 f 24) = _; rw [upR_at], fun o h1 h2 => cC_A h2⟩
theorem ch_s25 {f : Nat → Int32} : hset (sz, ch b I A B D g) (b + 25) (iA 6 f) = (sz, ch b I (upR A 25 f) B D g) := ov_set ⟨25, by omega, rfl, by show iA 6 (upR A 25 f 25) = _; rw [upR_at], fun o h1 h2 => cC_A h2⟩
theorem ch_s26 {f : Nat → Int32} : hset (sz, ch b I A B D g) (b + 26) (iA 5 f) = (sz, ch b I (upR A 26 f) B D g) := ov_set ⟨26, by omega, rfl, by show iA 5 (upR A 26 f 26) = _; rw [upR_at], fun o h1 h2 => cC_A h2⟩
theorem ch_s27 {f : Nat → Int32} : hset (sz, ch b I A B D g) (b + 27) (iA 4 f) = (sz, ch b I (upR A 27 f) B D g) := ov_set ⟨27, by omega, rfl, by show iA 4 (upR A 27 f 27) = _; rw [upR_at], fun o h1 h2 => cC_A h2⟩
theorem ch_s28 {f : Nat → Int32} : hset (sz, ch b I A B D g) (b + 28) (iA 5 f) = (sz, ch b I (upR A 28 f) B D g) := ov_set ⟨28, by omega, rfl, by show iA 5 (upR A 28 f 28) = _; rw [upR_at], fun o h1 h2 => cC_A h2⟩
theorem ch_s29 {f : Nat → Int32} : hset (sz, ch b I A B D g) (b + 29) (iA 4 f) = (sz, ch b I (upR A 29 f) B D g) := ov_set ⟨29, by omega, rfl, by show iA 4 (upR A 29 f 29) = _; rw [upR_at], fun o h1 h2 => cC_A h2⟩
theorem ch_s30 {f : Nat → Int32} : hset (sz, ch b I A B D g) (b + 30) (iA 4 f) = (sz, ch b I (upR A 30 f) B D g) := ov_set ⟨30, by omega, rfl, by show iA 4 (upR A 30 f 30) = _; rw [upR_at], fun o h1 h2 => cC_A h2⟩
theorem ch_s31 {f : Nat → Int32} : hset (sz, ch b I A B D g) (b + 31) (iA 60 f) = (sz, ch b I (upR A 31 f) B D g) := ov_set ⟨31, by omega, rfl, by show iA 60 (upR A 31 f 31) = _; rw [upR_at], fun o h1 h2 => cC_A h2⟩
theorem ch_s32 {f : Nat → Int32} : hset (sz, ch b I A B D g) (b + 32) (iA 180 f) = (sz, ch b I (upR A 32 f) B D g) := ov_set ⟨32, by omega, rfl, by show iA 180 (upR A 32 f 32) = _; rw [upR_at], fun o h1 h2 => cC_A h2⟩
theorem ch_st {p : Nat} {f : Nat → Int32} (h : p < 6) : hset (sz, ch b I A B D g) (b + 11 + p) (iA 60 f) = (sz, ch b I (upR A (11 + p) f) B D g) := by
  rcases (show p = 0 ∨ p = 1 ∨ p = 2 ∨ p = 3 ∨ p = 4 ∨ p = 5 by omega) with rfl | rfl | rfl | rfl | rfl | rfl
  · exact ch_s11
  · exact ch_s12
  · exact ch_s13
  · exact ch_s14
  · exact ch_s15
  · exact ch_s16
theorem ch_ss {p : Nat} {f : Nat → Int32} (h : p < 6) : hset (sz, ch b I A B D g) (b + 19 + p) (iA 4 f) = (sz, ch b I (upR A (19 + p) f) B D g) := by
  rcases (show p = 0 ∨ p = 1 ∨ p = 2 ∨ p = 3 ∨ p = 4 ∨ p = 5 by omega) with rfl | rfl | rfl | rfl | rfl | rfl
  · exact ch_s19
  · exact ch_s20
  · exact ch_s21
  · exact ch_s22
  · exact ch_s23
  · exact ch_s24
theorem ch_sB {f : Nat → Int64} : hset (sz, ch b I A B D g) (b + 5) (lA 5 f) = (sz, ch b I A f D g) := by
  refine ov_set ⟨5, by omega, rfl, rfl, fun o h1 h2 => ?_⟩
  unfold cC
  split <;> first | rfl | (exact absurd rfl h2)
theorem ch_sI0 {x : Int32} : hset (sz, ch b I A B D g) b (.inr (7, FD7 (b + 1) (b + 6) (b + 29) (b + 30) (b + 31) (b + 32) x)) = (sz, ch b (upd I 0 x) A B D g) := by
  refine ov_set ⟨0, by omega, rfl, rfl, fun o h1 h2 => ?_⟩
  unfold cC
  split <;> first | rfl | (exact absurd rfl h2)
theorem ch_sI3 {x : Int32} : hset (sz, ch b I A B D g) (b + 1) (.inr (4, FD4 (b + 2) (b + 3) (b + 4) (b + 5) (nI (dNp D)) (nI (dNa D)) x)) = (sz, ch b (upd I 3 x) A B D g) := by
  refine ov_set ⟨1, by omega, rfl, rfl, fun o h1 h2 => ?_⟩
  unfold cC
  split <;> first | rfl | (exact absurd rfl h2)
theorem ch_sI4 {x : Int32} : hset (sz, ch b I A B D g) (b + 6) (.inr (5, FD5 (b + 1) (b + 7) (b + 10) (b + 17) (b + 18) (b + 25) (b + 26) x (b + 27) (b + 28) (I 5) (I 6) (I 7) (I 8))) = (sz, ch b (upd I 4 x) A B D g) := by
  refine ov_set ⟨6, by omega, rfl, rfl, fun o h1 h2 => ?_⟩
  unfold cC
  split <;> first | rfl | (exact absurd rfl h2)
theorem ch_sI5 {x : Int32} : hset (sz, ch b I A B D g) (b + 6) (.inr (5, FD5 (b + 1) (b + 7) (b + 10) (b + 17) (b + 18) (b + 25) (b + 26) (I 4) (b + 27) (b + 28) x (I 6) (I 7) (I 8))) = (sz, ch b (upd I 5 x) A B D g) := by
  refine ov_set ⟨6, by omega, rfl, rfl, fun o h1 h2 => ?_⟩
  unfold cC
  split <;> first | rfl | (exact absurd rfl h2)
theorem ch_sI6 {x : Int32} : hset (sz, ch b I A B D g) (b + 6) (.inr (5, FD5 (b + 1) (b + 7) (b + 10) (b + 17) (b + 18) (b + 25) (b + 26) (I 4) (b + 27) (b + 28) (I 5) x (I 7) (I 8))) = (sz, ch b (upd I 6 x) A B D g) := by
  refine ov_set ⟨6, by omega, rfl, rfl, fun o h1 h2 => ?_⟩
  unfold cC
  split <;> first | rfl | (exact absurd rfl h2)
theorem ch_sI7 {x : Int32} : hset (sz, ch b I A B D g) (b + 6) (.inr (5, FD5 (b + 1) (b + 7) (b + 10) (b + 17) (b + 18) (b + 25) (b + 26) (I 4) (b + 27) (b + 28) (I 5) (I 6) x (I 8))) = (sz, ch b (upd I 7 x) A B D g) := by
  refine ov_set ⟨6, by omega, rfl, rfl, fun o h1 h2 => ?_⟩
  unfold cC
  split <;> first | rfl | (exact absurd rfl h2)
theorem ch_sI8 {x : Int32} : hset (sz, ch b I A B D g) (b + 6) (.inr (5, FD5 (b + 1) (b + 7) (b + 10) (b + 17) (b + 18) (b + 25) (b + 26) (I 4) (b + 27) (b + 28) (I 5) (I 6) (I 7) x)) = (sz, ch b (upd I 8 x) A B D g) := by
  refine ov_set ⟨6, by omega, rfl, rfl, fun o h1 h2 => ?_⟩
  unfold cC
  split <;> first | rfl | (exact absurd rfl h2)
end CH
