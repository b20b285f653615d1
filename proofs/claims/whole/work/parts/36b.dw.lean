/-! THE CLASS: points and acts behind the base -/
def apt (x n y m : Nat) : Prop := x + n ≤ y ∨ y + m ≤ x
def DW (lo sz : Nat) (g : Nat → Option aE) (D : DS) : Prop :=
  dNp D ≤ 6 ∧ dNa D ≤ 10 ∧ lo ≤ sz ∧
  (∀ p, p < dNp D → 1 ≤ dK D p ∧ dK D p ≤ 4 ∧ lo ≤ dPa D p ∧ dPa D p + (9 * dK D p + 94) ≤ sz ∧ ∀ o, o < 9 * dK D p + 94 → g (dPa D p + o) = some (pC (dPa D p) (dK D p) (dP D p) o)) ∧
  (∀ a, a < dNa D → dFr D a < dNp D ∧ dTo D a < dNp D ∧ lo ≤ dAa D a ∧ dAa D a + (dK D (dTo D a) + 2) ≤ sz ∧ ∀ o, o < dK D (dTo D a) + 2 → g (dAa D a + o) = some (aC (dAa D a) (dFr D a) (dTo D a) (dK D (dFr D a)) (dK D (dTo D a)) (dM D a) o)) ∧
  (∀ p p', p < dNp D → p' < dNp D → p ≠ p' → apt (dPa D p) (9 * dK D p + 94) (dPa D p') (9 * dK D p' + 94)) ∧
  (∀ a a', a < dNa D → a' < dNa D → a ≠ a' → apt (dAa D a) (dK D (dTo D a) + 2) (dAa D a') (dK D (dTo D a') + 2)) ∧
  (∀ p a, p < dNp D → a < dNa D → apt (dPa D p) (9 * dK D p + 94) (dAa D a) (dK D (dTo D a) + 2))
/-- what holds of the points themselves -/
def PK (D : DS) : Prop := ∀ p, p < dNp D → (dP D p).1 ≤ 40 ∧ ∀ s, s < 3 → fOK (dK D p) ((dP D p).2.2.2.2 s) ∧ ((dP D p).2.2.2.2 s).1 ≤ 40
theorem ov_comm {q n q' n' : Nat} {c c' : Nat → aE} {G : Nat → Option aE} (h : apt q n q' n') : ov q n c (ov q' n' c' G) = ov q' n' c' (ov q n c G) := by
  funext a
  unfold apt at h
  unfold ov
  by_cases w : q ≤ a ∧ a < q + n
  · rw [if_pos w, if_neg (by omega), if_pos w]
  · rw [if_neg w]
    by_cases w2 : q' ≤ a ∧ a < q' + n'
    · rw [if_pos w2, if_pos w2]
    · rw [if_neg w2, if_neg w2, if_neg w]
section DWs
variable {lo sz b p a : Nat} {g : Nat → Option aE} {D : DS} {I : Nat → Int32} {A : Nat → Nat → Int32} {B : Nat → Int64}
theorem DW.np (h : DW lo sz g D) : dNp D ≤ 6 := h.1
theorem DW.na (h : DW lo sz g D) : dNa D ≤ 10 := h.2.1
theorem DW.k1 (h : DW lo sz g D) (hp : p < dNp D) : 1 ≤ dK D p := (h.2.2.2.1 p hp).1
theorem DW.k4 (h : DW lo sz g D) (hp : p < dNp D) : dK D p ≤ 4 := (h.2.2.2.1 p hp).2.1
theorem DW.pl (h : DW lo sz g D) (hp : p < dNp D) : lo ≤ dPa D p := (h.2.2.2.1 p hp).2.2.1
theorem DW.fr (h : DW lo sz g D) (ha : a < dNa D) : dFr D a < dNp D := (h.2.2.2.2.1 a ha).1
theorem DW.to (h : DW lo sz g D) (ha : a < dNa D) : dTo D a < dNp D := (h.2.2.2.2.1 a ha).2.1
theorem DW.al (h : DW lo sz g D) (ha : a < dNa D) : lo ≤ dAa D a := (h.2.2.2.2.1 a ha).2.2.1
theorem DW.pp {p' : Nat} (h : DW lo sz g D) (hp : p < dNp D) (hp' : p' < dNp D) (hn : p ≠ p') : apt (dPa D p) (9 * dK D p + 94) (dPa D p') (9 * dK D p' + 94) := h.2.2.2.2.2.1 p p' hp hp' hn
theorem DW.pa (h : DW lo sz g D) (hp : p < dNp D) (ha : a < dNa D) : apt (dPa D p) (9 * dK D p + 94) (dAa D a) (dK D (dTo D a) + 2) := h.2.2.2.2.2.2.2 p a hp ha
theorem dw_ph (h : DW lo sz g D) (hb : b + 33 ≤ lo) (hp : p < dNp D) : ch b I A B D g = ph (dPa D p) (dK D p) (dP D p) (ch b I A B D g) := by
  refine (ov_self (fun o ho => ?_)).symm
  have := h.pl hp
  rw [show ch b I A B D g (dPa D p + o) = g (dPa D p + o) from ov_out (by omega)]
  exact (h.2.2.2.1 p hp).2.2.2.2 o ho
theorem dw_ph2 {P : PS} (h : DW lo sz g D) (hb : b + 33 ≤ lo) (hp : p < dNp D) : ph (dPa D p) (dK D p) P (ch b I A B D g) = ch b I A B (dsP D p P) (ph (dPa D p) (dK D p) P g) := by
  have := h.pl hp
  exact ov_comm (Or.inr (by omega))
theorem dw_setP {P : PS} (h : DW lo sz g D) (hp : p < dNp D) : DW lo sz (ph (dPa D p) (dK D p) P g) (dsP D p P) := by
  refine ⟨h.1, h.2.1, h.2.2.1, fun p' hp' => ?_, fun a ha => ?_, h.2.2.2.2.2⟩
  · have hp' : p' < dNp D := hp'
    obtain ⟨h1, h2, h3, h4, h5⟩ := h.2.2.2.1 p' hp'
    refine ⟨h1, h2, h3, h4, fun o ho => ?_⟩
    have ho : o < 9 * dK D p' + 94 := ho
    show ph (dPa D p) (dK D p) P g (dPa D p' + o) = some (pC (dPa D p') (dK D p') (upG (dP D) p P p') o)
    by_cases w : p' = p
    · subst w
      rw [upG_at]
      exact ov_in ho
    · rw [upG_ne w, ← h5 o ho]
      have := h.pp hp hp' (fun e => w e.symm)
      unfold apt at this
      exact ov_out (by omega)
  · have ha : a < dNa D := ha
    obtain ⟨h1, h2, h3, h4, h5⟩ := h.2.2.2.2.1 a ha
    refine ⟨h1, h2, h3, h4, fun o ho => ?_⟩
    have ho : o < dK D (dTo D a) + 2 := ho
    show ph (dPa D p) (dK D p) P g (dAa D a + o) = _
    have := h.pa hp ha
    unfold apt at this
    rw [show ph (dPa D p) (dK D p) P g (dAa D a + o) = g (dAa D a + o) from ov_out (by omega)]
    exact h5 o ho
theorem dw_lowP {P : PS} {x : Nat} (h : DW lo sz g D) (hp : p < dNp D) (hx : x < lo) : ph (dPa D p) (dK D p) P g x = g x := by
  have := h.pl hp
  exact ov_out (by omega)
theorem dw_ah (h : DW lo sz g D) (hb : b + 33 ≤ lo) (ha : a < dNa D) : ch b I A B D g = ah (dAa D a) (dFr D a) (dTo D a) (dK D (dFr D a)) (dK D (dTo D a)) (dM D a) (ch b I A B D g) := by
  refine (ov_self (fun o ho => ?_)).symm
  have := h.al ha
  rw [show ch b I A B D g (dAa D a + o) = g (dAa D a + o) from ov_out (by omega)]
  exact (h.2.2.2.2.1 a ha).2.2.2.2 o ho
theorem dw_ah2 {M : Nat → Nat → Int32} (h : DW lo sz g D) (hb : b + 33 ≤ lo) (ha : a < dNa D) : ah (dAa D a) (dFr D a) (dTo D a) (dK D (dFr D a)) (dK D (dTo D a)) M (ch b I A B D g) = ch b I A B (dsM D a M) (ah (dAa D a) (dFr D a) (dTo D a) (dK D (dFr D a)) (dK D (dTo D a)) M g) := by
  have := h.al ha
  exact ov_comm (Or.inr (by omega))
theorem dw_setA {M : Nat → Nat → Int32} (h : DW lo sz g D) (ha : a < dNa D) : DW lo sz (ah (dAa D a) (dFr D a) (dTo D a) (dK D (dFr D a)) (dK D (dTo D a)) M g) (dsM D a M) := by
  refine ⟨h.1, h.2.1, h.2.2.1, fun p hp => ?_, fun a' ha' => ?_, h.2.2.2.2.2⟩
  · have hp : p < dNp D := hp
    obtain ⟨h1, h2, h3, h4, h5⟩ := h.2.2.2.1 p hp
    refine ⟨h1, h2, h3, h4, fun o ho => ?_⟩
    have ho : o < 9 * dK D p + 94 := ho
    have := h.pa hp ha
    unfold apt at this
    show ah _ _ _ _ _ M g (dPa D p + o) = _
    rw [show ah (dAa D a) (dFr D a) (dTo D a) (dK D (dFr D a)) (dK D (dTo D a)) M g (dPa D p + o) = g (dPa D p + o) from ov_out (by omega)]
    exact h5 o ho
  · have ha' : a' < dNa D := ha'
    obtain ⟨h1, h2, h3, h4, h5⟩ := h.2.2.2.2.1 a' ha'
    refine ⟨h1, h2, h3, h4, fun o ho => ?_⟩
    have ho : o < dK D (dTo D a') + 2 := ho
    show ah (dAa D a) (dFr D a) (dTo D a) (dK D (dFr D a)) (dK D (dTo D a)) M g (dAa D a' + o) = some (aC (dAa D a') (dFr D a') (dTo D a') (dK D (dFr D a')) (dK D (dTo D a')) (upG (dM D) a M a') o)
    by_cases w : a' = a
    · subst w
      rw [upG_at]
      exact ov_in ho
    · rw [upG_ne w, ← h5 o ho]
      have := h.2.2.2.2.2.2.1 a a' ha ha' (fun e => w e.symm)
      unfold apt at this
      exact ov_out (by omega)
theorem dw_lowA {M : Nat → Nat → Int32} {x : Nat} (h : DW lo sz g D) (ha : a < dNa D) (hx : x < lo) : ah (dAa D a) (dFr D a) (dTo D a) (dK D (dFr D a)) (dK D (dTo D a)) M g x = g x := by
  have := h.al ha
  exact ov_out (by omega)
/-- only what lies at lo and behind counts -/
theorem dw_cg {g' : Nat → Option aE} (h : DW lo sz g D) (hg : ∀ x, lo ≤ x → g' x = g x) : DW lo sz g' D := by
  refine ⟨h.1, h.2.1, h.2.2.1, fun p hp => ?_, fun a ha => ?_, h.2.2.2.2.2⟩
  · obtain ⟨h1, h2, h3, h4, h5⟩ := h.2.2.2.1 p hp
    exact ⟨h1, h2, h3, h4, fun o ho => by rw [hg _ (by omega)]; exact h5 o ho⟩
  · obtain ⟨h1, h2, h3, h4, h5⟩ := h.2.2.2.2.1 a ha
    exact ⟨h1, h2, h3, h4, fun o ho => by rw [hg _ (by omega)]; exact h5 o ho⟩
end DWs
