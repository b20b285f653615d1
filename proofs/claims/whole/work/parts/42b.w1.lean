/-! BOTH SIDES: the world -/
def SpR (D : DS) (A' : Nat → Nat → Int32) (p : Nat) : Prop := (A' 3 p = 0 ∧ ix (dK D p) (dP D p).2.1 = false) ∨ (A' 3 p = 1 ∧ (dP D p).2.1 = A' 4 p ∧ (dP D p).2.2.1 = A' 5 p ∧ ix (dK D p) (A' 4 p) = true)
/-- a point, on both sides -/
def WPt (D : DS) (A' : Nat → Nat → Int32) (p : Nat) : Prop := dK D p = kA A' p ∧ (dP D p).1 = nA A' p ∧ (∀ r v, r < nA A' p → v < dK D p → (dP D p).2.2.2.1 r v = xA A' p r v ∧ rng (xA A' p r v)) ∧ SpR D A' p ∧ ∀ side, side < 3 → SL (dK D p) (rl A' p side) (dF D p side)
/-- an act, on both sides -/
def WAc (D : DS) (A' : Nat → Nat → Int32) (a : Nat) : Prop := dFr D a = frA A' a ∧ dTo D a = toA A' a ∧ ∀ v, v < 4 → ∀ c, c < 5 → dM D a v c = A' 19 (20 * a + 5 * v + c) ∧ bd (dM D a v c).toInt 99 ∧ (dK D (dFr D a) ≤ c → c < 4 → dM D a v c = 0)
def WSt (I : Nat → Int32) (A : Nat → Nat → Int32) (D : DS) (I' : Nat → Int32) (A' : Nat → Nat → Int32) : Prop := (I 3 < 0 ∧ I' 25 < 0) ∨ ∃ p, p < dNp D ∧ I 3 = nI p ∧ I' 25 = nI p ∧ ∀ v, v < dK D p → A 4 v = A' 16 v ∧ rng (A 4 v)
def WDd (I : Nat → Int32) (A : Nat → Nat → Int32) (I' : Nat → Int32) (A' : Nat → Nat → Int32) : Prop := ∃ l : List Nat, l.length ≤ 180 ∧ I 0 = nI l.length ∧ I' 14 = nI l.length ∧ fwc (A 32) l ∧ fwc (A' 11) l
def WFo (I : Nat → Int32) (A : Nat → Nat → Int32) (D : DS) (I' : Nat → Int32) (A' : Nat → Nat → Int32) : Prop := (I 5 < 0 ∧ I' 41 < 0) ∨ ∃ p c n, p < dNp D ∧ c < 1000 ∧ n ≤ 5 ∧ I 5 = nI p ∧ I' 42 = nI p ∧ I 6 = nI c ∧ I' 41 = nI c ∧ I 7 = nI n ∧ I' 43 = nI n ∧ I 8 = nI (dK D p) ∧ (∀ v, v < dK D p → A 27 v = A' 30 v) ∧ ∀ k, k < n → A 28 k = A' 31 k
def WR (I : Nat → Int32) (A : Nat → Nat → Int32) (D : DS) (I' : Nat → Int32) (A' : Nat → Nat → Int32) : Prop :=
  MM I' A' (dNp D) ∧ MA I' A' (dNp D) (dNa D) ∧ PK D ∧ (∀ p, p < dNp D → WPt D A' p) ∧ (∀ p, dNp D ≤ p → p < 6 → A' 3 p = 0) ∧ (∀ a, a < dNa D → WAc D A' a) ∧ (∀ a, dNa D ≤ a → a < 10 → ∀ z, z < 20 → A' 19 (20 * a + z) = 0) ∧ WSt I A D I' A' ∧ WDd I A I' A' ∧ WFo I A D I' A'
/-- a point of the reference, left as it was -/
def pAg (A A' : Nat → Nat → Int32) (p : Nat) : Prop := A' 1 p = A 1 p ∧ A' 2 p = A 2 p ∧ A' 3 p = A 3 p ∧ A' 4 p = A 4 p ∧ A' 5 p = A 5 p ∧ ∀ z, 160 * p ≤ z → z < 160 * p + 160 → A' 6 z = A 6 z
section W1
variable {I I1 I' I1' : Nat → Int32} {A A1 A' A1' : Nat → Nat → Int32} {D D1 : DS} {p : Nat}
theorem pAg_ag (h : ag A' A1') : pAg A' A1' p := by
  obtain ⟨h1, h2, h3, h4, h5, h6⟩ := h
  exact ⟨by rw [h1], by rw [h2], by rw [h3], by rw [h4], by rw [h5], fun z _ _ => by rw [h6]⟩
theorem pAg_k (h : pAg A' A1' p) : kA A1' p = kA A' p ∧ nA A1' p = nA A' p := by
  unfold kA nA
  rw [h.1, h.2.1]
  exact ⟨rfl, rfl⟩
theorem pAg_x (h : pAg A' A1' p) {r v : Nat} (hr : r < 40) (hv : v < 4) : xA A1' p r v = xA A' p r v := by
  unfold xA
  exact h.2.2.2.2.2 _ (by omega) (by omega)
theorem pAg_of (h : pAg A' A1' p) (hM : MP A' p) {side r : Nat} (hr : r < 40) : ofA A1' p side r = ofA A' p side r := by
  unfold ofA
  rw [h.2.2.1, h.2.2.2.1, h.2.2.2.2.1]
  rcases hM.2.2.2.2.1 with q | q
  · rw [q]
    simp
  · have h4 := (hM.2.2.2.2.2 q).2
    rw [pAg_x h hr (by have := hM.2.1; omega)]
theorem pAg_rs (h : pAg A' A1' p) (hM : MP A' p) {side : Nat} : rs A1' p side = rs A' p side := by
  unfold rs rsF
  rw [(pAg_k h).2]
  refine List.filter_congr (fun r hr => ?_)
  have := List.mem_range'_1.mp hr
  exact pAg_of h hM (by have := hM.2.2.2.1; omega)
theorem rs_lt {side r : Nat} (h : r ∈ rs A' p side) : r < nA A' p := by
  unfold rs rsF at h
  have := List.mem_range'_1.mp (List.mem_filter.mp h).1
  omega
theorem pAg_rl (h : pAg A' A1' p) (hM : MP A' p) {side : Nat} : eqL (kA A' p) (rl A' p side) (rl A1' p side) := by
  unfold rl
  rw [pAg_rs h hM]
  refine eqL_map _ (fun r hr i hi => ?_)
  have := rs_lt hr
  exact (pAg_x h (by have := hM.2.2.2.1; omega) (by have := hM.2.1; omega)).symm
theorem WPt_q (h : WPt D A' p) (hM : MP A' p) (hE : dEq D D1) (ha : pAg A' A1' p) : WPt D1 A1' p := by
  obtain ⟨w1, w2, w3, w4, w5⟩ := h
  obtain ⟨⟨e1, e2, e3, e4, e5, e6, e7, e8⟩, e9⟩ := hE
  obtain ⟨⟨f1, f2, f3, f4⟩, f5⟩ := e9 p
  obtain ⟨k1, k2⟩ := pAg_k ha
  have hdk : dK D1 p = dK D p := by rw [e5]
  refine ⟨by rw [hdk, k1, w1], by rw [f1, k2, w2], fun r v hr hv => ?_, ?_, fun side hs => ?_⟩
  · rw [k2] at hr
    rw [hdk] at hv
    rw [f4, pAg_x ha (by have := hM.2.2.2.1; omega) (by have := hM.2.1; omega)]
    exact w3 r v hr hv
  · unfold SpR
    rw [hdk, f2, f3, ha.2.2.1, ha.2.2.2.1, ha.2.2.2.2.1]
    exact w4
  · rw [hdk]
    have := SL_eq (w5 side hs) (f5 side).1 (f5 side).2.1 (f5 side).2.2
    exact SL_cg this (by rw [w1]; exact pAg_rl ha hM)
theorem PK_q (h : PK D) (hE : dEq D D1) : PK D1 := by
  obtain ⟨⟨e1, e2, e3, e4, e5, e6, e7, e8⟩, e9⟩ := hE
  intro p hp
  rw [e1] at hp
  obtain ⟨q1, q2⟩ := h p hp
  obtain ⟨⟨f1, f2, f3, f4⟩, f5⟩ := e9 p
  refine ⟨by rw [f1]; exact q1, fun s hs => ?_⟩
  obtain ⟨g1, g2, g3, g4, g5⟩ := f5 s
  obtain ⟨r1, r2⟩ := q2 s hs
  refine ⟨?_, by rw [show ((dP D1 p).2.2.2.2 s).1 = ((dP D p).2.2.2.2 s).1 from g1]; exact r2⟩
  unfold fOK tOK at r1 ⊢
  rw [show ((dP D1 p).2.2.2.2 s).2.2 = ((dP D p).2.2.2.2 s).2.2 from g2, show ((dP D1 p).2.2.2.2 s).2.1.1 = ((dP D p).2.2.2.2 s).2.1.1 from g3, show ((dP D1 p).2.2.2.2 s).2.1.2.1 = ((dP D p).2.2.2.2 s).2.1.2.1 from g4, e5]
  exact r1
/-- what a call that only asks leaves of the reference -/
def rEq (I' : Nat → Int32) (A' : Nat → Nat → Int32) (I1' : Nat → Int32) (A1' : Nat → Nat → Int32) : Prop := (∀ k, k = 0 ∨ k = 14 ∨ k = 25 ∨ k = 27 ∨ k = 41 ∨ k = 42 ∨ k = 43 → I1' k = I' k) ∧ ∀ o, o = 1 ∨ o = 2 ∨ o = 3 ∨ o = 4 ∨ o = 5 ∨ o = 6 ∨ o = 11 ∨ o = 16 ∨ o = 17 ∨ o = 18 ∨ o = 19 ∨ o = 30 ∨ o = 31 → A1' o = A' o
theorem rEq_SC {ks os : List Nat} (h : SC ks os I' A' I1' A1') (hk : ∀ k, k = 0 ∨ k = 14 ∨ k = 25 ∨ k = 27 ∨ k = 41 ∨ k = 42 ∨ k = 43 → k ∉ ks) (ho : ∀ o, o = 1 ∨ o = 2 ∨ o = 3 ∨ o = 4 ∨ o = 5 ∨ o = 6 ∨ o = 11 ∨ o = 16 ∨ o = 17 ∨ o = 18 ∨ o = 19 ∨ o = 30 ∨ o = 31 → o ∉ os) : rEq I' A' I1' A1' := ⟨fun k h1 => h.1 k (hk k h1), fun o h1 => h.2 o (ho o h1)⟩
theorem rEq_rf : rEq I' A' I' A' := ⟨fun _ _ => rfl, fun _ _ => rfl⟩
theorem rEq_ag (h : rEq I' A' I1' A1') : ag A' A1' := ⟨h.2 1 (by simp), h.2 2 (by simp), h.2 3 (by simp), h.2 4 (by simp), h.2 5 (by simp), h.2 6 (by simp)⟩
theorem MP_q (h : MP A' p) (ha : pAg A' A1' p) : MP A1' p := by
  obtain ⟨k1, k2⟩ := pAg_k ha
  unfold MP
  rw [k1, k2, ha.1, ha.2.1, ha.2.2.1, ha.2.2.2.1]
  exact h
theorem WR_q (h : WR I A D I' A') (hE : dEq D D1) (hA : aEq A A1) (hI : iEq I I1) (hr : rEq I' A' I1' A1') : WR I1 A1 D1 I1' A1' := by
  obtain ⟨hM, hMA, hK, hP, hF, hAc, hZ, hS, hD, hFo⟩ := h
  have hE' := hE
  obtain ⟨⟨e1, e2, e3, e4, e5, e6, e7, e8⟩, e9⟩ := hE
  have ha := rEq_ag hr
  obtain ⟨rI, rA⟩ := hr
  have hkk : ∀ p, kA A1' p = kA A' p := fun p => (pAg_k (pAg_ag (p := p) ha)).1
  have hfr : ∀ a, frA A1' a = frA A' a := fun a => by unfold frA; rw [rA 17 (by simp)]
  have hto : ∀ a, toA A1' a = toA A' a := fun a => by unfold toA; rw [rA 18 (by simp)]
  refine ⟨?_, ?_, PK_q hK hE', fun p hp => ?_, fun p hp => ?_, fun a hl => ?_, fun a hl => ?_, ?_, ?_, ?_⟩
  · rw [e1]
    refine ⟨hM.1, by rw [rI 0 (by simp)]; exact hM.2.1, fun p hp => MP_q (hM.2.2.1 p hp) (pAg_ag ha), fun p hp => by rw [hkk]; exact hM.2.2.2 p hp⟩
  · rw [e1, e2]
    refine ⟨hMA.1, by rw [rI 27 (by simp)]; exact hMA.2.1, fun a hl => ?_⟩
    rw [hfr, hto, rA 17 (by simp), rA 18 (by simp)]
    exact hMA.2.2 a hl
  · rw [e1] at hp
    exact WPt_q (hP p hp) (hM.2.2.1 p (by have := hM.1; omega)) hE' (pAg_ag ha)
  · rw [e1] at hp
    rw [rA 3 (by simp)]
    exact hF p hp
  · rw [e2] at hl
    have := hAc a hl
    unfold WAc at this ⊢
    rw [hfr, hto, e6, e7, e5, e8, rA 19 (by simp)]
    exact this
  · rw [e2] at hl
    rw [rA 19 (by simp)]
    exact hZ a hl
  · unfold WSt at hS ⊢
    rw [e1, e5, hI.2.1, rI 25 (by simp), hA.1, rA 16 (by simp)]
    exact hS
  · unfold WDd at hD ⊢
    rw [hI.1, rI 14 (by simp), hA.2.2.2, rA 11 (by simp)]
    exact hD
  · unfold WFo at hFo ⊢
    rw [e1, e5, hI.2.2.1, hI.2.2.2.1, hI.2.2.2.2.1, hI.2.2.2.2.2, rI 41 (by simp), rI 42 (by simp), rI 43 (by simp), hA.2.1, hA.2.2.1, rA 30 (by simp), rA 31 (by simp)]
    exact hFo
end W1
