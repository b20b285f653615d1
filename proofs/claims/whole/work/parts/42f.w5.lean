/-! BOTH SIDES: a point, an act, a start -/
section W5
variable {I I' I1 I1' : Nat → Int32} {A A' A1 A1' : Nat → Nat → Int32} {D D1 : DS} {p : Nat}
theorem WPt_D (h : WPt D A' p) (hM : MP A' p) (hk : dK D1 p = dK D p) (hP : dP D1 p = dP D p) (ha : pAg A' A1' p) : WPt D1 A1' p := by
  obtain ⟨w1, w2, w3, w4, w5⟩ := h
  obtain ⟨k1, k2⟩ := pAg_k ha
  refine ⟨by rw [hk, k1, w1], by rw [hP, k2, w2], fun r v hr hv => ?_, ?_, fun side hs => ?_⟩
  · rw [k2] at hr
    rw [hk] at hv
    rw [hP, pAg_x ha (by have := hM.2.2.2.1; omega) (by have := hM.2.1; omega)]
    exact w3 r v hr hv
  · unfold SpR
    rw [hk, hP, ha.2.2.1, ha.2.2.2.1, ha.2.2.2.2.1]
    exact w4
  · show SL (dK D1 p) _ ((dP D1 p).2.2.2.2 side)
    rw [hk, hP]
    exact SL_cg (w5 side hs) (by rw [w1]; exact pAg_rl ha hM)
theorem an_point (h : WR I A D I' A') {x : Int32} : cPoint D x = aPoint (dNp D) x := rfl
theorem WR_point (h : WR I A D I' A') {x : Int32} {q k : Nat} (hok : okP D x = true) (h1 : 1 ≤ k) (h4 : k ≤ 4) (hx : x = nI k) : WR I A (dnP D q k P0s) (aPointI I' (dNp D) x) (aPointA A' (dNp D) x) := by
  obtain ⟨hM, hMA, hK, hP, hF, hAc, hZ, hS, hD, hFo⟩ := h
  have hok' : okPt (dNp D) x = true := hok
  have hnp : dNp D < 6 := by
    unfold okP at hok
    have := (Bool.and_eq_true_iff.mp hok).2
    have h6 := hM.1
    simp at this
    omega
  unfold aPointI aPointA
  rw [if_pos hok', if_pos hok']
  have eNp : dNp (dnP D q k P0s) = dNp D + 1 := rfl
  have eNa : dNa (dnP D q k P0s) = dNa D := rfl
  have eK : ∀ p, p ≠ dNp D → dK (dnP D q k P0s) p = dK D p := fun p hp => if_neg hp
  have eP : ∀ p, p ≠ dNp D → dP (dnP D q k P0s) p = dP D p := fun p hp => if_neg hp
  have eK2 : dK (dnP D q k P0s) (dNp D) = k := if_pos rfl
  have eP2 : dP (dnP D q k P0s) (dNp D) = P0s := if_pos rfl
  generalize hA1 : up2 (up2 A' 1 (dNp D) x) 2 (dNp D) (nI 0) = A1'
  have a1 : ∀ j, A1' 1 j = if j = dNp D then x else A' 1 j := fun j => by rw [← hA1, up2_ne (by decide), up2_row]
  have a2 : ∀ j, A1' 2 j = if j = dNp D then nI 0 else A' 2 j := fun j => by rw [← hA1, up2_row]; dsimp only; rw [up2_ne (by decide)]
  have ao : ∀ o, o ≠ 1 → o ≠ 2 → A1' o = A' o := fun o q1 q2 => by rw [← hA1, up2_ne q2, up2_ne q1]
  have hag : ∀ p, p ≠ dNp D → pAg A' A1' p := fun p hp => ⟨by rw [a1, if_neg hp], by rw [a2, if_neg hp], by rw [ao 3 (by decide) (by decide)], by rw [ao 4 (by decide) (by decide)], by rw [ao 5 (by decide) (by decide)], fun z _ _ => by rw [ao 6 (by decide) (by decide)]⟩
  have hkn : kA A1' (dNp D) = k := by unfold kA; rw [a1, if_pos rfl, hx, nI_clamp (by omega)]
  have hnn : nA A1' (dNp D) = 0 := by unfold nA; rw [a2, if_pos rfl]; rfl
  have h3 : A1' 3 (dNp D) = 0 := by rw [ao 3 (by decide) (by decide)]; exact hF _ (Nat.le_refl _) hnp
  have hfr : ∀ a, frA A1' a = frA A' a := fun a => by unfold frA; rw [ao 17 (by decide) (by decide)]
  have hto : ∀ a, toA A1' a = toA A' a := fun a => by unfold toA; rw [ao 18 (by decide) (by decide)]
  refine ⟨?_, ?_, fun p hp => ?_, fun p hp => ?_, fun p hp h6 => ?_, fun a hl => ?_, fun a hl => ?_, ?_, ?_, ?_⟩
  · rw [eNp]
    refine ⟨by omega, by simp [upd], fun p hp => ?_, fun p hp => ?_⟩
    · by_cases e : p = dNp D
      · subst e
        refine ⟨by rw [a1, if_pos rfl, hkn, hx], by omega, by rw [a2, if_pos rfl, hnn], by omega, Or.inl h3, fun q => ?_⟩
        rw [h3] at q
        exact absurd q (by decide)
      · exact MP_q (hM.2.2.1 p hp) (hag p e)
    · by_cases e : p = dNp D
      · subst e; omega
      · rw [(pAg_k (hag p e)).1]; exact hM.2.2.2 p (by omega)
  · rw [eNp, eNa]
    refine ⟨hMA.1, by simp [upd]; exact hMA.2.1, fun a hl => ?_⟩
    rw [hfr, hto, ao 17 (by decide) (by decide), ao 18 (by decide) (by decide)]
    have := hMA.2.2 a hl
    exact ⟨this.1, by omega, this.2.2.1, by omega⟩
  · rw [eNp] at hp
    by_cases e : p = dNp D
    · subst e
      rw [eP2, eK2]
      refine ⟨by show 0 ≤ 40; omega, fun s hs => ⟨⟨⟨Nat.zero_le _, fun r hr => absurd hr (Nat.not_lt_zero _)⟩, fun i hi => ⟨Nat.zero_le _, Nat.zero_le _⟩⟩, Nat.zero_le _⟩⟩
    · rw [eP p e, eK p e]
      exact hK p (by omega)
  · rw [eNp] at hp
    by_cases e : p = dNp D
    · subst e
      refine ⟨by rw [eK2, hkn], by rw [eP2, hnn], fun r v hr => by omega, Or.inl ⟨h3, ?_⟩, fun side hs => ?_⟩
      · rw [eP2, eK2]
        exact ix_neg (by decide)
      · show SL (dK (dnP D q k P0s) (dNp D)) _ ((dP (dnP D q k P0s) (dNp D)).2.2.2.2 side)
        rw [eP2, eK2]
        have : rl A1' (dNp D) side = [] := by
          unfold rl rs rsF
          rw [hnn]
          rfl
        rw [this]
        exact SL_nil h4 rfl rfl
    · exact WPt_D (hP p (by omega)) (hM.2.2.1 p (by omega)) (eK p e) (eP p e) (hag p e)
  · rw [eNp] at hp
    rw [ao 3 (by decide) (by decide)]
    exact hF p (by omega) h6
  · rw [eNa] at hl
    have h1 := hAc a hl
    have h2 := hMA.2.2 a hl
    have hne : dFr D a ≠ dNp D := by rw [h1.1]; omega
    have eF : dFr (dnP D q k P0s) = dFr D := rfl
    have eT : dTo (dnP D q k P0s) = dTo D := rfl
    have eM : dM (dnP D q k P0s) = dM D := rfl
    unfold WAc
    rw [eF, eT, eM, eK _ hne, hfr, hto, ao 19 (by decide) (by decide)]
    exact h1
  · rw [eNa] at hl
    rw [ao 19 (by decide) (by decide)]
    exact hZ a hl
  · rcases hS with ⟨q1, q2⟩ | ⟨p, hp, q1, q2, q3⟩
    · exact Or.inl ⟨q1, by simp [upd]; exact q2⟩
    · refine Or.inr ⟨p, by rw [eNp]; omega, q1, by simp [upd]; exact q2, fun v hv => ?_⟩
      rw [eK p (by omega)] at hv
      rw [ao 16 (by decide) (by decide)]
      exact q3 v hv
  · obtain ⟨l, d1, d2, d3, d4, d5⟩ := hD
    exact ⟨l, d1, d2, by simp [upd]; exact d3, d4, by rw [ao 11 (by decide) (by decide)]; exact d5⟩
  · rcases hFo with ⟨q1, q2⟩ | ⟨p, c, n, hp, r1, r2, r3, r4, r5, r6, r7, r8, r9, r10, r11⟩
    · exact Or.inl ⟨q1, by simp [upd]; exact q2⟩
    · have e := eK p (by omega)
      refine Or.inr ⟨p, c, n, by rw [eNp]; omega, r1, r2, r3, by simp [upd]; exact r4, r5, by simp [upd]; exact r6, r7, by simp [upd]; exact r8, by rw [e]; exact r9, fun v hv => ?_, fun j hj => ?_⟩
      · rw [e] at hv
        rw [ao 30 (by decide) (by decide)]
        exact r10 v hv
      · rw [ao 31 (by decide) (by decide)]
        exact r11 j hj
theorem an_act (h : WR I A D I' A') {x y : Int32} : cAct D x y = aAct (dNp D) (dNa D) x y := rfl
theorem WR_act (h : WR I A D I' A') {x y : Int32} {q f t : Nat} (hok : okA D x y = true) (hf : f < dNp D) (ht : t < dNp D) (hx : x = nI f) (hy : y = nI t) : WR I A (dnA D q f t (fun _ _ => 0)) (aActI I' (dNp D) (dNa D) x y) (aActA A' (dNp D) (dNa D) x y) := by
  obtain ⟨hM, hMA, hK, hP, hF, hAc, hZ, hS, hD, hFo⟩ := h
  have hok' : okAc (dNp D) (dNa D) x y = true := hok
  have hna : dNa D < 10 := by
    unfold okA at hok
    have := (Bool.and_eq_true_iff.mp hok).2
    have h6 := hMA.1
    simp at this
    omega
  have hnp := hM.1
  unfold aActI aActA
  rw [if_pos hok', if_pos hok']
  have eNp : dNp (dnA D q f t (fun _ _ => 0)) = dNp D := rfl
  have eNa : dNa (dnA D q f t (fun _ _ => 0)) = dNa D + 1 := rfl
  have eK : dK (dnA D q f t (fun _ _ => 0)) = dK D := rfl
  have eP : dP (dnA D q f t (fun _ _ => 0)) = dP D := rfl
  have eF : ∀ a, dFr (dnA D q f t (fun _ _ => 0)) a = if a = dNa D then f else dFr D a := fun a => rfl
  have eT : ∀ a, dTo (dnA D q f t (fun _ _ => 0)) a = if a = dNa D then t else dTo D a := fun a => rfl
  have eM : ∀ a, dM (dnA D q f t (fun _ _ => 0)) a = if a = dNa D then (fun _ _ => 0) else dM D a := fun a => rfl
  generalize hA1 : up2 (up2 A' 17 (dNa D) x) 18 (dNa D) y = A1'
  have a1 : ∀ j, A1' 17 j = if j = dNa D then x else A' 17 j := fun j => by rw [← hA1, up2_ne (by decide), up2_row]
  have a2 : ∀ j, A1' 18 j = if j = dNa D then y else A' 18 j := fun j => by rw [← hA1, up2_row]; dsimp only; rw [up2_ne (by decide)]
  have ao : ∀ o, o ≠ 17 → o ≠ 18 → A1' o = A' o := fun o q1 q2 => by rw [← hA1, up2_ne q2, up2_ne q1]
  have hag : ag A' A1' := ⟨ao 1 (by decide) (by decide), ao 2 (by decide) (by decide), ao 3 (by decide) (by decide), ao 4 (by decide) (by decide), ao 5 (by decide) (by decide), ao 6 (by decide) (by decide)⟩
  have hfr : ∀ a, frA A1' a = if a = dNa D then f else frA A' a := fun a => by
    unfold frA
    rw [a1]
    split
    · rw [hx, nI_clamp (by omega)]
    · rfl
  have hto : ∀ a, toA A1' a = if a = dNa D then t else toA A' a := fun a => by
    unfold toA
    rw [a2]
    split
    · rw [hy, nI_clamp (by omega)]
    · rfl
  have hkk : ∀ p, kA A1' p = kA A' p := fun p => (pAg_k (pAg_ag (p := p) hag)).1
  refine ⟨?_, ?_, hK, fun p hp => ?_, fun p hp h6 => ?_, fun a hl => ?_, fun a hl h10 z hz => ?_, ?_, ?_, ?_⟩
  · rw [eNp]
    exact ⟨hM.1, by simp [upd]; exact hM.2.1, fun p hp => MP_q (hM.2.2.1 p hp) (pAg_ag hag), fun p hp => by rw [hkk]; exact hM.2.2.2 p hp⟩
  · rw [eNp, eNa]
    refine ⟨by omega, by simp [upd], fun a hl => ?_⟩
    rw [hfr, hto, a1, a2]
    by_cases e : a = dNa D
    · simp only [e, if_true]
      exact ⟨hx, hf, hy, ht⟩
    · simp only [e, if_false]
      exact hMA.2.2 a (by omega)
  · exact WPt_D (hP p hp) (hM.2.2.1 p (by have : p < dNp D := hp; omega)) rfl rfl (pAg_ag hag)
  · rw [ao 3 (by decide) (by decide)]
    exact hF p hp h6
  · rw [eNa] at hl
    unfold WAc
    rw [eF, eT, eM, hfr, hto, eK, ao 19 (by decide) (by decide)]
    by_cases e : a = dNa D
    · simp only [e, if_true]
      refine ⟨trivial, trivial, fun v hv c hc => ⟨?_, ⟨by decide, by decide⟩, fun _ _ => trivial⟩⟩
      have := hZ (dNa D) (Nat.le_refl _) hna (5 * v + c) (by omega)
      rw [← Nat.add_assoc] at this
      exact this.symm
    · simp only [e, if_false]
      exact hAc a (by omega)
  · rw [eNa] at hl
    rw [ao 19 (by decide) (by decide)]
    exact hZ a (by omega) h10 z hz
  · unfold WSt at hS ⊢
    rw [eNp, eK, ao 16 (by decide) (by decide)]
    simpa [upd] using hS
  · unfold WDd at hD ⊢
    rw [ao 11 (by decide) (by decide)]
    simpa [upd] using hD
  · unfold WFo at hFo ⊢
    rw [eNp, eK, ao 30 (by decide) (by decide), ao 31 (by decide) (by decide)]
    simpa [upd] using hFo
end W5
