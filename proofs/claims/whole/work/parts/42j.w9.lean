/-! BOTH SIDES: behind a reading -/
section W9
variable {I I' I1 I1' : Nat → Int32} {A A' A1 A1' A2 : Nat → Nat → Int32} {D D1 : DS} {p : Nat} {x vs : Nat → Int32}
theorem dcL_180 (h : WR I A D I' A') (hp : p < dNp D) : (dcL D p x 3).length ≤ 180 := by
  have hk4 := (h.k4 hp).1
  have h1 : ∀ t, (dcS D p x t).length ≤ 60 := by
    intro t
    unfold dcS ddL
    rw [List.length_map]
    refine Nat.le_trans (List.length_filter_le _ _) ?_
    unfold cls
    exact lsF_len hk4
  have h2 : ∀ l : List Nat, (l.flatMap (dcS D p x)).length ≤ 60 * l.length := by
    intro l
    induction l with
    | nil => simp
    | cons t l ih =>
      rw [List.flatMap_cons, List.length_append, List.length_cons]
      have := h1 t
      omega
  unfold dcL
  refine Nat.le_trans (h2 _) ?_
  have := List.length_filter_le (fun t => decide (t = 0 ∨ t = sdO (dK D p) (dP D p).2.1 (dP D p).2.2.1 x)) (List.range 3)
  rw [List.length_range] at this
  omega
theorem WR_read (h : WR I A D I' A') (hp : p < dNp D) {a b c d : Int32} (hn : nA A' p < 40) (hx : ∀ u, u < dK D p → x u = (if u = 0 then a else if u = 1 then b else if u = 2 then c else d) ∧ rng (x u)) (hi : ∀ o, o ≠ 0 → I1 o = I o) (h4 : A1 4 = A 4) (h27 : A1 27 = A 27) (h28 : A1 28 = A 28) (hI0 : I1 0 = nI (dcL D p x 3).length) (hf : fwc (A1 32) (dcL D p x 3)) (hSC : SC [7, 9, 11, 14] [7, 8, 9, 10, 11, 22, 23] I' (rwA A' p a b c d) I1' A1') (h14 : I1' 14 = nI (dl A' p a b c d).length) (hf' : fwc (A1' 11) (dl A' p a b c d)) : WR I1 A1 (rdD D p x) I1' A1' := by
  have hdl := dc_dl h hp hn hx
  have h180 := dcL_180 (x := x) h hp
  obtain ⟨w1, w2, w3, w4, w5⟩ := h.pt hp
  obtain ⟨hk4, hk1⟩ := h.k4 hp
  have hM := h.1.2.2.1 p (by have := h.np6; omega)
  have hKp := h.2.2.1 _ hp
  have hR0 := RdA_rw (A' := A') (p := p) (a := a) (b := b) (c := c) (d := d) hn
  have hag : ag (rwA A' p a b c d) A1' := ⟨hSC.2 1 (by decide), hSC.2 2 (by decide), hSC.2 3 (by decide), hSC.2 4 (by decide), hSC.2 5 (by decide), hSC.2 6 (by decide)⟩
  have hR := RdA_ag hR0 hag
  have ao : ∀ o, o = 16 ∨ o = 17 ∨ o = 18 ∨ o = 19 ∨ o = 30 ∨ o = 31 → A1' o = A' o := by
    intro o ho
    have h1 : A1' o = rwA A' p a b c d o := hSC.2 o (by rcases ho with e | e | e | e | e | e <;> subst e <;> decide)
    rw [h1]
    unfold rwA
    rw [up2_ne (by omega), up2_ne (by omega), up2_ne (by omega), up2_ne (by omega), up2_ne (by omega)]
  obtain ⟨hnA, hkA⟩ := RdA_n hR hn
  have hSL : ∀ t, t < 3 → SL (dK D p) (rl A1' p t) (trS D p x 3 t) := fun t ht => RdA_SL h hp hR hn hx ht
  have eP : dP (rdD D p x) p = ((dP D p).1 + 1, (dP D p).2.1, (dP D p).2.2.1, upR (dP D p).2.2.2.1 (dP D p).1 (fun v => if v < dK D p then x v else (dP D p).2.2.2.1 (dP D p).1 v), trS D p x 3) := if_pos rfl
  refine WR_pt h hp ?_ ?_ ⟨?_, fun s hs => ⟨?_, ?_⟩⟩ (fun q hq _ => RdA_pAg hR hq) (by rw [hkA, ← w1]; exact hk1) ao (fun o ho => hSC.1 o (by rcases ho with e | e | e | e | e | e <;> subst e <;> decide)) hi h4 h27 h28 ⟨dcL D p x 3, h180, hI0, by rw [hdl]; exact h14, hf, by rw [hdl]; exact hf'⟩
  · refine ⟨by show dK D p = _; rw [hkA]; exact w1, ?_, fun r u hr hu => ?_, ?_, fun s hs => ?_⟩
    · show (dP (rdD D p x) p).1 = _
      rw [eP, hnA]
      show (dP D p).1 + 1 = _
      rw [w2]
    · show (dP (rdD D p x) p).2.2.2.1 r u = _ ∧ _
      rw [eP]
      have hu' : u < dK D p := hu
      rw [hnA] at hr
      show upR (dP D p).2.2.2.1 (dP D p).1 (fun v => if v < dK D p then x v else (dP D p).2.2.2.1 (dP D p).1 v) r u = _ ∧ _
      rw [hR.2.2.2.2.2 p r u (by omega) (by omega), w2]
      by_cases e : r = nA A' p
      · rw [e, upR_at, if_pos hu', if_pos (show p = p ∧ nA A' p = nA A' p from ⟨rfl, rfl⟩)]
        dsimp only
        rw [← (hx u hu').1]
        exact ⟨rfl, (hx u hu').2⟩
      · rw [upR_ne e, if_neg (fun q => e q.2)]
        exact w3 r u (by omega) hu'
    · unfold SpR
      show (A1' 3 p = 0 ∧ ix (dK D p) (dP (rdD D p x) p).2.1 = false) ∨ (A1' 3 p = 1 ∧ (dP (rdD D p x) p).2.1 = _ ∧ (dP (rdD D p x) p).2.2.1 = _ ∧ ix (dK D p) (A1' 4 p) = true)
      rw [eP, hR.2.1, hR.2.2.1, hR.2.2.2.1]
      exact w4
    · show SL (dK D p) _ ((dP (rdD D p x) p).2.2.2.2 s)
      rw [eP]
      exact hSL s hs
  · unfold MP
    rw [hkA, hnA, hR.1, hR.2.1, hR.2.2.1, hR.2.2.2.2.1, if_pos rfl]
    exact ⟨hM.1, hM.2.1, rfl, by omega, hM.2.2.2.2⟩
  · show (dP D p).1 + 1 ≤ 40
    omega
  · show fOK (dK D p) (trS D p x 3 s)
    unfold trS
    split
    · exact fOK_ad (hKp.2 s hs).1
    · exact (hKp.2 s hs).1
  · show (trS D p x 3 s).1 ≤ 40
    rw [SL_n (hSL s hs)]
    exact rs_len (by rw [hnA]; omega)
theorem WR.cnt (h : WR I A D I' A') : ∀ p, p < dNp D → (dP D p).1 < 40 → ∀ t, t < 3 → (dF D p t).1 < 40 := by
  intro p hp hn t ht
  obtain ⟨w1, w2, w3, w4, w5⟩ := h.pt hp
  rw [SL_n (w5 t ht)]
  unfold rs rsF
  have := List.length_filter_le (ofA A' p t) (List.range' 0 (nA A' p - 0))
  rw [List.length_range'] at this
  omega
theorem WR.CSt (h : WR I A D I' A') : CSt I D := by
  rcases h.2.2.2.2.2.2.2.1 with ⟨q1, q2⟩ | ⟨p, hp, q1, q2, q3⟩
  · exact Or.inl q1
  · exact Or.inr ⟨p, hp, q1⟩
theorem WR.MSt (h : WR I A D I' A') : MSt I' (dNp D) := by
  have := h.np6
  rcases h.2.2.2.2.2.2.2.1 with ⟨q1, q2⟩ | ⟨p, hp, q1, q2, q3⟩
  · exact Or.inl q2
  · refine Or.inr ?_
    rw [q2, nI_clamp (by omega)]
    exact ⟨rfl, hp⟩
theorem WR.CBk (h : WR I A D I' A') : CBk I := by
  rcases h.2.2.2.2.2.2.2.2.2 with ⟨q1, q2⟩ | ⟨p, c, n, hp, r1, r2, r3, r4, r5, r6, r7, r8, r9, r10, r11⟩
  · exact Or.inl q1
  · exact Or.inr ⟨n, dK D p, r7, r2, r9, (h.k4 hp).1⟩
theorem WR.hB (h : WR I A D I' A') : 0 ≤ I' 41 → I' 42 = nI (I' 42).toNatClampNeg ∧ (I' 42).toNatClampNeg < dNp D ∧ I' 43 = nI (I' 43).toNatClampNeg ∧ (I' 43).toNatClampNeg ≤ 5 := by
  have := h.np6
  intro q
  rcases h.2.2.2.2.2.2.2.2.2 with ⟨q1, q2⟩ | ⟨p, c, n, hp, r1, r2, r3, r4, r5, r6, r7, r8, r9, r10, r11⟩
  · exact absurd q (Int32.not_le.mpr q2)
  · rw [r4, r8, nI_clamp (by omega), nI_clamp (by omega)]
    exact ⟨rfl, hp, rfl, r2⟩
theorem WR.dd (h : WR I A D I' A') : I 0 = nI (I 0).toNatClampNeg ∧ (I 0).toNatClampNeg ≤ 180 ∧ I' 14 = nI (I' 14).toNatClampNeg ∧ (I' 14).toNatClampNeg ≤ 300 := by
  obtain ⟨l, d1, d2, d3, d4, d5⟩ := h.2.2.2.2.2.2.2.2.1
  rw [d2, d3, nI_clamp (by omega)]
  exact ⟨rfl, d1, rfl, by omega⟩
theorem WR.inR (h : WR I A D I' A') : ∀ p, p < dNp D → I 3 = nI p → inR (stL (A 4) (dK D p)) := by
  intro p hp h3
  have hnp := h.np6
  rcases h.2.2.2.2.2.2.2.1 with ⟨q1, q2⟩ | ⟨p', hp', q1, q2, q3⟩
  · rw [h3] at q1
    exact absurd q1 (nI_nneg (by omega))
  · have e : p = p' := by
      have := congrArg Int32.toNatClampNeg (h3.symm.trans q1)
      rw [nI_clamp (by omega), nI_clamp (by omega)] at this
      exact this
    subst e
    intro y hy
    unfold stL at hy
    obtain ⟨v, hv, e⟩ := List.mem_map.mp hy
    have := (q3 v (List.mem_range.mp hv)).2
    rw [e] at this
    unfold rng at this
    unfold wiB
    rw [Bool.and_eq_true_iff, decide_eq_true_eq, decide_eq_true_eq, Int32.lt_iff_toInt_lt, Int32.lt_iff_toInt_lt, show (-nI 30).toInt = -30 from rfl, show (nI 30).toInt = 30 from rfl]
    omega
end W9
