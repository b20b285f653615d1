/-! BOTH SIDES: behind a search; the beginning -/
section WA
variable {I I' I1 I1' : Nat → Int32} {A A' A1 A1' : Nat → Nat → Int32} {D : DS} {p : Nat}
theorem WR_found (h : WR I A D I' A') {c len : Nat} {r : sR_} (hi0 : I1 0 = I 0) (hi3 : I1 3 = I 3) (h4 : A1 4 = A 4) (h32 : A1 32 = A 32) (hF : FC D r.1 r I1 A1) (hSC : SC [7, 9, 41, 42, 43, 46] [7, 8, 22, 23, 24, 25, 26, 27, 28, 29, 30, 31] I' A' I1' A1') (hl : len = r.1.length) (hB : FB A' (dNp D) len r I1' A1') : WR I1 A1 D I1' A1' := by
  have hpt : r.2.1 < dNp D := hF.2.2.2.2.2.1
  have hkp := (h.pt hpt).1
  obtain ⟨hM, hMA, hK, hP, hFr, hAc, hZ, hS, hD, hFo⟩ := h
  have hag : ag A' A1' := ⟨hSC.2 1 (by decide), hSC.2 2 (by decide), hSC.2 3 (by decide), hSC.2 4 (by decide), hSC.2 5 (by decide), hSC.2 6 (by decide)⟩
  have hkk : ∀ p, kA A1' p = kA A' p := fun p => (pAg_k (pAg_ag (p := p) hag)).1
  have hfr : ∀ a, frA A1' a = frA A' a := fun a => by unfold frA; rw [hSC.2 17 (by decide)]
  have hto : ∀ a, toA A1' a = toA A' a := fun a => by unfold toA; rw [hSC.2 18 (by decide)]
  refine ⟨?_, ?_, hK, fun p hp => ?_, fun p hp => ?_, fun a hl => ?_, fun a hl => ?_, ?_, ?_, ?_⟩
  · exact ⟨hM.1, by rw [hSC.1 0 (by decide)]; exact hM.2.1, fun p hp => MP_q (hM.2.2.1 p hp) (pAg_ag hag), fun p hp => by rw [hkk]; exact hM.2.2.2 p hp⟩
  · refine ⟨hMA.1, by rw [hSC.1 27 (by decide)]; exact hMA.2.1, fun a hl => ?_⟩
    rw [hfr, hto, hSC.2 17 (by decide), hSC.2 18 (by decide)]
    exact hMA.2.2 a hl
  · exact WPt_D (hP p hp) (hM.2.2.1 p (by have := hM.1; omega)) rfl rfl (pAg_ag hag)
  · rw [hSC.2 3 (by decide)]
    exact hFr p hp
  · unfold WAc
    rw [hfr, hto, hSC.2 19 (by decide)]
    exact hAc a hl
  · rw [hSC.2 19 (by decide)]
    exact hZ a hl
  · unfold WSt at hS ⊢
    rw [hi3, hSC.1 25 (by decide), h4, hSC.2 16 (by decide)]
    exact hS
  · unfold WDd at hD ⊢
    rw [hi0, hSC.1 14 (by decide), h32, hSC.2 11 (by decide)]
    exact hD
  · obtain ⟨f1, f2, f3, f4, f5, f6, f7, f8, f9⟩ := hF
    obtain ⟨b1, b2, b3, b4, b5, b6⟩ := hB
    subst hl
    refine Or.inr ⟨r.2.1, r.2.2.2, r.1.length, f6, f7, f8, f1, b2, f2, b1, f3, b3, f4, fun v hv => ?_, fun k hk => by rw [f9 k hk, b6 k hk]⟩
    rw [← hkp] at b4
    have e := f5.trans b4.symm
    have : gt_ (stL (A1 27) (dK D r.2.1)) v = gt_ (stL (A1' 30) (dK D r.2.1)) v := by rw [e]
    rw [stL_get hv, stL_get hv] at this
    exact this
theorem WR_0 : WR I0 (fun _ _ => 0) D0 J0 (fun _ _ => 0) := by
  have hk0 : ∀ p, kA (fun _ _ => 0) p = 0 := fun p => rfl
  have hn0 : ∀ p, nA (fun _ _ => 0) p = 0 := fun p => rfl
  refine ⟨⟨by decide, rfl, fun p hp => ⟨rfl, by rw [hk0]; omega, rfl, by rw [hn0]; omega, Or.inl rfl, fun q => absurd (show (0 : Int32) = 1 from q) (by decide)⟩, fun p hp => absurd hp (Nat.not_lt_zero _)⟩, ⟨by decide, rfl, fun a ha => absurd ha (Nat.not_lt_zero _)⟩, fun p hp => absurd hp (Nat.not_lt_zero _), fun p hp => absurd hp (Nat.not_lt_zero _), fun _ _ _ => rfl, fun a ha => absurd ha (Nat.not_lt_zero _), fun _ _ _ _ _ => rfl, Or.inl ⟨by decide, by decide⟩, ⟨[], by decide, rfl, rfl, fun j c h => by simp at h, fun j c h => by simp at h⟩, Or.inl ⟨by decide, by decide⟩⟩
end WA
