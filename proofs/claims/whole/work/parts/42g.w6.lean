/-! BOTH SIDES: a start, what an act makes -/
section W6
variable {I I' I1 I1' : Nat → Int32} {A A' A1 A1' : Nat → Nat → Int32} {D D1 : DS} {p : Nat}
theorem cWi_4 {k : Nat} {r : Int32} {f : Nat → Int32} {a b c d : Int32} (h1 : 1 ≤ k) (h4 : k ≤ 4) : cWi k r (fill4 f a b c d) = (((wiB a r && (decide (k < 2) || wiB b r)) && (decide (k < 3) || wiB c r)) && (decide (k < 4) || wiB d r)) := by
  unfold cWi
  rcases (show k = 1 ∨ k = 2 ∨ k = 3 ∨ k = 4 by omega) with e | e | e | e <;> subst e <;> simp [List.range', fill4, upd, Bool.and_assoc]
theorem cWi_ar {k : Nat} {f : Nat → Int32} {a b c d : Int32} (h1 : 1 ≤ k) (h4 : k ≤ 4) : cWi k (nI 30) (fill4 f a b c d) = arB k a b c d := by
  rw [cWi_4 h1 h4]
  rfl
theorem fill4_at {f : Nat → Int32} {a b c d : Int32} : fill4 f a b c d 0 = a ∧ fill4 f a b c d 1 = b ∧ fill4 f a b c d 2 = c ∧ fill4 f a b c d 3 = d := by
  simp [fill4, upd]
theorem cWi_rng {k : Nat} {f : Nat → Int32} (h : cWi k (nI 30) f = true) {v : Nat} (hv : v < k) : rng (f v) := by
  unfold cWi at h
  exact rng_of (List.all_eq_true.mp h v (List.mem_range'_1.mpr ⟨by omega, by omega⟩))
theorem an_start (h : WR I A D I' A') {x a b c d : Int32} : cStart A D x a b c d = aStart A' (dNp D) x a b c d := by
  unfold cStart aStart
  by_cases e : ix (dNp D) x = true
  · have hp := (ix_lt e (by have := h.np6; omega)).1
    obtain ⟨hk, hk1⟩ := h.k4 hp
    rw [if_pos e, cWi_ar hk1 hk, (h.pt hp).1, e]
    cases arB (kA A' x.toNatClampNeg) a b c d <;> simp
  · have e' := Bool.eq_false_iff.mpr e
    rw [if_neg e, if_pos e']
theorem ok_start (h : WR I A D I' A') {x a b c d : Int32} : okSt A D x a b c d = (ix (dNp D) x && arB (kA A' x.toNatClampNeg) a b c d) := by
  unfold okSt
  by_cases e : ix (dNp D) x = true
  · have hp := (ix_lt e (by have := h.np6; omega)).1
    obtain ⟨hk, hk1⟩ := h.k4 hp
    rw [cWi_ar hk1 hk, (h.pt hp).1]
  · rw [Bool.eq_false_iff.mpr e]
    rfl
theorem WR_start (h : WR I A D I' A') {x a b c d : Int32} (hok : okSt A D x a b c d = true) (h27 : A1 27 = A 27) (h28 : A1 28 = A 28) (h32 : A1 32 = A 32) (h4 : ∀ v, v < 4 → A1 4 v = fill4 (A 29) a b c d v) : WR (upd I 3 x) A1 D (aStartI I' A' (dNp D) x a b c d) (aStartA A' (dNp D) x a b c d) := by
  have hok2 := hok
  rw [ok_start h] at hok2
  have hx := ix_lt (Bool.and_eq_true_iff.mp hok2).1 (by have := h.np6; omega)
  have hk := h.k4 hx.1
  have hcw : cWi (dK D x.toNatClampNeg) (nI 30) (fill4 (A 29) a b c d) = true := by
    unfold okSt at hok
    exact (Bool.and_eq_true_iff.mp hok).2
  obtain ⟨hM, hMA, hK, hP, hF, hAc, hZ, hS, hD, hFo⟩ := h
  unfold aStartI aStartA
  rw [if_pos hok2, if_pos hok2]
  generalize hA1 : up2 (up2 (up2 (up2 A' 16 0 a) 16 1 b) 16 2 c) 16 3 d = A1'
  have ao : ∀ o, o ≠ 16 → A1' o = A' o := fun o q => by rw [← hA1, up2_ne q, up2_ne q, up2_ne q, up2_ne q]
  have a16 : A1' 16 0 = a ∧ A1' 16 1 = b ∧ A1' 16 2 = c ∧ A1' 16 3 = d := by rw [← hA1]; simp [up2]
  have hag : ag A' A1' := ⟨ao 1 (by decide), ao 2 (by decide), ao 3 (by decide), ao 4 (by decide), ao 5 (by decide), ao 6 (by decide)⟩
  have hkk : ∀ p, kA A1' p = kA A' p := fun p => (pAg_k (pAg_ag (p := p) hag)).1
  have hfr : ∀ a, frA A1' a = frA A' a := fun a => by unfold frA; rw [ao 17 (by decide)]
  have hto : ∀ a, toA A1' a = toA A' a := fun a => by unfold toA; rw [ao 18 (by decide)]
  refine ⟨?_, ?_, hK, fun p hp => ?_, fun p hp h6 => ?_, fun a hl => ?_, fun a hl => ?_, ?_, ?_, ?_⟩
  · exact ⟨hM.1, by simp [upd]; exact hM.2.1, fun p hp => MP_q (hM.2.2.1 p hp) (pAg_ag hag), fun p hp => by rw [hkk]; exact hM.2.2.2 p hp⟩
  · refine ⟨hMA.1, by simp [upd]; exact hMA.2.1, fun a hl => ?_⟩
    rw [hfr, hto, ao 17 (by decide), ao 18 (by decide)]
    exact hMA.2.2 a hl
  · exact WPt_D (hP p hp) (hM.2.2.1 p (by have := hM.1; omega)) rfl rfl (pAg_ag hag)
  · rw [ao 3 (by decide)]
    exact hF p hp h6
  · unfold WAc
    rw [hfr, hto, ao 19 (by decide)]
    exact hAc a hl
  · rw [ao 19 (by decide)]
    exact hZ a hl
  · refine Or.inr ⟨x.toNatClampNeg, hx.1, by simp [upd]; exact hx.2, by simp [upd]; exact hx.2, fun v hv => ?_⟩
    rw [h4 v (by omega)]
    refine ⟨?_, cWi_rng hcw hv⟩
    obtain ⟨f0, f1, f2, f3⟩ := fill4_at (f := A 29) (a := a) (b := b) (c := c) (d := d)
    rcases (show v = 0 ∨ v = 1 ∨ v = 2 ∨ v = 3 by omega) with e | e | e | e <;> subst e
    · rw [f0, a16.1]
    · rw [f1, a16.2.1]
    · rw [f2, a16.2.2.1]
    · rw [f3, a16.2.2.2]
  · unfold WDd at hD ⊢
    rw [ao 11 (by decide), h32]
    simpa [upd] using hD
  · unfold WFo at hFo ⊢
    rw [ao 30 (by decide), ao 31 (by decide), h27, h28]
    simpa [upd] using hFo
theorem cWi_mk {k : Nat} {f : Nat → Int32} {a b c d e : Int32} (h1 : 1 ≤ k) (h4 : k ≤ 4) : (cWi k (nI 9) (fill4 f a b c d) && wiB e (nI 99)) = mkOK k a b c d e := by
  rw [cWi_4 h1 h4]
  unfold mkOK
  rw [show decide (k < 2) = decide (k ≤ 1) by simp [Nat.lt_succ_iff], show decide (k < 3) = decide (k ≤ 2) by simp [Nat.lt_succ_iff], show decide (k < 4) = decide (k ≤ 3) by simp [Nat.lt_succ_iff]]
  rfl
theorem ok_makes (h : WR I A D I' A') {k v a b c d e : Int32} (hk : ix (dNa D) k = true) : okMk A D k v a b c d e = mkOK (kA A' (frA A' k.toNatClampNeg)) a b c d e := by
  have ha := (ix_lt hk (by have := h.na10; omega)).1
  obtain ⟨⟨a1, a2, a3⟩, hf, ht⟩ := h.ac ha
  obtain ⟨hk4, hk1⟩ := h.k4 hf
  unfold okMk
  rw [cWi_mk hk1 hk4, ← a1, (h.pt hf).1]
theorem no_makes (h : WR I A D I' A') {k v : Int32} : noMd A' (dNa D) k v = !(ix (dNa D) k && ix (dK D (dTo D k.toNatClampNeg)) v) := by
  unfold noMd
  by_cases e : ix (dNa D) k = true
  · have ha := (ix_lt e (by have := h.na10; omega)).1
    obtain ⟨⟨a1, a2, a3⟩, hf, ht⟩ := h.ac ha
    rw [← a2, (h.pt ht).1]
  · rw [Bool.eq_false_iff.mpr e]
    rfl
theorem an_makes (h : WR I A D I' A') {k v a b c d e : Int32} : cMakes A D k v a b c d e = aMakes A' (dNa D) k v a b c d e := by
  unfold cMakes aMakes
  rw [no_makes h]
  by_cases q : (ix (dNa D) k && ix (dK D (dTo D k.toNatClampNeg)) v) = true
  · rw [if_pos q, q, ok_makes h (Bool.and_eq_true_iff.mp q).1]
    cases mkOK (kA A' (frA A' k.toNatClampNeg)) a b c d e <;> simp
  · rw [if_neg q, Bool.eq_false_iff.mpr q]
    simp
theorem bd9 {x : Int32} (h : wiB x (nI 9) = true) : bd x.toInt 99 := by
  unfold wiB at h
  obtain ⟨h1, h2⟩ := Bool.and_eq_true_iff.mp h
  have h1 := of_decide_eq_true h1
  have h2 := of_decide_eq_true h2
  rw [Int32.lt_iff_toInt_lt] at h1 h2
  rw [show (-nI 9).toInt = -9 from rfl] at h1
  rw [show (nI 9).toInt = 9 from rfl] at h2
  unfold bd
  omega
theorem bd99 {x : Int32} (h : wiB x (nI 99) = true) : bd x.toInt 99 := by
  unfold wiB at h
  obtain ⟨h1, h2⟩ := Bool.and_eq_true_iff.mp h
  have h1 := of_decide_eq_true h1
  have h2 := of_decide_eq_true h2
  rw [Int32.lt_iff_toInt_lt] at h1 h2
  rw [show (-nI 99).toInt = -99 from rfl] at h1
  rw [show (nI 99).toInt = 99 from rfl] at h2
  unfold bd
  omega
theorem WR_makes (h : WR I A D I' A') {k v a b c d e : Int32} (hok : (ix (dNa D) k && ix (dK D (dTo D k.toNatClampNeg)) v && okMk A D k v a b c d e) = true) (hE : aEq A A1) : WR I A1 (mkD A D k.toNatClampNeg v.toNatClampNeg a b c d e) I' (aMakesA A' (dNa D) k v a b c d e) := by
  obtain ⟨hok1, hok2⟩ := Bool.and_eq_true_iff.mp hok
  obtain ⟨hok3, hok4⟩ := Bool.and_eq_true_iff.mp hok1
  have ha := (ix_lt hok3 (by have := h.na10; omega)).1
  obtain ⟨⟨c1, c2, c3⟩, hf, ht⟩ := h.ac ha
  obtain ⟨hk4, hk1⟩ := h.k4 hf
  have hkt := h.k4 ht
  have hv := (ix_lt hok4 (by omega)).1
  have hmk := ok_makes h (k := k) (v := v) (a := a) (b := b) (c := c) (d := d) (e := e) hok3
  have hkf : kA A' (frA A' k.toNatClampNeg) = dK D (dFr D k.toNatClampNeg) := by rw [← c1]; exact (h.pt hf).1.symm
  have hno := no_makes h (k := k) (v := v)
  unfold aMakesA
  rw [hno, hok1, ← hmk, hok2, if_pos (by decide)]
  have hw := hok2
  unfold okMk at hw
  obtain ⟨hw1, hw2⟩ := Bool.and_eq_true_iff.mp hw
  generalize k.toNatClampNeg = kk at *
  generalize v.toNatClampNeg = vv at *
  obtain ⟨hM, hMA, hK, hP, hF, hAc, hZ, hS, hD, hFo⟩ := h
  have hna := hMA.1
  have ao : ∀ o, o ≠ 19 → mkA A' kk vv a b c d e o = A' o := fun o q => by unfold mkA; rw [up2_ne q, up2_ne q, up2_ne q, up2_ne q, up2_ne q]
  have a19 : ∀ z, mkA A' kk vv a b c d e 19 z = if z = 20 * kk + 5 * vv + 4 then e else if z = 20 * kk + 5 * vv + 3 then (if dK D (dFr D kk) ≤ 3 then nI 0 else d) else if z = 20 * kk + 5 * vv + 2 then (if dK D (dFr D kk) ≤ 2 then nI 0 else c) else if z = 20 * kk + 5 * vv + 1 then (if dK D (dFr D kk) ≤ 1 then nI 0 else b) else if z = 20 * kk + 5 * vv then a else A' 19 z := by
    intro z
    unfold mkA
    rw [hkf]
    simp only [up2, true_and]
  generalize mkA A' kk vv a b c d e = A1' at ao a19 ⊢
  have hag : ag A' A1' := ⟨ao 1 (by decide), ao 2 (by decide), ao 3 (by decide), ao 4 (by decide), ao 5 (by decide), ao 6 (by decide)⟩
  have hkk : ∀ p, kA A1' p = kA A' p := fun p => (pAg_k (pAg_ag (p := p) hag)).1
  have hfr : ∀ a, frA A1' a = frA A' a := fun a => by unfold frA; rw [ao 17 (by decide)]
  have hto : ∀ a, toA A1' a = toA A' a := fun a => by unfold toA; rw [ao 18 (by decide)]
  have eM : ∀ x, dM (mkD A D kk vv a b c d e) x = if x = kk then upR (dM D kk) vv (upd (fun u => if u < dK D (dFr D kk) then fill4 (A 29) a b c d u else dM D kk vv u) 4 e) else dM D x := fun x => rfl
  refine ⟨?_, ?_, hK, fun p hp => ?_, fun p hp h6 => ?_, fun x hl => ?_, fun x hl h10 z hz => ?_, ?_, ?_, ?_⟩
  · exact ⟨hM.1, hM.2.1, fun p hp => MP_q (hM.2.2.1 p hp) (pAg_ag hag), fun p hp => by rw [hkk]; exact hM.2.2.2 p hp⟩
  · refine ⟨hMA.1, hMA.2.1, fun a hl => ?_⟩
    rw [hfr, hto, ao 17 (by decide), ao 18 (by decide)]
    exact hMA.2.2 a hl
  · exact WPt_D (hP p hp) (hM.2.2.1 p (by have := hM.1; have : p < dNp D := hp; omega)) rfl rfl (pAg_ag hag)
  · rw [ao 3 (by decide)]
    exact hF p hp h6
  · have hold := hAc x hl
    unfold WAc
    rw [hfr, hto, eM]
    refine ⟨hold.1, hold.2.1, fun u hu z hz => ?_⟩
    by_cases e1 : x = kk
    · subst e1
      rw [if_pos rfl]
      by_cases e2 : u = vv
      · subst e2
        rw [upR_at, a19]
        obtain ⟨f0, f1, f2, f3⟩ := fill4_at (f := A 29) (a := a) (b := b) (c := c) (d := d)
        have hwi : ∀ j, j < dK D (dFr D x) → wiB (fill4 (A 29) a b c d j) (nI 9) = true := fun j hj => by
          unfold cWi at hw1
          exact List.all_eq_true.mp hw1 j (List.mem_range'_1.mpr ⟨by omega, by omega⟩)
        show upd _ 4 e z = _ ∧ bd (upd _ 4 e z).toInt 99 ∧ (dK D (dFr D x) ≤ z → z < 4 → upd _ 4 e z = 0)
        have hz4 : z ≠ 4 → upd (fun w => if w < dK D (dFr D x) then fill4 (A 29) a b c d w else dM D x u w) 4 e z = if z < dK D (dFr D x) then fill4 (A 29) a b c d z else dM D x u z := fun q => by simp [upd, q]
        by_cases e4 : z = 4
        · subst e4
          rw [if_pos rfl, show upd (fun w => if w < dK D (dFr D x) then fill4 (A 29) a b c d w else dM D x u w) 4 e 4 = e by simp [upd]]
          exact ⟨rfl, bd99 hw2, fun _ q => by omega⟩
        · rw [hz4 e4, if_neg (show ¬ 20 * x + 5 * u + z = 20 * x + 5 * u + 4 by omega)]
          have hold3 := hold.2.2 u hu z hz
          by_cases e5 : z < dK D (dFr D x)
          · rw [if_pos e5]
            refine ⟨?_, bd9 (hwi z e5), fun q => by omega⟩
            rcases (show z = 0 ∨ z = 1 ∨ z = 2 ∨ z = 3 by omega) with q | q | q | q <;> subst q
            · rw [f0, if_neg (by omega), if_neg (by omega), if_neg (by omega), if_pos (by omega)]
            · rw [f1, if_neg (by omega), if_neg (by omega), if_pos rfl, if_neg (by omega)]
            · rw [f2, if_neg (by omega), if_pos rfl, if_neg (by omega)]
            · rw [f3, if_pos rfl, if_neg (by omega)]
          · rw [if_neg e5, hold3.2.2 (by omega) (by omega)]
            refine ⟨?_, ⟨by decide, by decide⟩, fun _ _ => rfl⟩
            rcases (show z = 1 ∨ z = 2 ∨ z = 3 by omega) with q | q | q <;> subst q
            · rw [if_neg (by omega), if_neg (by omega), if_pos rfl, if_pos (by omega)]; rfl
            · rw [if_neg (by omega), if_pos rfl, if_pos (by omega)]; rfl
            · rw [if_pos rfl, if_pos (by omega)]; rfl
      · rw [upR_ne e2, a19, if_neg (by omega), if_neg (by omega), if_neg (by omega), if_neg (by omega), if_neg (by omega)]
        exact hold.2.2 u hu z hz
    · rw [if_neg e1, a19, if_neg (by omega), if_neg (by omega), if_neg (by omega), if_neg (by omega), if_neg (by omega)]
      exact hold.2.2 u hu z hz
  · have hl' : dNa D ≤ x := hl
    rw [a19, if_neg (by omega), if_neg (by omega), if_neg (by omega), if_neg (by omega), if_neg (by omega)]
    exact hZ x hl h10 z hz
  · unfold WSt at hS ⊢
    rw [ao 16 (by decide), hE.1]
    exact hS
  · unfold WDd at hD ⊢
    rw [ao 11 (by decide), hE.2.2.2]
    exact hD
  · unfold WFo at hFo ⊢
    rw [ao 30 (by decide), ao 31 (by decide), hE.2.1, hE.2.2.1]
    exact hFo
end W6
