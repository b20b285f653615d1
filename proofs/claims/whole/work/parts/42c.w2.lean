/-! BOTH SIDES: calls that ask answer alike -/
section W2
variable {I I' : Nat → Int32} {A A' : Nat → Nat → Int32} {D : DS} {p : Nat}
theorem ix_lt {n : Nat} {x : Int32} (h : ix n x = true) (hn : n < 2 ^ 31) : x.toNatClampNeg < n ∧ x = nI x.toNatClampNeg := by
  obtain ⟨j, hj, e⟩ := ix_of h hn
  subst e
  rw [nI_clamp (by omega)]
  exact ⟨hj, rfl⟩
theorem WR.np6 (h : WR I A D I' A') : dNp D ≤ 6 := h.1.1
theorem WR.pt (h : WR I A D I' A') (hp : p < dNp D) : WPt D A' p := h.2.2.2.1 p hp
theorem WR.k4 (h : WR I A D I' A') (hp : p < dNp D) : dK D p ≤ 4 ∧ 1 ≤ dK D p := by
  rw [(h.pt hp).1]
  exact ⟨(h.1.2.2.1 p (by have := h.np6; omega)).2.1, h.1.2.2.2 p hp⟩
theorem WR.n40 (h : WR I A D I' A') (hp : p < dNp D) : nA A' p ≤ 40 := (h.1.2.2.1 p (by have := h.np6; omega)).2.2.2.1
theorem an_variables (h : WR I A D I' A') {x : Int32} : cVariables D x = aVariables A' (dNp D) x := by
  unfold cVariables aVariables
  by_cases e : ix (dNp D) x = true
  · rw [if_pos e, if_pos e, (h.pt (ix_lt e (by have := h.np6; omega)).1).1]
  · rw [if_neg e, if_neg e]
theorem an_tried (h : WR I A D I' A') {x s : Int32} : cTried D x s = aTried A' (dNp D) x s := by
  unfold cTried aTried
  by_cases e : (ix (dNp D) x && ix 3 s) = true
  · obtain ⟨e1, e2⟩ := Bool.and_eq_true_iff.mp e
    rw [if_pos e, if_pos e, SL_n ((h.pt (ix_lt e1 (by have := h.np6; omega)).1).2.2.2.2 _ (ix_lt e2 (by omega)).1)]
  · rw [if_neg e, if_neg e]
theorem an_reading (h : WR I A D I' A') {x r v : Int32} : cReading D x r v = aReading A' (dNp D) x r v := by
  unfold cReading aReading
  by_cases e : ix (dNp D) x = true
  · have hp := (ix_lt e (by have := h.np6; omega)).1
    obtain ⟨w1, w2, w3, _⟩ := h.pt hp
    have h40 := h.n40 hp
    have h4 := (h.k4 hp).1
    rw [e, w2, w1, Bool.true_and, Bool.true_and]
    by_cases e2 : (ix (nA A' x.toNatClampNeg) r && ix (kA A' x.toNatClampNeg) v) = true
    · rw [if_pos e2, if_pos (by rw [Bool.and_comm]; exact e2)]
      obtain ⟨q1, q2⟩ := Bool.and_eq_true_iff.mp e2
      exact (w3 _ _ (ix_lt q1 (by omega)).1 (by rw [w1]; exact (ix_lt q2 (by omega)).1)).1
    · rw [if_neg e2, if_neg (by rw [Bool.and_comm]; exact e2)]
  · have e' : ix (dNp D) x = false := by simpa using e
    rw [e']
    simp
theorem fwc_at {f : Nat → Int32} {l : List Nat} {i : Nat} (h : fwc f l) (hi : i < l.length) : f i = nI (l.getD i 0) := by
  have := h i (l[i]) (List.getElem?_eq_getElem hi)
  rw [this, List.getD_eq_getElem?_getD, List.getElem?_eq_getElem hi]
  rfl
theorem an_died (h : WR I A D I' A') {i : Int32} : cDied I A i = aDied I' A' i := by
  obtain ⟨l, h1, h2, h3, h4, h5⟩ := h.2.2.2.2.2.2.2.2.1
  unfold cDied aDied
  rw [h2, h3, nI_clamp (by omega)]
  by_cases e : ix l.length i = true
  · have hi := (ix_lt e (by omega)).1
    rw [if_pos e, if_pos e, fwc_at h4 hi, fwc_at h5 hi]
  · rw [if_neg e, if_neg e]
theorem nI_nneg {j : Nat} (h : j < 2 ^ 31) : ¬ nI j < 0 := fun q => by
  have := Int32.lt_iff_toInt_lt.mp q
  rw [nI_toInt h, show (0 : Int32).toInt = 0 from rfl] at this
  omega
theorem nI_geq {j : Nat} (h : j < 2 ^ 31) : 0 ≤ nI j := Int32.not_lt.mp (nI_nneg h)
theorem WR.st (h : WR I A D I' A') : (I 3 < 0 ∧ ¬ 0 ≤ I' 25) ∨ (¬ I 3 < 0 ∧ 0 ≤ I' 25 ∧ I 3 = I' 25 ∧ (I 3).toNatClampNeg < dNp D ∧ I 3 = nI (I 3).toNatClampNeg ∧ ∀ v, v < dK D (I 3).toNatClampNeg → A 4 v = A' 16 v ∧ rng (A 4 v)) := by
  rcases h.2.2.2.2.2.2.2.1 with ⟨q1, q2⟩ | ⟨p, hp, q1, q2, q3⟩
  · exact Or.inl ⟨q1, Int32.not_le.mpr q2⟩
  · refine Or.inr ?_
    have := h.np6
    rw [q1, q2, nI_clamp (by omega)]
    exact ⟨nI_nneg (by omega), nI_geq (by omega), rfl, hp, rfl, q3⟩
theorem an_told (h : WR I A D I' A') {w : Int32} : cTold I D w = aTold I' w := by
  obtain ⟨l, h1, h2, h3, h4, h5⟩ := h.2.2.2.2.2.2.2.2.1
  unfold cTold aTold
  rw [h.1.2.1, h.2.1.2.1, h2, h3]
  rw [show nI 0 = (0 : Int32) from rfl]
  rcases h.st with ⟨q1, q2⟩ | ⟨q1, q2, _⟩
  · rw [if_neg q2, show b2 (!decide (I 3 < 0)) = nI 0 by simp [q1]; rfl]
    rfl
  · rw [if_pos q2, show b2 (!decide (I 3 < 0)) = nI 1 by simp [q1]; rfl]
theorem WR.ac (h : WR I A D I' A') {a : Nat} (ha : a < dNa D) : WAc D A' a ∧ dFr D a < dNp D ∧ dTo D a < dNp D := by
  have h1 := h.2.2.2.2.2.1 a ha
  have h2 := h.2.1.2.2 a ha
  refine ⟨h1, ?_, ?_⟩
  · rw [h1.1]; exact h2.2.1
  · rw [h1.2.1]; exact h2.2.2.2
theorem WR.na10 (h : WR I A D I' A') : dNa D ≤ 10 := h.2.1.1
theorem an_made (h : WR I A D I' A') {k v c : Int32} : cMade D k v c = aMade A' (dNa D) k v c := by
  unfold cMade aMade noMd
  by_cases e : ix (dNa D) k = true
  · have ha := (ix_lt e (by have := h.na10; omega)).1
    obtain ⟨⟨w1, w2, w3⟩, w4, w5⟩ := h.ac ha
    have hk4 := (h.k4 w5).1
    rw [e, Bool.true_and, Bool.true_and, ← w2, ← (h.pt w5).1]
    by_cases e2 : ix (dK D (dTo D k.toNatClampNeg)) v = true
    · rw [if_pos e2, e2, if_neg (show ¬ (!true) = true by decide)]
      by_cases e3 : ix 5 c = true
      · rw [if_pos e3, if_pos e3]
        exact (w3 _ (by have := (ix_lt e2 (by omega)).1; omega) _ (ix_lt e3 (by omega)).1).1
      · rw [if_neg e3, if_neg e3]
    · have e2' : ix (dK D (dTo D k.toNatClampNeg)) v = false := by simpa using e2
      rw [if_neg e2, e2', if_pos (show (!false) = true by decide)]
  · have e' : ix (dNa D) k = false := by simpa using e
    rw [e']
    simp
theorem cls_gl (h : WR I A D I' A') (hp : p < dNp D) {s : Nat} (hs : s < 3) {tA : Bool} : cls D p s tA = gl A' p s tA := by
  obtain ⟨w1, w2, w3, w4, w5⟩ := h.pt hp
  have := SL_FRr (w5 s hs)
  unfold cls
  rw [w1] at this ⊢
  exact ls_gl this
theorem an_guesses (h : WR I A D I' A') {x s : Int32} : cGuesses D x s = aGuesses A' (dNp D) x s := by
  unfold cGuesses aGuesses
  by_cases e : (ix (dNp D) x && ix 3 s) = true
  · obtain ⟨e1, e2⟩ := Bool.and_eq_true_iff.mp e
    rw [if_pos e, if_pos e, cls_gl h (ix_lt e1 (by have := h.np6; omega)).1 (ix_lt e2 (by omega)).1]
  · rw [if_neg e, if_neg e]
theorem an_guess (h : WR I A D I' A') {x s k : Int32} : cGuess D x s k = aGuess A' (dNp D) x s k := by
  unfold cGuess aGuess
  by_cases e : (ix (dNp D) x && ix 3 s) = true
  · obtain ⟨e1, e2⟩ := Bool.and_eq_true_iff.mp e
    rw [if_pos e, if_pos e, cls_gl h (ix_lt e1 (by have := h.np6; omega)).1 (ix_lt e2 (by omega)).1]
  · rw [if_neg e, if_neg e]
theorem an_sums (h : WR I A D I' A') {x s : Int32} : cSums D x s = aSums A' (dNp D) x s := by
  unfold cSums aSums
  by_cases e : (ix (dNp D) x && ix 3 s) = true
  · obtain ⟨e1, e2⟩ := Bool.and_eq_true_iff.mp e
    have hp := (ix_lt e1 (by have := h.np6; omega)).1
    have hs := (ix_lt e2 (by omega)).1
    obtain ⟨w1, w2, w3, w4, w5⟩ := h.pt hp
    have hk := (h.k4 hp).1
    have hS := w5 _ hs
    rw [if_pos e, if_pos e, SL_size hk w1.symm hS, SL_n hS]
  · rw [if_neg e, if_neg e]
theorem an_sum (h : WR I A D I' A') {x s k c : Int32} : cSum D x s k c = aSum A' (dNp D) x s k c := by
  unfold cSum aSum
  by_cases e : (ix (dNp D) x && ix 3 s) = true
  · obtain ⟨e1, e2⟩ := Bool.and_eq_true_iff.mp e
    have hp := (ix_lt e1 (by have := h.np6; omega)).1
    have hs := (ix_lt e2 (by omega)).1
    obtain ⟨w1, w2, w3, w4, w5⟩ := h.pt hp
    have hk := (h.k4 hp).1
    have hS := w5 _ hs
    have hl : (fl8 A' x.toNatClampNeg s.toNatClampNeg).length ≤ 5 := by
      rw [← SL_size hk w1.symm hS]
      unfold bzN
      split <;> omega
    rw [if_pos e, e, Bool.true_and, SL_size hk w1.symm hS, w1]
    by_cases e3 : (ix (fl8 A' x.toNatClampNeg s.toNatClampNeg).length k && ix (kA A' x.toNatClampNeg + 1) c) = true
    · rw [if_pos e3, if_pos e3]
      obtain ⟨q1, q2⟩ := Bool.and_eq_true_iff.mp e3
      rw [← w1] at q2
      have := (SL_basis hk w1.symm hS (ix_lt q1 (by omega)).1 (ix_lt q2 (by omega)).1).1
      rw [w1] at this
      exact this
    · rw [if_neg e3, if_neg e3]
  · have e' : (ix (dNp D) x && ix 3 s) = false := by simpa using e
    rw [if_neg e, e']
    simp
theorem an_holds (h : WR I A D I' A') {x s sh i j : Int32} : cHolds D x s sh i j = aHolds A' (dNp D) x s sh i j := by
  unfold cHolds aHolds
  by_cases e : (ix (dNp D) x && ix 3 s) = true
  · obtain ⟨e1, e2⟩ := Bool.and_eq_true_iff.mp e
    have hp := (ix_lt e1 (by have := h.np6; omega)).1
    have hs := (ix_lt e2 (by omega)).1
    obtain ⟨w1, w2, w3, w4, w5⟩ := h.pt hp
    obtain ⟨hk, hk1⟩ := h.k4 hp
    have hS := w5 _ hs
    have hF := SL_FRr hS
    rw [e, Bool.true_and, Bool.true_and, SL_n hS, ← w1]
    generalize dK D x.toNatClampNeg = k at *
    by_cases ei : ix k i = true
    · obtain ⟨i1, i2⟩ := ix_lt ei (by omega)
      rw [ei, Bool.true_and, if_pos rfl]
      have eo : o2B sh = inB sh (nI 5) (nI 8) := rfl
      by_cases ej : (o2B sh && !ix k j) = true
      · obtain ⟨q1, q2⟩ := Bool.and_eq_true_iff.mp ej
        rw [if_pos ej, if_pos (by rw [← eo, q1]; simpa using q2)]
      · have ej2 : ¬ (!inB sh (nI 5) (nI 8) || ix k j) = false := by
          rw [← eo]
          intro q
          apply ej
          revert q
          cases o2B sh <;> cases ix k j <;> simp
        rw [if_neg ej, if_neg ej2]
        have hiff : isG sh i (cOth sh j) = (ix 10 sh && hsB sh i j) := by
          by_cases e10 : ix 10 sh = true
          · obtain ⟨s1, s2⟩ := ix_lt e10 (by omega)
            generalize sh.toNatClampNeg = n at s1 s2
            subst s2
            rw [e10, Bool.true_and, i2]
            unfold cOth
            rw [o2B_nI (by omega)] at ej ⊢
            by_cases et : twB n = true
            · have ejj : ix k j = true := by
                cases q : ix k j
                · exact absurd (by rw [et, q]; rfl) ej
                · rfl
              obtain ⟨j1, j2⟩ := ix_lt ejj (by omega)
              rw [if_pos et, j2, isG_nI s1 (by omega) (by omega), hsB_nI (by omega) (by omega) (by omega), isGN_tw et]
            · have et' : twB n = false := by simpa using et
              rw [if_neg et, isG_nI s1 (by omega) (by omega), (isGN_one et').1]
              unfold hsB
              rw [← show o2B (nI n) = inB (nI n) (nI 5) (nI 8) from rfl, o2B_nI (by omega), et']
              simp
          · have e10' : ix 10 sh = false := by simpa using e10
            rw [e10', Bool.false_and]
            cases q : isG sh i (cOth sh j)
            · rfl
            · obtain ⟨n, n1, n2⟩ := isG_rng q
              rw [n2, ix_nI (by omega), decide_eq_true n1] at e10'
              cases e10'
        rw [hiff]
        by_cases eg : (ix 10 sh && hsB sh i j) = true
        · have eg2 : ¬ (ix 10 sh && hsB sh i j) = false := by rw [eg]; decide
          rw [if_pos eg, if_neg eg2]
          obtain ⟨e10, _⟩ := Bool.and_eq_true_iff.mp eg
          obtain ⟨s1, s2⟩ := ix_lt e10 (by omega)
          by_cases en : (rs A' x.toNatClampNeg s.toNatClampNeg).length = 0
          · rw [if_pos en, if_pos en]
          · rw [if_neg en, if_neg en]
            have hn1 := SL_n hS
            congr 1
            unfold cOth
            have eo2 : o2B sh = twB sh.toNatClampNeg := by
              rw [s2, o2B_nI (by omega), nI_clamp (by omega)]
            by_cases et : twB sh.toNatClampNeg = true
            · have ejj : ix k j = true := by
                cases q : ix k j
                · exact absurd (by rw [eo2, et, q]; rfl) ej
                · rfl
              rw [eo2, if_pos et, ← hn1, stN_so hF i1 (ix_lt ejj (by omega)).1 s1]
              simp [en]
            · have et' : twB sh.toNatClampNeg = false := by simpa using et
              rw [eo2, if_neg et, ← hn1, show (nI 0).toNatClampNeg = 0 from rfl, stN_so hF i1 (by omega) s1, isSoB_j et' s1 (j' := j.toNatClampNeg)]
              simp [en]
        · rw [if_neg eg, if_pos (by simpa using eg)]
    · have ei' : ix k i = false := by simpa using ei
      rw [ei']
      simp
  · have e' : (ix (dNp D) x && ix 3 s) = false := by simpa using e
    rw [e']
    simp
theorem an_number (h : WR I A D I' A') {x s sh i w : Int32} : cNumber D x s sh i w = aNumber A' (dNp D) x s sh i w := by
  unfold cNumber aNumber
  by_cases e : (ix (dNp D) x && ix 3 s) = true
  · obtain ⟨e1, e2⟩ := Bool.and_eq_true_iff.mp e
    have hp := (ix_lt e1 (by have := h.np6; omega)).1
    have hs := (ix_lt e2 (by omega)).1
    obtain ⟨w1, w2, w3, w4, w5⟩ := h.pt hp
    obtain ⟨hk, hk1⟩ := h.k4 hp
    have hS := w5 _ hs
    have hF := SL_FRr hS
    rw [e, Bool.true_and, Bool.true_and, ← w1]
    generalize dK D x.toNatClampNeg = k at *
    by_cases ei : (ix k i && ix 5 sh) = true
    · obtain ⟨q1, q2⟩ := Bool.and_eq_true_iff.mp ei
      obtain ⟨i1, i2⟩ := ix_lt q1 (by omega)
      obtain ⟨s1, s2⟩ := ix_lt q2 (by omega)
      rw [if_pos ei, stN_so hF i1 (by omega) (by omega), q1, q2, Bool.true_and, Bool.true_and]
      by_cases en : (!decide ((rs A' x.toNatClampNeg s.toNatClampNeg).length = 0) && isSoB A' x.toNatClampNeg s.toNatClampNeg sh.toNatClampNeg i.toNatClampNeg 0) = true
      · obtain ⟨n1, n2⟩ := Bool.and_eq_true_iff.mp en
        rw [if_pos en, en, Bool.and_true]
        exact nb_num hF (by simpa using n1) i1 s1 n2
      · have en' := Bool.eq_false_iff.mpr en
        rw [if_neg en, en', Bool.and_false]
        rfl
    · have ei' := Bool.eq_false_iff.mpr ei
      rw [if_neg ei]
      rw [if_neg]
      intro q
      apply ei
      revert q
      cases ix k i <;> cases ix 5 sh <;> simp
  · have e' : (ix (dNp D) x && ix 3 s) = false := by simpa using e
    rw [e']
    simp
end W2
