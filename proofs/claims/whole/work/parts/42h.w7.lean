/-! BOTH SIDES: a split -/
section W7
variable {I I' I1 I1' : Nat → Int32} {A A' A1 A1' : Nat → Nat → Int32} {D D1 : DS} {p : Nat}
theorem WR_pt (h : WR I A D I' A') (hp : p < dNp D) {P1 : PS} (hPt : WPt (dsP D p P1) A1' p) (hMP : MP A1' p) (hK1 : P1.1 ≤ 40 ∧ ∀ s, s < 3 → fOK (dK D p) (P1.2.2.2.2 s) ∧ (P1.2.2.2.2 s).1 ≤ 40) (hag : ∀ q, q ≠ p → q < 6 → pAg A' A1' q) (hk1 : 1 ≤ kA A1' p) (ao : ∀ o, o = 16 ∨ o = 17 ∨ o = 18 ∨ o = 19 ∨ o = 30 ∨ o = 31 → A1' o = A' o) (hI : ∀ o, o = 0 ∨ o = 25 ∨ o = 27 ∨ o = 41 ∨ o = 42 ∨ o = 43 → I1' o = I' o) (hi : ∀ o, o ≠ 0 → I1 o = I o) (h4 : A1 4 = A 4) (h27 : A1 27 = A 27) (h28 : A1 28 = A 28) (hDd : WDd I1 A1 I1' A1') : WR I1 A1 (dsP D p P1) I1' A1' := by
  obtain ⟨hM, hMA, hK, hP, hF, hAc, hZ, hS, hD, hFo⟩ := h
  have hnp := hM.1
  have eP : ∀ q, dP (dsP D p P1) q = if q = p then P1 else dP D q := fun q => rfl
  have hfr : ∀ a, frA A1' a = frA A' a := fun a => by unfold frA; rw [ao 17 (by simp)]
  have hto : ∀ a, toA A1' a = toA A' a := fun a => by unfold toA; rw [ao 18 (by simp)]
  refine ⟨?_, ?_, fun q hq => ?_, fun q hq => ?_, fun q hq h6 => ?_, fun a hl => ?_, fun a hl => ?_, ?_, hDd, ?_⟩
  · refine ⟨hM.1, by rw [hI 0 (by simp)]; exact hM.2.1, fun q hq => ?_, fun q hq => ?_⟩
    · by_cases e : q = p
      · rw [e]; exact hMP
      · exact MP_q (hM.2.2.1 q hq) (hag q e hq)
    · by_cases e : q = p
      · rw [e]; exact hk1
      · have hq' : q < dNp D := hq
        rw [(pAg_k (hag q e (by omega))).1]
        exact hM.2.2.2 q hq
  · refine ⟨hMA.1, by rw [hI 27 (by simp)]; exact hMA.2.1, fun a hl => ?_⟩
    rw [hfr, hto, ao 17 (by simp), ao 18 (by simp)]
    exact hMA.2.2 a hl
  · rw [eP]
    by_cases e : q = p
    · rw [if_pos e, e]; exact hK1
    · rw [if_neg e]; exact hK q hq
  · by_cases e : q = p
    · rw [e]; exact hPt
    · have hq' : q < dNp D := hq
      exact WPt_D (hP q hq) (hM.2.2.1 q (by omega)) rfl (by rw [eP, if_neg e]) (hag q e (by omega))
  · have hq' : dNp D ≤ q := hq
    rw [(hag q (by omega) h6).2.2.1]
    exact hF q hq h6
  · unfold WAc
    rw [hfr, hto, ao 19 (by simp)]
    exact hAc a hl
  · rw [ao 19 (by simp)]
    exact hZ a hl
  · unfold WSt at hS ⊢
    rw [ao 16 (by simp), hi 3 (by decide), hI 25 (by simp), h4]
    exact hS
  · unfold WFo at hFo ⊢
    rw [ao 30 (by simp), ao 31 (by simp), hi 5 (by decide), hi 6 (by decide), hi 7 (by decide), hi 8 (by decide), hI 41 (by simp), hI 42 (by simp), hI 43 (by simp), h27, h28]
    exact hFo
theorem ok_split (h : WR I A D I' A') {x v c : Int32} : okSl D x v c = okSp A' (dNp D) x v c := by
  unfold okSl okSp
  by_cases e : ix (dNp D) x = true
  · rw [(h.pt (ix_lt e (by have := h.np6; omega)).1).1]
    rfl
  · rw [Bool.eq_false_iff.mpr e]
    rfl
theorem sd_of {k v s r : Nat} {sv sb : Int32} {x : Nat → Int32} (hsv : ix k sv = true) (hv : sv.toNatClampNeg = v) (h3 : A' 3 p = 1) (h4 : (A' 4 p).toNatClampNeg = v) (h5 : A' 5 p = sb) (hx : x v = xA A' p r v) (hs : s = 1 ∨ s = 2) : decide (sdO k sv sb x = s) = ofA A' p s r := by
  unfold sdO ofA
  rw [if_pos hsv, hv, h4, h5, hx, h3]
  have e0 : decide (¬ (1 : Int32) = 0) = true := by decide
  rw [e0, Bool.true_and]
  by_cases q : xA A' p r v < sb
  · rw [if_pos q, decide_eq_true q]
    rcases hs with e | e <;> subst e <;> decide
  · rw [if_neg q, decide_eq_false q]
    rcases hs with e | e <;> subst e <;> decide
theorem ofA_0 {r : Nat} : ofA A' p 0 r = true := by unfold ofA; simp
theorem WR_split (h : WR I A D I' A') {x v c : Int32} (hok : okSl D x v c = true) : WR I A (spD D x.toNatClampNeg v.toNatClampNeg c) I' (aSplitA A' (dNp D) x v c) ∧ cSplit D x v c = aSplit A' (dNp D) x v c := by
  have hok2 := hok
  rw [ok_split h] at hok2
  unfold okSl at hok
  obtain ⟨o1, o2⟩ := Bool.and_eq_true_iff.mp hok
  obtain ⟨o3, o4⟩ := Bool.and_eq_true_iff.mp o1
  obtain ⟨hp, hxe⟩ := ix_lt o3 (by have := h.np6; omega)
  obtain ⟨hk4, hk1⟩ := h.k4 hp
  obtain ⟨hv, hve⟩ := ix_lt o4 (by omega)
  have o4' := o4
  have h40 := h.n40 hp
  obtain ⟨w1, w2, w3, w4, w5⟩ := h.pt hp
  have hnp := h.np6
  have hMP := h.1.2.2.1 x.toNatClampNeg (by omega)
  have hKp := h.2.2.1 _ hp
  unfold aSplitA cSplit aSplit
  rw [if_pos hok2, if_pos o1, if_pos o2, ← w1, o1]
  rw [if_neg (by decide), show in30 c = true from o2, if_neg (by decide)]
  generalize x.toNatClampNeg = p at *
  rw [hve] at o4 ⊢
  rw [nI_clamp (by omega)]
  generalize v.toNatClampNeg = vv at *
  generalize hA1 : spA A' p (nI vv) c = A1'
  have a3 : ∀ j, A1' 3 j = if j = p then 1 else A' 3 j := fun j => by rw [← hA1]; simp [spA, up2]; rfl
  have a4 : ∀ j, A1' 4 j = if j = p then nI vv else A' 4 j := fun j => by rw [← hA1]; simp [spA, up2]
  have a5 : ∀ j, A1' 5 j = if j = p then c else A' 5 j := fun j => by rw [← hA1]; simp [spA, up2]
  have ao : ∀ o, o ≠ 3 → o ≠ 4 → o ≠ 5 → A1' o = A' o := fun o q1 q2 q3 => by rw [← hA1]; unfold spA; rw [up2_ne q3, up2_ne q2, up2_ne q1]
  have hxA : ∀ r u, xA A1' p r u = xA A' p r u := fun r u => by unfold xA; rw [ao 6 (by decide) (by decide) (by decide)]
  have hkA : kA A1' p = kA A' p := by unfold kA; rw [ao 1 (by decide) (by decide) (by decide)]
  have hnA : nA A1' p = nA A' p := by unfold nA; rw [ao 2 (by decide) (by decide) (by decide)]
  have h3p : A1' 3 p = 1 := by rw [a3, if_pos rfl]
  have h4p : A1' 4 p = nI vv := by rw [a4, if_pos rfl]
  have h5p : A1' 5 p = c := by rw [a5, if_pos rfl]
  have hrs0 : rs A1' p 0 = rs A' p 0 := by
    unfold rs rsF
    rw [hnA]
    exact List.filter_congr (fun r _ => by rw [ofA_0, ofA_0])
  have hSL : ∀ s, s < 3 → SL (dK D p) (rl A1' p s) (ptS (dK D p) (nI vv) c (dP D p).2.2.2.1 (dP D p).2.2.2.2 (dP D p).1 s) := by
    intro s hs
    by_cases e : s = 0
    · subst e
      have : ptS (dK D p) (nI vv) c (dP D p).2.2.2.1 (dP D p).2.2.2.2 (dP D p).1 0 = dF D p 0 := by unfold ptS; rw [if_neg (by omega)]
      rw [this]
      have e2 : rl A1' p 0 = rl A' p 0 := by
        unfold rl
        rw [hrs0]
        exact List.map_congr_left (fun r _ => funext (fun u => hxA r u))
      rw [e2]
      exact w5 0 (by omega)
    · have : ptS (dK D p) (nI vv) c (dP D p).2.2.2.1 (dP D p).2.2.2.2 (dP D p).1 s = (ptL (dK D p) (nI vv) c (dP D p).2.2.2.1 s (dP D p).1).foldl (adF (dK D p)) (clS ((dP D p).2.2.2.2 s)) := by unfold ptS; rw [if_pos (by omega)]
      rw [this]
      have hfl := SL_fold hk4 (ptL (dK D p) (nI vv) c (dP D p).2.2.2.1 s (dP D p).1) [] (clS ((dP D p).2.2.2.2 s)) (fun y hy i hi => by
        unfold ptL at hy
        obtain ⟨r, hr, e2⟩ := List.mem_map.mp hy
        have hr2 := List.mem_range.mp (List.mem_filter.mp hr).1
        rw [← e2]
        have := w3 r i (by omega) hi
        rw [this.1]
        exact this.2) (SL_nil hk4 rfl rfl)
      rw [List.nil_append] at hfl
      refine SL_cg hfl ?_
      unfold ptL rl
      have hflt : (List.range (dP D p).1).filter (fun r => decide (sdO (dK D p) (nI vv) c ((dP D p).2.2.2.1 r) = s)) = rs A1' p s := by
        unfold rs rsF
        rw [hnA, w2, List.range_eq_range', Nat.sub_zero]
        refine List.filter_congr (fun r hr => ?_)
        have hr2 := List.mem_range'_1.mp hr
        exact sd_of (v := vv) o4 (nI_clamp (by omega)) h3p (by rw [h4p, nI_clamp (by omega)]) h5p (by rw [hxA]; exact (w3 r vv (by omega) hv).1) (by omega)
      rw [hflt]
      refine eqL_map _ (fun r hr i hi => ?_)
      have := rs_lt hr
      rw [hxA]
      exact (w3 r i (by omega) hi).1
  have hPS : ∀ s, s < 3 → fOK (dK D p) (ptS (dK D p) (nI vv) c (dP D p).2.2.2.1 (dP D p).2.2.2.2 (dP D p).1 s) := fun s hs => (ptS_ok (fun s hs => (hKp.2 s hs).1) (by have := (hKp.2 0 (by omega)).2; omega) (by omega) hs).1
  refine ⟨?_, ?_⟩
  · refine WR_pt h hp ?_ ?_ ⟨hKp.1, fun s hs => ⟨hPS s hs, ?_⟩⟩ (fun q hq h6 => ?_) ?_ (fun o ho => ?_) (fun o _ => rfl) (fun o _ => rfl) rfl rfl rfl ?_
    · have eP : dP (spD D p vv c) p = ((dP D p).1, nI vv, c, (dP D p).2.2.2.1, ptS (dK D p) (nI vv) c (dP D p).2.2.2.1 (dP D p).2.2.2.2 (dP D p).1) := if_pos rfl
      refine ⟨by show dK D p = _; rw [hkA]; exact w1, ?_, fun r u hr hu => ?_, ?_, fun s hs => ?_⟩
      · show (dP (spD D p vv c) p).1 = _
        rw [eP, hnA]; exact w2
      · show (dP (spD D p vv c) p).2.2.2.1 r u = _ ∧ _
        rw [eP, hxA]
        rw [hnA] at hr
        exact w3 r u hr hu
      · right
        show A1' 3 p = 1 ∧ (dP (spD D p vv c) p).2.1 = _ ∧ (dP (spD D p vv c) p).2.2.1 = _ ∧ ix (dK D p) (A1' 4 p) = true
        rw [eP, h4p, h5p]
        exact ⟨h3p, rfl, rfl, o4⟩
      · show SL (dK D p) _ ((dP (spD D p vv c) p).2.2.2.2 s)
        rw [eP]
        exact hSL s hs
    · unfold MP
      rw [hkA, hnA, ao 1 (by decide) (by decide) (by decide), ao 2 (by decide) (by decide) (by decide), h4p, nI_clamp (by omega)]
      exact ⟨hMP.1, hMP.2.1, hMP.2.2.1, hMP.2.2.2.1, Or.inr h3p, fun _ => ⟨rfl, by rw [← w1]; exact hv⟩⟩
    · show (ptS (dK D p) (nI vv) c (dP D p).2.2.2.1 (dP D p).2.2.2.2 (dP D p).1 s).1 ≤ 40
      rw [SL_n (hSL s hs)]
      exact rs_len (by rw [hnA]; exact h40)
    · exact ⟨by rw [ao 1 (by decide) (by decide) (by decide)], by rw [ao 2 (by decide) (by decide) (by decide)], by rw [a3, if_neg hq], by rw [a4, if_neg hq], by rw [a5, if_neg hq], fun z _ _ => by rw [ao 6 (by decide) (by decide) (by decide)]⟩
    · rw [hkA, ← w1]; exact hk1
    · exact ao o (by omega) (by omega) (by omega)
    · have := h.2.2.2.2.2.2.2.2.1
      unfold WDd at this ⊢
      rw [ao 11 (by decide) (by decide) (by decide)]
      exact this
  · have eP : dP (spD D p vv c) p = ((dP D p).1, nI vv, c, (dP D p).2.2.2.1, ptS (dK D p) (nI vv) c (dP D p).2.2.2.1 (dP D p).2.2.2.2 (dP D p).1) := if_pos rfl
    show nI ((dP (spD D p vv c) p).2.2.2.2 1).1 = _
    rw [eP]
    show nI (ptS (dK D p) (nI vv) c (dP D p).2.2.2.1 (dP D p).2.2.2.2 (dP D p).1 1).1 = _
    rw [SL_n (hSL 1 (by omega))]
theorem an_split0 (h : WR I A D I' A') {x v c : Int32} (hok : okSl D x v c = false) : cSplit D x v c = aSplit A' (dNp D) x v c ∧ aSplitA A' (dNp D) x v c = A' := by
  have hok2 := hok
  rw [ok_split h] at hok2
  refine ⟨?_, by unfold aSplitA; rw [if_neg (by rw [hok2]; decide)]⟩
  unfold okSl at hok
  unfold okSp at hok2
  unfold cSplit aSplit
  by_cases e : (ix (dNp D) x && ix (dK D x.toNatClampNeg) v) = true
  · have hp := (ix_lt (Bool.and_eq_true_iff.mp e).1 (by have := h.np6; omega)).1
    rw [← (h.pt hp).1, if_pos e, e]
    rw [e, Bool.true_and] at hok
    rw [hok, show in30 c = false from hok]
    rfl
  · rw [if_neg e]
    by_cases e1 : ix (dNp D) x = true
    · have hp := (ix_lt e1 (by have := h.np6; omega)).1
      rw [← (h.pt hp).1, Bool.eq_false_iff.mpr e]
      rfl
    · rw [Bool.eq_false_iff.mpr e1]
      rfl
end W7
