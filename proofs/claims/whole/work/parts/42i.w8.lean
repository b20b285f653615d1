/-! BOTH SIDES: a reading -/
section W8
variable {I I' I1 I1' : Nat → Int32} {A A' A1 A1' A2 : Nat → Nat → Int32} {D D1 : DS} {p : Nat} {x vs : Nat → Int32}
/-- the reference, with a reading more at p -/
def RdA (A' A2 : Nat → Nat → Int32) (p : Nat) (vs : Nat → Int32) : Prop := A2 1 = A' 1 ∧ A2 3 = A' 3 ∧ A2 4 = A' 4 ∧ A2 5 = A' 5 ∧ (∀ j, A2 2 j = if j = p then nI (nA A' p + 1) else A' 2 j) ∧ ∀ q r u, r < 40 → u < 4 → xA A2 q r u = if q = p ∧ r = nA A' p then vs u else xA A' q r u
theorem RdA_rw {a b c d : Int32} (hn : nA A' p < 40) : RdA A' (rwA A' p a b c d) p (fun u => if u = 0 then a else if u = 1 then b else if u = 2 then c else d) := by
  refine ⟨?_, ?_, ?_, ?_, fun j => ?_, fun q r u hr hu => ?_⟩
  · unfold rwA; rw [up2_ne (by decide), up2_ne (by decide), up2_ne (by decide), up2_ne (by decide), up2_ne (by decide)]
  · unfold rwA; rw [up2_ne (by decide), up2_ne (by decide), up2_ne (by decide), up2_ne (by decide), up2_ne (by decide)]
  · unfold rwA; rw [up2_ne (by decide), up2_ne (by decide), up2_ne (by decide), up2_ne (by decide), up2_ne (by decide)]
  · unfold rwA; rw [up2_ne (by decide), up2_ne (by decide), up2_ne (by decide), up2_ne (by decide), up2_ne (by decide)]
  · unfold rwA; rw [up2_row]; dsimp only; rw [up2_ne (by decide), up2_ne (by decide), up2_ne (by decide), up2_ne (by decide)]
  · unfold xA rwA
    rw [up2_ne (by decide)]
    simp only [up2, true_and]
    by_cases e : q = p ∧ r = nA A' p
    · obtain ⟨e1, e2⟩ := e
      subst e1
      subst e2
      rcases (show u = 0 ∨ u = 1 ∨ u = 2 ∨ u = 3 by omega) with w | w | w | w <;> subst w <;> simp
    · rw [if_neg e]
      have hne : ∀ i, i < 4 → ¬ 160 * q + 4 * r + u = 160 * p + 4 * nA A' p + i := by
        intro i hi w
        apply e
        omega
      rw [if_neg (hne 3 (by omega)), if_neg (hne 2 (by omega)), if_neg (hne 1 (by omega)), if_neg (show ¬ 160 * q + 4 * r + u = 160 * p + 4 * nA A' p from hne 0 (by omega))]
theorem RdA_ag (h : RdA A' A2 p vs) (ha : ag A2 A1') : RdA A' A1' p vs := by
  obtain ⟨h1, h2, h3, h4, h5, h6⟩ := h
  obtain ⟨a1, a2, a3, a4, a5, a6⟩ := ha
  refine ⟨by rw [a1, h1], by rw [a3, h2], by rw [a4, h3], by rw [a5, h4], fun j => by rw [a2]; exact h5 j, fun q r u hr hu => ?_⟩
  rw [← h6 q r u hr hu]
  unfold xA
  rw [a6]
theorem RdA_pAg (h : RdA A' A2 p vs) {q : Nat} (hq : q ≠ p) : pAg A' A2 q := by
  obtain ⟨h1, h2, h3, h4, h5, h6⟩ := h
  refine ⟨by rw [h1], by rw [h5, if_neg hq], by rw [h2], by rw [h3], by rw [h4], fun z z1 z2 => ?_⟩
  have := h6 q ((z - 160 * q) / 4) ((z - 160 * q) % 4) (by omega) (by omega)
  rw [if_neg (fun w => hq w.1)] at this
  unfold xA at this
  rw [show 160 * q + 4 * ((z - 160 * q) / 4) + (z - 160 * q) % 4 = z by omega] at this
  exact this
theorem RdA_n (h : RdA A' A2 p vs) (hn : nA A' p < 40) : nA A2 p = nA A' p + 1 ∧ kA A2 p = kA A' p := by
  obtain ⟨h1, h2, h3, h4, h5, h6⟩ := h
  unfold nA kA
  rw [h1, h5, if_pos rfl, nI_clamp (by have : (A' 2 p).toNatClampNeg < 40 := hn; unfold nA; omega)]
  exact ⟨rfl, rfl⟩
theorem RdA_of (h : RdA A' A2 p vs) (hM : MP A' p) {t r : Nat} (hr : r < nA A' p) : ofA A2 p t r = ofA A' p t r := by
  obtain ⟨h1, h2, h3, h4, h5, h6⟩ := h
  have := hM.2.2.2.1
  unfold ofA
  rw [h2, h3, h4]
  rcases hM.2.2.2.2.1 with q | q
  · rw [q]; simp
  · have hv := (hM.2.2.2.2.2 q).2
    rw [h6 p r _ (by omega) (by have := hM.2.1; omega), if_neg (by omega)]
theorem RdA_rs (h : RdA A' A2 p vs) (hM : MP A' p) (hn : nA A' p < 40) {t : Nat} : rs A2 p t = rs A' p t ++ (if ofA A2 p t (nA A' p) = true then [nA A' p] else []) := by
  unfold rs rsF
  rw [(RdA_n h hn).1, Nat.sub_zero, Nat.sub_zero, List.range'_concat, List.filter_append]
  congr 1
  · exact List.filter_congr (fun r hr => RdA_of h hM (by have := List.mem_range'_1.mp hr; omega))
  · simp only [Nat.one_mul, Nat.zero_add]
    by_cases e : ofA A2 p t (nA A' p) = true
    · rw [if_pos e, List.filter_cons_of_pos e]; rfl
    · rw [if_neg e, List.filter_cons_of_neg e]; rfl
theorem RdA_sd (h : WR I A D I' A') (hp : p < dNp D) (hR : RdA A' A2 p vs) (hn : nA A' p < 40) (hx : ∀ u, u < dK D p → x u = vs u) {t : Nat} (ht : t < 3) : ofA A2 p t (nA A' p) = decide (t = 0 ∨ t = sdO (dK D p) (dP D p).2.1 (dP D p).2.2.1 x) := by
  obtain ⟨w1, w2, w3, w4, w5⟩ := h.pt hp
  obtain ⟨hk4, hk1⟩ := h.k4 hp
  obtain ⟨h1, h2, h3, h4, h5, h6⟩ := hR
  by_cases e : t = 0
  · subst e
    rw [ofA_0]
    simp
  · rcases w4 with ⟨q1, q2⟩ | ⟨q1, q2, q3, q4⟩
    · unfold ofA sdO
      rw [h2, q1, q2]
      simp [e]
    · obtain ⟨v1, v2⟩ := ix_lt q4 (by omega)
      rw [← sd_of (A' := A2) (p := p) (k := dK D p) (v := (A' 4 p).toNatClampNeg) (s := t) (r := nA A' p) (sv := (dP D p).2.1) (sb := (dP D p).2.2.1) (x := x) (by rw [q2]; exact q4) (by rw [q2]) (by rw [h2]; exact q1) (by rw [h3]) (by rw [h4, q3]) (by
        rw [h6 p _ _ hn (by omega), if_pos ⟨rfl, rfl⟩]
        exact hx _ v1) (by omega)]
      rw [Bool.eq_iff_iff, decide_eq_true_eq, decide_eq_true_eq]
      omega
theorem eqL_app {k : Nat} {y z : Nat → Int32} (hyz : ∀ i, i < k → y i = z i) : ∀ l m, eqL k l m → eqL k (l ++ [y]) (m ++ [z])
  | [], [], _ => ⟨hyz, trivial⟩
  | [], _ :: _, h => absurd h (by simp [eqL])
  | _ :: _, [], h => absurd h (by simp [eqL])
  | _ :: l, _ :: m, h => ⟨h.1, eqL_app hyz l m h.2⟩
/-- each side, with the reading -/
theorem RdA_SL (h : WR I A D I' A') (hp : p < dNp D) (hR : RdA A' A2 p vs) (hn : nA A' p < 40) (hx : ∀ u, u < dK D p → x u = vs u ∧ rng (x u)) {t : Nat} (ht : t < 3) : SL (dK D p) (rl A2 p t) (trS D p x 3 t) := by
  obtain ⟨w1, w2, w3, w4, w5⟩ := h.pt hp
  obtain ⟨hk4, hk1⟩ := h.k4 hp
  have hM := h.1.2.2.1 p (by have := h.np6; omega)
  have hsd := RdA_sd h hp hR hn (fun u hu => (hx u hu).1) ht
  have hbase : eqL (dK D p) (rl A' p t) ((rs A' p t).map (fun r => xA A2 p r)) := eqL_map _ (fun r hr i hi => by
    have := rs_lt hr
    rw [hR.2.2.2.2.2 p r i (by omega) (by omega), if_neg (by omega)])
  unfold rl
  rw [RdA_rs hR hM hn, hsd]
  unfold trS
  by_cases e : t = 0 ∨ t = sdO (dK D p) (dP D p).2.1 (dP D p).2.2.1 x
  · rw [if_pos (show t < 3 ∧ (t = 0 ∨ t = sdO (dK D p) (dP D p).2.1 (dP D p).2.2.1 x) from ⟨ht, e⟩), if_pos (decide_eq_true e), List.map_append]
    refine SL_cg (SL_add hk4 (fun i hi => (hx i hi).2) (w5 t ht)) ?_
    refine eqL_app (fun i hi => ?_) _ _ hbase
    show x i = xA A2 p (nA A' p) i
    rw [hR.2.2.2.2.2 p _ i hn (by omega), if_pos ⟨rfl, rfl⟩]
    exact (hx i hi).1
  · have e' : ¬ decide (t = 0 ∨ t = sdO (dK D p) (dP D p).2.1 (dP D p).2.2.1 x) = true := by rw [decide_eq_false e]; decide
    rw [if_neg (show ¬ (t < 3 ∧ (t = 0 ∨ t = sdO (dK D p) (dP D p).2.1 (dP D p).2.2.1 x)) from fun q => e q.2), if_neg e', List.append_nil]
    exact SL_cg (w5 t ht) hbase
/-- which guesses a reading breaks -/
theorem dc_dl (h : WR I A D I' A') (hp : p < dNp D) {a b c d : Int32} (hn : nA A' p < 40) (hx : ∀ u, u < dK D p → x u = (if u = 0 then a else if u = 1 then b else if u = 2 then c else d) ∧ rng (x u)) : dcL D p x 3 = dl A' p a b c d := by
  obtain ⟨w1, w2, w3, w4, w5⟩ := h.pt hp
  obtain ⟨hk4, hk1⟩ := h.k4 hp
  have hR := RdA_rw (A' := A') (p := p) (a := a) (b := b) (c := c) (d := d) hn
  have hM := h.1.2.2.1 p (by have := h.np6; omega)
  unfold dl
  generalize rwA A' p a b c d = A2 at hR ⊢
  have hside : ∀ t, t < 3 → (if (t = 0 ∨ t = sdO (dK D p) (dP D p).2.1 (dP D p).2.2.1 x) then dcS D p x t else []) = dlF A2 p (hdS A' p t) := by
    intro t ht
    have hSL := RdA_SL h hp hR hn hx ht
    have hsd := RdA_sd h hp hR hn (fun u hu => (hx u hu).1) ht
    have hF2 := SL_FRr hSL
    have hF1 := SL_FRr (w5 t ht)
    have hform : dlF A2 p (hdS A' p t) = ((cls D p t false).filter (fun c => dyB A2 p (t, c))).map (fun c => 1000 * t + c) := by
      unfold dlF hdS
      rw [cls_gl h hp ht, List.filter_map, List.map_map]
      rfl
    rw [hform]
    by_cases e : t = 0 ∨ t = sdO (dK D p) (dP D p).2.1 (dP D p).2.2.1 x
    · rw [if_pos e]
      unfold dcS ddL
      have eS : trS D p x 3 t = adF (dK D p) (dF D p t) x := by unfold trS; rw [if_pos ⟨ht, e⟩]
      rw [eS] at hF2
      have hne : ¬ (rs A2 p t).length = 0 := by
        rw [RdA_rs hR hM hn, hsd, if_pos (decide_eq_true e)]
        simp
      congr 1
      refine List.filter_congr (fun c hc => ?_)
      obtain ⟨m1, m2, m3, m4, m5⟩ := lsF_mem hk4 hc
      unfold ddB dyB
      rw [stN_so hF2 m3 m4 m2]
      simp [hne]
    · rw [if_neg e]
      have eS : trS D p x 3 t = dF D p t := by unfold trS; rw [if_neg (fun q => e q.2)]
      rw [eS] at hF2
      symm
      rw [List.map_eq_nil_iff, List.filter_eq_nil_iff]
      intro c hc
      obtain ⟨m1, m2, m3, m4, m5⟩ := lsF_mem hk4 hc
      unfold okC at m5
      rw [if_neg (by decide)] at m5
      have m6 := (Bool.and_eq_true_iff.mp m5).2
      dsimp only at m6
      rw [stN_so hF2 m3 m4 m2] at m6
      unfold dyB
      rw [(Bool.and_eq_true_iff.mp m6).2]
      decide
  have hR3 : (List.range 3) = [0, 1, 2] := rfl
  have hdl : dlF A2 p (hdF A' p 0) = dlF A2 p (hdS A' p 0) ++ (dlF A2 p (hdS A' p 1) ++ dlF A2 p (hdS A' p 2)) := by
    rw [hdF_step (by omega), hdF_step (by omega), hdF_step (by omega), hdF_end (by omega), List.append_nil]
    unfold dlF
    simp only [List.filter_append, List.map_append]
  unfold dcL
  rw [hdl, ← hside 0 (by omega), ← hside 1 (by omega), ← hside 2 (by omega), hR3]
  generalize sdO (dK D p) (dP D p).2.1 (dP D p).2.2.1 x = S
  by_cases e1 : 1 = S
  · subst e1
    simp [List.filter_cons]
  · by_cases e2 : 2 = S
    · subst e2
      simp [List.filter_cons]
    · simp [List.filter_cons, e1, e2]
end W8
