/-! THE REFERENCE: sides, guesses that hold, their numbers -/
theorem b2n_eq0 {c : Bool} : b2 (!c) = 0 ↔ c = true := by cases c <;> decide
theorem b2n_ne0 {c : Bool} : ¬ b2 (!c) = 0 ↔ c = false := by cases c <;> decide
theorem inB_le {m : Nat} {x : Int32} (h : m < 2 ^ 30) : inB x (nI 0) (nI m) = ix (m + 1) x := by
  have a1 : (¬ x < nI 0) ↔ 0 ≤ x.toInt := by rw [Int32.lt_iff_toInt_lt]; show ¬ x.toInt < 0 ↔ _; omega
  have a2 : (¬ nI m < x) ↔ x.toInt < ((m + 1 : Nat) : Int) := by rw [Int32.lt_iff_toInt_lt, nI_toInt (by omega)]; omega
  unfold inB ix
  rw [decide_eq_decide.mpr a1, decide_eq_decide.mpr a2, Bool.decide_and]
theorem inB_nI {a c x : Nat} (ha : a < 2 ^ 31) (hc : c < 2 ^ 31) (hx : x < 2 ^ 31) : inB (nI x) (nI a) (nI c) = decide (a ≤ x ∧ x ≤ c) := by
  unfold inB
  rw [decide_eq_decide.mpr (show (¬ nI x < nI a) ↔ a ≤ x by rw [nI_ltI hx ha]; omega), decide_eq_decide.mpr (show (¬ nI c < nI x) ↔ x ≤ c by rw [nI_ltI hc hx]; omega), Bool.decide_and]
def twB (sh : Nat) : Bool := decide (5 ≤ sh ∧ sh ≤ 8)
def hsB (sh i j : Int32) : Bool := !inB sh (nI 5) (nI 8) || (if sh = nI 5 ∨ sh = nI 8 then decide (i < j) else !decide (i = j))
def hsN (sh i j : Nat) : Bool := !twB sh || (if sh = 5 ∨ sh = 8 then decide (i < j) else !decide (i = j))
theorem hsB_nI {sh i j : Nat} (h1 : sh < 2 ^ 31) (h2 : i < 2 ^ 31) (h3 : j < 2 ^ 31) : hsB (nI sh) (nI i) (nI j) = hsN sh i j := by
  unfold hsB hsN twB
  simp only [inB_nI (show 5 < 2 ^ 31 by decide) (show 8 < 2 ^ 31 by decide) h1, nI_eq h1 (show 5 < 2 ^ 31 by decide), nI_eq h1 (show 8 < 2 ^ 31 by decide), nI_ltI h2 h3, nI_eq h2 h3]
abbrev tw (A : Nat → Nat → Int32) (p side sh i j : Nat) : Bool := (rs A p side).all (fun r => goesB sh (xA A p r i) (xA A p r j))
def sdB (A : Nat → Nat → Int32) (p side sh i j : Nat) : Bool :=
  if sh = 0 then false else if twB sh = false then isSoB A p side 0 i 0 else if (isSoB A p side 0 i 0 && isSoB A p side 0 j 0) = true then true
  else if sh = 7 then tw A p side 6 i j || tw A p side 5 i j else decide (sh = 8) && (tw A p side 6 i j || tw A p side 6 j i)
/-- what holds of the reference's points -/
def MM (I : Nat → Int32) (A : Nat → Nat → Int32) (np : Nat) : Prop := np ≤ 6 ∧ I 0 = nI np ∧ (∀ p, p < 6 → MP A p) ∧ ∀ p, p < np → 1 ≤ kA A p
def aTried (A : Nat → Nat → Int32) (np : Nat) (x s : Int32) : Int32 := if (ix np x && ix 3 s) = true then nI (rs A x.toNatClampNeg s.toNatClampNeg).length else -1
def aVariables (A : Nat → Nat → Int32) (np : Nat) (x : Int32) : Int32 := if ix np x = true then nI (kA A x.toNatClampNeg) else -1
def aReading (A : Nat → Nat → Int32) (np : Nat) (x r v : Int32) : Int32 := if ((ix np x && ix (kA A x.toNatClampNeg) v) && ix (nA A x.toNatClampNeg) r) = true then xA A x.toNatClampNeg r.toNatClampNeg v.toNatClampNeg else -9
def aHolds (A : Nat → Nat → Int32) (np : Nat) (x s sh i j : Int32) : Int32 :=
  if (((ix np x && ix 3 s) && ix (kA A x.toNatClampNeg) i) && (!inB sh (nI 5) (nI 8) || ix (kA A x.toNatClampNeg) j)) = false then -1
  else if (ix 10 sh && hsB sh i j) = false then -2
  else if (rs A x.toNatClampNeg s.toNatClampNeg).length = 0 then -9
  else b2 (isSoB A x.toNatClampNeg s.toNatClampNeg sh.toNatClampNeg i.toNatClampNeg j.toNatClampNeg)
section M5
variable {l : Launch} {d sz b p side r i j m shape np : Nat} {I : Nat → Int32} {L : Int64} {A : Nat → Nat → Int32} {B : Nat → Nat → Int64} {g : Nat → Option aE}
theorem tX8_hasSuch {sh i j : Int32} {h : aH} (hd : 2 ≤ d) : mt l mX8_hasSuch d 0 0 [.int sh, .int i, .int j] h (rI (b2 (hsB sh i j)) h) := by
  refine mt_in (lv := [_, _, _]) (by decide) (Nat.le_of_ble_eq_true rfl) rfl ?_
  refine wp_iload_n (i := 0) (q := 1) dX8_hasSuch_0 rfl rfl rfl ?_
  refine wp_Si (μ' := mX8_isOfTwo) (q := 4) (tX8_isOfTwo (d := d - 1) (by omega)) dX8_hasSuch_1 okX8_isOfTwo lkX8_168 rfl rfl (Nat.le_of_ble_eq_true rfl) (by omega) rfl ?_
  refine wp_if_eq (t := 31) (q := 7) dX8_hasSuch_4 (by decide) rfl (fun h2 => ?_) (fun h2 => ?_)
  · refine wp_iconst (v := nI 1) (q := 32) dX8_hasSuch_31 (by decide) rfl ?_
    refine wp_goto (q := 36) dX8_hasSuch_32 (by decide) ?_
    refine wp_zret dX8_hasSuch_36 rfl (by first | exact Or.inl rfl | exact Or.inr rfl | exact b2_01 _ | assumption) ?_
    exact ⟨by simp [hsB, b2_eq0.mp h2, b2], rfl⟩
  have h2 := b2_ne0.mp h2
  have K : (sh = nI 5 ∨ sh = nI 8) → wp l mX8_hasSuch [] d 0 0 (rI (b2 (hsB sh i j)) h) h 18 [some (.int sh), some (.int i), some (.int j)] [] := by
    intro h5
    refine wp_iload_n (i := 1) (q := 19) dX8_hasSuch_18 rfl rfl rfl ?_
    refine wp_iload_n (i := 2) (q := 20) dX8_hasSuch_19 rfl rfl rfl ?_
    refine wp_icmp_ge (t := 35) (q := 23) dX8_hasSuch_20 (by decide) rfl (fun hc => ?_) (fun hc => ?_)
    · refine wp_iconst (v := nI 0) (q := 36) dX8_hasSuch_35 (by decide) rfl ?_
      refine wp_zret dX8_hasSuch_36 rfl (by first | exact Or.inl rfl | exact Or.inr rfl | exact b2_01 _ | assumption) ?_
      exact ⟨by simp [hsB, h2, h5, Int32.not_lt.mpr hc, b2], rfl⟩
    · refine wp_goto (q := 31) dX8_hasSuch_23 (by decide) ?_
      refine wp_iconst (v := nI 1) (q := 32) dX8_hasSuch_31 (by decide) rfl ?_
      refine wp_goto (q := 36) dX8_hasSuch_32 (by decide) ?_
      refine wp_zret dX8_hasSuch_36 rfl (by first | exact Or.inl rfl | exact Or.inr rfl | exact b2_01 _ | assumption) ?_
      exact ⟨by simp [hsB, h2, h5, Int32.not_le.mp hc, b2], rfl⟩
  refine wp_iload_n (i := 0) (q := 8) dX8_hasSuch_7 rfl rfl rfl ?_
  refine wp_iconst (v := nI 5) (q := 9) dX8_hasSuch_8 (by decide) rfl ?_
  refine wp_icmp_eq (t := 18) (q := 12) dX8_hasSuch_9 (by decide) rfl (fun h5 => ?_) (fun h5 => ?_)
  · exact K (Or.inl h5)
  refine wp_iload_n (i := 0) (q := 13) dX8_hasSuch_12 rfl rfl rfl ?_
  refine wp_bipush (v := nI 8) (q := 15) dX8_hasSuch_13 (by decide) rfl ?_
  refine wp_icmp_ne (t := 26) (q := 18) dX8_hasSuch_15 (by decide) rfl (fun h8 => ?_) (fun h8 => ?_)
  · refine wp_iload_n (i := 1) (q := 27) dX8_hasSuch_26 rfl rfl rfl ?_
    refine wp_iload_n (i := 2) (q := 28) dX8_hasSuch_27 rfl rfl rfl ?_
    refine wp_icmp_eq (t := 35) (q := 31) dX8_hasSuch_28 (by decide) rfl (fun hc => ?_) (fun hc => ?_)
    · refine wp_iconst (v := nI 0) (q := 36) dX8_hasSuch_35 (by decide) rfl ?_
      refine wp_zret dX8_hasSuch_36 rfl (by first | exact Or.inl rfl | exact Or.inr rfl | exact b2_01 _ | assumption) ?_
      exact ⟨by simp [hsB, h2, h5, h8, hc, b2], rfl⟩
    · refine wp_iconst (v := nI 1) (q := 32) dX8_hasSuch_31 (by decide) rfl ?_
      refine wp_goto (q := 36) dX8_hasSuch_32 (by decide) ?_
      refine wp_zret dX8_hasSuch_36 rfl (by first | exact Or.inl rfl | exact Or.inr rfl | exact b2_01 _ | assumption) ?_
      exact ⟨by simp [hsB, h2, h5, h8, hc, b2], rfl⟩
  · exact K (Or.inr h8)
theorem tX8_noSide {x s : Int32} (hd : 2 ≤ d) (hn : np ≤ 6) (h0 : I 0 = nI np) : mt l mX8_noSide d 0 0 [.ref b, .int x, .int s] (sz, mh b I L A B g) (rI (b2 (!(ix np x && ix 3 s))) (sz, mh b I L A B g)) := by
  refine mt_in (lv := [_, _, _]) (by decide) (Nat.le_of_ble_eq_true rfl) rfl ?_
  refine wp_aload_n (i := 0) (q := 1) dX8_noSide_0 rfl rfl rfl ?_
  refine wp_iload_n (i := 1) (q := 2) dX8_noSide_1 rfl rfl rfl ?_
  refine wp_Vi (μ' := mX8_noPoint) (ci := 8) (q := 5) (tX8_noPoint (d := d - 1) (by omega) hn h0) dX8_noSide_2 okX8_noPoint lkX8_119 mh_obj rfl rfl rfl (Nat.le_of_ble_eq_true rfl) (by omega) rfl ?_
  refine wp_if_ne (t := 17) (q := 8) dX8_noSide_5 (by decide) rfl (fun hc => ?_) (fun hc => ?_)
  · refine wp_iconst (v := nI 1) (q := 18) dX8_noSide_17 (by decide) rfl ?_
    refine wp_goto (q := 22) dX8_noSide_18 (by decide) ?_
    refine wp_zret dX8_noSide_22 rfl (by first | exact Or.inl rfl | exact Or.inr rfl | exact b2_01 _ | assumption) ?_
    have hx : ix np x = false := b2n_ne0.mp hc
    exact ⟨by rw [hx]; rfl, rfl⟩
  have hx : ix np x = true := b2n_eq0.mp hc
  refine wp_iload_n (i := 2) (q := 9) dX8_noSide_8 rfl rfl rfl ?_
  refine wp_iconst (v := nI 0) (q := 10) dX8_noSide_9 (by decide) rfl ?_
  refine wp_iconst (v := nI 2) (q := 11) dX8_noSide_10 (by decide) rfl ?_
  refine wp_Si (μ' := mX8_in) (q := 14) (tX8_in (d := d - 1)) dX8_noSide_11 okX8_in lkX8_115 rfl rfl (Nat.le_of_ble_eq_true rfl) (by omega) rfl ?_
  rw [inB_le (by decide), hx, Bool.true_and]
  refine wp_b2ne (q := 17) (t := 21) (y := 22) dX8_noSide_14 dX8_noSide_17 dX8_noSide_18 dX8_noSide_21 (by decide) rfl rfl (by decide) rfl ?_
  refine wp_zret dX8_noSide_22 rfl (by first | exact Or.inl rfl | exact Or.inr rfl | exact b2_01 _ | assumption) ?_
  exact ⟨rfl, rfl⟩
theorem tX8_tried {x s : Int32} (hd : 3 ≤ d) (hM : MM I A np) : mt l mX8_tried d 0 0 [.ref b, .int x, .int s] (sz, mh b I L A B g) (rI (aTried A np x s) (sz, mh b I L A B g)) := by
  obtain ⟨hn, h0, hP, -⟩ := hM
  refine mt_in (lv := [_, _, _]) (by decide) (Nat.le_of_ble_eq_true rfl) rfl ?_
  refine wp_aload_n (i := 0) (q := 1) dX8_tried_0 rfl rfl rfl ?_
  refine wp_iload_n (i := 1) (q := 2) dX8_tried_1 rfl rfl rfl ?_
  refine wp_iload_n (i := 2) (q := 3) dX8_tried_2 rfl rfl rfl ?_
  refine wp_Vi (μ' := mX8_noSide) (ci := 8) (q := 6) (tX8_noSide (d := d - 1) (by omega) hn h0) dX8_tried_3 okX8_noSide lkX8_138 mh_obj rfl rfl rfl (Nat.le_of_ble_eq_true rfl) (by omega) rfl ?_
  unfold aTried
  refine wp_if_eq (t := 13) (q := 9) dX8_tried_6 (by decide) rfl (fun hc => ?_) (fun hc => ?_)
  · have hc : (ix np x && ix 3 s) = true := b2n_eq0.mp hc
    rw [if_pos hc]
    obtain ⟨h1, h2⟩ := Bool.and_eq_true_iff.mp hc
    obtain ⟨p, hp, rfl⟩ := ix_of h1 (by omega)
    obtain ⟨side, hs, rfl⟩ := ix_of h2 (by decide)
    rw [nI_clamp (by omega), nI_clamp (by omega)]
    refine wp_aload_n (i := 0) (q := 14) dX8_tried_13 rfl rfl rfl ?_
    refine wp_iload_n (i := 1) (q := 15) dX8_tried_14 rfl rfl rfl ?_
    refine wp_iload_n (i := 2) (q := 16) dX8_tried_15 rfl rfl rfl ?_
    refine wp_Vi (μ' := mX8_triedOf) (ci := 8) (q := 19) (tX8_triedOf (d := d - 1) (by omega) (by omega) hs (hP p (by omega))) dX8_tried_16 okX8_triedOf lkX8_134 mh_obj rfl rfl rfl (Nat.le_of_ble_eq_true rfl) (by omega) rfl ?_
    refine wp_iret dX8_tried_19 rfl ?_
    exact ⟨rfl, rfl⟩
  · have hc : ¬ (ix np x && ix 3 s) = true := by rw [b2n_ne0.mp hc]; decide
    rw [if_neg hc]
    refine wp_iconst (v := (-1)) (q := 10) dX8_tried_9 (by decide) rfl ?_
    refine wp_goto (q := 19) dX8_tried_10 (by decide) ?_
    refine wp_iret dX8_tried_19 rfl ?_
    exact ⟨rfl, rfl⟩
theorem tX8_variables {x : Int32} (hd : 2 ≤ d) (hM : MM I A np) : mt l mX8_variables d 0 0 [.ref b, .int x] (sz, mh b I L A B g) (rI (aVariables A np x) (sz, mh b I L A B g)) := by
  obtain ⟨hn, h0, hP, -⟩ := hM
  refine mt_in (lv := [_, _]) (by decide) (Nat.le_of_ble_eq_true rfl) rfl ?_
  refine wp_aload_n (i := 0) (q := 1) dX8_variables_0 rfl rfl rfl ?_
  refine wp_iload_n (i := 1) (q := 2) dX8_variables_1 rfl rfl rfl ?_
  refine wp_Vi (μ' := mX8_noPoint) (ci := 8) (q := 5) (tX8_noPoint (d := d - 1) (by omega) hn h0) dX8_variables_2 okX8_noPoint lkX8_119 mh_obj rfl rfl rfl (Nat.le_of_ble_eq_true rfl) (by omega) rfl ?_
  unfold aVariables
  refine wp_if_eq (t := 12) (q := 8) dX8_variables_5 (by decide) rfl (fun hc => ?_) (fun hc => ?_)
  · have hc : ix np x = true := b2n_eq0.mp hc
    rw [if_pos hc]
    obtain ⟨p, hp, rfl⟩ := ix_of hc (by omega)
    rw [nI_clamp (by omega)]
    refine wp_aload_n (i := 0) (q := 13) dX8_variables_12 rfl rfl rfl ?_
    refine wm_getA (k := 1) (o := 1) (q := 16) dX8_variables_13 ffX8_7 rfl rfl rfl ?_ -- size
    refine wp_iload_n (i := 1) (q := 17) dX8_variables_16 rfl rfl rfl ?_
    refine wm_ialdN (q := 18) dX8_variables_17 ⟨by decide, by decide, rfl⟩ rfl (by simp only [mlen]; omega) (by decide) rfl ?_
    rw [(hP p (by omega)).1]
    refine wp_iret dX8_variables_18 rfl ?_
    exact ⟨rfl, rfl⟩
  · have hc : ¬ ix np x = true := by rw [b2n_ne0.mp hc]; decide
    rw [if_neg hc]
    refine wp_iconst (v := (-1)) (q := 9) dX8_variables_8 (by decide) rfl ?_
    refine wp_goto (q := 18) dX8_variables_9 (by decide) ?_
    refine wp_iret dX8_variables_18 rfl ?_
    exact ⟨rfl, rfl⟩
theorem tX8_reading {x r v : Int32} (hd : 3 ≤ d) (hM : MM I A np) : mt l mX8_reading d 0 0 [.ref b, .int x, .int r, .int v] (sz, mh b I L A B g) (rI (aReading A np x r v) (sz, mh b I L A B g)) := by
  obtain ⟨hn, h0, hP, -⟩ := hM
  refine mt_in (lv := [_, _, _, _]) (by decide) (Nat.le_of_ble_eq_true rfl) rfl ?_
  refine wp_aload_n (i := 0) (q := 1) dX8_reading_0 rfl rfl rfl ?_
  refine wp_iload_n (i := 1) (q := 2) dX8_reading_1 rfl rfl rfl ?_
  refine wp_iload_n (i := 3) (q := 3) dX8_reading_2 rfl rfl rfl ?_
  refine wp_Vi (μ' := mX8_noVariable) (ci := 8) (q := 6) (tX8_noVariable (d := d - 1) (by omega) hn h0 hP) dX8_reading_3 okX8_noVariable lkX8_130 mh_obj rfl rfl rfl (Nat.le_of_ble_eq_true rfl) (by omega) rfl ?_
  unfold aReading
  refine wp_if_ne (t := 25) (q := 9) dX8_reading_6 (by decide) rfl (fun hc => ?_) (fun hc => ?_)
  · have hc : (ix np x && ix (kA A x.toNatClampNeg) v) = false := b2n_ne0.mp hc
    rw [hc]
    refine wp_bipush (v := (-9)) (q := 27) dX8_reading_25 (by decide) rfl ?_
    refine wp_goto (q := 37) dX8_reading_27 (by decide) ?_
    refine wp_iret dX8_reading_37 rfl ?_
    exact ⟨rfl, rfl⟩
  have hc : (ix np x && ix (kA A x.toNatClampNeg) v) = true := b2n_eq0.mp hc
  rw [hc, Bool.true_and]
  obtain ⟨h1, h2⟩ := Bool.and_eq_true_iff.mp hc
  obtain ⟨p, hp, rfl⟩ := ix_of h1 (by omega)
  obtain ⟨m1, m2, m3, m4, -⟩ := hP p (by omega)
  rw [nI_clamp (by omega)] at h2 ⊢
  obtain ⟨v, hv, rfl⟩ := ix_of h2 (by omega)
  refine wp_iload_n (i := 2) (q := 10) dX8_reading_9 rfl rfl rfl ?_
  refine wp_iconst (v := nI 0) (q := 11) dX8_reading_10 (by decide) rfl ?_
  refine wp_aload_n (i := 0) (q := 12) dX8_reading_11 rfl rfl rfl ?_
  refine wm_getA (k := 2) (o := 2) (q := 15) dX8_reading_12 ffX8_13 rfl rfl rfl ?_ -- many
  refine wp_iload_n (i := 1) (q := 16) dX8_reading_15 rfl rfl rfl ?_
  refine wm_ialdN (q := 17) dX8_reading_16 ⟨by decide, by decide, rfl⟩ rfl (by simp only [mlen]; omega) (by decide) rfl ?_
  refine wp_iconst (v := nI 1) (q := 18) dX8_reading_17 (by decide) rfl ?_
  refine wp_isub (q := 19) dX8_reading_18 rfl ?_
  refine wp_Si (μ' := mX8_in) (q := 22) (tX8_in (d := d - 1)) dX8_reading_19 okX8_in lkX8_115 rfl rfl (Nat.le_of_ble_eq_true rfl) (by omega) rfl ?_
  rw [m3, inB_pt (by omega)]
  refine wp_if_ne (t := 30) (q := 25) dX8_reading_22 (by decide) rfl (fun hr => ?_) (fun hr => ?_)
  · have hr := b2_ne0.mp hr
    rw [hr, if_pos rfl]
    obtain ⟨r, hr, rfl⟩ := ix_of hr (by omega)
    rw [nI_clamp (by omega), nI_clamp (by omega)]
    refine wp_aload_n (i := 0) (q := 31) dX8_reading_30 rfl rfl rfl ?_
    refine wp_iload_n (i := 1) (q := 32) dX8_reading_31 rfl rfl rfl ?_
    refine wp_iload_n (i := 2) (q := 33) dX8_reading_32 rfl rfl rfl ?_
    refine wp_iload_n (i := 3) (q := 34) dX8_reading_33 rfl rfl rfl ?_
    refine wp_Vi (μ' := mX8_at) (ci := 8) (q := 37) (tX8_at (d := d - 1) (by omega) (by omega) (by omega)) dX8_reading_34 okX8_at lkX8_123 mh_obj rfl rfl rfl (Nat.le_of_ble_eq_true rfl) (by omega) rfl ?_
    refine wp_iret dX8_reading_37 rfl ?_
    exact ⟨rfl, rfl⟩
  · rw [b2_eq0.mp hr]
    refine wp_bipush (v := (-9)) (q := 27) dX8_reading_25 (by decide) rfl ?_
    refine wp_goto (q := 37) dX8_reading_27 (by decide) ?_
    refine wp_iret dX8_reading_37 rfl ?_
    exact ⟨rfl, rfl⟩
theorem tX8_holds {x s sh i j : Int32} (hd : 4 ≤ d) (hM : MM I A np) : mt l mX8_holds d 0 0 [.ref b, .int x, .int s, .int sh, .int i, .int j] (sz, mh b I L A B g) (fun rv h' => rv = some (.int (aHolds A np x s sh i j)) ∧ ∃ I' A', h' = (sz, mh b I' L A' B g) ∧ SC [7] [7] I A I' A') := by
  obtain ⟨hn, h0, hP, -⟩ := hM
  have bad : aHolds A np x s sh i j = -1 → wp l mX8_holds [] d 0 0 (fun rv h' => rv = some (.int (aHolds A np x s sh i j)) ∧ ∃ I' A', h' = (sz, mh b I' L A' B g) ∧ SC [7] [7] I A I' A') (sz, mh b I L A B g) 36 [some (.ref b), some (.int x), some (.int s), some (.int sh), some (.int i), some (.int j)] [] := by
    intro e
    rw [e]
    refine wp_iconst (v := (-1)) (q := 37) dX8_holds_36 (by decide) rfl ?_
    refine wp_iret dX8_holds_37 rfl ?_
    exact ⟨rfl, _, _, rfl, SC.rf⟩
  have bad2 : aHolds A np x s sh i j = -2 → wp l mX8_holds [] d 0 0 (fun rv h' => rv = some (.int (aHolds A np x s sh i j)) ∧ ∃ I' A', h' = (sz, mh b I' L A' B g) ∧ SC [7] [7] I A I' A') (sz, mh b I L A B g) 59 [some (.ref b), some (.int x), some (.int s), some (.int sh), some (.int i), some (.int j)] [] := by
    intro e
    rw [e]
    refine wp_bipush (v := (-2)) (q := 61) dX8_holds_59 (by decide) rfl ?_
    refine wp_iret dX8_holds_61 rfl ?_
    exact ⟨rfl, _, _, rfl, SC.rf⟩
  refine mt_in (lv := [_, _, _, _, _, _]) (by decide) (Nat.le_of_ble_eq_true rfl) rfl ?_
  refine wp_aload_n (i := 0) (q := 1) dX8_holds_0 rfl rfl rfl ?_
  refine wp_iload_n (i := 1) (q := 2) dX8_holds_1 rfl rfl rfl ?_
  refine wp_iload_n (i := 2) (q := 3) dX8_holds_2 rfl rfl rfl ?_
  refine wp_Vi (μ' := mX8_noSide) (ci := 8) (q := 6) (tX8_noSide (d := d - 1) (by omega) hn h0) dX8_holds_3 okX8_noSide lkX8_138 mh_obj rfl rfl rfl (Nat.le_of_ble_eq_true rfl) (by omega) rfl ?_
  refine wp_if_ne (t := 36) (q := 9) dX8_holds_6 (by decide) rfl (fun hc => ?_) (fun hc => ?_)
  · exact bad (by have hc : (ix np x && ix 3 s) = false := b2n_ne0.mp hc
                  unfold aHolds; rw [hc]; rfl)
  have hxs : (ix np x && ix 3 s) = true := b2n_eq0.mp hc
  obtain ⟨h1, h2⟩ := Bool.and_eq_true_iff.mp hxs
  refine wp_aload_n (i := 0) (q := 10) dX8_holds_9 rfl rfl rfl ?_
  refine wp_iload_n (i := 1) (q := 11) dX8_holds_10 rfl rfl rfl ?_
  refine wp_iload (q := 13) dX8_holds_11 rfl rfl ?_
  refine wp_Vi (μ' := mX8_noVariable) (ci := 8) (q := 16) (tX8_noVariable (d := d - 1) (by omega) hn h0 hP) dX8_holds_13 okX8_noVariable lkX8_130 mh_obj rfl rfl rfl (Nat.le_of_ble_eq_true rfl) (by omega) rfl ?_
  rw [h1, Bool.true_and]
  refine wp_if_ne (t := 36) (q := 19) dX8_holds_16 (by decide) rfl (fun hc => ?_) (fun hc => ?_)
  · exact bad (by have hc : ix (kA A x.toNatClampNeg) i = false := b2n_ne0.mp hc
                  unfold aHolds; rw [hc, Bool.and_false]; rfl)
  have hi : ix (kA A x.toNatClampNeg) i = true := b2n_eq0.mp hc
  have K : (!inB sh (nI 5) (nI 8) || ix (kA A x.toNatClampNeg) j) = true → wp l mX8_holds [] d 0 0 (fun rv h' => rv = some (.int (aHolds A np x s sh i j)) ∧ ∃ I' A', h' = (sz, mh b I' L A' B g) ∧ SC [7] [7] I A I' A') (sz, mh b I L A B g) 38 [some (.ref b), some (.int x), some (.int s), some (.int sh), some (.int i), some (.int j)] [] := by
    intro hj
    have ha : (((ix np x && ix 3 s) && ix (kA A x.toNatClampNeg) i) && (!inB sh (nI 5) (nI 8) || ix (kA A x.toNatClampNeg) j)) = true := by rw [hxs, hi, hj]; rfl
    refine wp_iload_n (i := 3) (q := 39) dX8_holds_38 rfl rfl rfl ?_
    refine wp_iconst (v := nI 0) (q := 40) dX8_holds_39 (by decide) rfl ?_
    refine wp_bipush (v := nI 9) (q := 42) dX8_holds_40 (by decide) rfl ?_
    refine wp_Si (μ' := mX8_in) (q := 45) (tX8_in (d := d - 1)) dX8_holds_42 okX8_in lkX8_115 rfl rfl (Nat.le_of_ble_eq_true rfl) (by omega) rfl ?_
    rw [inB_le (by decide)]
    refine wp_if_eq (t := 59) (q := 48) dX8_holds_45 (by decide) rfl (fun hc => ?_) (fun hc => ?_)
    · exact bad2 (by unfold aHolds; rw [ha, if_neg (by decide), show ix 10 sh = false from b2_eq0.mp hc]; rfl)
    have hsh := b2_ne0.mp hc
    refine wp_iload_n (i := 3) (q := 49) dX8_holds_48 rfl rfl rfl ?_
    refine wp_iload (q := 51) dX8_holds_49 rfl rfl ?_
    refine wp_iload (q := 53) dX8_holds_51 rfl rfl ?_
    refine wp_Si (μ' := mX8_hasSuch) (q := 56) (tX8_hasSuch (d := d - 1) (by omega)) dX8_holds_53 okX8_hasSuch lkX8_171 rfl rfl (Nat.le_of_ble_eq_true rfl) (by omega) rfl ?_
    refine wp_if_ne (t := 62) (q := 59) dX8_holds_56 (by decide) rfl (fun hc => ?_) (fun hc => ?_)
    · have hhs := b2_ne0.mp hc
      have hA : aHolds A np x s sh i j = if (rs A x.toNatClampNeg s.toNatClampNeg).length = 0 then -9 else b2 (isSoB A x.toNatClampNeg s.toNatClampNeg sh.toNatClampNeg i.toNatClampNeg j.toNatClampNeg) := by
        unfold aHolds
        rw [ha, if_neg (by decide), show ix 10 sh = true from hsh, hhs, if_neg (by decide)]
      rw [hA]
      obtain ⟨p, hp, rfl⟩ := ix_of h1 (by omega)
      obtain ⟨side, hs, rfl⟩ := ix_of h2 (by decide)
      obtain ⟨shape, hsh9, rfl⟩ := ix_of hsh (by decide)
      rw [nI_clamp (by omega)] at hi hj ⊢
      have m2 := (hP p (by omega)).2.1
      obtain ⟨m1, -, m3, m4, -⟩ := hP p (by omega)
      obtain ⟨i, hi, rfl⟩ := ix_of hi (by omega)
      rw [nI_clamp (by omega), nI_clamp (by omega), nI_clamp (by omega)]
      have hj2 : 5 ≤ shape → shape ≤ 8 → j = nI j.toNatClampNeg ∧ j.toNatClampNeg < 4 := by
        intro a1 a2
        rw [inB_nI (by decide) (by decide) (by omega), decide_eq_true ⟨a1, a2⟩] at hj
        obtain ⟨j, hj, rfl⟩ := ix_of (by simpa using hj) (by omega)
        rw [nI_clamp (by omega)]
        exact ⟨rfl, by omega⟩
      have hlen : (rs A p side).length ≤ 40 := by
        have h9 : (rs A p side).length ≤ (List.range' 0 (nA A p - 0)).length := List.length_filter_le _ _
        rw [List.length_range'] at h9
        omega
      refine wp_aload_n (i := 0) (q := 63) dX8_holds_62 rfl rfl rfl ?_
      refine wp_iload_n (i := 1) (q := 64) dX8_holds_63 rfl rfl rfl ?_
      refine wp_iload_n (i := 2) (q := 65) dX8_holds_64 rfl rfl rfl ?_
      refine wp_Vi (μ' := mX8_triedOf) (ci := 8) (q := 68) (tX8_triedOf (d := d - 1) (by omega) (by omega) hs (hP p (by omega))) dX8_holds_65 okX8_triedOf lkX8_134 mh_obj rfl rfl rfl (Nat.le_of_ble_eq_true rfl) (by omega) rfl ?_
      refine wp_if_ne (t := 76) (q := 71) dX8_holds_68 (by decide) rfl (fun ht => ?_) (fun ht => ?_)
      · have ht : ¬ (rs A p side).length = 0 := fun q => ht (by rw [q]; rfl)
        rw [if_neg ht]
        refine wp_aload_n (i := 0) (q := 77) dX8_holds_76 rfl rfl rfl ?_
        refine wp_iload_n (i := 1) (q := 78) dX8_holds_77 rfl rfl rfl ?_
        refine wp_iload_n (i := 2) (q := 79) dX8_holds_78 rfl rfl rfl ?_
        refine wp_iload_n (i := 3) (q := 80) dX8_holds_79 rfl rfl rfl ?_
        refine wp_iload (q := 82) dX8_holds_80 rfl rfl ?_
        refine wp_iload (q := 84) dX8_holds_82 rfl rfl ?_
        refine wp_V (μ' := mX8_isSo) (ci := 8) (q := 87) (tX8_isSo (d := d - 1) (by omega) (by omega) hs (by omega) hj2 (by omega) (hP p (by omega))) dX8_holds_84 okX8_isSo lkX8_174 mh_obj rfl rfl rfl (Nat.le_of_ble_eq_true rfl) (by omega) rfl (fun rv hx hq => ?_)
        obtain ⟨rfl, I', A', rfl, hS⟩ := hq
        refine wp_b2eq (q := 90) (t := 94) (y := 95) dX8_holds_87 dX8_holds_90 dX8_holds_91 dX8_holds_94 (by decide) rfl rfl (by decide) rfl ?_
        refine wp_iret dX8_holds_95 rfl ?_
        exact ⟨rfl, I', A', rfl, hS⟩
      · have ht : (rs A p side).length = 0 := (nI_eq (by omega) (by decide)).mp ht
        rw [if_pos ht]
        refine wp_bipush (v := (-9)) (q := 73) dX8_holds_71 (by decide) rfl ?_
        refine wp_goto (q := 95) dX8_holds_73 (by decide) ?_
        refine wp_iret dX8_holds_95 rfl ?_
        exact ⟨rfl, _, _, rfl, SC.rf⟩
    · exact bad2 (by unfold aHolds; rw [ha, if_neg (by decide), show hsB sh i j = false from b2_eq0.mp hc, Bool.and_false]; rfl)
  refine wp_iload_n (i := 3) (q := 20) dX8_holds_19 rfl rfl rfl ?_
  refine wp_Si (μ' := mX8_isOfTwo) (q := 23) (tX8_isOfTwo (d := d - 1) (by omega)) dX8_holds_20 okX8_isOfTwo lkX8_168 rfl rfl (Nat.le_of_ble_eq_true rfl) (by omega) rfl ?_
  refine wp_if_eq (t := 38) (q := 26) dX8_holds_23 (by decide) rfl (fun h5 => ?_) (fun h5 => ?_)
  · exact K (by rw [b2_eq0.mp h5]; rfl)
  have h5 := b2_ne0.mp h5
  refine wp_aload_n (i := 0) (q := 27) dX8_holds_26 rfl rfl rfl ?_
  refine wp_iload_n (i := 1) (q := 28) dX8_holds_27 rfl rfl rfl ?_
  refine wp_iload (q := 30) dX8_holds_28 rfl rfl ?_
  refine wp_Vi (μ' := mX8_noVariable) (ci := 8) (q := 33) (tX8_noVariable (d := d - 1) (by omega) hn h0 hP) dX8_holds_30 okX8_noVariable lkX8_130 mh_obj rfl rfl rfl (Nat.le_of_ble_eq_true rfl) (by omega) rfl ?_
  rw [h1, Bool.true_and]
  refine wp_if_eq (t := 38) (q := 36) dX8_holds_33 (by decide) rfl (fun hc => ?_) (fun hc => ?_)
  · exact K (by have hc : ix (kA A x.toNatClampNeg) j = true := b2n_eq0.mp hc
                rw [hc, Bool.or_true])
  · exact bad (by have hc : ix (kA A x.toNatClampNeg) j = false := b2n_ne0.mp hc
                  unfold aHolds; rw [h5, hc, Bool.not_true, Bool.or_false, Bool.and_false]; rfl)
end M5
