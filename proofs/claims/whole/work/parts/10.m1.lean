/-! THE REFERENCE, small methods -/
theorem mt_in {l : Launch} {μ : Mu} {d kc ks : Nat} {av : List Value} {h : aH} {Q : Option Value → aH → Prop} {lv : List (Option Value)} (hy : plainName μ.1.cls = true) (hn : (lg_sl av).length ≤ μ.2.2.1) (hl : ent av μ.2.2.1 = lv) (k : wp l μ [] d kc ks Q h 0 lv []) : mt l μ d kc ks av h Q := mt_of hy hn (hl ▸ k)
theorem mty_L : ∀ j, mty j = 1 → j = 22 := by
  intro j h
  unfold mty at h
  split at h <;> first | rfl | (exact absurd h (by decide))
/-- x is an index below n -/
def ix (n : Nat) (x : Int32) : Bool := decide (0 ≤ x.toInt ∧ x.toInt < n)
def inB (v lo hi : Int32) : Bool := decide (¬ v < lo) && decide (¬ hi < v)
theorem ix_of {n : Nat} {x : Int32} (h : ix n x = true) (hn : n < 2 ^ 31) : ∃ j : Nat, j < n ∧ x = nI j := vp_in_of (vp_in_iff.mpr (of_decide_eq_true h)) hn
theorem ix_nI {n j : Nat} (hj : j < 2 ^ 31) : ix n (nI j) = decide (j < n) := by
  unfold ix
  rw [nI_toInt hj]
  by_cases h : j < n
  · simp [h]
  · simp [h]
theorem inB_pt {np : Nat} {x : Int32} (h : np < 2 ^ 30) : inB x (nI 0) (nI np - nI 1) = ix np x := by
  have e1 : (nI np - nI 1).toInt = (np : Int) - 1 := pk_sub_toInt (a := np) (b := 1) h (by decide)
  have a1 : (¬ x < nI 0) ↔ 0 ≤ x.toInt := by rw [Int32.lt_iff_toInt_lt]; show ¬ x.toInt < 0 ↔ _; omega
  have a2 : (¬ nI np - nI 1 < x) ↔ x.toInt < (np : Int) := by rw [Int32.lt_iff_toInt_lt, e1]; omega
  unfold inB ix
  rw [decide_eq_decide.mpr a1, decide_eq_decide.mpr a2, Bool.decide_and]
set_option maxRecDepth 20000 in
theorem tX8_in {l : Launch} {d : Nat} {v lo hi : Int32} {h : aH} : mt l mX8_in d 0 0 [.int v, .int lo, .int hi] h (rI (b2 (inB v lo hi)) h) := by
  refine mt_in (lv := [_, _, _]) (by decide) (Nat.le_of_ble_eq_true rfl) rfl ?_
  refine wp_iload_n (i := 0) (q := 1) dX8_in_0 rfl rfl rfl ?_
  refine wp_iload_n (i := 1) (q := 2) dX8_in_1 rfl rfl rfl ?_
  refine wp_icmp_lt (t := 14) (q := 5) dX8_in_2 (by decide) rfl (fun h1 => ?_) (fun h1 => ?_)
  · refine wp_iconst (v := nI 0) (q := 15) dX8_in_14 (by decide) rfl ?_
    refine wp_zret dX8_in_15 rfl (by first | exact Or.inl rfl | exact Or.inr rfl | exact b2_01 _ | assumption) ?_
    exact ⟨by simp [inB, h1, b2], rfl⟩
  refine wp_iload_n (i := 0) (q := 6) dX8_in_5 rfl rfl rfl ?_
  refine wp_iload_n (i := 2) (q := 7) dX8_in_6 rfl rfl rfl ?_
  refine wp_icmp_gt (t := 14) (q := 10) dX8_in_7 (by decide) rfl (fun h2 => ?_) (fun h2 => ?_)
  · refine wp_iconst (v := nI 0) (q := 15) dX8_in_14 (by decide) rfl ?_
    refine wp_zret dX8_in_15 rfl (by first | exact Or.inl rfl | exact Or.inr rfl | exact b2_01 _ | assumption) ?_
    exact ⟨by simp [inB, h2, b2], rfl⟩
  refine wp_iconst (v := nI 1) (q := 11) dX8_in_10 (by decide) rfl ?_
  refine wp_goto (q := 15) dX8_in_11 (by decide) ?_
  refine wp_zret dX8_in_15 rfl (by first | exact Or.inl rfl | exact Or.inr rfl | exact b2_01 _ | assumption) ?_
  exact ⟨by simp [inB, h1, h2, b2], rfl⟩
theorem tX8_noPoint {l : Launch} {d sz b np : Nat} {I : Nat → Int32} {L : Int64} {A : Nat → Nat → Int32} {B : Nat → Nat → Int64} {g : Nat → Option aE} {x : Int32} (hd : 1 ≤ d) (hn : np ≤ 6) (h0 : I 0 = nI np) : mt l mX8_noPoint d 0 0 [.ref b, .int x] (sz, mh b I L A B g) (rI (b2 (!ix np x)) (sz, mh b I L A B g)) := by
  refine mt_in (lv := [_, _]) (by decide) (Nat.le_of_ble_eq_true rfl) rfl ?_
  refine wp_iload_n (i := 1) (q := 1) dX8_noPoint_0 rfl rfl rfl ?_
  refine wp_iconst (v := nI 0) (q := 2) dX8_noPoint_1 (by decide) rfl ?_
  refine wp_aload_n (i := 0) (q := 3) dX8_noPoint_2 rfl rfl rfl ?_
  refine wm_getI (k := 0) (q := 6) dX8_noPoint_3 ffX8_105 rfl rfl ?_ -- points
  refine wp_iconst (v := nI 1) (q := 7) dX8_noPoint_6 (by decide) rfl ?_
  refine wp_isub (q := 8) dX8_noPoint_7 rfl ?_
  refine wp_Si (μ' := mX8_in) (q := 11) (tX8_in (d := d - 1)) dX8_noPoint_8 okX8_in lkX8_115 rfl rfl (Nat.le_of_ble_eq_true rfl) (by omega) rfl ?_
  rw [h0, inB_pt (by omega)]
  refine wp_b2ne (q := 14) (t := 18) (y := 19) dX8_noPoint_11 dX8_noPoint_14 dX8_noPoint_15 dX8_noPoint_18 (by decide) rfl rfl (by decide) rfl ?_
  refine wp_zret dX8_noPoint_19 rfl (by first | exact Or.inl rfl | exact Or.inr rfl | exact b2_01 _ | assumption) ?_
  exact ⟨rfl, rfl⟩
theorem nI_idx {p r v : Nat} : nI 160 * nI p + nI 4 * nI r + nI v = nI (160 * p + 4 * r + v) := by
  rw [pk_mul, pk_mul, nI_add, nI_add]
def xA (A : Nat → Nat → Int32) (p r v : Nat) : Int32 := A 6 (160 * p + 4 * r + v)
theorem tX8_at {l : Launch} {d sz b p r v : Nat} {I : Nat → Int32} {L : Int64} {A : Nat → Nat → Int32} {B : Nat → Nat → Int64} {g : Nat → Option aE} (hp : p < 6) (hr : r < 40) (hv : v < 4) : mt l mX8_at d 0 0 [.ref b, .int (nI p), .int (nI r), .int (nI v)] (sz, mh b I L A B g) (rI (xA A p r v) (sz, mh b I L A B g)) := by
  refine mt_in (lv := [_, _, _, _]) (by decide) (Nat.le_of_ble_eq_true rfl) rfl ?_
  refine wp_aload_n (i := 0) (q := 1) dX8_at_0 rfl rfl rfl ?_
  refine wm_getA (k := 6) (o := 6) (q := 4) dX8_at_1 ffX8_26 rfl rfl rfl ?_ -- numbers
  refine wp_sipush (v := nI 160) (q := 7) dX8_at_4 (by decide) rfl ?_
  refine wp_iload_n (i := 1) (q := 8) dX8_at_7 rfl rfl rfl ?_
  refine wp_imul (q := 9) dX8_at_8 rfl ?_
  refine wp_iconst (v := nI 4) (q := 10) dX8_at_9 (by decide) rfl ?_
  refine wp_iload_n (i := 2) (q := 11) dX8_at_10 rfl rfl rfl ?_
  refine wp_imul (q := 12) dX8_at_11 rfl ?_
  refine wp_iadd (q := 13) dX8_at_12 rfl ?_
  refine wp_iload_n (i := 3) (q := 14) dX8_at_13 rfl rfl rfl ?_
  refine wp_iadd (q := 15) dX8_at_14 rfl ?_
  rw [nI_idx]
  refine wm_ialdN (q := 16) dX8_at_15 ⟨by decide, by decide, rfl⟩ rfl (by simp only [mlen]; omega) (by decide) rfl ?_
  refine wp_iret dX8_at_16 rfl ?_
  exact ⟨rfl, rfl⟩

/-! the reference's state: sizes, counts, readings, sides -/
def kA (A : Nat → Nat → Int32) (p : Nat) : Nat := (A 1 p).toNatClampNeg
def nA (A : Nat → Nat → Int32) (p : Nat) : Nat := (A 2 p).toNatClampNeg
def ofA (A : Nat → Nat → Int32) (p side r : Nat) : Bool := decide (side = 0) || (decide (¬ A 3 p = 0) && ((!decide (xA A p r (A 4 p).toNatClampNeg < A 5 p)) == decide (side = 1)))
/-- the readings of a side, from r on -/
def rsF (A : Nat → Nat → Int32) (p side r : Nat) : List Nat := (List.range' r (nA A p - r)).filter (ofA A p side)
abbrev rs (A : Nat → Nat → Int32) (p side : Nat) : List Nat := rsF A p side 0
theorem rsF_end {A : Nat → Nat → Int32} {p side r : Nat} (h : nA A p ≤ r) : rsF A p side r = [] := by
  unfold rsF
  rw [show nA A p - r = 0 by omega]
  rfl
theorem rsF_step {A : Nat → Nat → Int32} {p side r : Nat} (h : r < nA A p) : rsF A p side r = if ofA A p side r = true then r :: rsF A p side (r + 1) else rsF A p side (r + 1) := by
  unfold rsF
  rw [show nA A p - r = (nA A p - (r + 1)) + 1 by omega, List.range'_succ, List.filter_cons]
theorem rsF_lt {A : Nat → Nat → Int32} {p side r i : Nat} (h : i ∈ rsF A p side r) : i < nA A p ∧ r ≤ i ∧ ofA A p side i = true := by
  obtain ⟨h1, h2⟩ := List.mem_filter.mp h
  obtain ⟨h3, h4⟩ := List.mem_range'_1.mp h1
  exact ⟨by omega, h3, h2⟩
/-- what holds of the reference's points at any time -/
def MP (A : Nat → Nat → Int32) (p : Nat) : Prop := A 1 p = nI (kA A p) ∧ kA A p ≤ 4 ∧ A 2 p = nI (nA A p) ∧ nA A p ≤ 40 ∧ (A 3 p = 0 ∨ A 3 p = 1) ∧ (A 3 p = 1 → A 4 p = nI (A 4 p).toNatClampNeg ∧ (A 4 p).toNatClampNeg < kA A p)
section M1
variable {l : Launch} {d sz b p side r i j : Nat} {I : Nat → Int32} {L : Int64} {A : Nat → Nat → Int32} {B : Nat → Nat → Int64} {g : Nat → Option aE}
theorem tX8_noVariable {np : Nat} {x v : Int32} (hd : 2 ≤ d) (hn : np ≤ 6) (h0 : I 0 = nI np) (hM : ∀ p, p < 6 → MP A p) : mt l mX8_noVariable d 0 0 [.ref b, .int x, .int v] (sz, mh b I L A B g) (rI (b2 (!(ix np x && ix (kA A x.toNatClampNeg) v))) (sz, mh b I L A B g)) := by
  refine mt_in (lv := [_, _, _]) (by decide) (Nat.le_of_ble_eq_true rfl) rfl ?_
  refine wp_aload_n (i := 0) (q := 1) dX8_noVariable_0 rfl rfl rfl ?_
  refine wp_iload_n (i := 1) (q := 2) dX8_noVariable_1 rfl rfl rfl ?_
  refine wp_Vi (μ' := mX8_noPoint) (ci := 8) (q := 5) (tX8_noPoint (d := d - 1) (by omega) hn h0) dX8_noVariable_2 okX8_noPoint lkX8_119 mh_obj rfl rfl rfl (Nat.le_of_ble_eq_true rfl) (by omega) rfl ?_
  refine wp_if_ne (t := 24) (q := 8) dX8_noVariable_5 (by decide) rfl (fun hc => ?_) (fun hc => ?_)
  · refine wp_iconst (v := nI 1) (q := 25) dX8_noVariable_24 (by decide) rfl ?_
    refine wp_goto (q := 29) dX8_noVariable_25 (by decide) ?_
    refine wp_zret dX8_noVariable_29 rfl (by first | exact Or.inl rfl | exact Or.inr rfl | exact b2_01 _ | assumption) ?_
    have hx : ix np x = false := by simpa using b2_ne0.mp hc
    exact ⟨by rw [hx]; rfl, rfl⟩
  have hx : ix np x = true := by simpa using b2_eq0.mp hc
  obtain ⟨p, hp, rfl⟩ := ix_of hx (by omega)
  obtain ⟨m1, m2, -⟩ := hM p (by omega)
  rw [hx, nI_clamp (by omega)]
  refine wp_iload_n (i := 2) (q := 9) dX8_noVariable_8 rfl rfl rfl ?_
  refine wp_iconst (v := nI 0) (q := 10) dX8_noVariable_9 (by decide) rfl ?_
  refine wp_aload_n (i := 0) (q := 11) dX8_noVariable_10 rfl rfl rfl ?_
  refine wm_getA (k := 1) (o := 1) (q := 14) dX8_noVariable_11 ffX8_7 rfl rfl rfl ?_ -- size
  refine wp_iload_n (i := 1) (q := 15) dX8_noVariable_14 rfl rfl rfl ?_
  refine wm_ialdN (q := 16) dX8_noVariable_15 ⟨by decide, by decide, rfl⟩ rfl (by simp only [mlen]; omega) (by decide) rfl ?_
  refine wp_iconst (v := nI 1) (q := 17) dX8_noVariable_16 (by decide) rfl ?_
  refine wp_isub (q := 18) dX8_noVariable_17 rfl ?_
  refine wp_Si (μ' := mX8_in) (q := 21) (tX8_in (d := d - 1)) dX8_noVariable_18 okX8_in lkX8_115 rfl rfl (Nat.le_of_ble_eq_true rfl) (by omega) rfl ?_
  rw [m1, inB_pt (by omega)]
  refine wp_if_ne (t := 28) (q := 24) dX8_noVariable_21 (by decide) rfl (fun hc2 => ?_) (fun hc2 => ?_)
  · refine wp_iconst (v := nI 0) (q := 29) dX8_noVariable_28 (by decide) rfl ?_
    refine wp_zret dX8_noVariable_29 rfl (by first | exact Or.inl rfl | exact Or.inr rfl | exact b2_01 _ | assumption) ?_
    exact ⟨by rw [b2_ne0.mp hc2]; rfl, rfl⟩
  refine wp_iconst (v := nI 1) (q := 25) dX8_noVariable_24 (by decide) rfl ?_
  refine wp_goto (q := 29) dX8_noVariable_25 (by decide) ?_
  refine wp_zret dX8_noVariable_29 rfl (by first | exact Or.inl rfl | exact Or.inr rfl | exact b2_01 _ | assumption) ?_
  exact ⟨by rw [b2_eq0.mp hc2]; rfl, rfl⟩
theorem tX8_isOf (hd : 1 ≤ d) (hp : p < 6) (hr : r < 40) (hs : side < 3) (hM : MP A p) : mt l mX8_isOf d 0 0 [.ref b, .int (nI p), .int (nI side), .int (nI r)] (sz, mh b I L A B g) (rI (b2 (ofA A p side r)) (sz, mh b I L A B g)) := by
  obtain ⟨m1, m2, m3, m4, m5, m6⟩ := hM
  refine mt_in (lv := [_, _, _, _]) (by decide) (Nat.le_of_ble_eq_true rfl) rfl ?_
  refine wp_iload_n (i := 2) (q := 1) dX8_isOf_0 rfl rfl rfl ?_
  refine wp_if_eq (t := 52) (q := 4) dX8_isOf_1 (by decide) rfl (fun hc => ?_) (fun hc => ?_)
  · have h0 : side = 0 := (nI_eq (by omega) (by decide)).mp hc
    refine wp_iconst (v := nI 1) (q := 53) dX8_isOf_52 (by decide) rfl ?_
    refine wp_goto (q := 57) dX8_isOf_53 (by decide) ?_
    refine wp_zret dX8_isOf_57 rfl (by first | exact Or.inl rfl | exact Or.inr rfl | exact b2_01 _ | assumption) ?_
    exact ⟨by simp [ofA, h0, b2], rfl⟩
  have h0 : ¬ side = 0 := fun e => hc (by rw [e]; rfl)
  refine wp_aload_n (i := 0) (q := 5) dX8_isOf_4 rfl rfl rfl ?_
  refine wm_getA (k := 3) (o := 3) (q := 8) dX8_isOf_5 ffX8_16 rfl rfl rfl ?_ -- isSplit
  refine wp_iload_n (i := 1) (q := 9) dX8_isOf_8 rfl rfl rfl ?_
  refine wm_zaldN (q := 10) dX8_isOf_9 ⟨by decide, by decide, rfl⟩ rfl (by simp only [mlen]; omega) (by decide) rfl ?_
  refine wp_if_eq (t := 56) (q := 13) dX8_isOf_10 (by decide) rfl (fun hs => ?_) (fun hs => ?_)
  · refine wp_iconst (v := nI 0) (q := 57) dX8_isOf_56 (by decide) rfl ?_
    refine wp_zret dX8_isOf_57 rfl (by first | exact Or.inl rfl | exact Or.inr rfl | exact b2_01 _ | assumption) ?_
    exact ⟨by simp [ofA, h0, hs, b2], rfl⟩
  obtain ⟨m7, m8⟩ := m6 (m5.resolve_left hs)
  refine wp_aload_n (i := 0) (q := 14) dX8_isOf_13 rfl rfl rfl ?_
  refine wp_iload_n (i := 1) (q := 15) dX8_isOf_14 rfl rfl rfl ?_
  refine wp_iload_n (i := 3) (q := 16) dX8_isOf_15 rfl rfl rfl ?_
  refine wp_aload_n (i := 0) (q := 17) dX8_isOf_16 rfl rfl rfl ?_
  refine wm_getA (k := 4) (o := 4) (q := 20) dX8_isOf_17 ffX8_20 rfl rfl rfl ?_ -- splitBy
  refine wp_iload_n (i := 1) (q := 21) dX8_isOf_20 rfl rfl rfl ?_
  refine wm_ialdN (q := 22) dX8_isOf_21 ⟨by decide, by decide, rfl⟩ rfl (by simp only [mlen]; omega) (by decide) rfl ?_
  rw [m7]
  refine wp_Vi (μ' := mX8_at) (ci := 8) (q := 25) (tX8_at (d := d - 1) hp hr (by omega)) dX8_isOf_22 okX8_at lkX8_123 mh_obj rfl rfl rfl (Nat.le_of_ble_eq_true rfl) (by omega) rfl ?_
  refine wp_aload_n (i := 0) (q := 26) dX8_isOf_25 rfl rfl rfl ?_
  refine wm_getA (k := 5) (o := 5) (q := 29) dX8_isOf_26 ffX8_23 rfl rfl rfl ?_ -- splitAt
  refine wp_iload_n (i := 1) (q := 30) dX8_isOf_29 rfl rfl rfl ?_
  refine wm_ialdN (q := 31) dX8_isOf_30 ⟨by decide, by decide, rfl⟩ rfl (by simp only [mlen]; omega) (by decide) rfl ?_
  refine wp_b2clt (q := 34) (t := 38) (y := 39) dX8_isOf_31 dX8_isOf_34 dX8_isOf_35 dX8_isOf_38 (by decide) rfl rfl (by decide) rfl ?_
  refine wp_iload_n (i := 2) (q := 40) dX8_isOf_39 rfl rfl rfl ?_
  refine wp_iconst (v := nI 1) (q := 41) dX8_isOf_40 (by decide) rfl ?_
  refine wp_b2cne (q := 44) (t := 48) (y := 49) dX8_isOf_41 dX8_isOf_44 dX8_isOf_45 dX8_isOf_48 (by decide) rfl rfl (by decide) rfl ?_
  refine wp_icmp_ne (t := 56) (q := 52) dX8_isOf_49 (by decide) rfl (fun hq => ?_) (fun hq => ?_)
  · refine wp_iconst (v := nI 0) (q := 57) dX8_isOf_56 (by decide) rfl ?_
    refine wp_zret dX8_isOf_57 rfl (by first | exact Or.inl rfl | exact Or.inr rfl | exact b2_01 _ | assumption) ?_
    have e2 : ofA A p side r = false := by
      rw [b2_inj, decide_eq_decide.mpr (nI_eq (a := side) (b := 1) (by omega) (by decide))] at hq
      simp only [ofA, h0, hs, decide_false, Bool.false_or, not_false_eq_true, decide_true, Bool.true_and]
      exact beq_false_of_ne hq
    exact ⟨by rw [e2]; rfl, rfl⟩
  refine wp_iconst (v := nI 1) (q := 53) dX8_isOf_52 (by decide) rfl ?_
  refine wp_goto (q := 57) dX8_isOf_53 (by decide) ?_
  refine wp_zret dX8_isOf_57 rfl (by first | exact Or.inl rfl | exact Or.inr rfl | exact b2_01 _ | assumption) ?_
  have e2 : ofA A p side r = true := by
    rw [b2_inj, decide_eq_decide.mpr (nI_eq (a := side) (b := 1) (by omega) (by decide))] at hq
    simp only [ofA, h0, hs, decide_false, Bool.false_or, not_false_eq_true, decide_true, Bool.true_and]
    exact beq_of_eq hq
  exact ⟨by rw [e2]; rfl, rfl⟩
theorem tX8_triedOf (hd : 2 ≤ d) (hp : p < 6) (hs : side < 3) (hM : MP A p) : mt l mX8_triedOf d 0 0 [.ref b, .int (nI p), .int (nI side)] (sz, mh b I L A B g) (rI (nI (rs A p side).length) (sz, mh b I L A B g)) := by
  have hM2 := hM
  obtain ⟨m1, m2, m3, m4, m5, m6⟩ := hM2
  refine mt_in (lv := [_, _, _, _, _]) (by decide) (Nat.le_of_ble_eq_true rfl) rfl ?_
  refine wp_iconst (v := nI 0) (q := 1) dX8_triedOf_0 (by decide) rfl ?_
  refine wp_istore_n (i := 3) (lv' := [_, _, some _, _, _]) (q := 2) dX8_triedOf_1 rfl (by decide) rfl rfl ?_
  refine wp_iconst (v := nI 0) (q := 3) dX8_triedOf_2 (by decide) rfl ?_
  refine wp_istore (lv' := [_, _, _, some _, _]) (q := 5) dX8_triedOf_3 (by decide) rfl rfl ?_
  have H : ∀ n r c, r + n = nA A p → wp l mX8_triedOf [] d 0 0 (rI (nI (c + (rsF A p side r).length)) (sz, mh b I L A B g)) (sz, mh b I L A B g) 5 [some (.ref b), some (.int (nI p)), some (.int (nI side)), some (.int (nI c)), some (.int (nI r))] [] := by
    intro n
    induction n with
    | zero =>
      intro r c hr
      refine wp_iload (q := 7) dX8_triedOf_5 rfl rfl ?_
      refine wp_aload_n (i := 0) (q := 8) dX8_triedOf_7 rfl rfl rfl ?_
      refine wm_getA (k := 2) (o := 2) (q := 11) dX8_triedOf_8 ffX8_13 rfl rfl rfl ?_ -- many
      refine wp_iload_n (i := 1) (q := 12) dX8_triedOf_11 rfl rfl rfl ?_
      refine wm_ialdN (q := 13) dX8_triedOf_12 ⟨by decide, by decide, rfl⟩ rfl (by simp only [mlen]; omega) (by decide) rfl ?_
      rw [m3]
      refine wp_icmp_ge (t := 41) (q := 16) dX8_triedOf_13 (by decide) rfl (fun hc => ?_) (fun hc => ?_)
      · refine wp_iload_n (i := 3) (q := 42) dX8_triedOf_41 rfl rfl rfl ?_
        refine wp_iret dX8_triedOf_42 rfl ?_
        rw [rsF_end (by omega)]
        exact ⟨rfl, rfl⟩
      · exact absurd ((nI_leI (by omega) (by omega)).mpr (by omega)) hc
    | succ n ih =>
      intro r c hr
      refine wp_iload (q := 7) dX8_triedOf_5 rfl rfl ?_
      refine wp_aload_n (i := 0) (q := 8) dX8_triedOf_7 rfl rfl rfl ?_
      refine wm_getA (k := 2) (o := 2) (q := 11) dX8_triedOf_8 ffX8_13 rfl rfl rfl ?_ -- many
      refine wp_iload_n (i := 1) (q := 12) dX8_triedOf_11 rfl rfl rfl ?_
      refine wm_ialdN (q := 13) dX8_triedOf_12 ⟨by decide, by decide, rfl⟩ rfl (by simp only [mlen]; omega) (by decide) rfl ?_
      rw [m3]
      refine wp_icmp_ge (t := 41) (q := 16) dX8_triedOf_13 (by decide) rfl (fun hc => ?_) (fun hc => ?_)
      · exact absurd ((nI_leI (by omega) (by omega)).mp hc) (by omega)
      refine wp_iload_n (i := 3) (q := 17) dX8_triedOf_16 rfl rfl rfl ?_
      refine wp_aload_n (i := 0) (q := 18) dX8_triedOf_17 rfl rfl rfl ?_
      refine wp_iload_n (i := 1) (q := 19) dX8_triedOf_18 rfl rfl rfl ?_
      refine wp_iload_n (i := 2) (q := 20) dX8_triedOf_19 rfl rfl rfl ?_
      refine wp_iload (q := 22) dX8_triedOf_20 rfl rfl ?_
      refine wp_Vi (μ' := mX8_isOf) (ci := 8) (q := 25) (tX8_isOf (d := d - 1) (by omega) hp (by omega) hs hM) dX8_triedOf_22 okX8_isOf lkX8_127 mh_obj rfl rfl rfl (Nat.le_of_ble_eq_true rfl) (by omega) rfl ?_
      refine wp_b2eq (q := 28) (t := 32) (y := 33) dX8_triedOf_25 dX8_triedOf_28 dX8_triedOf_29 dX8_triedOf_32 (by decide) rfl rfl (by decide) rfl ?_
      refine wp_iadd (q := 34) dX8_triedOf_33 rfl ?_
      refine wp_istore_n (i := 3) (lv' := [_, _, some _, _, _]) (q := 35) dX8_triedOf_34 rfl (by decide) rfl rfl ?_
      refine wp_iinc (v := _ + nI 1) (lv' := [_, _, _, some _, _]) (q := 38) dX8_triedOf_35 rfl rfl (by decide) rfl rfl ?_
      refine wp_goto (q := 5) dX8_triedOf_38 (by decide) ?_
      rw [rsF_step (by omega)]
      cases ofA A p side r with
      | true =>
        have := ih (r + 1) (c + 1) (by omega)
        rw [nI_add, show nI c + b2 true = nI (c + 1) from nI_add c 1]
        simpa [Nat.add_assoc, Nat.add_comm 1] using this
      | false =>
        have := ih (r + 1) c (by omega)
        rw [nI_add, show nI c + b2 false = nI c from nI_add c 0]
        simpa using this
  have := H (nA A p) 0 0 (by omega)
  simpa using this
end M1
