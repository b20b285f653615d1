/-! THE REFERENCE, small methods -/
theorem mt_in {l : Launch} {μ : Mu} {d kc ks : Nat} {av : List Value} {h : aH} {Q : Option Value → aH → Prop} {lv : List (Option Value)} (hy : plainName μ.1.cls = true) (hn : (lg_sl av).length ≤ μ.2.2.1) (hl : ent av μ.2.2.1 = lv) (k : wp l μ [] d kc ks Q h 0 lv []) : mt l μ d kc ks av h Q := mt_of hy hn (hl ▸ k)
theorem mty_L : ∀ j, mty j = 1 → j = 22 := by
  intro j h
  unfold mty at h
  split at h <;> first | rfl | (exact absurd h (by decide))
/-- x is an index below n -/
def ix (n : Nat) (x : Int32) : Bool := decide (0 ≤ x.toInt ∧ x.toInt < n)
def inB (v lo hi : Int32) : Bool := decide (¬ v < lo) && decide (¬ hi < v)
theorem ix_of {n : Nat} {x : Int32} (h : ix n x = true) (hn : n < 2 ^ 31) : ∃ j : Nat, j < n ∧ x = nI j := vp_in_of (vp_in_iff.mpr (of_decide_eq_true h)) hn
theorem ix_nI {n j : Nat} (hj : j < 2 ^ 31) : ix n (nI j) = decide (j < n) := by
  unfold ix
  rw [nI_toInt hj]
  by_cases h : j < n
  · simp [h]
  · simp [h]
theorem inB_pt {np : Nat} {x : Int32} (h : np < 2 ^ 30) : inB x 0 (nI np - 1) = ix np x := by
  have e1 : (nI np - 1).toInt = (np : Int) - 1 := pk_sub_toInt (a := np) (b := 1) h (by decide)
  have a1 : (¬ x < 0) ↔ 0 ≤ x.toInt := by rw [Int32.lt_iff_toInt_lt]; show ¬ x.toInt < 0 ↔ _; omega
  have a2 : (¬ nI np - 1 < x) ↔ x.toInt < (np : Int) := by rw [Int32.lt_iff_toInt_lt, e1]; omega
  unfold inB ix
  rw [decide_eq_decide.mpr a1, decide_eq_decide.mpr a2, Bool.decide_and]
set_option maxRecDepth 20000 in
theorem tX8_in {l : Launch} {d : Nat} {v lo hi : Int32} {h : aH} : mt l mX8_in d 0 0 [.int v, .int lo, .int hi] h (rI (b2 (inB v lo hi)) h) := by
  refine mt_in (lv := [_, _, _]) (by decide) (Nat.le_of_ble_eq_true rfl) rfl ?_
  refine wp_iload_n (i := 0) (q := 1) dX8_in_0 rfl rfl rfl ?_
  refine wp_iload_n (i := 1) (q := 2) dX8_in_1 rfl rfl rfl ?_
  refine wp_icmp_lt (t := 14) (q := 5) dX8_in_2 (by decide) rfl (fun h1 => ?_) (fun h1 => ?_)
  · refine wp_iconst (v := 0) (q := 15) dX8_in_14 (by decide) rfl ?_
    refine wp_zret dX8_in_15 rfl (by first | exact Or.inl rfl | exact Or.inr rfl | exact b2_01 _ | assumption) ?_
    exact ⟨by simp [inB, h1, b2], rfl⟩
  refine wp_iload_n (i := 0) (q := 6) dX8_in_5 rfl rfl rfl ?_
  refine wp_iload_n (i := 2) (q := 7) dX8_in_6 rfl rfl rfl ?_
  refine wp_icmp_gt (t := 14) (q := 10) dX8_in_7 (by decide) rfl (fun h2 => ?_) (fun h2 => ?_)
  · refine wp_iconst (v := 0) (q := 15) dX8_in_14 (by decide) rfl ?_
    refine wp_zret dX8_in_15 rfl (by first | exact Or.inl rfl | exact Or.inr rfl | exact b2_01 _ | assumption) ?_
    exact ⟨by simp [inB, h2, b2], rfl⟩
  refine wp_iconst (v := 1) (q := 11) dX8_in_10 (by decide) rfl ?_
  refine wp_goto (q := 15) dX8_in_11 (by decide) ?_
  refine wp_zret dX8_in_15 rfl (by first | exact Or.inl rfl | exact Or.inr rfl | exact b2_01 _ | assumption) ?_
  exact ⟨by simp [inB, h1, h2, b2], rfl⟩
theorem tX8_noPoint {l : Launch} {d sz b np : Nat} {I : Nat → Int32} {L : Int64} {A : Nat → Nat → Int32} {B : Nat → Nat → Int64} {g : Nat → Option aE} {x : Int32} (hd : 1 ≤ d) (hn : np ≤ 6) (h0 : I 0 = nI np) : mt l mX8_noPoint d 0 0 [.ref b, .int x] (sz, mh b I L A B g) (rI (b2 (!ix np x)) (sz, mh b I L A B g)) := by
  refine mt_in (lv := [_, _]) (by decide) (Nat.le_of_ble_eq_true rfl) rfl ?_
  refine wp_iload_n (i := 1) (q := 1) dX8_noPoint_0 rfl rfl rfl ?_
  refine wp_iconst (v := 0) (q := 2) dX8_noPoint_1 (by decide) rfl ?_
  refine wp_aload_n (i := 0) (q := 3) dX8_noPoint_2 rfl rfl rfl ?_
  refine wm_getI (k := 0) (q := 6) dX8_noPoint_3 ffX8_105 rfl rfl ?_ -- points
  refine wp_iconst (v := 1) (q := 7) dX8_noPoint_6 (by decide) rfl ?_
  refine wp_isub (q := 8) dX8_noPoint_7 rfl ?_
  refine wp_Si (μ' := mX8_in) (q := 11) (tX8_in (d := d - 1)) dX8_noPoint_8 okX8_in lkX8_115 rfl rfl (Nat.le_of_ble_eq_true rfl) (by omega) rfl ?_
  rw [h0, inB_pt (by omega)]
  refine wp_if_ne (t := 18) (q := 14) dX8_noPoint_11 (by decide) rfl (fun hc => ?_) (fun hc => ?_)
  · refine wp_iconst (v := 0) (q := 19) dX8_noPoint_18 (by decide) rfl ?_
    refine wp_zret dX8_noPoint_19 rfl (by first | exact Or.inl rfl | exact Or.inr rfl | exact b2_01 _ | assumption) ?_
    rw [b2_ne0] at hc
    exact ⟨by rw [hc]; rfl, rfl⟩
  refine wp_iconst (v := 1) (q := 15) dX8_noPoint_14 (by decide) rfl ?_
  refine wp_goto (q := 19) dX8_noPoint_15 (by decide) ?_
  refine wp_zret dX8_noPoint_19 rfl (by first | exact Or.inl rfl | exact Or.inr rfl | exact b2_01 _ | assumption) ?_
  rw [b2_eq0] at hc
  exact ⟨by rw [hc]; rfl, rfl⟩
theorem nI_idx {p r v : Nat} : 160 * nI p + 4 * nI r + nI v = nI (160 * p + 4 * r + v) := by
  rw [show (160 : Int32) = nI 160 from rfl, show (4 : Int32) = nI 4 from rfl, pk_mul, pk_mul, nI_add, nI_add]
theorem tX8_at {l : Launch} {d sz b p r v : Nat} {I : Nat → Int32} {L : Int64} {A : Nat → Nat → Int32} {B : Nat → Nat → Int64} {g : Nat → Option aE} (hp : p < 6) (hr : r < 40) (hv : v < 4) : mt l mX8_at d 0 0 [.ref b, .int (nI p), .int (nI r), .int (nI v)] (sz, mh b I L A B g) (rI (A 6 (160 * p + 4 * r + v)) (sz, mh b I L A B g)) := by
  refine mt_in (lv := [_, _, _, _]) (by decide) (Nat.le_of_ble_eq_true rfl) rfl ?_
  have hin : vp_in (nI (160 * p + 4 * r + v)) 960 := vp_in_nI (by omega) (by decide)
  refine wp_aload_n (i := 0) (q := 1) dX8_at_0 rfl rfl rfl ?_
  refine wm_getA (k := 6) (o := 6) (q := 4) dX8_at_1 ffX8_26 rfl rfl rfl ?_ -- numbers
  refine wp_sipush (v := 160) (q := 7) dX8_at_4 (by decide) rfl ?_
  refine wp_iload_n (i := 1) (q := 8) dX8_at_7 rfl rfl rfl ?_
  refine wp_imul (q := 9) dX8_at_8 rfl ?_
  refine wp_iconst (v := 4) (q := 10) dX8_at_9 (by decide) rfl ?_
  refine wp_iload_n (i := 2) (q := 11) dX8_at_10 rfl rfl rfl ?_
  refine wp_imul (q := 12) dX8_at_11 rfl ?_
  refine wp_iadd (q := 13) dX8_at_12 rfl ?_
  refine wp_iload_n (i := 3) (q := 14) dX8_at_13 rfl rfl rfl ?_
  refine wp_iadd (q := 15) dX8_at_14 rfl ?_
  rw [nI_idx]
  refine wm_iald (q := 16) dX8_at_15 ⟨by decide, by decide, rfl⟩ (by first | assumption | (exact vp_in_nI (by first | assumption | omega) (by decide))) rfl ?_
  refine wp_iret dX8_at_16 rfl ?_
  exact ⟨by rw [nI_clamp (by omega)], rfl⟩
