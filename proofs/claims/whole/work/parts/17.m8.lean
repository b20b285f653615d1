/-! THE REFERENCE: calls that set something, and what they tell -/
def in30 (x : Int32) : Bool := inB x (-30) (nI 30)
def arB (k : Nat) (a b c d : Int32) : Bool := ((in30 a && (decide (k < 2) || in30 b)) && (decide (k < 3) || in30 c)) && (decide (k < 4) || in30 d)
def aPoint (np : Nat) (k : Int32) : Int32 := if inB k (nI 1) (nI 4) = false then -2 else if np = 6 then -4 else nI np
def okPt (np : Nat) (k : Int32) : Bool := inB k (nI 1) (nI 4) && !decide (np = 6)
def aPointI (I : Nat → Int32) (np : Nat) (k : Int32) : Nat → Int32 := if okPt np k = true then upd I 0 (nI (np + 1)) else I
def aPointA (A : Nat → Nat → Int32) (np : Nat) (k : Int32) : Nat → Nat → Int32 := if okPt np k = true then up2 (up2 A 1 np k) 2 np (nI 0) else A
def spA (A : Nat → Nat → Int32) (p : Nat) (v c : Int32) : Nat → Nat → Int32 := up2 (up2 (up2 A 3 p (nI 1)) 4 p v) 5 p c
def okSp (A : Nat → Nat → Int32) (np : Nat) (x v c : Int32) : Bool := (ix np x && ix (kA A x.toNatClampNeg) v) && in30 c
def aSplit (A : Nat → Nat → Int32) (np : Nat) (x v c : Int32) : Int32 := if (ix np x && ix (kA A x.toNatClampNeg) v) = false then -1 else if in30 c = false then -2 else nI (rs (spA A x.toNatClampNeg v c) x.toNatClampNeg 1).length
def aSplitA (A : Nat → Nat → Int32) (np : Nat) (x v c : Int32) : Nat → Nat → Int32 := if okSp A np x v c = true then spA A x.toNatClampNeg v c else A
def aDied (I : Nat → Int32) (A : Nat → Nat → Int32) (i : Int32) : Int32 := if ix (I 14).toNatClampNeg i = true then A 11 i.toNatClampNeg else -1
def aStart (A : Nat → Nat → Int32) (np : Nat) (x a b c d : Int32) : Int32 := if ix np x = false then -1 else if arB (kA A x.toNatClampNeg) a b c d = false then -2 else nI 1
def aStartI (I : Nat → Int32) (A : Nat → Nat → Int32) (np : Nat) (x a b c d : Int32) : Nat → Int32 := if (ix np x && arB (kA A x.toNatClampNeg) a b c d) = true then upd I 25 x else I
def aStartA (A : Nat → Nat → Int32) (np : Nat) (x a b c d : Int32) : Nat → Nat → Int32 := if (ix np x && arB (kA A x.toNatClampNeg) a b c d) = true then up2 (up2 (up2 (up2 A 16 0 a) 16 1 b) 16 2 c) 16 3 d else A
def aAct (np na : Nat) (x y : Int32) : Int32 := if (ix np x && ix np y) = false then -1 else if na = 10 then -4 else nI na
def okAc (np na : Nat) (x y : Int32) : Bool := (ix np x && ix np y) && !decide (na = 10)
def aActI (I : Nat → Int32) (np na : Nat) (x y : Int32) : Nat → Int32 := if okAc np na x y = true then upd I 27 (nI (na + 1)) else I
def aActA (A : Nat → Nat → Int32) (np na : Nat) (x y : Int32) : Nat → Nat → Int32 := if okAc np na x y = true then up2 (up2 A 17 na x) 18 na y else A
/-- where an act comes from, and leads to -/
def frA (A : Nat → Nat → Int32) (a : Nat) : Nat := (A 17 a).toNatClampNeg
def toA (A : Nat → Nat → Int32) (a : Nat) : Nat := (A 18 a).toNatClampNeg
def MA (I : Nat → Int32) (A : Nat → Nat → Int32) (np na : Nat) : Prop := na ≤ 10 ∧ I 27 = nI na ∧ ∀ a, a < na → A 17 a = nI (frA A a) ∧ frA A a < np ∧ A 18 a = nI (toA A a) ∧ toA A a < np
def noMd (A : Nat → Nat → Int32) (na : Nat) (k v : Int32) : Bool := !(ix na k && ix (kA A (toA A k.toNatClampNeg)) v)
def aMade (A : Nat → Nat → Int32) (na : Nat) (k v c : Int32) : Int32 := if noMd A na k v = true then -1 else if ix 5 c = true then A 19 (20 * k.toNatClampNeg + 5 * v.toNatClampNeg + c.toNatClampNeg) else -2
def aTold (I : Nat → Int32) (w : Int32) : Int32 := if w = 0 then I 0 else if w = nI 1 then I 27 else if w = nI 2 then (if 0 ≤ I 25 then nI 1 else nI 0) else if w = nI 3 then I 14 else -2
def aBroke (I : Nat → Int32) (A : Nat → Nat → Int32) (w : Int32) : Int32 :=
  if 0 ≤ I 41 then (if inB w (nI 3) (nI (2 + kA A (I 42).toNatClampNeg)) = true then A 30 (w.toNatClampNeg - 3) else if inB w (nI 10) (nI (9 + (I 43).toNatClampNeg)) = true then A 31 (w.toNatClampNeg - 10)
    else if w = 0 then I 42 else if w = nI 1 then I 41 else if w = nI 2 then I 43 else -9) else -9
theorem inB_of {a c : Nat} {x : Int32} (h : inB x (nI a) (nI c) = true) (ha : a < 2 ^ 31) (hc1 : c + 1 < 2 ^ 31) : ∃ j : Nat, a ≤ j ∧ j ≤ c ∧ x = nI j := by
  have hc : c < 2 ^ 31 := by omega
  unfold inB at h
  obtain ⟨h1, h2⟩ := Bool.and_eq_true_iff.mp h
  have h1 := of_decide_eq_true h1
  have h2 := of_decide_eq_true h2
  rw [Int32.lt_iff_toInt_lt, nI_toInt ha] at h1
  rw [Int32.lt_iff_toInt_lt, nI_toInt hc] at h2
  obtain ⟨j, hj, rfl⟩ := vp_in_of (x := x) (n := c + 1) (vp_in_iff.mpr ⟨by omega, by omega⟩) hc1
  rw [nI_toInt (by omega)] at h1 h2
  exact ⟨j, by omega, by omega, rfl⟩
theorem spA_ne {A : Nat → Nat → Int32} {p o : Nat} {v c : Int32} (h : o ≠ 3) (h2 : o ≠ 4) (h3 : o ≠ 5) : spA A p v c o = A o := by
  unfold spA
  rw [up2_ne h3, up2_ne h2, up2_ne h]
theorem spA_MP {A : Nat → Nat → Int32} {p v : Nat} {c : Int32} (hM : MP A p) (hv : v < kA A p) : MP (spA A p (nI v) c) p := by
  have k4 := hM.2.1
  unfold MP kA nA at hM ⊢
  rw [spA_ne (by decide) (by decide) (by decide), spA_ne (by decide) (by decide) (by decide)]
  have e3 : spA A p (nI v) c 3 p = nI 1 := by simp [spA, up2]
  have e4 : spA A p (nI v) c 4 p = nI v := by simp [spA, up2]
  rw [e3, e4]
  exact ⟨hM.1, hM.2.1, hM.2.2.1, hM.2.2.2.1, Or.inr rfl, fun _ => ⟨by rw [nI_clamp (by omega)], by rw [nI_clamp (by omega)]; exact hv⟩⟩
section M8
variable {l : Launch} {d sz b p side r i j m shape np na : Nat} {I : Nat → Int32} {L : Int64} {A : Nat → Nat → Int32} {B : Nat → Nat → Int64} {g : Nat → Option aE}
theorem tX8_point {k : Int32} (hd : 1 ≤ d) (hM : MM I A np) : mt l mX8_point d 0 0 [.ref b, .int k] (sz, mh b I L A B g) (rI (aPoint np k) (sz, mh b (aPointI I np k) L (aPointA A np k) B g)) := by
  obtain ⟨hn, h0, hP, -⟩ := hM
  refine mt_in (lv := [_, _]) (by decide) (Nat.le_of_ble_eq_true rfl) rfl ?_
  refine wp_iload_n (i := 1) (q := 1) dX8_point_0 rfl rfl rfl ?_
  refine wp_iconst (v := nI 1) (q := 2) dX8_point_1 (by decide) rfl ?_
  refine wp_iconst (v := nI 4) (q := 3) dX8_point_2 (by decide) rfl ?_
  refine wp_Si (μ' := mX8_in) (q := 6) (tX8_in (d := d - 1)) dX8_point_3 okX8_in lkX8_115 rfl rfl (Nat.le_of_ble_eq_true rfl) (by omega) rfl ?_
  unfold aPoint aPointI aPointA okPt
  refine wp_if_ne (t := 12) (q := 9) dX8_point_6 (by decide) rfl (fun hc => ?_) (fun hc => ?_)
  · rw [b2_ne0.mp hc, if_neg (by decide), Bool.true_and]
    refine wp_aload_n (i := 0) (q := 13) dX8_point_12 rfl rfl rfl ?_
    refine wm_getI (k := 0) (q := 16) dX8_point_13 ffX8_105 rfl rfl ?_ -- points
    refine wp_bipush (v := nI 6) (q := 18) dX8_point_16 (by decide) rfl ?_
    rw [h0]
    refine wp_icmp_ne (t := 24) (q := 21) dX8_point_18 (by decide) rfl (fun h6 => ?_) (fun h6 => ?_)
    · have h6 : ¬ np = 6 := fun q => h6 (by rw [q])
      rw [if_neg h6, decide_eq_false h6]
      refine wp_aload_n (i := 0) (q := 25) dX8_point_24 rfl rfl rfl ?_
      refine wm_getA (k := 1) (o := 1) (q := 28) dX8_point_25 ffX8_7 rfl rfl rfl ?_ -- size
      refine wp_aload_n (i := 0) (q := 29) dX8_point_28 rfl rfl rfl ?_
      refine wm_getI (k := 0) (q := 32) dX8_point_29 ffX8_105 rfl rfl ?_ -- points
      refine wp_iload_n (i := 1) (q := 33) dX8_point_32 rfl rfl rfl ?_
      rw [h0]
      refine wm_iastN (q := 34) dX8_point_33 ⟨by decide, by decide, rfl⟩ rfl (by simp only [mlen]; omega) (by decide) rfl ?_
      refine wp_aload_n (i := 0) (q := 35) dX8_point_34 rfl rfl rfl ?_
      refine wm_getA (k := 2) (o := 2) (q := 38) dX8_point_35 ffX8_13 rfl rfl rfl ?_ -- many
      refine wp_aload_n (i := 0) (q := 39) dX8_point_38 rfl rfl rfl ?_
      refine wm_getI (k := 0) (q := 42) dX8_point_39 ffX8_105 rfl rfl ?_ -- points
      refine wp_iconst (v := nI 0) (q := 43) dX8_point_42 (by decide) rfl ?_
      rw [h0]
      refine wm_iastN (q := 44) dX8_point_43 ⟨by decide, by decide, rfl⟩ rfl (by simp only [mlen]; omega) (by decide) rfl ?_
      refine wp_aload_n (i := 0) (q := 45) dX8_point_44 rfl rfl rfl ?_
      refine wp_dup (q := 46) dX8_point_45 rfl rfl ?_
      refine wm_getI (k := 0) (q := 49) dX8_point_46 ffX8_105 rfl rfl ?_ -- points
      refine wp_iconst (v := nI 1) (q := 50) dX8_point_49 (by decide) rfl ?_
      refine wp_iadd (q := 51) dX8_point_50 rfl ?_
      rw [h0, nI_add]
      refine wm_putI (k := 0) (q := 54) dX8_point_51 ffX8_105 rfl rfl ?_ -- points
      refine wp_aload_n (i := 0) (q := 55) dX8_point_54 rfl rfl rfl ?_
      refine wm_getI (k := 0) (q := 58) dX8_point_55 ffX8_105 rfl rfl ?_ -- points
      refine wp_iconst (v := nI 1) (q := 59) dX8_point_58 (by decide) rfl ?_
      refine wp_isub (q := 60) dX8_point_59 rfl ?_
      rw [show upd I 0 (nI (np + 1)) 0 = nI (np + 1) by simp [upd], pk_sub (by omega)]
      refine wp_iret dX8_point_60 rfl ?_
      exact ⟨rfl, rfl⟩
    · have h6 : np = 6 := (nI_eq (by omega) (by decide)).mp h6
      rw [if_pos h6, decide_eq_true h6]
      refine wp_bipush (v := (-4)) (q := 23) dX8_point_21 (by decide) rfl ?_
      refine wp_iret dX8_point_23 rfl ?_
      exact ⟨rfl, rfl⟩
  · rw [b2_eq0.mp hc, if_pos rfl, Bool.false_and]
    refine wp_bipush (v := (-2)) (q := 11) dX8_point_9 (by decide) rfl ?_
    refine wp_iret dX8_point_11 rfl ?_
    exact ⟨rfl, rfl⟩
theorem tX8_split {x v c : Int32} (hd : 3 ≤ d) (hM : MM I A np) : mt l mX8_split d 0 0 [.ref b, .int x, .int v, .int c] (sz, mh b I L A B g) (rI (aSplit A np x v c) (sz, mh b I L (aSplitA A np x v c) B g)) := by
  obtain ⟨hn, h0, hP, -⟩ := hM
  refine mt_in (lv := [_, _, _, _]) (by decide) (Nat.le_of_ble_eq_true rfl) rfl ?_
  refine wp_aload_n (i := 0) (q := 1) dX8_split_0 rfl rfl rfl ?_
  refine wp_iload_n (i := 1) (q := 2) dX8_split_1 rfl rfl rfl ?_
  refine wp_iload_n (i := 2) (q := 3) dX8_split_2 rfl rfl rfl ?_
  refine wp_Vi (μ' := mX8_noVariable) (ci := 8) (q := 6) (tX8_noVariable (d := d - 1) (by omega) hn h0 hP) dX8_split_3 okX8_noVariable lkX8_130 mh_obj rfl rfl rfl (Nat.le_of_ble_eq_true rfl) (by omega) rfl ?_
  unfold aSplit aSplitA okSp
  refine wp_if_eq (t := 11) (q := 9) dX8_split_6 (by decide) rfl (fun hc => ?_) (fun hc => ?_)
  · have hc := b2n_eq0.mp hc
    rw [hc, if_neg (by decide), Bool.true_and]
    obtain ⟨h1, h2⟩ := Bool.and_eq_true_iff.mp hc
    obtain ⟨p, hp, rfl⟩ := ix_of h1 (by omega)
    have hMp := hP p (by omega)
    have k4 := hMp.2.1
    rw [nI_clamp (by omega)] at h2 ⊢
    obtain ⟨v, hv, rfl⟩ := ix_of h2 (by omega)
    refine wp_iload_n (i := 3) (q := 12) dX8_split_11 rfl rfl rfl ?_
    refine wp_bipush (v := (-30)) (q := 14) dX8_split_12 (by decide) rfl ?_
    refine wp_bipush (v := nI 30) (q := 16) dX8_split_14 (by decide) rfl ?_
    refine wp_Si (μ' := mX8_in) (q := 19) (tX8_in (d := d - 1)) dX8_split_16 okX8_in lkX8_115 rfl rfl (Nat.le_of_ble_eq_true rfl) (by omega) rfl ?_
    rw [show inB c (-30) (nI 30) = in30 c from rfl]
    refine wp_if_ne (t := 25) (q := 22) dX8_split_19 (by decide) rfl (fun h30 => ?_) (fun h30 => ?_)
    · rw [b2_ne0.mp h30, if_neg (by decide), if_pos rfl]
      refine wp_aload_n (i := 0) (q := 26) dX8_split_25 rfl rfl rfl ?_
      refine wm_getA (k := 3) (o := 3) (q := 29) dX8_split_26 ffX8_16 rfl rfl rfl ?_ -- isSplit
      refine wp_iload_n (i := 1) (q := 30) dX8_split_29 rfl rfl rfl ?_
      refine wp_iconst (v := nI 1) (q := 31) dX8_split_30 (by decide) rfl ?_
      refine wm_zastN (q := 32) dX8_split_31 ⟨by decide, by decide, rfl⟩ rfl (by simp only [mlen]; omega) (by decide) (by first | exact Or.inl rfl | exact Or.inr rfl | exact b2_01 _ | assumption) rfl ?_
      refine wp_aload_n (i := 0) (q := 33) dX8_split_32 rfl rfl rfl ?_
      refine wm_getA (k := 4) (o := 4) (q := 36) dX8_split_33 ffX8_20 rfl rfl rfl ?_ -- splitBy
      refine wp_iload_n (i := 1) (q := 37) dX8_split_36 rfl rfl rfl ?_
      refine wp_iload_n (i := 2) (q := 38) dX8_split_37 rfl rfl rfl ?_
      refine wm_iastN (q := 39) dX8_split_38 ⟨by decide, by decide, rfl⟩ rfl (by simp only [mlen]; omega) (by decide) rfl ?_
      refine wp_aload_n (i := 0) (q := 40) dX8_split_39 rfl rfl rfl ?_
      refine wm_getA (k := 5) (o := 5) (q := 43) dX8_split_40 ffX8_23 rfl rfl rfl ?_ -- splitAt
      refine wp_iload_n (i := 1) (q := 44) dX8_split_43 rfl rfl rfl ?_
      refine wp_iload_n (i := 3) (q := 45) dX8_split_44 rfl rfl rfl ?_
      refine wm_iastN (q := 46) dX8_split_45 ⟨by decide, by decide, rfl⟩ rfl (by simp only [mlen]; omega) (by decide) rfl ?_
      refine wp_aload_n (i := 0) (q := 47) dX8_split_46 rfl rfl rfl ?_
      refine wp_iload_n (i := 1) (q := 48) dX8_split_47 rfl rfl rfl ?_
      refine wp_iconst (v := nI 1) (q := 49) dX8_split_48 (by decide) rfl ?_
      refine wp_Vi (μ' := mX8_triedOf) (ci := 8) (q := 52) (tX8_triedOf (A := spA A p (nI v) c) (side := 1) (d := d - 1) (by omega) (by omega) (by decide) (spA_MP hMp hv)) dX8_split_49 okX8_triedOf lkX8_134 mh_obj rfl rfl rfl (Nat.le_of_ble_eq_true rfl) (by omega) rfl ?_
      refine wp_iret dX8_split_52 rfl ?_
      exact ⟨rfl, rfl⟩
    · rw [b2_eq0.mp h30, if_pos rfl, if_neg (by decide)]
      refine wp_bipush (v := (-2)) (q := 24) dX8_split_22 (by decide) rfl ?_
      refine wp_iret dX8_split_24 rfl ?_
      exact ⟨rfl, rfl⟩
  · rw [b2n_ne0.mp hc, if_pos rfl, Bool.false_and]
    refine wp_iconst (v := (-1)) (q := 10) dX8_split_9 (by decide) rfl ?_
    refine wp_iret dX8_split_10 rfl ?_
    exact ⟨rfl, rfl⟩
theorem tX8_died {x : Int32} (hd : 1 ≤ d) (h14 : I 14 = nI (I 14).toNatClampNeg) (h300 : (I 14).toNatClampNeg ≤ 300) : mt l mX8_died d 0 0 [.ref b, .int x] (sz, mh b I L A B g) (rI (aDied I A x) (sz, mh b I L A B g)) := by
  refine mt_in (lv := [_, _]) (by decide) (Nat.le_of_ble_eq_true rfl) rfl ?_
  refine wp_iload_n (i := 1) (q := 1) dX8_died_0 rfl rfl rfl ?_
  refine wp_iconst (v := nI 0) (q := 2) dX8_died_1 (by decide) rfl ?_
  refine wp_aload_n (i := 0) (q := 3) dX8_died_2 rfl rfl rfl ?_
  refine wm_getI (k := 14) (q := 6) dX8_died_3 ffX8_197 rfl rfl ?_ -- deaths
  refine wp_iconst (v := nI 1) (q := 7) dX8_died_6 (by decide) rfl ?_
  refine wp_isub (q := 8) dX8_died_7 rfl ?_
  refine wp_Si (μ' := mX8_in) (q := 11) (tX8_in (d := d - 1)) dX8_died_8 okX8_in lkX8_115 rfl rfl (Nat.le_of_ble_eq_true rfl) (by omega) rfl ?_
  rw [h14, inB_pt (by omega)]
  unfold aDied
  refine wp_if_eq (t := 23) (q := 14) dX8_died_11 (by decide) rfl (fun hc => ?_) (fun hc => ?_)
  · rw [b2_eq0.mp hc, if_neg (by decide)]
    refine wp_iconst (v := (-1)) (q := 24) dX8_died_23 (by decide) rfl ?_
    refine wp_iret dX8_died_24 rfl ?_
    exact ⟨rfl, rfl⟩
  · have hc := b2_ne0.mp hc
    rw [hc, if_pos rfl]
    obtain ⟨x, hx, rfl⟩ := ix_of hc (by omega)
    rw [nI_clamp (by omega)]
    refine wp_aload_n (i := 0) (q := 15) dX8_died_14 rfl rfl rfl ?_
    refine wm_getA (k := 15) (o := 11) (q := 18) dX8_died_15 ffX8_41 rfl rfl rfl ?_ -- death
    refine wp_iload_n (i := 1) (q := 19) dX8_died_18 rfl rfl rfl ?_
    refine wm_ialdN (q := 20) dX8_died_19 ⟨by decide, by decide, rfl⟩ rfl (by simp only [mlen]; omega) (by decide) rfl ?_
    refine wp_goto (q := 24) dX8_died_20 (by decide) ?_
    refine wp_iret dX8_died_24 rfl ?_
    exact ⟨rfl, rfl⟩
theorem tX8_areIn {v0 v1 v2 v3 : Int32} (hd : 1 ≤ d) (hp : p < 6) (hM : MP A p) : mt l mX8_areIn d 0 0 [.ref b, .int (nI p), .int v0, .int v1, .int v2, .int v3] (sz, mh b I L A B g) (rI (b2 (arB (kA A p) v0 v1 v2 v3)) (sz, mh b I L A B g)) := by
  obtain ⟨m1, m2, -⟩ := hM
  have bad : arB (kA A p) v0 v1 v2 v3 = false → wp l mX8_areIn [] d 0 0 (rI (b2 (arB (kA A p) v0 v1 v2 v3)) (sz, mh b I L A B g)) (sz, mh b I L A B g) 80 [some (.ref b), some (.int (nI p)), some (.int v0), some (.int v1), some (.int v2), some (.int v3)] [] := by
    intro e
    rw [e]
    refine wp_iconst (v := nI 0) (q := 81) dX8_areIn_80 (by decide) rfl ?_
    refine wp_zret dX8_areIn_81 rfl (by first | exact Or.inl rfl | exact Or.inr rfl | exact b2_01 _ | assumption) ?_
    exact ⟨rfl, rfl⟩
  refine mt_in (lv := [_, _, _, _, _, _]) (by decide) (Nat.le_of_ble_eq_true rfl) rfl ?_
  refine wp_iload_n (i := 2) (q := 1) dX8_areIn_0 rfl rfl rfl ?_
  refine wp_bipush (v := (-30)) (q := 3) dX8_areIn_1 (by decide) rfl ?_
  refine wp_bipush (v := nI 30) (q := 5) dX8_areIn_3 (by decide) rfl ?_
  refine wp_Si (μ' := mX8_in) (q := 8) (tX8_in (d := d - 1)) dX8_areIn_5 okX8_in lkX8_115 rfl rfl (Nat.le_of_ble_eq_true rfl) (by omega) rfl ?_
  refine wp_if_eq (t := 80) (q := 11) dX8_areIn_8 (by decide) rfl (fun h1 => ?_) (fun h1 => ?_)
  · exact bad (by unfold arB; rw [show in30 v0 = false from b2_eq0.mp h1]; rfl)
  have h1 : in30 v0 = true := b2_ne0.mp h1
  have K3 : ((in30 v0 && (decide (kA A p < 2) || in30 v1)) && (decide (kA A p < 3) || in30 v2)) = true → wp l mX8_areIn [] d 0 0 (rI (b2 (arB (kA A p) v0 v1 v2 v3)) (sz, mh b I L A B g)) (sz, mh b I L A B g) 54 [some (.ref b), some (.int (nI p)), some (.int v0), some (.int v1), some (.int v2), some (.int v3)] [] := by
    intro e
    refine wp_aload_n (i := 0) (q := 55) dX8_areIn_54 rfl rfl rfl ?_
    refine wm_getA (k := 1) (o := 1) (q := 58) dX8_areIn_55 ffX8_7 rfl rfl rfl ?_ -- size
    refine wp_iload_n (i := 1) (q := 59) dX8_areIn_58 rfl rfl rfl ?_
    refine wm_ialdN (q := 60) dX8_areIn_59 ⟨by decide, by decide, rfl⟩ rfl (by simp only [mlen]; omega) (by decide) rfl ?_
    refine wp_iconst (v := nI 4) (q := 61) dX8_areIn_60 (by decide) rfl ?_
    rw [m1]
    have K4 : (decide (kA A p < 4) || in30 v3) = true → wp l mX8_areIn [] d 0 0 (rI (b2 (arB (kA A p) v0 v1 v2 v3)) (sz, mh b I L A B g)) (sz, mh b I L A B g) 76 [some (.ref b), some (.int (nI p)), some (.int v0), some (.int v1), some (.int v2), some (.int v3)] [] := by
      intro e2
      refine wp_iconst (v := nI 1) (q := 77) dX8_areIn_76 (by decide) rfl ?_
      refine wp_goto (q := 81) dX8_areIn_77 (by decide) ?_
      refine wp_zret dX8_areIn_81 rfl (by first | exact Or.inl rfl | exact Or.inr rfl | exact b2_01 _ | assumption) ?_
      exact ⟨by unfold arB; rw [e, e2]; rfl, rfl⟩
    refine wp_icmp_lt (t := 76) (q := 64) dX8_areIn_61 (by decide) rfl (fun hk => ?_) (fun hk => ?_)
    · exact K4 (by rw [decide_eq_true ((nI_ltI (by omega) (by omega)).mp hk)]; rfl)
    have hk : ¬ kA A p < 4 := fun q => hk ((nI_ltI (by omega) (by omega)).mpr q)
    refine wp_iload (q := 66) dX8_areIn_64 rfl rfl ?_
    refine wp_bipush (v := (-30)) (q := 68) dX8_areIn_66 (by decide) rfl ?_
    refine wp_bipush (v := nI 30) (q := 70) dX8_areIn_68 (by decide) rfl ?_
    refine wp_Si (μ' := mX8_in) (q := 73) (tX8_in (d := d - 1)) dX8_areIn_70 okX8_in lkX8_115 rfl rfl (Nat.le_of_ble_eq_true rfl) (by omega) rfl ?_
    refine wp_if_eq (t := 80) (q := 76) dX8_areIn_73 (by decide) rfl (fun h4 => ?_) (fun h4 => ?_)
    · exact bad (by unfold arB; rw [show in30 v3 = false from b2_eq0.mp h4, decide_eq_false hk, Bool.or_false, Bool.and_false])
    · exact K4 (by rw [show in30 v3 = true from b2_ne0.mp h4, Bool.or_true])
  have K2 : (in30 v0 && (decide (kA A p < 2) || in30 v1)) = true → wp l mX8_areIn [] d 0 0 (rI (b2 (arB (kA A p) v0 v1 v2 v3)) (sz, mh b I L A B g)) (sz, mh b I L A B g) 32 [some (.ref b), some (.int (nI p)), some (.int v0), some (.int v1), some (.int v2), some (.int v3)] [] := by
    intro e
    refine wp_aload_n (i := 0) (q := 33) dX8_areIn_32 rfl rfl rfl ?_
    refine wm_getA (k := 1) (o := 1) (q := 36) dX8_areIn_33 ffX8_7 rfl rfl rfl ?_ -- size
    refine wp_iload_n (i := 1) (q := 37) dX8_areIn_36 rfl rfl rfl ?_
    refine wm_ialdN (q := 38) dX8_areIn_37 ⟨by decide, by decide, rfl⟩ rfl (by simp only [mlen]; omega) (by decide) rfl ?_
    refine wp_iconst (v := nI 3) (q := 39) dX8_areIn_38 (by decide) rfl ?_
    rw [m1]
    refine wp_icmp_lt (t := 54) (q := 42) dX8_areIn_39 (by decide) rfl (fun hk => ?_) (fun hk => ?_)
    · exact K3 (by rw [e, decide_eq_true ((nI_ltI (by omega) (by omega)).mp hk)]; rfl)
    have hk : ¬ kA A p < 3 := fun q => hk ((nI_ltI (by omega) (by omega)).mpr q)
    refine wp_iload (q := 44) dX8_areIn_42 rfl rfl ?_
    refine wp_bipush (v := (-30)) (q := 46) dX8_areIn_44 (by decide) rfl ?_
    refine wp_bipush (v := nI 30) (q := 48) dX8_areIn_46 (by decide) rfl ?_
    refine wp_Si (μ' := mX8_in) (q := 51) (tX8_in (d := d - 1)) dX8_areIn_48 okX8_in lkX8_115 rfl rfl (Nat.le_of_ble_eq_true rfl) (by omega) rfl ?_
    refine wp_if_eq (t := 80) (q := 54) dX8_areIn_51 (by decide) rfl (fun h4 => ?_) (fun h4 => ?_)
    · exact bad (by unfold arB; rw [show in30 v2 = false from b2_eq0.mp h4, decide_eq_false hk, Bool.or_false, Bool.and_false]; rfl)
    · exact K3 (by rw [e, show in30 v2 = true from b2_ne0.mp h4, Bool.or_true]; rfl)
  refine wp_aload_n (i := 0) (q := 12) dX8_areIn_11 rfl rfl rfl ?_
  refine wm_getA (k := 1) (o := 1) (q := 15) dX8_areIn_12 ffX8_7 rfl rfl rfl ?_ -- size
  refine wp_iload_n (i := 1) (q := 16) dX8_areIn_15 rfl rfl rfl ?_
  refine wm_ialdN (q := 17) dX8_areIn_16 ⟨by decide, by decide, rfl⟩ rfl (by simp only [mlen]; omega) (by decide) rfl ?_
  refine wp_iconst (v := nI 2) (q := 18) dX8_areIn_17 (by decide) rfl ?_
  rw [m1]
  refine wp_icmp_lt (t := 32) (q := 21) dX8_areIn_18 (by decide) rfl (fun hk => ?_) (fun hk => ?_)
  · exact K2 (by rw [h1, decide_eq_true ((nI_ltI (by omega) (by omega)).mp hk)]; rfl)
  have hk : ¬ kA A p < 2 := fun q => hk ((nI_ltI (by omega) (by omega)).mpr q)
  refine wp_iload_n (i := 3) (q := 22) dX8_areIn_21 rfl rfl rfl ?_
  refine wp_bipush (v := (-30)) (q := 24) dX8_areIn_22 (by decide) rfl ?_
  refine wp_bipush (v := nI 30) (q := 26) dX8_areIn_24 (by decide) rfl ?_
  refine wp_Si (μ' := mX8_in) (q := 29) (tX8_in (d := d - 1)) dX8_areIn_26 okX8_in lkX8_115 rfl rfl (Nat.le_of_ble_eq_true rfl) (by omega) rfl ?_
  refine wp_if_eq (t := 80) (q := 32) dX8_areIn_29 (by decide) rfl (fun h4 => ?_) (fun h4 => ?_)
  · exact bad (by unfold arB; rw [show in30 v1 = false from b2_eq0.mp h4, decide_eq_false hk, Bool.or_false, Bool.and_false]; rfl)
  · exact K2 (by rw [h1, show in30 v1 = true from b2_ne0.mp h4, Bool.or_true]; rfl)
theorem tX8_start {x v0 v1 v2 v3 : Int32} (hd : 2 ≤ d) (hM : MM I A np) : mt l mX8_start d 0 0 [.ref b, .int x, .int v0, .int v1, .int v2, .int v3] (sz, mh b I L A B g) (rI (aStart A np x v0 v1 v2 v3) (sz, mh b (aStartI I A np x v0 v1 v2 v3) L (aStartA A np x v0 v1 v2 v3) B g)) := by
  obtain ⟨hn, h0, hP, -⟩ := hM
  refine mt_in (lv := [_, _, _, _, _, _]) (by decide) (Nat.le_of_ble_eq_true rfl) rfl ?_
  refine wp_aload_n (i := 0) (q := 1) dX8_start_0 rfl rfl rfl ?_
  refine wp_iload_n (i := 1) (q := 2) dX8_start_1 rfl rfl rfl ?_
  refine wp_Vi (μ' := mX8_noPoint) (ci := 8) (q := 5) (tX8_noPoint (d := d - 1) (by omega) hn h0) dX8_start_2 okX8_noPoint lkX8_119 mh_obj rfl rfl rfl (Nat.le_of_ble_eq_true rfl) (by omega) rfl ?_
  unfold aStart aStartI aStartA
  refine wp_if_eq (t := 10) (q := 8) dX8_start_5 (by decide) rfl (fun hc => ?_) (fun hc => ?_)
  · have hc := b2n_eq0.mp hc
    rw [hc, if_neg (by decide), Bool.true_and]
    obtain ⟨p, hp, rfl⟩ := ix_of hc (by omega)
    rw [nI_clamp (by omega)]
    refine wp_aload_n (i := 0) (q := 11) dX8_start_10 rfl rfl rfl ?_
    refine wp_iload_n (i := 1) (q := 12) dX8_start_11 rfl rfl rfl ?_
    refine wp_iload_n (i := 2) (q := 13) dX8_start_12 rfl rfl rfl ?_
    refine wp_iload_n (i := 3) (q := 14) dX8_start_13 rfl rfl rfl ?_
    refine wp_iload (q := 16) dX8_start_14 rfl rfl ?_
    refine wp_iload (q := 18) dX8_start_16 rfl rfl ?_
    refine wp_Vi (μ' := mX8_areIn) (ci := 8) (q := 21) (tX8_areIn (d := d - 1) (by omega) (by omega) (hP p (by omega))) dX8_start_18 okX8_areIn lkX8_200 mh_obj rfl rfl rfl (Nat.le_of_ble_eq_true rfl) (by omega) rfl ?_
    refine wp_if_ne (t := 27) (q := 24) dX8_start_21 (by decide) rfl (fun h30 => ?_) (fun h30 => ?_)
    · rw [b2_ne0.mp h30, if_neg (by decide), if_pos rfl, if_pos rfl]
      refine wp_aload_n (i := 0) (q := 28) dX8_start_27 rfl rfl rfl ?_
      refine wp_iload_n (i := 1) (q := 29) dX8_start_28 rfl rfl rfl ?_
      refine wm_putI (k := 25) (q := 32) dX8_start_29 ffX8_109 rfl rfl ?_ -- startAt
      refine wp_aload_n (i := 0) (q := 33) dX8_start_32 rfl rfl rfl ?_
      refine wm_getA (k := 26) (o := 16) (q := 36) dX8_start_33 ffX8_57 rfl rfl rfl ?_ -- start
      refine wp_iconst (v := nI 0) (q := 37) dX8_start_36 (by decide) rfl ?_
      refine wp_iload_n (i := 2) (q := 38) dX8_start_37 rfl rfl rfl ?_
      refine wm_iastN (q := 39) dX8_start_38 ⟨by decide, by decide, rfl⟩ rfl (by simp only [mlen]; omega) (by decide) rfl ?_
      refine wp_aload_n (i := 0) (q := 40) dX8_start_39 rfl rfl rfl ?_
      refine wm_getA (k := 26) (o := 16) (q := 43) dX8_start_40 ffX8_57 rfl rfl rfl ?_ -- start
      refine wp_iconst (v := nI 1) (q := 44) dX8_start_43 (by decide) rfl ?_
      refine wp_iload_n (i := 3) (q := 45) dX8_start_44 rfl rfl rfl ?_
      refine wm_iastN (q := 46) dX8_start_45 ⟨by decide, by decide, rfl⟩ rfl (by simp only [mlen]; omega) (by decide) rfl ?_
      refine wp_aload_n (i := 0) (q := 47) dX8_start_46 rfl rfl rfl ?_
      refine wm_getA (k := 26) (o := 16) (q := 50) dX8_start_47 ffX8_57 rfl rfl rfl ?_ -- start
      refine wp_iconst (v := nI 2) (q := 51) dX8_start_50 (by decide) rfl ?_
      refine wp_iload (q := 53) dX8_start_51 rfl rfl ?_
      refine wm_iastN (q := 54) dX8_start_53 ⟨by decide, by decide, rfl⟩ rfl (by simp only [mlen]; omega) (by decide) rfl ?_
      refine wp_aload_n (i := 0) (q := 55) dX8_start_54 rfl rfl rfl ?_
      refine wm_getA (k := 26) (o := 16) (q := 58) dX8_start_55 ffX8_57 rfl rfl rfl ?_ -- start
      refine wp_iconst (v := nI 3) (q := 59) dX8_start_58 (by decide) rfl ?_
      refine wp_iload (q := 61) dX8_start_59 rfl rfl ?_
      refine wm_iastN (q := 62) dX8_start_61 ⟨by decide, by decide, rfl⟩ rfl (by simp only [mlen]; omega) (by decide) rfl ?_
      refine wp_iconst (v := nI 1) (q := 63) dX8_start_62 (by decide) rfl ?_
      refine wp_iret dX8_start_63 rfl ?_
      exact ⟨rfl, rfl⟩
    · rw [b2_eq0.mp h30, if_pos rfl, if_neg (by decide), if_neg (by decide)]
      refine wp_bipush (v := (-2)) (q := 26) dX8_start_24 (by decide) rfl ?_
      refine wp_iret dX8_start_26 rfl ?_
      exact ⟨rfl, rfl⟩
  · rw [b2n_ne0.mp hc, if_pos rfl, Bool.false_and]
    refine wp_iconst (v := (-1)) (q := 9) dX8_start_8 (by decide) rfl ?_
    refine wp_iret dX8_start_9 rfl ?_
    exact ⟨rfl, rfl⟩
theorem tX8_act {x y : Int32} (hd : 2 ≤ d) (hM : MM I A np) (hA : MA I A np na) : mt l mX8_act d 0 0 [.ref b, .int x, .int y] (sz, mh b I L A B g) (rI (aAct np na x y) (sz, mh b (aActI I np na x y) L (aActA A np na x y) B g)) := by
  obtain ⟨hn, h0, hP, -⟩ := hM
  obtain ⟨a1, a2, a3⟩ := hA
  have bad : (ix np x && ix np y) = false → wp l mX8_act [] d 0 0 (rI (aAct np na x y) (sz, mh b (aActI I np na x y) L (aActA A np na x y) B g)) (sz, mh b I L A B g) 16 [some (.ref b), some (.int x), some (.int y)] [] := by
    intro e
    unfold aAct aActI aActA okAc
    rw [e, if_pos rfl, Bool.false_and]
    refine wp_iconst (v := (-1)) (q := 17) dX8_act_16 (by decide) rfl ?_
    refine wp_iret dX8_act_17 rfl ?_
    exact ⟨rfl, rfl⟩
  refine mt_in (lv := [_, _, _]) (by decide) (Nat.le_of_ble_eq_true rfl) rfl ?_
  refine wp_aload_n (i := 0) (q := 1) dX8_act_0 rfl rfl rfl ?_
  refine wp_iload_n (i := 1) (q := 2) dX8_act_1 rfl rfl rfl ?_
  refine wp_Vi (μ' := mX8_noPoint) (ci := 8) (q := 5) (tX8_noPoint (d := d - 1) (by omega) hn h0) dX8_act_2 okX8_noPoint lkX8_119 mh_obj rfl rfl rfl (Nat.le_of_ble_eq_true rfl) (by omega) rfl ?_
  refine wp_if_ne (t := 16) (q := 8) dX8_act_5 (by decide) rfl (fun hc => ?_) (fun hc => ?_)
  · exact bad (by rw [b2n_ne0.mp hc]; rfl)
  have h1 := b2n_eq0.mp hc
  refine wp_aload_n (i := 0) (q := 9) dX8_act_8 rfl rfl rfl ?_
  refine wp_iload_n (i := 2) (q := 10) dX8_act_9 rfl rfl rfl ?_
  refine wp_Vi (μ' := mX8_noPoint) (ci := 8) (q := 13) (tX8_noPoint (d := d - 1) (by omega) hn h0) dX8_act_10 okX8_noPoint lkX8_119 mh_obj rfl rfl rfl (Nat.le_of_ble_eq_true rfl) (by omega) rfl ?_
  refine wp_if_eq (t := 18) (q := 16) dX8_act_13 (by decide) rfl (fun hc => ?_) (fun hc => ?_)
  · have h2 := b2n_eq0.mp hc
    unfold aAct aActI aActA okAc
    rw [h1, h2, if_neg (by decide), Bool.and_self, Bool.true_and]
    refine wp_aload_n (i := 0) (q := 19) dX8_act_18 rfl rfl rfl ?_
    refine wm_getI (k := 27) (q := 22) dX8_act_19 ffX8_241 rfl rfl ?_ -- acts
    refine wp_bipush (v := nI 10) (q := 24) dX8_act_22 (by decide) rfl ?_
    rw [a2]
    refine wp_icmp_ne (t := 30) (q := 27) dX8_act_24 (by decide) rfl (fun h6 => ?_) (fun h6 => ?_)
    · have h6 : ¬ na = 10 := fun q => h6 (by rw [q])
      rw [if_neg h6, decide_eq_false h6]
      refine wp_aload_n (i := 0) (q := 31) dX8_act_30 rfl rfl rfl ?_
      refine wm_getA (k := 28) (o := 17) (q := 34) dX8_act_31 ffX8_60 rfl rfl rfl ?_ -- from
      refine wp_aload_n (i := 0) (q := 35) dX8_act_34 rfl rfl rfl ?_
      refine wm_getI (k := 27) (q := 38) dX8_act_35 ffX8_241 rfl rfl ?_ -- acts
      refine wp_iload_n (i := 1) (q := 39) dX8_act_38 rfl rfl rfl ?_
      rw [a2]
      refine wm_iastN (q := 40) dX8_act_39 ⟨by decide, by decide, rfl⟩ rfl (by simp only [mlen]; omega) (by decide) rfl ?_
      refine wp_aload_n (i := 0) (q := 41) dX8_act_40 rfl rfl rfl ?_
      refine wm_getA (k := 29) (o := 18) (q := 44) dX8_act_41 ffX8_63 rfl rfl rfl ?_ -- to
      refine wp_aload_n (i := 0) (q := 45) dX8_act_44 rfl rfl rfl ?_
      refine wm_getI (k := 27) (q := 48) dX8_act_45 ffX8_241 rfl rfl ?_ -- acts
      refine wp_iload_n (i := 2) (q := 49) dX8_act_48 rfl rfl rfl ?_
      rw [a2]
      refine wm_iastN (q := 50) dX8_act_49 ⟨by decide, by decide, rfl⟩ rfl (by simp only [mlen]; omega) (by decide) rfl ?_
      refine wp_aload_n (i := 0) (q := 51) dX8_act_50 rfl rfl rfl ?_
      refine wp_dup (q := 52) dX8_act_51 rfl rfl ?_
      refine wm_getI (k := 27) (q := 55) dX8_act_52 ffX8_241 rfl rfl ?_ -- acts
      refine wp_iconst (v := nI 1) (q := 56) dX8_act_55 (by decide) rfl ?_
      refine wp_iadd (q := 57) dX8_act_56 rfl ?_
      rw [a2, nI_add]
      refine wm_putI (k := 27) (q := 60) dX8_act_57 ffX8_241 rfl rfl ?_ -- acts
      refine wp_aload_n (i := 0) (q := 61) dX8_act_60 rfl rfl rfl ?_
      refine wm_getI (k := 27) (q := 64) dX8_act_61 ffX8_241 rfl rfl ?_ -- acts
      refine wp_iconst (v := nI 1) (q := 65) dX8_act_64 (by decide) rfl ?_
      refine wp_isub (q := 66) dX8_act_65 rfl ?_
      rw [show upd I 27 (nI (na + 1)) 27 = nI (na + 1) by simp [upd], pk_sub (by omega)]
      refine wp_iret dX8_act_66 rfl ?_
      exact ⟨rfl, rfl⟩
    · have h6 : na = 10 := (nI_eq (by omega) (by decide)).mp h6
      rw [if_pos h6, decide_eq_true h6]
      refine wp_bipush (v := (-4)) (q := 29) dX8_act_27 (by decide) rfl ?_
      refine wp_iret dX8_act_29 rfl ?_
      exact ⟨rfl, rfl⟩
  · exact bad (by rw [b2n_ne0.mp hc, Bool.and_false])
theorem tX8_noMade {k v : Int32} (hd : 1 ≤ d) (hM : MM I A np) (hA : MA I A np na) : mt l mX8_noMade d 0 0 [.ref b, .int k, .int v] (sz, mh b I L A B g) (rI (b2 (noMd A na k v)) (sz, mh b I L A B g)) := by
  obtain ⟨hn, h0, hP, -⟩ := hM
  obtain ⟨a1, a2, a3⟩ := hA
  refine mt_in (lv := [_, _, _]) (by decide) (Nat.le_of_ble_eq_true rfl) rfl ?_
  refine wp_iload_n (i := 1) (q := 1) dX8_noMade_0 rfl rfl rfl ?_
  refine wp_iconst (v := nI 0) (q := 2) dX8_noMade_1 (by decide) rfl ?_
  refine wp_aload_n (i := 0) (q := 3) dX8_noMade_2 rfl rfl rfl ?_
  refine wm_getI (k := 27) (q := 6) dX8_noMade_3 ffX8_241 rfl rfl ?_ -- acts
  refine wp_iconst (v := nI 1) (q := 7) dX8_noMade_6 (by decide) rfl ?_
  refine wp_isub (q := 8) dX8_noMade_7 rfl ?_
  refine wp_Si (μ' := mX8_in) (q := 11) (tX8_in (d := d - 1)) dX8_noMade_8 okX8_in lkX8_115 rfl rfl (Nat.le_of_ble_eq_true rfl) (by omega) rfl ?_
  rw [a2, inB_pt (by omega)]
  unfold noMd
  refine wp_if_eq (t := 35) (q := 14) dX8_noMade_11 (by decide) rfl (fun hc => ?_) (fun hc => ?_)
  · rw [b2_eq0.mp hc]
    refine wp_iconst (v := nI 1) (q := 36) dX8_noMade_35 (by decide) rfl ?_
    refine wp_goto (q := 40) dX8_noMade_36 (by decide) ?_
    refine wp_zret dX8_noMade_40 rfl (by first | exact Or.inl rfl | exact Or.inr rfl | exact b2_01 _ | assumption) ?_
    exact ⟨rfl, rfl⟩
  have hc := b2_ne0.mp hc
  rw [hc, Bool.true_and]
  obtain ⟨a, ha, rfl⟩ := ix_of hc (by omega)
  obtain ⟨-, -, e1, e2⟩ := a3 a ha
  have m1 := (hP (toA A a) (by omega)).1
  have m2 := (hP (toA A a) (by omega)).2.1
  rw [nI_clamp (by omega)]
  refine wp_iload_n (i := 2) (q := 15) dX8_noMade_14 rfl rfl rfl ?_
  refine wp_iconst (v := nI 0) (q := 16) dX8_noMade_15 (by decide) rfl ?_
  refine wp_aload_n (i := 0) (q := 17) dX8_noMade_16 rfl rfl rfl ?_
  refine wm_getA (k := 1) (o := 1) (q := 20) dX8_noMade_17 ffX8_7 rfl rfl rfl ?_ -- size
  refine wp_aload_n (i := 0) (q := 21) dX8_noMade_20 rfl rfl rfl ?_
  refine wm_getA (k := 29) (o := 18) (q := 24) dX8_noMade_21 ffX8_63 rfl rfl rfl ?_ -- to
  refine wp_iload_n (i := 1) (q := 25) dX8_noMade_24 rfl rfl rfl ?_
  refine wm_ialdN (q := 26) dX8_noMade_25 ⟨by decide, by decide, rfl⟩ rfl (by simp only [mlen]; omega) (by decide) rfl ?_
  rw [e1]
  refine wm_ialdN (q := 27) dX8_noMade_26 ⟨by decide, by decide, rfl⟩ rfl (by simp only [mlen]; omega) (by decide) rfl ?_
  refine wp_iconst (v := nI 1) (q := 28) dX8_noMade_27 (by decide) rfl ?_
  refine wp_isub (q := 29) dX8_noMade_28 rfl ?_
  rw [m1]
  refine wp_Si (μ' := mX8_in) (q := 32) (tX8_in (d := d - 1)) dX8_noMade_29 okX8_in lkX8_115 rfl rfl (Nat.le_of_ble_eq_true rfl) (by omega) rfl ?_
  rw [inB_pt (by omega)]
  refine wp_if_ne (t := 39) (q := 35) dX8_noMade_32 (by decide) rfl (fun hz => ?_) (fun hz => ?_)
  · rw [b2_ne0.mp hz]
    refine wp_iconst (v := nI 0) (q := 40) dX8_noMade_39 (by decide) rfl ?_
    refine wp_zret dX8_noMade_40 rfl (by first | exact Or.inl rfl | exact Or.inr rfl | exact b2_01 _ | assumption) ?_
    exact ⟨rfl, rfl⟩
  · rw [b2_eq0.mp hz]
    refine wp_iconst (v := nI 1) (q := 36) dX8_noMade_35 (by decide) rfl ?_
    refine wp_goto (q := 40) dX8_noMade_36 (by decide) ?_
    refine wp_zret dX8_noMade_40 rfl (by first | exact Or.inl rfl | exact Or.inr rfl | exact b2_01 _ | assumption) ?_
    exact ⟨rfl, rfl⟩
theorem tX8_made {k v c : Int32} (hd : 2 ≤ d) (hM : MM I A np) (hA : MA I A np na) : mt l mX8_made d 0 0 [.ref b, .int k, .int v, .int c] (sz, mh b I L A B g) (rI (aMade A na k v c) (sz, mh b I L A B g)) := by
  refine mt_in (lv := [_, _, _, _]) (by decide) (Nat.le_of_ble_eq_true rfl) rfl ?_
  refine wp_aload_n (i := 0) (q := 1) dX8_made_0 rfl rfl rfl ?_
  refine wp_iload_n (i := 1) (q := 2) dX8_made_1 rfl rfl rfl ?_
  refine wp_iload_n (i := 2) (q := 3) dX8_made_2 rfl rfl rfl ?_
  refine wp_Vi (μ' := mX8_noMade) (ci := 8) (q := 6) (tX8_noMade (d := d - 1) (by omega) hM hA) dX8_made_3 okX8_noMade lkX8_244 mh_obj rfl rfl rfl (Nat.le_of_ble_eq_true rfl) (by omega) rfl ?_
  obtain ⟨hn, h0, hP, -⟩ := hM
  obtain ⟨a1, a2, a3⟩ := hA
  unfold aMade
  refine wp_if_eq (t := 13) (q := 9) dX8_made_6 (by decide) rfl (fun hc => ?_) (fun hc => ?_)
  · have hc := b2_eq0.mp hc
    rw [hc, if_neg (by decide)]
    have hc2 : (ix na k && ix (kA A (toA A k.toNatClampNeg)) v) = true := by unfold noMd at hc; simpa using hc
    obtain ⟨h1, h2⟩ := Bool.and_eq_true_iff.mp hc2
    obtain ⟨a, ha, rfl⟩ := ix_of h1 (by omega)
    obtain ⟨-, -, e1, e2⟩ := a3 a ha
    have m2 := (hP (toA A a) (by omega)).2.1
    rw [nI_clamp (by omega)] at h2 ⊢
    obtain ⟨v, hv, rfl⟩ := ix_of h2 (by omega)
    rw [nI_clamp (by omega)]
    refine wp_iload_n (i := 3) (q := 14) dX8_made_13 rfl rfl rfl ?_
    refine wp_iconst (v := nI 0) (q := 15) dX8_made_14 (by decide) rfl ?_
    refine wp_iconst (v := nI 4) (q := 16) dX8_made_15 (by decide) rfl ?_
    refine wp_Si (μ' := mX8_in) (q := 19) (tX8_in (d := d - 1)) dX8_made_16 okX8_in lkX8_115 rfl rfl (Nat.le_of_ble_eq_true rfl) (by omega) rfl ?_
    rw [inB_le (by decide)]
    refine wp_if_eq (t := 40) (q := 22) dX8_made_19 (by decide) rfl (fun h5 => ?_) (fun h5 => ?_)
    · rw [show ix 5 c = false from b2_eq0.mp h5, if_neg (by decide)]
      refine wp_bipush (v := (-2)) (q := 42) dX8_made_40 (by decide) rfl ?_
      refine wp_iret dX8_made_42 rfl ?_
      exact ⟨rfl, rfl⟩
    · have h5 : ix 5 c = true := b2_ne0.mp h5
      rw [h5, if_pos rfl]
      obtain ⟨c, hc5, rfl⟩ := ix_of h5 (by decide)
      rw [nI_clamp (by omega)]
      refine wp_aload_n (i := 0) (q := 23) dX8_made_22 rfl rfl rfl ?_
      refine wm_getA (k := 30) (o := 19) (q := 26) dX8_made_23 ffX8_66 rfl rfl rfl ?_ -- made
      refine wp_bipush (v := nI 20) (q := 28) dX8_made_26 (by decide) rfl ?_
      refine wp_iload_n (i := 1) (q := 29) dX8_made_28 rfl rfl rfl ?_
      refine wp_imul (q := 30) dX8_made_29 rfl ?_
      refine wp_iconst (v := nI 5) (q := 31) dX8_made_30 (by decide) rfl ?_
      refine wp_iload_n (i := 2) (q := 32) dX8_made_31 rfl rfl rfl ?_
      refine wp_imul (q := 33) dX8_made_32 rfl ?_
      refine wp_iadd (q := 34) dX8_made_33 rfl ?_
      refine wp_iload_n (i := 3) (q := 35) dX8_made_34 rfl rfl rfl ?_
      refine wp_iadd (q := 36) dX8_made_35 rfl ?_
      rw [pk_mul, pk_mul, nI_add, nI_add]
      refine wm_ialdN (q := 37) dX8_made_36 ⟨by decide, by decide, rfl⟩ rfl (by simp only [mlen]; omega) (by decide) rfl ?_
      refine wp_goto (q := 42) dX8_made_37 (by decide) ?_
      refine wp_iret dX8_made_42 rfl ?_
      exact ⟨rfl, rfl⟩
  · rw [b2_ne0.mp hc, if_pos rfl]
    refine wp_iconst (v := (-1)) (q := 10) dX8_made_9 (by decide) rfl ?_
    refine wp_goto (q := 42) dX8_made_10 (by decide) ?_
    refine wp_iret dX8_made_42 rfl ?_
    exact ⟨rfl, rfl⟩
theorem tX8_told {w : Int32} : mt l mX8_told d 0 0 [.ref b, .int w] (sz, mh b I L A B g) (rI (aTold I w) (sz, mh b I L A B g)) := by
  unfold aTold
  refine mt_in (lv := [_, _]) (by decide) (Nat.le_of_ble_eq_true rfl) rfl ?_
  refine wp_iload_n (i := 1) (q := 1) dX8_told_0 rfl rfl rfl ?_
  refine wp_if_ne (t := 11) (q := 4) dX8_told_1 (by decide) rfl (fun h0 => ?_) (fun h0 => ?_)
  · rw [if_neg h0]
    refine wp_iload_n (i := 1) (q := 12) dX8_told_11 rfl rfl rfl ?_
    refine wp_iconst (v := nI 1) (q := 13) dX8_told_12 (by decide) rfl ?_
    refine wp_icmp_ne (t := 23) (q := 16) dX8_told_13 (by decide) rfl (fun h1 => ?_) (fun h1 => ?_)
    · rw [if_neg h1]
      refine wp_iload_n (i := 1) (q := 24) dX8_told_23 rfl rfl rfl ?_
      refine wp_iconst (v := nI 2) (q := 25) dX8_told_24 (by decide) rfl ?_
      refine wp_icmp_ne (t := 43) (q := 28) dX8_told_25 (by decide) rfl (fun h2 => ?_) (fun h2 => ?_)
      · rw [if_neg h2]
        refine wp_iload_n (i := 1) (q := 44) dX8_told_43 rfl rfl rfl ?_
        refine wp_iconst (v := nI 3) (q := 45) dX8_told_44 (by decide) rfl ?_
        refine wp_icmp_ne (t := 55) (q := 48) dX8_told_45 (by decide) rfl (fun h3 => ?_) (fun h3 => ?_)
        · rw [if_neg h3]
          refine wp_bipush (v := (-2)) (q := 57) dX8_told_55 (by decide) rfl ?_
          refine wp_iret dX8_told_57 rfl ?_
          exact ⟨rfl, rfl⟩
        · rw [if_pos h3]
          refine wp_aload_n (i := 0) (q := 49) dX8_told_48 rfl rfl rfl ?_
          refine wm_getI (k := 14) (q := 52) dX8_told_49 ffX8_197 rfl rfl ?_ -- deaths
          refine wp_goto (q := 57) dX8_told_52 (by decide) ?_
          refine wp_iret dX8_told_57 rfl ?_
          exact ⟨rfl, rfl⟩
      · rw [if_pos h2]
        refine wp_aload_n (i := 0) (q := 29) dX8_told_28 rfl rfl rfl ?_
        refine wm_getI (k := 25) (q := 32) dX8_told_29 ffX8_109 rfl rfl ?_ -- startAt
        refine wp_if_ge (t := 39) (q := 35) dX8_told_32 (by decide) rfl (fun hs => ?_) (fun hs => ?_)
        · rw [if_pos hs]
          refine wp_iconst (v := nI 1) (q := 40) dX8_told_39 (by decide) rfl ?_
          refine wp_goto (q := 57) dX8_told_40 (by decide) ?_
          refine wp_iret dX8_told_57 rfl ?_
          exact ⟨rfl, rfl⟩
        · rw [if_neg hs]
          refine wp_iconst (v := nI 0) (q := 36) dX8_told_35 (by decide) rfl ?_
          refine wp_goto (q := 57) dX8_told_36 (by decide) ?_
          refine wp_iret dX8_told_57 rfl ?_
          exact ⟨rfl, rfl⟩
    · rw [if_pos h1]
      refine wp_aload_n (i := 0) (q := 17) dX8_told_16 rfl rfl rfl ?_
      refine wm_getI (k := 27) (q := 20) dX8_told_17 ffX8_241 rfl rfl ?_ -- acts
      refine wp_goto (q := 57) dX8_told_20 (by decide) ?_
      refine wp_iret dX8_told_57 rfl ?_
      exact ⟨rfl, rfl⟩
  · rw [if_pos h0]
    refine wp_aload_n (i := 0) (q := 5) dX8_told_4 rfl rfl rfl ?_
    refine wm_getI (k := 0) (q := 8) dX8_told_5 ffX8_105 rfl rfl ?_ -- points
    refine wp_goto (q := 57) dX8_told_8 (by decide) ?_
    refine wp_iret dX8_told_57 rfl ?_
    exact ⟨rfl, rfl⟩
theorem tX8_broke {w : Int32} (hd : 1 ≤ d) (hM : MM I A np) (hB : 0 ≤ I 41 → I 42 = nI (I 42).toNatClampNeg ∧ (I 42).toNatClampNeg < np ∧ I 43 = nI (I 43).toNatClampNeg ∧ (I 43).toNatClampNeg ≤ 5) : mt l mX8_broke d 0 0 [.ref b, .int w] (sz, mh b I L A B g) (rI (aBroke I A w) (sz, mh b I L A B g)) := by
  obtain ⟨hn, h0, hP, -⟩ := hM
  unfold aBroke
  refine mt_in (lv := [_, _]) (by decide) (Nat.le_of_ble_eq_true rfl) rfl ?_
  refine wp_aload_n (i := 0) (q := 1) dX8_broke_0 rfl rfl rfl ?_
  refine wm_getI (k := 41) (q := 4) dX8_broke_1 ffX8_112 rfl rfl ?_ -- breaks
  refine wp_if_ge (t := 10) (q := 7) dX8_broke_4 (by decide) rfl (fun h41 => ?_) (fun h41 => ?_)
  · rw [if_pos h41]
    obtain ⟨b1, b2', b3, b4⟩ := hB h41
    have m1 := (hP (I 42).toNatClampNeg (by omega)).1
    have m2 := (hP (I 42).toNatClampNeg (by omega)).2.1
    generalize hpp : (I 42).toNatClampNeg = pp at b1 b2' m1 m2 ⊢
    generalize hll : (I 43).toNatClampNeg = ll at b3 b4 ⊢
    refine wp_iload_n (i := 1) (q := 11) dX8_broke_10 rfl rfl rfl ?_
    refine wp_iconst (v := nI 3) (q := 12) dX8_broke_11 (by decide) rfl ?_
    refine wp_iconst (v := nI 2) (q := 13) dX8_broke_12 (by decide) rfl ?_
    refine wp_aload_n (i := 0) (q := 14) dX8_broke_13 rfl rfl rfl ?_
    refine wm_getA (k := 1) (o := 1) (q := 17) dX8_broke_14 ffX8_7 rfl rfl rfl ?_ -- size
    refine wp_aload_n (i := 0) (q := 18) dX8_broke_17 rfl rfl rfl ?_
    refine wm_getI (k := 42) (q := 21) dX8_broke_18 ffX8_259 rfl rfl ?_ -- breakPoint
    rw [b1]
    refine wm_ialdN (q := 22) dX8_broke_21 ⟨by decide, by decide, rfl⟩ rfl (by simp only [mlen]; omega) (by decide) rfl ?_
    refine wp_iadd (q := 23) dX8_broke_22 rfl ?_
    rw [m1, nI_add]
    refine wp_Si (μ' := mX8_in) (q := 26) (tX8_in (d := d - 1)) dX8_broke_23 okX8_in lkX8_115 rfl rfl (Nat.le_of_ble_eq_true rfl) (by omega) rfl ?_
    refine wp_if_eq (t := 38) (q := 29) dX8_broke_26 (by decide) rfl (fun hA => ?_) (fun hA => ?_)
    · rw [b2_eq0.mp hA, if_neg (by decide)]
      refine wp_iload_n (i := 1) (q := 39) dX8_broke_38 rfl rfl rfl ?_
      refine wp_bipush (v := nI 10) (q := 41) dX8_broke_39 (by decide) rfl ?_
      refine wp_bipush (v := nI 9) (q := 43) dX8_broke_41 (by decide) rfl ?_
      refine wp_aload_n (i := 0) (q := 44) dX8_broke_43 rfl rfl rfl ?_
      refine wm_getI (k := 43) (q := 47) dX8_broke_44 ffX8_262 rfl rfl ?_ -- breakLength
      refine wp_iadd (q := 48) dX8_broke_47 rfl ?_
      rw [b3, nI_add]
      refine wp_Si (μ' := mX8_in) (q := 51) (tX8_in (d := d - 1)) dX8_broke_48 okX8_in lkX8_115 rfl rfl (Nat.le_of_ble_eq_true rfl) (by omega) rfl ?_
      refine wp_if_eq (t := 64) (q := 54) dX8_broke_51 (by decide) rfl (fun hC => ?_) (fun hC => ?_)
      · rw [b2_eq0.mp hC, if_neg (by decide)]
        refine wp_iload_n (i := 1) (q := 65) dX8_broke_64 rfl rfl rfl ?_
        refine wp_if_ne (t := 75) (q := 68) dX8_broke_65 (by decide) rfl (fun w0 => ?_) (fun w0 => ?_)
        · rw [if_neg w0]
          refine wp_iload_n (i := 1) (q := 76) dX8_broke_75 rfl rfl rfl ?_
          refine wp_iconst (v := nI 1) (q := 77) dX8_broke_76 (by decide) rfl ?_
          refine wp_icmp_ne (t := 87) (q := 80) dX8_broke_77 (by decide) rfl (fun w1 => ?_) (fun w1 => ?_)
          · rw [if_neg w1]
            refine wp_iload_n (i := 1) (q := 88) dX8_broke_87 rfl rfl rfl ?_
            refine wp_iconst (v := nI 2) (q := 89) dX8_broke_88 (by decide) rfl ?_
            refine wp_icmp_ne (t := 99) (q := 92) dX8_broke_89 (by decide) rfl (fun w2 => ?_) (fun w2 => ?_)
            · rw [if_neg w2]
              refine wp_bipush (v := (-9)) (q := 101) dX8_broke_99 (by decide) rfl ?_
              refine wp_iret dX8_broke_101 rfl ?_
              exact ⟨rfl, rfl⟩
            · rw [if_pos w2]
              refine wp_aload_n (i := 0) (q := 93) dX8_broke_92 rfl rfl rfl ?_
              refine wm_getI (k := 43) (q := 96) dX8_broke_93 ffX8_262 rfl rfl ?_ -- breakLength
              refine wp_goto (q := 101) dX8_broke_96 (by decide) ?_
              refine wp_iret dX8_broke_101 rfl ?_
              exact ⟨by rw [b3], rfl⟩
          · rw [if_pos w1]
            refine wp_aload_n (i := 0) (q := 81) dX8_broke_80 rfl rfl rfl ?_
            refine wm_getI (k := 41) (q := 84) dX8_broke_81 ffX8_112 rfl rfl ?_ -- breaks
            refine wp_goto (q := 101) dX8_broke_84 (by decide) ?_
            refine wp_iret dX8_broke_101 rfl ?_
            exact ⟨rfl, rfl⟩
        · rw [if_pos w0]
          refine wp_aload_n (i := 0) (q := 69) dX8_broke_68 rfl rfl rfl ?_
          refine wm_getI (k := 42) (q := 72) dX8_broke_69 ffX8_259 rfl rfl ?_ -- breakPoint
          refine wp_goto (q := 101) dX8_broke_72 (by decide) ?_
          refine wp_iret dX8_broke_101 rfl ?_
          exact ⟨by rw [b1], rfl⟩
      · have hC := b2_ne0.mp hC
        rw [hC, if_pos rfl]
        obtain ⟨w, hw1, hw2, rfl⟩ := inB_of hC (by decide) (by omega)
        rw [nI_clamp (by omega)]
        refine wp_aload_n (i := 0) (q := 55) dX8_broke_54 rfl rfl rfl ?_
        refine wm_getA (k := 45) (o := 31) (q := 58) dX8_broke_55 ffX8_102 rfl rfl rfl ?_ -- breakAct
        refine wp_iload_n (i := 1) (q := 59) dX8_broke_58 rfl rfl rfl ?_
        refine wp_bipush (v := nI 10) (q := 61) dX8_broke_59 (by decide) rfl ?_
        refine wp_isub (q := 62) dX8_broke_61 rfl ?_
        rw [pk_sub (by omega)]
        refine wm_ialdN (q := 63) dX8_broke_62 ⟨by decide, by decide, rfl⟩ rfl (by simp only [mlen]; omega) (by decide) rfl ?_
        refine wp_iret dX8_broke_63 rfl ?_
        exact ⟨rfl, rfl⟩
    · have hA := b2_ne0.mp hA
      rw [hA, if_pos rfl]
      obtain ⟨w, hw1, hw2, rfl⟩ := inB_of hA (by decide) (by omega)
      rw [nI_clamp (by omega)]
      refine wp_aload_n (i := 0) (q := 30) dX8_broke_29 rfl rfl rfl ?_
      refine wm_getA (k := 44) (o := 30) (q := 33) dX8_broke_30 ffX8_99 rfl rfl rfl ?_ -- breakNumber
      refine wp_iload_n (i := 1) (q := 34) dX8_broke_33 rfl rfl rfl ?_
      refine wp_iconst (v := nI 3) (q := 35) dX8_broke_34 (by decide) rfl ?_
      refine wp_isub (q := 36) dX8_broke_35 rfl ?_
      rw [pk_sub (by omega)]
      refine wm_ialdN (q := 37) dX8_broke_36 ⟨by decide, by decide, rfl⟩ rfl (by simp only [mlen]; omega) (by decide) rfl ?_
      refine wp_iret dX8_broke_37 rfl ?_
      exact ⟨rfl, rfl⟩
  · rw [if_neg h41]
    refine wp_bipush (v := (-9)) (q := 9) dX8_broke_7 (by decide) rfl ?_
    refine wp_iret dX8_broke_9 rfl ?_
    exact ⟨rfl, rfl⟩
end M8
