/-! THE CLASS: points and acts more -/
def cN (b : Nat) (I : Nat → Int32) (A : Nat → Nat → Int32) (B : Nat → Int64) (D D' : DS) (o : Nat) : aE := if o = 1 then cC b I A B D 1 else cC b I A B D' o
section K2
variable {l : Launch} {d lo sz b p a q k : Nat} {g : Nat → Option aE} {D : DS} {I : Nat → Int32} {A : Nat → Nat → Int32} {B : Nat → Int64} {P : PS}
theorem cN_pt : hset (sz, ch b I A B D g) (b + 2) (rA 5 6 (va_up (ptR D) (dNp D) (some q))) = (sz, ov b 33 (cN b I A B D (dnP D q k P)) g) := by
  refine ov_set ⟨2, by omega, rfl, ?_, fun o h1 h2 => ?_⟩
  · show rA 5 6 (ptR (dnP D q k P)) = _
    congr 6
    funext t
    unfold va_up
    show (if t < dNp D + 1 then some (upG (dPa D) (dNp D) q t) else none) = _
    by_cases w : t = dNp D
    · rw [if_pos w, if_pos (by omega), w, upG_at]
    · rw [if_neg w, upG_ne w]
      unfold ptR
      by_cases w2 : t < dNp D
      · rw [if_pos w2, if_pos (by omega)]
      · rw [if_neg w2, if_neg (by omega)]
  · unfold cN
    by_cases w : o = 1
    · rw [if_pos w, w]
    · rw [if_neg w]
      unfold cC
      split <;> first | rfl | (exact absurd rfl h2) | (exact absurd rfl w)
theorem cN_ct : hset (sz, ov b 33 (cN b I A B D (dnP D q k P)) g) (b + 1) (.inr (4, FD4 (b + 2) (b + 3) (b + 4) (b + 5) (nI (dNp D + 1)) (nI (dNa D)) (I 3))) = (sz, ch b I A B (dnP D q k P) g) := by
  refine ov_set ⟨1, by omega, rfl, rfl, fun o h1 h2 => ?_⟩
  unfold cN
  rw [if_neg h2]
theorem dw_newP (hW : DW lo sz g D) (h6 : dNp D < 6) (hk1 : 1 ≤ k) (hk : k ≤ 4) : DW lo (sz + (9 * k + 94)) (ph sz k P g) (dnP D sz k P) := by
  obtain ⟨n1, n2, n3, w1, w2, w3, w4, w5⟩ := hW
  have ePa : dPa (dnP D sz k P) = upG (dPa D) (dNp D) sz := rfl
  have eK : dK (dnP D sz k P) = upG (dK D) (dNp D) k := rfl
  have eP : dP (dnP D sz k P) = upG (dP D) (dNp D) P := rfl
  have eN : dNp (dnP D sz k P) = dNp D + 1 := rfl
  have eNa : dNa (dnP D sz k P) = dNa D := rfl
  have eAa : dAa (dnP D sz k P) = dAa D := rfl
  have eFr : dFr (dnP D sz k P) = dFr D := rfl
  have eTo : dTo (dnP D sz k P) = dTo D := rfl
  have eM : dM (dnP D sz k P) = dM D := rfl
  have hap : ∀ p p', p < dNp D + 1 → p' < dNp D + 1 → p ≠ p' → apt (upG (dPa D) (dNp D) sz p) (9 * upG (dK D) (dNp D) k p + 94) (upG (dPa D) (dNp D) sz p') (9 * upG (dK D) (dNp D) k p' + 94) := by
    intro p p' hp hp' hn
    by_cases c1 : p = dNp D
    · subst c1
      rw [upG_at, upG_at, upG_ne (fun e => hn e.symm), upG_ne (fun e => hn e.symm)]
      have := (w1 p' (by omega)).2.2.2.1
      exact Or.inr this
    · rw [upG_ne c1, upG_ne c1]
      by_cases c2 : p' = dNp D
      · subst c2
        rw [upG_at, upG_at]
        exact Or.inl (w1 p (by omega)).2.2.2.1
      · rw [upG_ne c2, upG_ne c2]
        exact w3 p p' (by omega) (by omega) hn
  have hKne : ∀ p, p < dNp D → upG (dK D) (dNp D) k p = dK D p := fun p hp => upG_ne (by omega)
  refine ⟨by rw [eN]; omega, by rw [eNa]; exact n2, by omega, fun p hp => ?_, fun a ha => ?_, fun p p' hp hp' hn => ?_, fun a a' ha ha' hn => ?_, fun p a hp ha => ?_⟩
  · rw [eN] at hp
    rw [ePa, eK, eP]
    by_cases c1 : p = dNp D
    · subst c1
      rw [upG_at, upG_at, upG_at]
      exact ⟨hk1, hk, n3, Nat.le_refl _, fun o ho => ov_in ho⟩
    · rw [upG_ne c1, upG_ne c1, upG_ne c1]
      obtain ⟨h1, h2, h3, h4, h5⟩ := w1 p (by omega)
      refine ⟨h1, h2, h3, by omega, fun o ho => ?_⟩
      rw [show ph sz k P g (dPa D p + o) = g (dPa D p + o) from ov_out (by omega)]
      exact h5 o ho
  · rw [eNa] at ha
    obtain ⟨h1, h2, h3, h4, h5⟩ := w2 a ha
    rw [eN, eFr, eTo, eAa, eK, eM, hKne _ h2, hKne _ h1]
    refine ⟨by omega, by omega, h3, by omega, fun o ho => ?_⟩
    rw [show ph sz k P g (dAa D a + o) = g (dAa D a + o) from ov_out (by omega)]
    exact h5 o ho
  · rw [ePa, eK]
    exact hap p p' hp hp' hn
  · rw [eNa] at ha ha'
    rw [eAa, eK, eTo, hKne _ (w2 a ha).2.1, hKne _ (w2 a' ha').2.1]
    exact w4 a a' ha ha' hn
  · rw [eN] at hp
    rw [eNa] at ha
    rw [ePa, eK, eAa, eTo, hKne _ (w2 a ha).2.1]
    by_cases c1 : p = dNp D
    · subst c1
      rw [upG_at, upG_at]
      exact Or.inr (w2 a ha).2.2.2.1
    · rw [upG_ne c1, upG_ne c1]
      exact w5 p a (by omega) ha
theorem tX4_addPoint (hd : 4 ≤ d) (hW : DW lo sz g D) (hb : b + 33 ≤ lo) (hk1 : 1 ≤ k) (hk : k ≤ 4) : mt l mX4_addPoint d 130 605 [.ref (b + 1), .int (nI k)] (sz, ch b I A B D g) (fun rv h' => (dNp D = 6 ∧ rv = some (.int (-4)) ∧ h' = (sz, ch b I A B D g)) ∨ (dNp D < 6 ∧ rv = some (.int (nI (dNp D))) ∧ h' = (sz + (9 * k + 94), ch b I A B (dnP D sz k P0s) (ph sz k P0s g)))) := by
  have h6 := hW.np
  have hlo := hW.2.2.1
  refine mt_in (lv := [_, _]) (by decide) (Nat.le_of_ble_eq_true rfl) rfl ?_
  refine wp_aload_n (i := 0) (q := 1) dX4_addPoint_0 rfl rfl rfl ?_
  refine wg4_4 (q := 4) dX4_addPoint_1 ffX4_31 (by first | exact ch_prg | exact ch_pts) rfl ?_ -- pointCount
  refine wp_bipush (v := nI 6) (q := 6) dX4_addPoint_4 (by decide) rfl ?_
  refine wp_icmp_lt (t := 12) (q := 9) dX4_addPoint_6 (by decide) rfl (fun hc => ?_) (fun hc => ?_)
  case _ =>
    have hc : dNp D < 6 := (nI_ltI (by omega) (by omega)).mp hc
    refine wp_aload_n (i := 0) (q := 13) dX4_addPoint_12 rfl rfl rfl ?_
    refine wg4_0 (q := 16) dX4_addPoint_13 ffX4_11 (by first | exact ch_prg | exact ch_pts) rfl ?_ -- points
    refine wp_aload_n (i := 0) (q := 17) dX4_addPoint_16 rfl rfl rfl ?_
    refine wg4_4 (q := 20) dX4_addPoint_17 ffX4_31 (by first | exact ch_prg | exact ch_pts) rfl ?_ -- pointCount
    refine wp_new (q := 23) dX4_addPoint_20 clX3 ckX4_9 niX3 nzX3 (by omega) (by omega) rfl ?_
    refine wp_dup (q := 24) dX4_addPoint_23 rfl rfl ?_
    refine wp_iload_n (i := 1) (q := 25) dX4_addPoint_24 rfl rfl rfl ?_
    refine wp_callI (μ' := mX3_init) (q := 28) (tX3_init (d := d - 1) (q := sz) (k := k) (by omega) hk) dX4_addPoint_25 okX3_init rfl rfl lkX4_41 rfl rfl (Nat.le_of_ble_eq_true rfl) (by omega) (by omega) (by omega) rfl (fun rv hx hq => ?_)
    obtain ⟨rfl, rfl⟩ := hq
    show wp _ _ _ _ _ _ _ _ _ _ [.ref sz, .int (nI (dNp D)), .ref (b + 2)]
    rw [show ph sz k P0s (ch b I A B D g) = ch b I A B D (ph sz k P0s g) from ov_comm (Or.inr (by omega))]
    refine wp_aastN (q := 29) (ci := 3) dX4_addPoint_28 ch_pts (by simp) ((ch_out (by omega)).trans ph_obj) (by omega) rfl ?_
    rw [cN_pt (k := k) (P := P0s)]
    refine wp_aload_n (i := 0) (q := 30) dX4_addPoint_29 rfl rfl rfl ?_
    refine wp_dup (q := 31) dX4_addPoint_30 rfl rfl ?_
    refine wg4_4 (q := 34) dX4_addPoint_31 ffX4_31 (by exact ov_at ⟨1, by omega, rfl, rfl⟩) rfl ?_ -- pointCount
    refine wp_iconst (v := nI 1) (q := 35) dX4_addPoint_34 (by decide) rfl ?_
    refine wp_iadd (q := 36) dX4_addPoint_35 rfl ?_
    rw [nI_add]
    refine wt4_4 (q := 39) dX4_addPoint_36 ffX4_31 (by exact ov_at ⟨1, by omega, rfl, rfl⟩) (by exact cN_ct) rfl ?_ -- pointCount
    refine wp_aload_n (i := 0) (q := 40) dX4_addPoint_39 rfl rfl rfl ?_
    refine wg4_4 (q := 43) dX4_addPoint_40 ffX4_31 (by exact ch_prg) rfl ?_ -- pointCount
    refine wp_iconst (v := nI 1) (q := 44) dX4_addPoint_43 (by decide) rfl ?_
    refine wp_isub (q := 45) dX4_addPoint_44 rfl ?_
    rw [show nI (dNp (dnP D sz k P0s)) - nI 1 = nI (dNp D) from pk_sub (show 1 ≤ dNp D + 1 by omega)]
    refine wp_iret dX4_addPoint_45 rfl ?_
    exact Or.inr ⟨hc, rfl, rfl⟩
  · have hc : dNp D = 6 := by
      rcases Nat.lt_or_ge (dNp D) 6 with w | w
      · exact absurd ((nI_ltI (by omega) (by omega)).mpr w) hc
      · omega
    refine wp_bipush (v := (-4)) (q := 11) dX4_addPoint_9 (by decide) rfl ?_
    refine wp_iret dX4_addPoint_11 rfl ?_
    exact Or.inl ⟨hc, rfl, rfl⟩
def okP (D : DS) (k : Int32) : Bool := inB k (nI 1) (nI 4) && !decide (dNp D = 6)
def cPoint (D : DS) (k : Int32) : Int32 := if inB k (nI 1) (nI 4) = false then -2 else if dNp D = 6 then -4 else nI (dNp D)
theorem tX7_point {x : Int32} (hd : 5 ≤ d) (hW : DW lo sz g D) (hb : b + 33 ≤ lo) : mt l mX7_point d 130 605 [.ref b, .int x] (sz, ch b I A B D g) (fun rv h' => rv = some (.int (cPoint D x)) ∧ ((okP D x = false ∧ h' = (sz, ch b I A B D g)) ∨ (okP D x = true ∧ 1 ≤ x.toNatClampNeg ∧ x.toNatClampNeg ≤ 4 ∧ x = nI x.toNatClampNeg ∧ h' = (sz + (9 * x.toNatClampNeg + 94), ch b I A B (dnP D sz x.toNatClampNeg P0s) (ph sz x.toNatClampNeg P0s g)) ∧ DW lo (sz + (9 * x.toNatClampNeg + 94)) (ph sz x.toNatClampNeg P0s g) (dnP D sz x.toNatClampNeg P0s)))) := by
  have h6 := hW.np
  have bad : inB x (nI 1) (nI 4) = false → wp l mX7_point [] d 130 605 (fun rv h' => rv = some (.int (cPoint D x)) ∧ ((okP D x = false ∧ h' = (sz, ch b I A B D g)) ∨ (okP D x = true ∧ 1 ≤ x.toNatClampNeg ∧ x.toNatClampNeg ≤ 4 ∧ x = nI x.toNatClampNeg ∧ h' = (sz + (9 * x.toNatClampNeg + 94), ch b I A B (dnP D sz x.toNatClampNeg P0s) (ph sz x.toNatClampNeg P0s g)) ∧ DW lo (sz + (9 * x.toNatClampNeg + 94)) (ph sz x.toNatClampNeg P0s g) (dnP D sz x.toNatClampNeg P0s)))) (sz, ch b I A B D g) 10 [some (.ref b), some (.int x)] [] := by
    intro hb2
    refine wp_bipush (v := (-2)) (q := 12) dX7_point_10 (by decide) rfl ?_
    refine wp_iret dX7_point_12 rfl ?_
    exact ⟨by unfold cPoint; rw [if_pos hb2], Or.inl ⟨by unfold okP; rw [hb2]; rfl, rfl⟩⟩
  refine mt_in (lv := [_, _]) (by decide) (Nat.le_of_ble_eq_true rfl) rfl ?_
  refine wp_iload_n (i := 1) (q := 1) dX7_point_0 rfl rfl rfl ?_
  refine wp_iconst (v := nI 1) (q := 2) dX7_point_1 (by decide) rfl ?_
  refine wp_icmp_lt (t := 10) (q := 5) dX7_point_2 (by decide) rfl (fun h1 => ?_) (fun h1 => ?_)
  · exact bad (by unfold inB; rw [decide_eq_false (fun q => q h1), Bool.false_and])
  refine wp_iload_n (i := 1) (q := 6) dX7_point_5 rfl rfl rfl ?_
  refine wp_iconst (v := nI 4) (q := 7) dX7_point_6 (by decide) rfl ?_
  refine wp_icmp_le (t := 13) (q := 10) dX7_point_7 (by decide) rfl (fun h4 => ?_) (fun h4 => ?_)
  · have hin : inB x (nI 1) (nI 4) = true := by unfold inB; rw [decide_eq_true h1, decide_eq_true (Int32.not_lt.mpr h4)]; rfl
    obtain ⟨k, hk1, hk4, rfl⟩ := inB_of hin (by decide) (by decide)
    rw [nI_clamp (by omega)]
    unfold cPoint okP
    rw [hin]
    refine wp_aload_n (i := 0) (q := 14) dX7_point_13 rfl rfl rfl ?_
    refine wg7_0 (q := 17) dX7_point_14 ffX7_10 (by exact ch_obj) rfl ?_ -- program
    refine wp_iload_n (i := 1) (q := 18) dX7_point_17 rfl rfl rfl ?_
    refine wp_callV (μ' := mX4_addPoint) (ci := 4) (q := 21) (tX4_addPoint (d := d - 1) (by omega) hW hb hk1 hk4) dX7_point_18 okX4_addPoint lkX7_42 ch_prg rfl rfl rfl (Nat.le_of_ble_eq_true rfl) (by omega) (by omega) (by omega) rfl (fun rv hx hq => ?_)
    rcases hq with ⟨q1, rfl, rfl⟩ | ⟨q1, rfl, rfl⟩
    · show wp _ _ _ _ _ _ _ _ _ _ [.int (-4)]
      refine wp_iret dX7_point_21 rfl ?_
      exact ⟨by rw [if_neg (by decide), if_pos q1], Or.inl ⟨by rw [decide_eq_true q1]; rfl, rfl⟩⟩
    · show wp _ _ _ _ _ _ _ _ _ _ [.int (nI (dNp D))]
      refine wp_iret dX7_point_21 rfl ?_
      exact ⟨by rw [if_neg (by decide), if_neg (by omega)], Or.inr ⟨by rw [decide_eq_false (by omega)]; rfl, hk1, hk4, rfl, rfl, dw_newP hW q1 hk1 hk4⟩⟩
  · exact bad (by unfold inB; rw [decide_eq_false (p := ¬ nI 4 < x) (fun q => q (Int32.not_le.mp h4)), Bool.and_false])
end K2
