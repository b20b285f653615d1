/-! THE CLASS: acts more; the constructors of Program, Passed, Search, RunLaws -/
section K3
variable {l : Launch} {d lo sz b p a q k f t m n : Nat} {g : Nat → Option aE} {D : DS} {I : Nat → Int32} {A : Nat → Nat → Int32} {B : Nat → Int64} {M : Nat → Nat → Int32}
theorem cN_ac : hset (sz, ch b I A B D g) (b + 3) (rA 7 10 (va_up (acR D) (dNa D) (some q))) = (sz, ov b 33 (cN b I A B D (dnA D q f t M)) g) := by
  refine ov_set ⟨3, by omega, rfl, ?_, fun o h1 h2 => ?_⟩
  · show rA 7 10 (acR (dnA D q f t M)) = _
    congr 6
    funext t
    unfold va_up
    show (if t < dNa D + 1 then some (upG (dAa D) (dNa D) q t) else none) = _
    by_cases w : t = dNa D
    · rw [if_pos w, if_pos (by omega), w, upG_at]
    · rw [if_neg w, upG_ne w]
      unfold acR
      by_cases w2 : t < dNa D
      · rw [if_pos w2, if_pos (by omega)]
      · rw [if_neg w2, if_neg (by omega)]
  · unfold cN
    by_cases w : o = 1
    · rw [if_pos w, w]
    · rw [if_neg w]
      unfold cC
      split <;> first | rfl | (exact absurd rfl h2) | (exact absurd rfl w)
theorem cN_ca : hset (sz, ov b 33 (cN b I A B D (dnA D q f t M)) g) (b + 1) (.inr (4, FD4 (b + 2) (b + 3) (b + 4) (b + 5) (nI (dNp D)) (nI (dNa D + 1)) (I 3))) = (sz, ch b I A B (dnA D q f t M) g) := by
  refine ov_set ⟨1, by omega, rfl, rfl, fun o h1 h2 => ?_⟩
  unfold cN
  rw [if_neg h2]
theorem dw_newA (hW : DW lo sz g D) (h10 : dNa D < 10) (hf : f < dNp D) (ht : t < dNp D) : DW lo (sz + (dK D t + 2)) (ah sz f t (dK D f) (dK D t) M g) (dnA D sz f t M) := by
  obtain ⟨n1, n2, n3, w1, w2, w3, w4, w5⟩ := hW
  have ePa : dPa (dnA D sz f t M) = dPa D := rfl
  have eK : dK (dnA D sz f t M) = dK D := rfl
  have eP : dP (dnA D sz f t M) = dP D := rfl
  have eN : dNp (dnA D sz f t M) = dNp D := rfl
  have eNa : dNa (dnA D sz f t M) = dNa D + 1 := rfl
  have eAa : dAa (dnA D sz f t M) = upG (dAa D) (dNa D) sz := rfl
  have eFr : dFr (dnA D sz f t M) = upG (dFr D) (dNa D) f := rfl
  have eTo : dTo (dnA D sz f t M) = upG (dTo D) (dNa D) t := rfl
  have eM : dM (dnA D sz f t M) = upG (dM D) (dNa D) M := rfl
  refine ⟨by rw [eN]; exact n1, by rw [eNa]; omega, by omega, fun p hp => ?_, fun a ha => ?_, fun p p' hp hp' hn => ?_, fun a a' ha ha' hn => ?_, fun p a hp ha => ?_⟩
  · rw [eN] at hp
    rw [ePa, eK, eP]
    obtain ⟨h1, h2, h3, h4, h5⟩ := w1 p hp
    refine ⟨h1, h2, h3, by omega, fun o ho => ?_⟩
    rw [show ah sz f t (dK D f) (dK D t) M g (dPa D p + o) = g (dPa D p + o) from ov_out (by omega)]
    exact h5 o ho
  · rw [eNa] at ha
    rw [eN, eFr, eTo, eAa, eK, eM]
    by_cases c1 : a = dNa D
    · subst c1
      rw [upG_at, upG_at, upG_at, upG_at]
      exact ⟨hf, ht, n3, Nat.le_refl _, fun o ho => ov_in ho⟩
    · rw [upG_ne c1, upG_ne c1, upG_ne c1, upG_ne c1]
      obtain ⟨h1, h2, h3, h4, h5⟩ := w2 a (by omega)
      refine ⟨h1, h2, h3, by omega, fun o ho => ?_⟩
      rw [show ah sz f t (dK D f) (dK D t) M g (dAa D a + o) = g (dAa D a + o) from ov_out (by omega)]
      exact h5 o ho
  · rw [ePa, eK]
    exact w3 p p' hp hp' hn
  · rw [eNa] at ha ha'
    rw [eAa, eK, eTo]
    by_cases c1 : a = dNa D
    · subst c1
      rw [upG_at, upG_at, upG_ne (fun e => hn e.symm), upG_ne (fun e => hn e.symm)]
      exact Or.inr (w2 a' (by omega)).2.2.2.1
    · rw [upG_ne c1, upG_ne c1]
      by_cases c2 : a' = dNa D
      · subst c2
        rw [upG_at, upG_at]
        exact Or.inl (w2 a (by omega)).2.2.2.1
      · rw [upG_ne c2, upG_ne c2]
        exact w4 a a' (by omega) (by omega) hn
  · rw [eN] at hp
    rw [eNa] at ha
    rw [ePa, eK, eAa, eTo]
    by_cases c1 : a = dNa D
    · subst c1
      rw [upG_at, upG_at]
      exact Or.inl (w1 p hp).2.2.2.1
    · rw [upG_ne c1, upG_ne c1]
      exact w5 p a hp (by omega)
theorem tX4_addAct (hd : 2 ≤ d) (hW : DW lo sz g D) (hb : b + 33 ≤ lo) (ht : t < dNp D) : mt l mX4_addAct d 6 29 [.ref (b + 1), .int (nI f), .int (nI t), .int (nI (dK D f)), .int (nI (dK D t))] (sz, ch b I A B D g) (fun rv h' => (dNa D = 10 ∧ rv = some (.int (-4)) ∧ h' = (sz, ch b I A B D g)) ∨ (dNa D < 10 ∧ rv = some (.int (nI (dNa D))) ∧ h' = (sz + (dK D t + 2), ch b I A B (dnA D sz f t (fun _ _ => 0)) (ah sz f t (dK D f) (dK D t) (fun _ _ => 0) g)))) := by
  have h10 := hW.na
  have h4 := hW.k4 ht
  have hlo := hW.2.2.1
  refine mt_in (lv := [_, _, _, _, _]) (by decide) (Nat.le_of_ble_eq_true rfl) rfl ?_
  refine wp_aload_n (i := 0) (q := 1) dX4_addAct_0 rfl rfl rfl ?_
  refine wg4_5 (q := 4) dX4_addAct_1 ffX4_35 (by first | exact ch_prg | exact ch_acs) rfl ?_ -- actCount
  refine wp_bipush (v := nI 10) (q := 6) dX4_addAct_4 (by decide) rfl ?_
  refine wp_icmp_lt (t := 12) (q := 9) dX4_addAct_6 (by decide) rfl (fun hc => ?_) (fun hc => ?_)
  case _ =>
    have hc : dNa D < 10 := (nI_ltI (by omega) (by omega)).mp hc
    refine wp_aload_n (i := 0) (q := 13) dX4_addAct_12 rfl rfl rfl ?_
    refine wg4_1 (q := 16) dX4_addAct_13 ffX4_19 (by first | exact ch_prg | exact ch_acs) rfl ?_ -- acts
    refine wp_aload_n (i := 0) (q := 17) dX4_addAct_16 rfl rfl rfl ?_
    refine wg4_5 (q := 20) dX4_addAct_17 ffX4_35 (by first | exact ch_prg | exact ch_acs) rfl ?_ -- actCount
    refine wp_new (q := 23) dX4_addAct_20 clX0 ckX4_17 niX0 nzX0 (by omega) (by omega) rfl ?_
    refine wp_dup (q := 24) dX4_addAct_23 rfl rfl ?_
    refine wp_iload_n (i := 1) (q := 25) dX4_addAct_24 rfl rfl rfl ?_
    refine wp_iload_n (i := 2) (q := 26) dX4_addAct_25 rfl rfl rfl ?_
    refine wp_iload_n (i := 3) (q := 27) dX4_addAct_26 rfl rfl rfl ?_
    refine wp_iload (q := 29) dX4_addAct_27 rfl rfl ?_
    refine wp_callI (μ' := mX0_init) (q := 32) (tX0_init (d := d - 1) (q := sz) (by omega) h4) dX4_addAct_29 okX0_init rfl rfl lkX4_44 rfl rfl (Nat.le_of_ble_eq_true rfl) (by omega) (by omega) (by omega) rfl (fun rv hx hq => ?_)
    obtain ⟨rfl, rfl⟩ := hq
    show wp _ _ _ _ _ _ _ _ _ _ [.ref sz, .int (nI (dNa D)), .ref (b + 3)]
    rw [show ah sz f t (dK D f) (dK D t) (fun _ _ => 0) (ch b I A B D g) = ch b I A B D (ah sz f t (dK D f) (dK D t) (fun _ _ => 0) g) from ov_comm (Or.inr (by omega))]
    refine wp_aastN (q := 33) (ci := 0) dX4_addAct_32 ch_acs (by simp) ((ch_out (by omega)).trans ah_obj) (by omega) rfl ?_
    rw [cN_ac (f := f) (t := t) (M := fun _ _ => 0)]
    refine wp_aload_n (i := 0) (q := 34) dX4_addAct_33 rfl rfl rfl ?_
    refine wp_dup (q := 35) dX4_addAct_34 rfl rfl ?_
    refine wg4_5 (q := 38) dX4_addAct_35 ffX4_35 (by exact ov_at ⟨1, by omega, rfl, rfl⟩) rfl ?_ -- actCount
    refine wp_iconst (v := nI 1) (q := 39) dX4_addAct_38 (by decide) rfl ?_
    refine wp_iadd (q := 40) dX4_addAct_39 rfl ?_
    rw [nI_add]
    refine wt4_5 (q := 43) dX4_addAct_40 ffX4_35 (by exact ov_at ⟨1, by omega, rfl, rfl⟩) (by exact cN_ca) rfl ?_ -- actCount
    refine wp_aload_n (i := 0) (q := 44) dX4_addAct_43 rfl rfl rfl ?_
    refine wg4_5 (q := 47) dX4_addAct_44 ffX4_35 (by exact ch_prg) rfl ?_ -- actCount
    refine wp_iconst (v := nI 1) (q := 48) dX4_addAct_47 (by decide) rfl ?_
    refine wp_isub (q := 49) dX4_addAct_48 rfl ?_
    rw [show nI (dNa (dnA D sz f t (fun _ _ => 0))) - nI 1 = nI (dNa D) from pk_sub (show 1 ≤ dNa D + 1 by omega)]
    refine wp_iret dX4_addAct_49 rfl ?_
    exact Or.inr ⟨hc, rfl, rfl⟩
  · have hc : dNa D = 10 := by
      rcases Nat.lt_or_ge (dNa D) 10 with w | w
      · exact absurd ((nI_ltI (by omega) (by omega)).mpr w) hc
      · omega
    refine wp_bipush (v := (-4)) (q := 11) dX4_addAct_9 (by decide) rfl ?_
    refine wp_iret dX4_addAct_11 rfl ?_
    exact Or.inl ⟨hc, rfl, rfl⟩
def okA (D : DS) (x y : Int32) : Bool := (ix (dNp D) x && ix (dNp D) y) && !decide (dNa D = 10)
def cAct (D : DS) (x y : Int32) : Int32 := if (ix (dNp D) x && ix (dNp D) y) = false then -1 else if dNa D = 10 then -4 else nI (dNa D)
theorem tX7_act {x y : Int32} (hd : 3 ≤ d) (hW : DW lo sz g D) (hb : b + 33 ≤ lo) : mt l mX7_act d 6 29 [.ref b, .int x, .int y] (sz, ch b I A B D g) (fun rv h' => rv = some (.int (cAct D x y)) ∧ ((okA D x y = false ∧ h' = (sz, ch b I A B D g)) ∨ (okA D x y = true ∧ x.toNatClampNeg < dNp D ∧ y.toNatClampNeg < dNp D ∧ x = nI x.toNatClampNeg ∧ y = nI y.toNatClampNeg ∧ h' = (sz + (dK D y.toNatClampNeg + 2), ch b I A B (dnA D sz x.toNatClampNeg y.toNatClampNeg (fun _ _ => 0)) (ah sz x.toNatClampNeg y.toNatClampNeg (dK D x.toNatClampNeg) (dK D y.toNatClampNeg) (fun _ _ => 0) g)) ∧ DW lo (sz + (dK D y.toNatClampNeg + 2)) (ah sz x.toNatClampNeg y.toNatClampNeg (dK D x.toNatClampNeg) (dK D y.toNatClampNeg) (fun _ _ => 0) g) (dnA D sz x.toNatClampNeg y.toNatClampNeg (fun _ _ => 0))))) := by
  have h6 := hW.np
  refine mt_in (lv := [_, _, _, _, _]) (by decide) (Nat.le_of_ble_eq_true rfl) rfl ?_
  refine wp_aload_n (i := 0) (q := 1) dX7_act_0 rfl rfl rfl ?_
  refine wg7_0 (q := 4) dX7_act_1 ffX7_10 (by first | exact ch_obj | assumption) rfl ?_ -- program
  refine wp_iload_n (i := 1) (q := 5) dX7_act_4 rfl rfl rfl ?_
  by_cases w : ix (dNp D) x = true
  · obtain ⟨f, hf, rfl⟩ := ix_of w (by omega)
    have hof := ch_pob (I := I) (A := A) (B := B) hW hb hf
    refine wp_Vr (μ' := mX4_pointAt) (ci := 4) (q := 8) (tX4_pointAt (d := d - 1) hW hf) dX7_act_5 okX4_pointAt lkX7_46 ch_prg rfl rfl rfl (Nat.le_of_ble_eq_true rfl) (by omega) rfl ?_
    refine wp_astore_n (i := 3) (lv' := [_, _, some _, _, _]) (q := 9) dX7_act_8 rfl (by decide) rfl rfl ?_
    refine wp_aload_n (i := 0) (q := 10) dX7_act_9 rfl rfl rfl ?_
    refine wg7_0 (q := 13) dX7_act_10 ffX7_10 (by first | exact ch_obj | assumption) rfl ?_ -- program
    refine wp_iload_n (i := 2) (q := 14) dX7_act_13 rfl rfl rfl ?_
    by_cases w2 : ix (dNp D) y = true
    · obtain ⟨t, ht, rfl⟩ := ix_of w2 (by omega)
      have hot := ch_pob (I := I) (A := A) (B := B) hW hb ht
      refine wp_Vr (μ' := mX4_pointAt) (ci := 4) (q := 17) (tX4_pointAt (d := d - 1) hW ht) dX7_act_14 okX4_pointAt lkX7_46 ch_prg rfl rfl rfl (Nat.le_of_ble_eq_true rfl) (by omega) rfl ?_
      refine wp_astore (lv' := [_, _, _, some _, _]) (q := 19) dX7_act_17 (by decide) rfl rfl ?_
      refine wp_aload_n (i := 3) (q := 20) dX7_act_19 rfl rfl rfl ?_
      refine wp_ifnull (q := 23) dX7_act_20 rfl ?_
      refine wp_aload (q := 25) dX7_act_23 rfl rfl ?_
      refine wp_ifnonnull (q := 30) dX7_act_25 (by decide) ?_
      refine wp_aload_n (i := 0) (q := 31) dX7_act_30 rfl rfl rfl ?_
      refine wg7_0 (q := 34) dX7_act_31 ffX7_10 (by first | exact ch_obj | assumption) rfl ?_ -- program
      refine wp_iload_n (i := 1) (q := 35) dX7_act_34 rfl rfl rfl ?_
      refine wp_iload_n (i := 2) (q := 36) dX7_act_35 rfl rfl rfl ?_
      refine wp_aload_n (i := 3) (q := 37) dX7_act_36 rfl rfl rfl ?_
      refine wg3_0 (q := 40) dX7_act_37 ffX7_77 (by first | exact ch_obj | assumption) rfl ?_ -- size
      refine wp_aload (q := 42) dX7_act_40 rfl rfl ?_
      refine wg3_0 (q := 45) dX7_act_42 ffX7_77 (by first | exact ch_obj | assumption) rfl ?_ -- size
      unfold cAct okA
      rw [w, w2, nI_clamp (by omega), nI_clamp (by omega)]
      refine wp_callV (μ' := mX4_addAct) (ci := 4) (q := 48) (tX4_addAct (d := d - 1) (by omega) hW hb ht) dX7_act_45 okX4_addAct lkX7_137 ch_prg rfl rfl rfl (Nat.le_of_ble_eq_true rfl) (by omega) (by omega) (by omega) rfl (fun rv hx hq => ?_)
      rcases hq with ⟨q1, rfl, rfl⟩ | ⟨q1, rfl, rfl⟩
      · show wp _ _ _ _ _ _ _ _ _ _ [.int (-4)]
        refine wp_iret dX7_act_48 rfl ?_
        exact ⟨by rw [if_neg (by decide), if_pos q1], Or.inl ⟨by rw [decide_eq_true q1]; rfl, rfl⟩⟩
      · show wp _ _ _ _ _ _ _ _ _ _ [.int (nI (dNa D))]
        refine wp_iret dX7_act_48 rfl ?_
        exact ⟨by rw [if_neg (by decide), if_neg (by omega)], Or.inr ⟨by rw [decide_eq_false (by omega)]; rfl, hf, ht, rfl, rfl, rfl, dw_newA hW q1 hf ht⟩⟩
    · have w2 := Bool.eq_false_iff.mpr w2
      refine wp_Vr (μ' := mX4_pointAt) (ci := 4) (q := 17) (tX4_pointAtN (d := d - 1) hW w2) dX7_act_14 okX4_pointAt lkX7_46 ch_prg rfl rfl rfl (Nat.le_of_ble_eq_true rfl) (by omega) rfl ?_
      refine wp_astoreN (lv' := [_, _, _, some _, _]) (q := 19) dX7_act_17 (by decide) rfl rfl ?_
      refine wp_aload_n (i := 3) (q := 20) dX7_act_19 rfl rfl rfl ?_
      refine wp_ifnull (q := 23) dX7_act_20 rfl ?_
      refine wp_aloadN (q := 25) dX7_act_23 rfl rfl ?_
      refine wp_ifnonnullN (q := 28) dX7_act_25 rfl ?_
      refine wp_iconst (v := (-1)) (q := 29) dX7_act_28 (by decide) rfl ?_
      refine wp_iret dX7_act_29 rfl ?_
      exact ⟨by unfold cAct; rw [w, w2]; rfl, Or.inl ⟨by unfold okA; rw [w, w2]; rfl, rfl⟩⟩
  · have w := Bool.eq_false_iff.mpr w
    refine wp_Vr (μ' := mX4_pointAt) (ci := 4) (q := 8) (tX4_pointAtN (d := d - 1) hW w) dX7_act_5 okX4_pointAt lkX7_46 ch_prg rfl rfl rfl (Nat.le_of_ble_eq_true rfl) (by omega) rfl ?_
    refine wp_astore_nN (i := 3) (lv' := [_, _, some _, _, _]) (q := 9) dX7_act_8 rfl (by decide) rfl rfl ?_
    refine wp_aload_n (i := 0) (q := 10) dX7_act_9 rfl rfl rfl ?_
    refine wg7_0 (q := 13) dX7_act_10 ffX7_10 (by first | exact ch_obj | assumption) rfl ?_ -- program
    refine wp_iload_n (i := 2) (q := 14) dX7_act_13 rfl rfl rfl ?_
    by_cases w2 : ix (dNp D) y = true
    · obtain ⟨t, ht, rfl⟩ := ix_of w2 (by omega)
      refine wp_Vr (μ' := mX4_pointAt) (ci := 4) (q := 17) (tX4_pointAt (d := d - 1) hW ht) dX7_act_14 okX4_pointAt lkX7_46 ch_prg rfl rfl rfl (Nat.le_of_ble_eq_true rfl) (by omega) rfl ?_
      refine wp_astore (lv' := [_, _, _, some _, _]) (q := 19) dX7_act_17 (by decide) rfl rfl ?_
      refine wp_aload_nN (i := 3) (q := 20) dX7_act_19 rfl rfl rfl ?_
      refine wp_ifnullN (q := 28) dX7_act_20 (by decide) ?_
      refine wp_iconst (v := (-1)) (q := 29) dX7_act_28 (by decide) rfl ?_
      refine wp_iret dX7_act_29 rfl ?_
      exact ⟨by unfold cAct; rw [w]; rfl, Or.inl ⟨by unfold okA; rw [w]; rfl, rfl⟩⟩
    · refine wp_Vr (μ' := mX4_pointAt) (ci := 4) (q := 17) (tX4_pointAtN (d := d - 1) hW (Bool.eq_false_iff.mpr w2)) dX7_act_14 okX4_pointAt lkX7_46 ch_prg rfl rfl rfl (Nat.le_of_ble_eq_true rfl) (by omega) rfl ?_
      refine wp_astoreN (lv' := [_, _, _, some _, _]) (q := 19) dX7_act_17 (by decide) rfl rfl ?_
      refine wp_aload_nN (i := 3) (q := 20) dX7_act_19 rfl rfl rfl ?_
      refine wp_ifnullN (q := 28) dX7_act_20 (by decide) ?_
      refine wp_iconst (v := (-1)) (q := 29) dX7_act_28 (by decide) rfl ?_
      refine wp_iret dX7_act_29 rfl ?_
      exact ⟨by unfold cAct; rw [w]; rfl, Or.inl ⟨by unfold okA; rw [w]; rfl, rfl⟩⟩
end K3
