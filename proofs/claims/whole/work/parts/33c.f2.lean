/-! THE CLASS: Facts, goOn, add, small ones -/
def tOK (n : Nat) (T : TS) : Prop := T.1 ≤ n ∧ ∀ r, r < T.1 → T.2.1 r < n
def bzN (k c : Nat) (T : TS) : Nat := if c = 0 then 0 else k + 1 - T.1
def spB (k c : Nat) (T : TS) (row : Nat → Int64) : Bool := if c = 0 then (List.range' 0 (k + 1)).all (fun e => decide (row e = 0)) else (List.range' 0 T.1).all (fun r => decide (ztF row (T.2.2.1 r) (k + 1) 0 0 = 0))
section F2
variable {l : Launch} {d sz q k c : Nat} {T : TS} {V : Nat → VS} {G : Nat → Option aE} {h : aH}
theorem tX1_goOn {i : Nat} {x : Int32} (hd : 2 ≤ d) (hi : i < k) (hk : k < 2 ^ 20) (hu : vUn (V i) < 2 ^ 20) : mt l mX1_goOn d 0 0 [.ref q, .int (nI i), .int x] (sz, fh q k (c, T, V) G) (rV (sz, fh q k (c, T, upG V i (goV (V i) x)) G)) := by
  refine mt_in (lv := [_, _, _]) (by decide) (Nat.le_of_ble_eq_true rfl) rfl ?_
  have K17 : ∀ v : VS, v = g1 (V i) x → wp l mX1_goOn [] d 0 0 (rV (sz, fh q k (c, T, upG V i (goV (V i) x)) G)) (sz, fh q k (c, T, upG V i v) G) 17 [some (.ref q), some (.int (nI i)), some (.int x)] [] := by
    intro v hv
    refine wp_aload_n (i := 0) (q := 18) dX1_goOn_17 rfl rfl rfl ?_
    refine wg1_4 (q := 21) dX1_goOn_18 ffX1_28 (by first | exact fh_obj | exact fh_F | exact fh_L | exact fh_Le | exact fh_Gr | exact fh_Fe | exact fh_St | exact fh_Mo | exact fh_Un | exact fh_few | exact fh_Fw (by omega) | exact fh_ord | exact fh_Or (by omega) | assumption | exact (fh_out (by omega)).trans (by assumption)) rfl ?_ -- last
    refine wp_iload_n (i := 1) (q := 22) dX1_goOn_21 rfl rfl rfl ?_
    refine wp_iload_n (i := 2) (q := 23) dX1_goOn_22 rfl rfl rfl ?_
    refine wq_iast (q := 24) dX1_goOn_23 (by first | exact fh_obj | exact fh_F | exact fh_L | exact fh_Le | exact fh_Gr | exact fh_Fe | exact fh_St | exact fh_Mo | exact fh_Un | exact fh_few | exact fh_Fw (by omega) | exact fh_ord | exact fh_Or (by omega) | assumption | exact (fh_out (by omega)).trans (by assumption)) rfl (by first | omega | exact ⟨by omega, by omega⟩) (by first | exact fh_sF | exact fh_sL | exact fh_sLe | exact fh_sGr | exact fh_sSt | exact fh_sMo | exact fh_sUn | exact fh_sFw (by omega) | exact fh_sOr (by omega) | exact fh_sFe (x := true) | exact fh_sFe (x := false) | exact fh_sc) rfl ?_
    refine wp_aload_n (i := 0) (q := 25) dX1_goOn_24 rfl rfl rfl ?_
    refine wg1_5 (q := 28) dX1_goOn_25 ffX1_31 (by first | exact fh_obj | exact fh_F | exact fh_L | exact fh_Le | exact fh_Gr | exact fh_Fe | exact fh_St | exact fh_Mo | exact fh_Un | exact fh_few | exact fh_Fw (by omega) | exact fh_ord | exact fh_Or (by omega) | assumption | exact (fh_out (by omega)).trans (by assumption)) rfl ?_ -- least
    refine wp_iload_n (i := 1) (q := 29) dX1_goOn_28 rfl rfl rfl ?_
    refine wp_aload_n (i := 0) (q := 30) dX1_goOn_29 rfl rfl rfl ?_
    refine wg1_5 (q := 33) dX1_goOn_30 ffX1_31 (by first | exact fh_obj | exact fh_F | exact fh_L | exact fh_Le | exact fh_Gr | exact fh_Fe | exact fh_St | exact fh_Mo | exact fh_Un | exact fh_few | exact fh_Fw (by omega) | exact fh_ord | exact fh_Or (by omega) | assumption | exact (fh_out (by omega)).trans (by assumption)) rfl ?_ -- least
    refine wp_iload_n (i := 1) (q := 34) dX1_goOn_33 rfl rfl rfl ?_
    refine wq_iald (q := 35) dX1_goOn_34 (by first | exact fh_obj | exact fh_F | exact fh_L | exact fh_Le | exact fh_Gr | exact fh_Fe | exact fh_St | exact fh_Mo | exact fh_Un | exact fh_few | exact fh_Fw (by omega) | exact fh_ord | exact fh_Or (by omega) | assumption | exact (fh_out (by omega)).trans (by assumption)) rfl (by first | omega | exact ⟨by omega, by omega⟩) rfl ?_
    refine wp_iload_n (i := 2) (q := 36) dX1_goOn_35 rfl rfl rfl ?_
    simp only [upG_upG, upG_at]
    refine wp_Si (μ' := mJ9_min_7cf53) (q := 39) (tJ9_min (d := d - 1)) dX1_goOn_36 okJ9_min_7cf53 lkX1_80 rfl rfl (Nat.le_of_ble_eq_true rfl) (by omega) rfl ?_
    refine wq_iast (q := 40) dX1_goOn_39 (by first | exact fh_obj | exact fh_F | exact fh_L | exact fh_Le | exact fh_Gr | exact fh_Fe | exact fh_St | exact fh_Mo | exact fh_Un | exact fh_few | exact fh_Fw (by omega) | exact fh_ord | exact fh_Or (by omega) | assumption | exact (fh_out (by omega)).trans (by assumption)) rfl (by first | omega | exact ⟨by omega, by omega⟩) (by first | exact fh_sF | exact fh_sL | exact fh_sLe | exact fh_sGr | exact fh_sSt | exact fh_sMo | exact fh_sUn | exact fh_sFw (by omega) | exact fh_sOr (by omega) | exact fh_sFe (x := true) | exact fh_sFe (x := false) | exact fh_sc) rfl ?_
    refine wp_aload_n (i := 0) (q := 41) dX1_goOn_40 rfl rfl rfl ?_
    refine wg1_6 (q := 44) dX1_goOn_41 ffX1_34 (by first | exact fh_obj | exact fh_F | exact fh_L | exact fh_Le | exact fh_Gr | exact fh_Fe | exact fh_St | exact fh_Mo | exact fh_Un | exact fh_few | exact fh_Fw (by omega) | exact fh_ord | exact fh_Or (by omega) | assumption | exact (fh_out (by omega)).trans (by assumption)) rfl ?_ -- greatest
    refine wp_iload_n (i := 1) (q := 45) dX1_goOn_44 rfl rfl rfl ?_
    refine wp_aload_n (i := 0) (q := 46) dX1_goOn_45 rfl rfl rfl ?_
    refine wg1_6 (q := 49) dX1_goOn_46 ffX1_34 (by first | exact fh_obj | exact fh_F | exact fh_L | exact fh_Le | exact fh_Gr | exact fh_Fe | exact fh_St | exact fh_Mo | exact fh_Un | exact fh_few | exact fh_Fw (by omega) | exact fh_ord | exact fh_Or (by omega) | assumption | exact (fh_out (by omega)).trans (by assumption)) rfl ?_ -- greatest
    refine wp_iload_n (i := 1) (q := 50) dX1_goOn_49 rfl rfl rfl ?_
    refine wq_iald (q := 51) dX1_goOn_50 (by first | exact fh_obj | exact fh_F | exact fh_L | exact fh_Le | exact fh_Gr | exact fh_Fe | exact fh_St | exact fh_Mo | exact fh_Un | exact fh_few | exact fh_Fw (by omega) | exact fh_ord | exact fh_Or (by omega) | assumption | exact (fh_out (by omega)).trans (by assumption)) rfl (by first | omega | exact ⟨by omega, by omega⟩) rfl ?_
    refine wp_iload_n (i := 2) (q := 52) dX1_goOn_51 rfl rfl rfl ?_
    simp only [upG_upG, upG_at]
    refine wp_Si (μ' := mJ9_max_7cf53) (q := 55) (tJ9_max (d := d - 1)) dX1_goOn_52 okJ9_max_7cf53 lkX1_85 rfl rfl (Nat.le_of_ble_eq_true rfl) (by omega) rfl ?_
    refine wq_iast (q := 56) dX1_goOn_55 (by first | exact fh_obj | exact fh_F | exact fh_L | exact fh_Le | exact fh_Gr | exact fh_Fe | exact fh_St | exact fh_Mo | exact fh_Un | exact fh_few | exact fh_Fw (by omega) | exact fh_ord | exact fh_Or (by omega) | assumption | exact (fh_out (by omega)).trans (by assumption)) rfl (by first | omega | exact ⟨by omega, by omega⟩) (by first | exact fh_sF | exact fh_sL | exact fh_sLe | exact fh_sGr | exact fh_sSt | exact fh_sMo | exact fh_sUn | exact fh_sFw (by omega) | exact fh_sOr (by omega) | exact fh_sFe (x := true) | exact fh_sFe (x := false) | exact fh_sc) rfl ?_
    refine wp_aload_n (i := 0) (q := 57) dX1_goOn_56 rfl rfl rfl ?_
    refine wg1_8 (q := 60) dX1_goOn_57 ffX1_41 (by first | exact fh_obj | exact fh_F | exact fh_L | exact fh_Le | exact fh_Gr | exact fh_Fe | exact fh_St | exact fh_Mo | exact fh_Un | exact fh_few | exact fh_Fw (by omega) | exact fh_ord | exact fh_Or (by omega) | assumption | exact (fh_out (by omega)).trans (by assumption)) rfl ?_ -- step
    refine wp_iload_n (i := 1) (q := 61) dX1_goOn_60 rfl rfl rfl ?_
    refine wp_aload_n (i := 0) (q := 62) dX1_goOn_61 rfl rfl rfl ?_
    refine wg1_8 (q := 65) dX1_goOn_62 ffX1_41 (by first | exact fh_obj | exact fh_F | exact fh_L | exact fh_Le | exact fh_Gr | exact fh_Fe | exact fh_St | exact fh_Mo | exact fh_Un | exact fh_few | exact fh_Fw (by omega) | exact fh_ord | exact fh_Or (by omega) | assumption | exact (fh_out (by omega)).trans (by assumption)) rfl ?_ -- step
    refine wp_iload_n (i := 1) (q := 66) dX1_goOn_65 rfl rfl rfl ?_
    refine wq_lald (q := 67) dX1_goOn_66 (by first | exact fh_obj | exact fh_F | exact fh_L | exact fh_Le | exact fh_Gr | exact fh_Fe | exact fh_St | exact fh_Mo | exact fh_Un | exact fh_few | exact fh_Fw (by omega) | exact fh_ord | exact fh_Or (by omega) | assumption | exact (fh_out (by omega)).trans (by assumption)) rfl (by first | omega | exact ⟨by omega, by omega⟩) rfl ?_
    refine wp_iload_n (i := 2) (q := 68) dX1_goOn_67 rfl rfl rfl ?_
    refine wp_aload_n (i := 0) (q := 69) dX1_goOn_68 rfl rfl rfl ?_
    refine wg1_3 (q := 72) dX1_goOn_69 ffX1_24 (by first | exact fh_obj | exact fh_F | exact fh_L | exact fh_Le | exact fh_Gr | exact fh_Fe | exact fh_St | exact fh_Mo | exact fh_Un | exact fh_few | exact fh_Fw (by omega) | exact fh_ord | exact fh_Or (by omega) | assumption | exact (fh_out (by omega)).trans (by assumption)) rfl ?_ -- first
    refine wp_iload_n (i := 1) (q := 73) dX1_goOn_72 rfl rfl rfl ?_
    refine wq_iald (q := 74) dX1_goOn_73 (by first | exact fh_obj | exact fh_F | exact fh_L | exact fh_Le | exact fh_Gr | exact fh_Fe | exact fh_St | exact fh_Mo | exact fh_Un | exact fh_few | exact fh_Fw (by omega) | exact fh_ord | exact fh_Or (by omega) | assumption | exact (fh_out (by omega)).trans (by assumption)) rfl (by first | omega | exact ⟨by omega, by omega⟩) rfl ?_
    refine wp_isub (q := 75) dX1_goOn_74 rfl ?_
    refine wp_i2l (q := 76) dX1_goOn_75 rfl ?_
    simp only [upG_upG, upG_at]
    refine wp_SNl (μ' := mX7_divisorOf) (q := 79) (tX7_divisorOf (d := d - 1)) dX1_goOn_76 okX7_divisorOf lkX1_88 rfl rfl (Nat.le_of_ble_eq_true rfl) (by omega) rfl ?_
    refine wq_last (q := 80) dX1_goOn_79 (by first | exact fh_obj | exact fh_F | exact fh_L | exact fh_Le | exact fh_Gr | exact fh_Fe | exact fh_St | exact fh_Mo | exact fh_Un | exact fh_few | exact fh_Fw (by omega) | exact fh_ord | exact fh_Or (by omega) | assumption | exact (fh_out (by omega)).trans (by assumption)) rfl (by first | omega | exact ⟨by omega, by omega⟩) (by first | exact fh_sF | exact fh_sL | exact fh_sLe | exact fh_sGr | exact fh_sSt | exact fh_sMo | exact fh_sUn | exact fh_sFw (by omega) | exact fh_sOr (by omega) | exact fh_sFe (x := true) | exact fh_sFe (x := false) | exact fh_sc) rfl ?_
    refine wp_aload_n (i := 0) (q := 81) dX1_goOn_80 rfl rfl rfl ?_
    refine wg1_9 (q := 84) dX1_goOn_81 ffX1_45 (by first | exact fh_obj | exact fh_F | exact fh_L | exact fh_Le | exact fh_Gr | exact fh_Fe | exact fh_St | exact fh_Mo | exact fh_Un | exact fh_few | exact fh_Fw (by omega) | exact fh_ord | exact fh_Or (by omega) | assumption | exact (fh_out (by omega)).trans (by assumption)) rfl ?_ -- modulus
    refine wp_iload_n (i := 1) (q := 85) dX1_goOn_84 rfl rfl rfl ?_
    refine wp_aload_n (i := 0) (q := 86) dX1_goOn_85 rfl rfl rfl ?_
    refine wg1_8 (q := 89) dX1_goOn_86 ffX1_41 (by first | exact fh_obj | exact fh_F | exact fh_L | exact fh_Le | exact fh_Gr | exact fh_Fe | exact fh_St | exact fh_Mo | exact fh_Un | exact fh_few | exact fh_Fw (by omega) | exact fh_ord | exact fh_Or (by omega) | assumption | exact (fh_out (by omega)).trans (by assumption)) rfl ?_ -- step
    refine wp_iload_n (i := 1) (q := 90) dX1_goOn_89 rfl rfl rfl ?_
    refine wq_lald (q := 91) dX1_goOn_90 (by first | exact fh_obj | exact fh_F | exact fh_L | exact fh_Le | exact fh_Gr | exact fh_Fe | exact fh_St | exact fh_Mo | exact fh_Un | exact fh_few | exact fh_Fw (by omega) | exact fh_ord | exact fh_Or (by omega) | assumption | exact (fh_out (by omega)).trans (by assumption)) rfl (by first | omega | exact ⟨by omega, by omega⟩) rfl ?_
    simp only [upG_upG, upG_at]
    refine wp_Si (μ' := mX1_greatestModulus) (q := 94) (tX1_greatestModulus (d := d - 1)) dX1_goOn_91 okX1_greatestModulus lkX1_92 rfl rfl (Nat.le_of_ble_eq_true rfl) (by omega) rfl ?_
    refine wq_iast (q := 95) dX1_goOn_94 (by first | exact fh_obj | exact fh_F | exact fh_L | exact fh_Le | exact fh_Gr | exact fh_Fe | exact fh_St | exact fh_Mo | exact fh_Un | exact fh_few | exact fh_Fw (by omega) | exact fh_ord | exact fh_Or (by omega) | assumption | exact (fh_out (by omega)).trans (by assumption)) rfl (by first | omega | exact ⟨by omega, by omega⟩) (by first | exact fh_sF | exact fh_sL | exact fh_sLe | exact fh_sGr | exact fh_sSt | exact fh_sMo | exact fh_sUn | exact fh_sFw (by omega) | exact fh_sOr (by omega) | exact fh_sFe (x := true) | exact fh_sFe (x := false) | exact fh_sc) rfl ?_
    refine wp_aload_n (i := 0) (q := 96) dX1_goOn_95 rfl rfl rfl ?_
    refine wp_iload_n (i := 1) (q := 97) dX1_goOn_96 rfl rfl rfl ?_
    refine wp_iload_n (i := 2) (q := 98) dX1_goOn_97 rfl rfl rfl ?_
    simp only [upG_upG, upG_at]
    refine wp_Vv (μ' := mX1_noteNumber) (ci := 1) (q := 101) (tX1_noteNumber (d := d - 1) (by omega) hi hk (by rw [upG_at]; subst hv; show vUn (g1 (V i) x) < _; unfold g1; split <;> exact hu)) dX1_goOn_98 okX1_noteNumber lkX1_96 (by first | exact fh_obj | exact fh_F | exact fh_L | exact fh_Le | exact fh_Gr | exact fh_Fe | exact fh_St | exact fh_Mo | exact fh_Un | exact fh_few | exact fh_Fw (by omega) | exact fh_ord | exact fh_Or (by omega) | assumption | exact (fh_out (by omega)).trans (by assumption)) rfl rfl rfl (Nat.le_of_ble_eq_true rfl) (by omega) rfl ?_
    rw [upG_upG, upG_at]
    subst hv
    refine wp_vret dX1_goOn_101 rfl ?_
    exact ⟨rfl, rfl⟩
  refine wp_iload_n (i := 2) (q := 1) dX1_goOn_0 rfl rfl rfl ?_
  refine wp_aload_n (i := 0) (q := 2) dX1_goOn_1 rfl rfl rfl ?_
  refine wg1_4 (q := 5) dX1_goOn_2 ffX1_28 (by first | exact fh_obj | exact fh_F | exact fh_L | exact fh_Le | exact fh_Gr | exact fh_Fe | exact fh_St | exact fh_Mo | exact fh_Un | exact fh_few | exact fh_Fw (by omega) | exact fh_ord | exact fh_Or (by omega) | assumption | exact (fh_out (by omega)).trans (by assumption)) rfl ?_ -- last
  refine wp_iload_n (i := 1) (q := 6) dX1_goOn_5 rfl rfl rfl ?_
  refine wq_iald (q := 7) dX1_goOn_6 (by first | exact fh_obj | exact fh_F | exact fh_L | exact fh_Le | exact fh_Gr | exact fh_Fe | exact fh_St | exact fh_Mo | exact fh_Un | exact fh_few | exact fh_Fw (by omega) | exact fh_ord | exact fh_Or (by omega) | assumption | exact (fh_out (by omega)).trans (by assumption)) rfl (by first | omega | exact ⟨by omega, by omega⟩) rfl ?_
  refine wp_icmp_ge (t := 17) (q := 10) dX1_goOn_7 (by decide) rfl (fun hc => ?_) (fun hc => ?_)
  · have := K17 (V i) (by unfold g1; rw [if_neg (Int32.not_lt.mpr hc)])
    rw [upG_self] at this
    exact this
  · refine wp_aload_n (i := 0) (q := 11) dX1_goOn_10 rfl rfl rfl ?_
    refine wg1_7 (q := 14) dX1_goOn_11 ffX1_37 (by first | exact fh_obj | exact fh_F | exact fh_L | exact fh_Le | exact fh_Gr | exact fh_Fe | exact fh_St | exact fh_Mo | exact fh_Un | exact fh_few | exact fh_Fw (by omega) | exact fh_ord | exact fh_Or (by omega) | assumption | exact (fh_out (by omega)).trans (by assumption)) rfl ?_ -- fell
    refine wp_iload_n (i := 1) (q := 15) dX1_goOn_14 rfl rfl rfl ?_
    refine wp_iconst (v := nI 1) (q := 16) dX1_goOn_15 (by decide) rfl ?_
    refine wq_zast (q := 17) dX1_goOn_16 (by first | exact fh_obj | exact fh_F | exact fh_L | exact fh_Le | exact fh_Gr | exact fh_Fe | exact fh_St | exact fh_Mo | exact fh_Un | exact fh_few | exact fh_Fw (by omega) | exact fh_ord | exact fh_Or (by omega) | assumption | exact (fh_out (by omega)).trans (by assumption)) rfl (by first | omega | exact ⟨by omega, by omega⟩) (by first | exact Or.inl rfl | exact Or.inr rfl | exact b2_01 _ | assumption) (by first | exact fh_sF | exact fh_sL | exact fh_sLe | exact fh_sGr | exact fh_sSt | exact fh_sMo | exact fh_sUn | exact fh_sFw (by omega) | exact fh_sOr (by omega) | exact fh_sFe (x := true) | exact fh_sFe (x := false) | exact fh_sc) rfl ?_
    exact K17 _ (by unfold g1; rw [if_pos (Int32.not_le.mp hc)])
theorem tX1_hasVariable {x : Int32} (hk : k < 2 ^ 20) : mt l mX1_hasVariable d 0 0 [.ref q, .int x] (sz, fh q k (c, T, V) G) (rI (b2 (ix k x)) (sz, fh q k (c, T, V) G)) := by
  refine mt_in (lv := [_, _]) (by decide) (Nat.le_of_ble_eq_true rfl) rfl ?_
  refine wp_iload_n (i := 1) (q := 1) dX1_hasVariable_0 rfl rfl rfl ?_
  refine wp_if_lt (t := 16) (q := 4) dX1_hasVariable_1 (by decide) rfl (fun hc => ?_) (fun hc => ?_)
  · rw [show ix k x = false by
      unfold ix
      refine decide_eq_false (fun q => ?_)
      have := Int32.lt_iff_toInt_lt.mp hc
      rw [show (0 : Int32).toInt = 0 from rfl] at this
      omega]
    refine wp_iconst (v := nI 0) (q := 17) dX1_hasVariable_16 (by decide) rfl ?_
    refine wp_zret dX1_hasVariable_17 rfl (by first | exact Or.inl rfl | exact Or.inr rfl | exact b2_01 _ | assumption) ?_
    exact ⟨rfl, rfl⟩
  obtain ⟨j, hj, rfl⟩ := nI_of hc
  rw [ix_nI hj]
  refine wp_iload_n (i := 1) (q := 5) dX1_hasVariable_4 rfl rfl rfl ?_
  refine wp_aload_n (i := 0) (q := 6) dX1_hasVariable_5 rfl rfl rfl ?_
  refine wg1_0 (q := 9) dX1_hasVariable_6 ffX1_9 (by first | exact fh_obj | exact fh_F | exact fh_L | exact fh_Le | exact fh_Gr | exact fh_Fe | exact fh_St | exact fh_Mo | exact fh_Un | exact fh_few | exact fh_Fw (by omega) | exact fh_ord | exact fh_Or (by omega) | assumption | exact (fh_out (by omega)).trans (by assumption)) rfl ?_ -- size
  refine wp_icmp_ge (t := 16) (q := 12) dX1_hasVariable_9 (by decide) rfl (fun hc2 => ?_) (fun hc2 => ?_)
  · rw [decide_eq_false (Nat.not_lt.mpr ((nI_leI (by omega) (by omega)).mp hc2))]
    refine wp_iconst (v := nI 0) (q := 17) dX1_hasVariable_16 (by decide) rfl ?_
    refine wp_zret dX1_hasVariable_17 rfl (by first | exact Or.inl rfl | exact Or.inr rfl | exact b2_01 _ | assumption) ?_
    exact ⟨rfl, rfl⟩
  · rw [decide_eq_true (Nat.not_le.mp (fun q => hc2 ((nI_leI (by omega) (by omega)).mpr q)))]
    refine wp_iconst (v := nI 1) (q := 13) dX1_hasVariable_12 (by decide) rfl ?_
    refine wp_goto (q := 17) dX1_hasVariable_13 (by decide) ?_
    refine wp_zret dX1_hasVariable_17 rfl (by first | exact Or.inl rfl | exact Or.inr rfl | exact b2_01 _ | assumption) ?_
    exact ⟨rfl, rfl⟩
theorem tX6_addF {w mm : Nat} {x : Nat → Int32} (hd : 3 ≤ d) (hT : tOK (k + 1) T) (hk : k < 2 ^ 20) (hw : G w = some (iA mm x)) (hwo : w < q ∨ q + (3 * k + 17) ≤ w) (hm : k ≤ mm) (hm2 : mm < 2 ^ 30) : mt l mX6_add d 0 0 [.ref (q + 1), .ref w] (sz, fh q k (c, T, V) G) (rV (sz, fh q k (c, adT (k + 1) T x, V) G)) := by
  obtain ⟨t1, L, R, F, B⟩ := T
  have M := tX6_add (l := l) (d := d) (sz := sz) (q := q + 1) (n := k + 1) (G := fh q k (c, (t1, L, R, F, B), V) G) (k := t1) (L := L) (R := R) (F := F) (B := B) (w := w) (mm := mm) (x := x) hd hT.1 hT.2 (by omega) (by omega) ((fh_out hwo).trans hw) (by omega) (by omega) hm2
  rw [← fh_th, fh_th2] at M
  exact M
theorem tX6_clearF : mt l mX6_clear d 0 0 [.ref (q + 1)] (sz, fh q k (c, T, V) G) (rV (sz, fh q k (c, (0, T.2), V) G)) := by
  obtain ⟨t1, L, R, F, B⟩ := T
  have M := tX6_clear (l := l) (d := d) (sz := sz) (q := q + 1) (n := k + 1) (G := fh q k (c, (t1, L, R, F, B), V) G) (k := t1) (L := L) (R := R) (F := F) (B := B)
  rw [← fh_th, fh_th2] at M
  exact M
theorem tX6_freeCountF (hT : T.1 ≤ k + 1) : mt l mX6_freeCount d 0 0 [.ref (q + 1)] (sz, fh q k (c, T, V) G) (rI (nI (k + 1 - T.1)) (sz, fh q k (c, T, V) G)) := by
  obtain ⟨t1, L, R, F, B⟩ := T
  have M := tX6_freeCount (l := l) (d := d) (sz := sz) (q := q + 1) (n := k + 1) (G := fh q k (c, (t1, L, R, F, B), V) G) (k := t1) (L := L) (R := R) (F := F) (B := B) hT
  rw [← fh_th] at M
  exact M
theorem tX6_basisRowF {s : Nat} (hd : 2 ≤ d) (hs : s < 2 ^ 30) (hT : tOK (k + 1) T) (hk : k < 2 ^ 20) : mt l mX6_basisRow d 0 0 [.ref (q + 1), .int (nI s)] (sz, fh q k (c, T, V) G) (rR (.ref (q + 1 + (k + 1 + 4))) (sz, fh q k (c, (T.1, T.2.1, T.2.2.1, T.2.2.2.1, bsW (k + 1) T.1 T.2.1 T.2.2.1 T.2.2.2.2 s), V) G)) := by
  obtain ⟨t1, L, R, F, B⟩ := T
  have M := tX6_basisRow (l := l) (d := d) (sz := sz) (q := q + 1) (n := k + 1) (G := fh q k (c, (t1, L, R, F, B), V) G) (k := t1) (L := L) (R := R) (F := F) (B := B) (s := s) hd hs hT.1 hT.2 (by omega) (by omega)
  rw [← fh_th, fh_th2] at M
  exact M
theorem tX6_isZeroOnAllF {w mm : Nat} {row : Nat → Int64} (hT : tOK (k + 1) T) (hk : k < 2 ^ 20) (hw : G w = some (lA mm row)) (hwo : w < q ∨ q + (3 * k + 17) ≤ w) (hm : k + 1 ≤ mm) (hm2 : mm < 2 ^ 30) : mt l mX6_isZeroOnAll d 0 0 [.ref (q + 1), .ref w] (sz, fh q k (c, T, V) G) (rI (b2 ((List.range' 0 T.1).all (fun r => decide (ztF row (T.2.2.1 r) (k + 1) 0 0 = 0)))) (sz, fh q k (c, T, V) G)) := by
  obtain ⟨t1, L, R, F, B⟩ := T
  have M := tX6_isZeroOnAll (l := l) (d := d) (sz := sz) (q := q + 1) (n := k + 1) (G := fh q k (c, (t1, L, R, F, B), V) G) (k := t1) (L := L) (R := R) (F := F) (B := B) (w := w) (mm := mm) (row := row) hT.1 (by omega) ((fh_out hwo).trans hw) (by omega) hm hm2
  rw [← fh_th] at M
  exact M
theorem fh_tb : fh q k (c, T, V) G (q + 1) = some (.inr (6, FD6 (nI (k + 1)) (q + 1 + 1) (q + 1 + (k + 1 + 2)) (q + 1 + (k + 1 + 3)) (q + 1 + (k + 1 + 4)) (nI T.1))) := by
  obtain ⟨t1, L, R, F, B⟩ := T
  rw [fh_th]
  exact th_obj
theorem fh_tbB : fh q k (c, T, V) G (q + 1 + (k + 1 + 4)) = some (lA (k + 1) T.2.2.2.2) := by
  obtain ⟨t1, L, R, F, B⟩ := T
  rw [fh_th]
  exact th_basis
theorem tX1_clear (hd : 1 ≤ d) : mt l mX1_clear d 0 0 [.ref q] (sz, fh q k (c, T, V) G) (rV (sz, fh q k (0, (0, T.2), V) G)) := by
  refine mt_in (lv := [_]) (by decide) (Nat.le_of_ble_eq_true rfl) rfl ?_
  refine wp_aload_n (i := 0) (q := 1) dX1_clear_0 rfl rfl rfl ?_
  refine wp_iconst (v := nI 0) (q := 2) dX1_clear_1 (by decide) rfl ?_
  refine wt1_2 (q := 5) dX1_clear_2 ffX1_59 (by first | exact fh_obj | exact fh_F | exact fh_L | exact fh_Le | exact fh_Gr | exact fh_Fe | exact fh_St | exact fh_Mo | exact fh_Un | exact fh_few | exact fh_Fw (by omega) | exact fh_ord | exact fh_Or (by omega) | assumption | exact (fh_out (by omega)).trans (by assumption)) (by first | exact fh_sF | exact fh_sL | exact fh_sLe | exact fh_sGr | exact fh_sSt | exact fh_sMo | exact fh_sUn | exact fh_sFw (by omega) | exact fh_sOr (by omega) | exact fh_sFe (x := true) | exact fh_sFe (x := false) | exact fh_sc) rfl ?_ -- count
  refine wp_aload_n (i := 0) (q := 6) dX1_clear_5 rfl rfl rfl ?_
  refine wg1_1 (q := 9) dX1_clear_6 ffX1_20 (by first | exact fh_obj | exact fh_F | exact fh_L | exact fh_Le | exact fh_Gr | exact fh_Fe | exact fh_St | exact fh_Mo | exact fh_Un | exact fh_few | exact fh_Fw (by omega) | exact fh_ord | exact fh_Or (by omega) | assumption | exact (fh_out (by omega)).trans (by assumption)) rfl ?_ -- table
  refine wp_Vv (μ' := mX6_clear) (ci := 6) (q := 12) (tX6_clearF (d := d - 1)) dX1_clear_9 okX6_clear lkX1_62 (by exact fh_tb) rfl rfl rfl (Nat.le_of_ble_eq_true rfl) (by omega) rfl ?_
  refine wp_vret dX1_clear_12 rfl ?_
  exact ⟨rfl, rfl⟩
theorem tX1_basisSize (hd : 1 ≤ d) (hc : c < 2 ^ 20) (hT : T.1 ≤ k + 1) : mt l mX1_basisSize d 0 0 [.ref q] (sz, fh q k (c, T, V) G) (rI (nI (bzN k c T)) (sz, fh q k (c, T, V) G)) := by
  refine mt_in (lv := [_]) (by decide) (Nat.le_of_ble_eq_true rfl) rfl ?_
  refine wp_aload_n (i := 0) (q := 1) dX1_basisSize_0 rfl rfl rfl ?_
  refine wg1_2 (q := 4) dX1_basisSize_1 ffX1_59 (by first | exact fh_obj | exact fh_F | exact fh_L | exact fh_Le | exact fh_Gr | exact fh_Fe | exact fh_St | exact fh_Mo | exact fh_Un | exact fh_few | exact fh_Fw (by omega) | exact fh_ord | exact fh_Or (by omega) | assumption | exact (fh_out (by omega)).trans (by assumption)) rfl ?_ -- count
  unfold bzN
  refine wp_if_ne (t := 11) (q := 7) dX1_basisSize_4 (by decide) rfl (fun h0 => ?_) (fun h0 => ?_)
  · rw [if_neg (fun q => h0 (by rw [q]; rfl))]
    refine wp_aload_n (i := 0) (q := 12) dX1_basisSize_11 rfl rfl rfl ?_
    refine wg1_1 (q := 15) dX1_basisSize_12 ffX1_20 (by first | exact fh_obj | exact fh_F | exact fh_L | exact fh_Le | exact fh_Gr | exact fh_Fe | exact fh_St | exact fh_Mo | exact fh_Un | exact fh_few | exact fh_Fw (by omega) | exact fh_ord | exact fh_Or (by omega) | assumption | exact (fh_out (by omega)).trans (by assumption)) rfl ?_ -- table
    refine wp_Vi (μ' := mX6_freeCount) (ci := 6) (q := 18) (tX6_freeCountF (d := d - 1) hT) dX1_basisSize_15 okX6_freeCount lkX1_133 (by exact fh_tb) rfl rfl rfl (Nat.le_of_ble_eq_true rfl) (by omega) rfl ?_
    refine wp_iret dX1_basisSize_18 rfl ?_
    exact ⟨rfl, rfl⟩
  · rw [if_pos ((nI_eq (b := 0) (by omega) (by omega)).mp h0)]
    refine wp_iconst (v := nI 0) (q := 8) dX1_basisSize_7 (by decide) rfl ?_
    refine wp_goto (q := 18) dX1_basisSize_8 (by decide) ?_
    refine wp_iret dX1_basisSize_18 rfl ?_
    exact ⟨rfl, rfl⟩
theorem tX1_spans {w mm : Nat} {row : Nat → Int64} (hd : 1 ≤ d) (hc : c < 2 ^ 20) (hT : tOK (k + 1) T) (hk : k < 2 ^ 20) (hw : G w = some (lA mm row)) (hwo : w < q ∨ q + (3 * k + 17) ≤ w) (hm : k + 1 ≤ mm) (hm2 : mm < 2 ^ 30) : mt l mX1_spans d 0 0 [.ref q, .ref w] (sz, fh q k (c, T, V) G) (rI (b2 (spB k c T row)) (sz, fh q k (c, T, V) G)) := by
  refine mt_in (lv := [_, _, _]) (by decide) (Nat.le_of_ble_eq_true rfl) rfl ?_
  refine wp_aload_n (i := 0) (q := 1) dX1_spans_0 rfl rfl rfl ?_
  refine wg1_2 (q := 4) dX1_spans_1 ffX1_59 (by first | exact fh_obj | exact fh_F | exact fh_L | exact fh_Le | exact fh_Gr | exact fh_Fe | exact fh_St | exact fh_Mo | exact fh_Un | exact fh_few | exact fh_Fw (by omega) | exact fh_ord | exact fh_Or (by omega) | assumption | exact (fh_out (by omega)).trans (by assumption)) rfl ?_ -- count
  unfold spB
  refine wp_if_le (t := 16) (q := 7) dX1_spans_4 (by decide) rfl (fun h0 => ?_) (fun h0 => ?_)
  · have h0 : c = 0 := by have := (nI_leI (a := c) (b := 0) (by omega) (by omega)).mp h0; omega
    rw [if_pos h0]
    refine wp_iconst (v := nI 0) (q := 17) dX1_spans_16 (by decide) rfl ?_
    refine wp_istore_n (i := 2) (lv' := [_, some _, _]) (q := 18) dX1_spans_17 rfl (by decide) rfl rfl ?_
    generalize hP : (fun e => decide (row e = 0)) = P
    have P18 : ∀ m e, e + m = k + 1 → (List.range' e (k + 1 - e)).all P = (List.range' 0 (k + 1)).all P → wp l mX1_spans [] d 0 0 (rI (b2 ((List.range' 0 (k + 1)).all P)) (sz, fh q k (c, T, V) G)) (sz, fh q k (c, T, V) G) 18 [some (.ref q), some (.ref w), some (.int (nI e))] [] := by
      intro m
      induction m with
      | zero =>
        intro e he ha
        refine wp_iload_n (i := 2) (q := 19) dX1_spans_18 rfl rfl rfl ?_
        refine wp_aload_n (i := 0) (q := 20) dX1_spans_19 rfl rfl rfl ?_
        refine wg1_0 (q := 23) dX1_spans_20 ffX1_9 (by first | exact fh_obj | exact fh_F | exact fh_L | exact fh_Le | exact fh_Gr | exact fh_Fe | exact fh_St | exact fh_Mo | exact fh_Un | exact fh_few | exact fh_Fw (by omega) | exact fh_ord | exact fh_Or (by omega) | assumption | exact (fh_out (by omega)).trans (by assumption)) rfl ?_ -- size
        refine wp_icmp_gt (t := 48) (q := 26) dX1_spans_23 (by decide) rfl (fun hc1 => ?_) (fun hc1 => ?_)
        · rw [← ha, all_end (by omega)]
          refine wp_iconst (v := nI 1) (q := 49) dX1_spans_48 (by decide) rfl ?_
          refine wp_zret dX1_spans_49 rfl (by first | exact Or.inl rfl | exact Or.inr rfl | exact b2_01 _ | assumption) ?_
          exact ⟨rfl, rfl⟩
        · exact absurd ((nI_ltI (by omega) (by omega)).mpr (by omega)) hc1
      | succ m ih =>
        intro e he ha
        rw [all_step (by omega)] at ha
        refine wp_iload_n (i := 2) (q := 19) dX1_spans_18 rfl rfl rfl ?_
        refine wp_aload_n (i := 0) (q := 20) dX1_spans_19 rfl rfl rfl ?_
        refine wg1_0 (q := 23) dX1_spans_20 ffX1_9 (by first | exact fh_obj | exact fh_F | exact fh_L | exact fh_Le | exact fh_Gr | exact fh_Fe | exact fh_St | exact fh_Mo | exact fh_Un | exact fh_few | exact fh_Fw (by omega) | exact fh_ord | exact fh_Or (by omega) | assumption | exact (fh_out (by omega)).trans (by assumption)) rfl ?_ -- size
        refine wp_icmp_gt (t := 48) (q := 26) dX1_spans_23 (by decide) rfl (fun hc1 => ?_) (fun hc1 => ?_)
        · exact absurd ((nI_ltI (by omega) (by omega)).mp hc1) (by omega)
        refine wp_iload_n (i := 2) (q := 27) dX1_spans_26 rfl rfl rfl ?_
        refine wp_aload_n (i := 1) (q := 28) dX1_spans_27 rfl rfl rfl ?_
        refine wq_alen (q := 29) dX1_spans_28 (by first | exact fh_obj | exact fh_F | exact fh_L | exact fh_Le | exact fh_Gr | exact fh_Fe | exact fh_St | exact fh_Mo | exact fh_Un | exact fh_few | exact fh_Fw (by omega) | exact fh_ord | exact fh_Or (by omega) | assumption | exact (fh_out (by omega)).trans (by assumption)) (by decide) rfl ?_
        refine wp_icmp_ge (t := 48) (q := 32) dX1_spans_29 (by decide) rfl (fun hc2 => ?_) (fun hc2 => ?_)
        · exact absurd ((nI_leI (by omega) (by omega)).mp hc2) (by omega)
        refine wp_aload_n (i := 1) (q := 33) dX1_spans_32 rfl rfl rfl ?_
        refine wp_iload_n (i := 2) (q := 34) dX1_spans_33 rfl rfl rfl ?_
        refine wq_lald (q := 35) dX1_spans_34 (by first | exact fh_obj | exact fh_F | exact fh_L | exact fh_Le | exact fh_Gr | exact fh_Fe | exact fh_St | exact fh_Mo | exact fh_Un | exact fh_few | exact fh_Fw (by omega) | exact fh_ord | exact fh_Or (by omega) | assumption | exact (fh_out (by omega)).trans (by assumption)) rfl (by first | omega | exact ⟨by omega, by omega⟩) rfl ?_
        refine wp_lconst (v := 0) (q := 36) dX1_spans_35 (by decide) rfl ?_
        refine wp_lcmp (q := 37) dX1_spans_36 rfl ?_
        have hPe : P e = decide (row e = 0) := by rw [← hP]
        refine wp_if_eq (t := 42) (q := 40) dX1_spans_37 (by decide) rfl (fun hz => ?_) (fun hz => ?_)
        · rw [hPe, decide_eq_true (lg_cmp0.mp hz), Bool.true_and] at ha
          refine wp_iinc (v := _ + nI 1) (lv' := [_, some _, _]) (q := 45) dX1_spans_42 rfl rfl (by decide) rfl rfl ?_
          refine wp_goto (q := 18) dX1_spans_45 (by decide) ?_
          rw [nI_add]
          exact ih (e + 1) (by omega) ha
        · rw [hPe, decide_eq_false (fun q => hz (lg_cmp0.mpr q)), Bool.false_and] at ha
          rw [← ha]
          refine wp_iconst (v := nI 0) (q := 41) dX1_spans_40 (by decide) rfl ?_
          refine wp_zret dX1_spans_41 rfl (by first | exact Or.inl rfl | exact Or.inr rfl | exact b2_01 _ | assumption) ?_
          exact ⟨rfl, rfl⟩
    exact P18 (k + 1) 0 (by omega) rfl
  · rw [if_neg (fun q => h0 (by rw [q]; decide))]
    refine wp_aload_n (i := 0) (q := 8) dX1_spans_7 rfl rfl rfl ?_
    refine wg1_1 (q := 11) dX1_spans_8 ffX1_20 (by first | exact fh_obj | exact fh_F | exact fh_L | exact fh_Le | exact fh_Gr | exact fh_Fe | exact fh_St | exact fh_Mo | exact fh_Un | exact fh_few | exact fh_Fw (by omega) | exact fh_ord | exact fh_Or (by omega) | assumption | exact (fh_out (by omega)).trans (by assumption)) rfl ?_ -- table
    refine wp_aload_n (i := 1) (q := 12) dX1_spans_11 rfl rfl rfl ?_
    refine wp_Vi (μ' := mX6_isZeroOnAll) (ci := 6) (q := 15) (tX6_isZeroOnAllF (d := d - 1) hT hk hw hwo hm hm2) dX1_spans_12 okX6_isZeroOnAll lkX1_137 (by exact fh_tb) rfl rfl rfl (Nat.le_of_ble_eq_true rfl) (by omega) rfl ?_
    refine wp_zret dX1_spans_15 rfl (by first | exact Or.inl rfl | exact Or.inr rfl | exact b2_01 _ | assumption) ?_
    exact ⟨rfl, rfl⟩
theorem tX1_add {w mm : Nat} {x : Nat → Int32} (hd : 4 ≤ d) (hT : tOK (k + 1) T) (hk : k < 2 ^ 20) (hc : c < 2 ^ 20) (hu : ∀ i, i < k → vUn (V i) < 2 ^ 20) (hw : G w = some (iA mm x)) (hwo : w < q ∨ q + (3 * k + 17) ≤ w) (hm : k ≤ mm) (hm2 : mm < 2 ^ 30) : mt l mX1_add d 0 0 [.ref q, .ref w] (sz, fh q k (c, T, V) G) (rV (sz, fh q k (adF k (c, T, V) x) G)) := by
  refine mt_in (lv := [_, _, _, _]) (by decide) (Nat.le_of_ble_eq_true rfl) rfl ?_
  refine wp_iconst (v := nI 0) (q := 1) dX1_add_0 (by decide) rfl ?_
  refine wp_istore_n (i := 2) (lv' := [_, some _, _, _]) (q := 2) dX1_add_1 rfl (by decide) rfl rfl ?_
  have P : ∀ m i (y : Option Value), i + m = k → wp l mX1_add [] d 0 0 (rV (sz, fh q k (adF k (c, T, V) x) G)) (sz, fh q k (c, T, fun e => if e < i then adV k c x (V e) e else V e) G) 2 [some (.ref q), some (.ref w), some (.int (nI i)), y] [] := by
    intro m
    induction m with
    | zero =>
      intro i y hi
      refine wp_iload_n (i := 2) (q := 3) dX1_add_2 rfl rfl rfl ?_
      refine wp_aload_n (i := 0) (q := 4) dX1_add_3 rfl rfl rfl ?_
      refine wg1_0 (q := 7) dX1_add_4 ffX1_9 (by first | exact fh_obj | exact fh_F | exact fh_L | exact fh_Le | exact fh_Gr | exact fh_Fe | exact fh_St | exact fh_Mo | exact fh_Un | exact fh_few | exact fh_Fw (by omega) | exact fh_ord | exact fh_Or (by omega) | assumption | exact (fh_out (by omega)).trans (by assumption)) rfl ?_ -- size
      refine wp_icmp_ge (t := 78) (q := 10) dX1_add_7 (by decide) rfl (fun hc1 => ?_) (fun hc1 => ?_)
      · refine wp_aload_n (i := 0) (q := 79) dX1_add_78 rfl rfl rfl ?_
        refine wg1_1 (q := 82) dX1_add_79 ffX1_20 (by first | exact fh_obj | exact fh_F | exact fh_L | exact fh_Le | exact fh_Gr | exact fh_Fe | exact fh_St | exact fh_Mo | exact fh_Un | exact fh_few | exact fh_Fw (by omega) | exact fh_ord | exact fh_Or (by omega) | assumption | exact (fh_out (by omega)).trans (by assumption)) rfl ?_ -- table
        refine wp_aload_n (i := 1) (q := 83) dX1_add_82 rfl rfl rfl ?_
        refine wp_Vv (μ' := mX6_add) (ci := 6) (q := 86) (tX6_addF (d := d - 1) (by omega) hT hk hw hwo hm hm2) dX1_add_83 okX6_add lkX1_76 (by exact fh_tb) rfl rfl rfl (Nat.le_of_ble_eq_true rfl) (by omega) rfl ?_
        refine wp_aload_n (i := 0) (q := 87) dX1_add_86 rfl rfl rfl ?_
        refine wp_dup (q := 88) dX1_add_87 rfl rfl ?_
        refine wg1_2 (q := 91) dX1_add_88 ffX1_59 (by first | exact fh_obj | exact fh_F | exact fh_L | exact fh_Le | exact fh_Gr | exact fh_Fe | exact fh_St | exact fh_Mo | exact fh_Un | exact fh_few | exact fh_Fw (by omega) | exact fh_ord | exact fh_Or (by omega) | assumption | exact (fh_out (by omega)).trans (by assumption)) rfl ?_ -- count
        refine wp_iconst (v := nI 1) (q := 92) dX1_add_91 (by decide) rfl ?_
        refine wp_iadd (q := 93) dX1_add_92 rfl ?_
        rw [nI_add]
        refine wt1_2 (q := 96) dX1_add_93 ffX1_59 (by first | exact fh_obj | exact fh_F | exact fh_L | exact fh_Le | exact fh_Gr | exact fh_Fe | exact fh_St | exact fh_Mo | exact fh_Un | exact fh_few | exact fh_Fw (by omega) | exact fh_ord | exact fh_Or (by omega) | assumption | exact (fh_out (by omega)).trans (by assumption)) (by first | exact fh_sF | exact fh_sL | exact fh_sLe | exact fh_sGr | exact fh_sSt | exact fh_sMo | exact fh_sUn | exact fh_sFw (by omega) | exact fh_sOr (by omega) | exact fh_sFe (x := true) | exact fh_sFe (x := false) | exact fh_sc) rfl ?_ -- count
        refine wp_vret dX1_add_96 rfl ?_
        refine ⟨rfl, ?_⟩
        unfold adF
        rw [show i = k by omega]
      · exact absurd ((nI_leI (by omega) (by omega)).mpr (by omega)) hc1
    | succ m ih =>
      intro i y hi
      generalize hV : (fun e => if e < i then adV k c x (V e) e else V e) = V'
      have hVi : V' i = V i := by rw [← hV]; exact if_neg (Nat.lt_irrefl i)
      have K36 : ∀ (v : VS) (y : Option Value), adV k c x (V i) i = odV k x i v → wp l mX1_add [] d 0 0 (rV (sz, fh q k (adF k (c, T, V) x) G)) (sz, fh q k (c, T, upG V' i v) G) 36 [some (.ref q), some (.ref w), some (.int (nI i)), y] [] := by
        intro v y hv
        refine wp_iconst (v := nI 0) (q := 37) dX1_add_36 (by decide) rfl ?_
        refine wp_istore_n (i := 3) (lv' := [_, _, some _, _]) (q := 38) dX1_add_37 rfl (by decide) rfl rfl ?_
        have P38 : ∀ mm2 j, j + mm2 = k → wp l mX1_add [] d 0 0 (rV (sz, fh q k (adF k (c, T, V) x) G)) (sz, fh q k (c, T, upG V' i (sOr v (fun e => if e < j then vOr v e ||| ordO (x i) (x e) else vOr v e))) G) 38 [some (.ref q), some (.ref w), some (.int (nI i)), some (.int (nI j))] [] := by
          intro mm2
          induction mm2 with
          | zero =>
            intro j hj
            refine wp_iload_n (i := 3) (q := 39) dX1_add_38 rfl rfl rfl ?_
            refine wp_aload_n (i := 0) (q := 40) dX1_add_39 rfl rfl rfl ?_
            refine wg1_0 (q := 43) dX1_add_40 ffX1_9 (by first | exact fh_obj | exact fh_F | exact fh_L | exact fh_Le | exact fh_Gr | exact fh_Fe | exact fh_St | exact fh_Mo | exact fh_Un | exact fh_few | exact fh_Fw (by omega) | exact fh_ord | exact fh_Or (by omega) | assumption | exact (fh_out (by omega)).trans (by assumption)) rfl ?_ -- size
            refine wp_icmp_ge (t := 72) (q := 46) dX1_add_43 (by decide) rfl (fun hc1 => ?_) (fun hc1 => ?_)
            · refine wp_iinc (v := _ + nI 1) (lv' := [_, some _, _, _]) (q := 75) dX1_add_72 rfl rfl (by decide) rfl rfl ?_
              refine wp_goto (q := 2) dX1_add_75 (by decide) ?_
              rw [nI_add]
              have e1 : upG V' i (sOr v (fun e => if e < j then vOr v e ||| ordO (x i) (x e) else vOr v e)) = (fun e => if e < i + 1 then adV k c x (V e) e else V e) := by
                funext e
                by_cases w1 : e = i
                · subst w1
                  rw [upG_at, if_pos (by omega), hv, show j = k by omega]
                  rfl
                · rw [upG_ne w1, ← hV]
                  show (if e < i then _ else _) = _
                  by_cases w2 : e < i
                  · rw [if_pos w2, if_pos (by omega)]
                  · rw [if_neg w2, if_neg (by omega)]
              rw [e1]
              exact ih (i + 1) _ (by omega)
            · exact absurd ((nI_leI (by omega) (by omega)).mpr (by omega)) hc1
          | succ mm2 ih2 =>
            intro j hj
            refine wp_iload_n (i := 3) (q := 39) dX1_add_38 rfl rfl rfl ?_
            refine wp_aload_n (i := 0) (q := 40) dX1_add_39 rfl rfl rfl ?_
            refine wg1_0 (q := 43) dX1_add_40 ffX1_9 (by first | exact fh_obj | exact fh_F | exact fh_L | exact fh_Le | exact fh_Gr | exact fh_Fe | exact fh_St | exact fh_Mo | exact fh_Un | exact fh_few | exact fh_Fw (by omega) | exact fh_ord | exact fh_Or (by omega) | assumption | exact (fh_out (by omega)).trans (by assumption)) rfl ?_ -- size
            refine wp_icmp_ge (t := 72) (q := 46) dX1_add_43 (by decide) rfl (fun hc1 => ?_) (fun hc1 => ?_)
            · exact absurd ((nI_leI (by omega) (by omega)).mp hc1) (by omega)
            refine wp_aload_n (i := 0) (q := 47) dX1_add_46 rfl rfl rfl ?_
            refine wg1_12 (q := 50) dX1_add_47 ffX1_56 (by first | exact fh_obj | exact fh_F | exact fh_L | exact fh_Le | exact fh_Gr | exact fh_Fe | exact fh_St | exact fh_Mo | exact fh_Un | exact fh_few | exact fh_Fw (by omega) | exact fh_ord | exact fh_Or (by omega) | assumption | exact (fh_out (by omega)).trans (by assumption)) rfl ?_ -- orders
            refine wp_iload_n (i := 2) (q := 51) dX1_add_50 rfl rfl rfl ?_
            refine wq_aald (q := 52) dX1_add_51 (by first | exact fh_obj | exact fh_F | exact fh_L | exact fh_Le | exact fh_Gr | exact fh_Fe | exact fh_St | exact fh_Mo | exact fh_Un | exact fh_few | exact fh_Fw (by omega) | exact fh_ord | exact fh_Or (by omega) | assumption | exact (fh_out (by omega)).trans (by assumption)) (by decide) rfl (by first | omega | exact ⟨by omega, by omega⟩) (by exact if_pos (by omega)) rfl ?_
            refine wp_iload_n (i := 3) (q := 53) dX1_add_52 rfl rfl rfl ?_
            refine wp_dup2 (q := 54) dX1_add_53 rfl rfl rfl ?_
            refine wq_iald (q := 55) dX1_add_54 (by first | exact fh_obj | exact fh_F | exact fh_L | exact fh_Le | exact fh_Gr | exact fh_Fe | exact fh_St | exact fh_Mo | exact fh_Un | exact fh_few | exact fh_Fw (by omega) | exact fh_ord | exact fh_Or (by omega) | assumption | exact (fh_out (by omega)).trans (by assumption)) rfl (by first | omega | exact ⟨by omega, by omega⟩) rfl ?_
            refine wp_aload_n (i := 1) (q := 56) dX1_add_55 rfl rfl rfl ?_
            refine wp_iload_n (i := 2) (q := 57) dX1_add_56 rfl rfl rfl ?_
            refine wq_iald (q := 58) dX1_add_57 (by first | exact fh_obj | exact fh_F | exact fh_L | exact fh_Le | exact fh_Gr | exact fh_Fe | exact fh_St | exact fh_Mo | exact fh_Un | exact fh_few | exact fh_Fw (by omega) | exact fh_ord | exact fh_Or (by omega) | assumption | exact (fh_out (by omega)).trans (by assumption)) rfl (by first | omega | exact ⟨by omega, by omega⟩) rfl ?_
            refine wp_aload_n (i := 1) (q := 59) dX1_add_58 rfl rfl rfl ?_
            refine wp_iload_n (i := 3) (q := 60) dX1_add_59 rfl rfl rfl ?_
            refine wq_iald (q := 61) dX1_add_60 (by first | exact fh_obj | exact fh_F | exact fh_L | exact fh_Le | exact fh_Gr | exact fh_Fe | exact fh_St | exact fh_Mo | exact fh_Un | exact fh_few | exact fh_Fw (by omega) | exact fh_ord | exact fh_Or (by omega) | assumption | exact (fh_out (by omega)).trans (by assumption)) rfl (by first | omega | exact ⟨by omega, by omega⟩) rfl ?_
            rw [upG_at]
            refine wp_SNi (μ' := mX7_orderOf) (q := 64) (tX7_orderOf (d := d - 1)) dX1_add_61 okX7_orderOf lkX1_72 rfl rfl (Nat.le_of_ble_eq_true rfl) (by omega) rfl ?_
            refine wp_ior (q := 65) dX1_add_64 rfl ?_
            refine wq_iast (q := 66) dX1_add_65 (by first | exact fh_obj | exact fh_F | exact fh_L | exact fh_Le | exact fh_Gr | exact fh_Fe | exact fh_St | exact fh_Mo | exact fh_Un | exact fh_few | exact fh_Fw (by omega) | exact fh_ord | exact fh_Or (by omega) | assumption | exact (fh_out (by omega)).trans (by assumption)) rfl (by first | omega | exact ⟨by omega, by omega⟩) (by first | exact fh_sF | exact fh_sL | exact fh_sLe | exact fh_sGr | exact fh_sSt | exact fh_sMo | exact fh_sUn | exact fh_sFw (by omega) | exact fh_sOr (by omega) | exact fh_sFe (x := true) | exact fh_sFe (x := false) | exact fh_sc) rfl ?_
            refine wp_iinc (v := _ + nI 1) (lv' := [_, _, some _, _]) (q := 69) dX1_add_66 rfl rfl (by decide) rfl rfl ?_
            refine wp_goto (q := 38) dX1_add_69 (by decide) ?_
            rw [nI_add, upG_upG, upG_at]
            have e1 : sOr (sOr v (fun e => if e < j then vOr v e ||| ordO (x i) (x e) else vOr v e)) (upd (vOr (sOr v (fun e => if e < j then vOr v e ||| ordO (x i) (x e) else vOr v e))) j (vOr (sOr v (fun e => if e < j then vOr v e ||| ordO (x i) (x e) else vOr v e)) j ||| ordO (x i) (x j))) = sOr v (fun e => if e < j + 1 then vOr v e ||| ordO (x i) (x e) else vOr v e) := by
              refine congrArg (sOr v) (funext fun e => ?_)
              show upd (fun e => if e < j then vOr v e ||| ordO (x i) (x e) else vOr v e) j ((if j < j then vOr v j ||| ordO (x i) (x j) else vOr v j) ||| ordO (x i) (x j)) e = _
              unfold upd
              dsimp only
              by_cases w1 : e = j
              · rw [if_pos w1, if_neg (Nat.lt_irrefl j), if_pos (show e < j + 1 by omega), w1]
              · rw [if_neg w1]
                by_cases w2 : e < j
                · rw [if_pos w2, if_pos (by omega)]
                · rw [if_neg w2, if_neg (by omega)]
            rw [e1]
            exact ih2 (j + 1) (by omega)
        have := P38 k 0 (by omega)
        rw [show sOr v (fun e => if e < 0 then vOr v e ||| ordO (x i) (x e) else vOr v e) = v from rfl] at this
        exact this
      refine wp_iload_n (i := 2) (q := 3) dX1_add_2 rfl rfl rfl ?_
      refine wp_aload_n (i := 0) (q := 4) dX1_add_3 rfl rfl rfl ?_
      refine wg1_0 (q := 7) dX1_add_4 ffX1_9 (by first | exact fh_obj | exact fh_F | exact fh_L | exact fh_Le | exact fh_Gr | exact fh_Fe | exact fh_St | exact fh_Mo | exact fh_Un | exact fh_few | exact fh_Fw (by omega) | exact fh_ord | exact fh_Or (by omega) | assumption | exact (fh_out (by omega)).trans (by assumption)) rfl ?_ -- size
      refine wp_icmp_ge (t := 78) (q := 10) dX1_add_7 (by decide) rfl (fun hc1 => ?_) (fun hc1 => ?_)
      · exact absurd ((nI_leI (by omega) (by omega)).mp hc1) (by omega)
      refine wp_aload_n (i := 0) (q := 11) dX1_add_10 rfl rfl rfl ?_
      refine wg1_2 (q := 14) dX1_add_11 ffX1_59 (by first | exact fh_obj | exact fh_F | exact fh_L | exact fh_Le | exact fh_Gr | exact fh_Fe | exact fh_St | exact fh_Mo | exact fh_Un | exact fh_few | exact fh_Fw (by omega) | exact fh_ord | exact fh_Or (by omega) | assumption | exact (fh_out (by omega)).trans (by assumption)) rfl ?_ -- count
      refine wp_if_ne (t := 28) (q := 17) dX1_add_14 (by decide) rfl (fun h0 => ?_) (fun h0 => ?_)
      · have h0 : ¬ c = 0 := fun q => h0 (by rw [q]; rfl)
        refine wp_aload_n (i := 0) (q := 29) dX1_add_28 rfl rfl rfl ?_
        refine wp_iload_n (i := 2) (q := 30) dX1_add_29 rfl rfl rfl ?_
        refine wp_aload_n (i := 1) (q := 31) dX1_add_30 rfl rfl rfl ?_
        refine wp_iload_n (i := 2) (q := 32) dX1_add_31 rfl rfl rfl ?_
        refine wq_iald (q := 33) dX1_add_32 (by first | exact fh_obj | exact fh_F | exact fh_L | exact fh_Le | exact fh_Gr | exact fh_Fe | exact fh_St | exact fh_Mo | exact fh_Un | exact fh_few | exact fh_Fw (by omega) | exact fh_ord | exact fh_Or (by omega) | assumption | exact (fh_out (by omega)).trans (by assumption)) rfl (by first | omega | exact ⟨by omega, by omega⟩) rfl ?_
        refine wp_Vv (μ' := mX1_goOn) (ci := 1) (q := 36) (tX1_goOn (d := d - 1) (by omega) (by omega) hk (by rw [hVi]; exact hu i (by omega))) dX1_add_33 okX1_goOn lkX1_69 (by first | exact fh_obj | exact fh_F | exact fh_L | exact fh_Le | exact fh_Gr | exact fh_Fe | exact fh_St | exact fh_Mo | exact fh_Un | exact fh_few | exact fh_Fw (by omega) | exact fh_ord | exact fh_Or (by omega) | assumption | exact (fh_out (by omega)).trans (by assumption)) rfl rfl rfl (Nat.le_of_ble_eq_true rfl) (by omega) rfl ?_
        rw [hVi]
        exact K36 _ _ (by unfold adV; rw [if_neg h0])
      · have h0 : c = 0 := (nI_eq (b := 0) (by omega) (by omega)).mp h0
        refine wp_aload_n (i := 0) (q := 18) dX1_add_17 rfl rfl rfl ?_
        refine wp_iload_n (i := 2) (q := 19) dX1_add_18 rfl rfl rfl ?_
        refine wp_aload_n (i := 1) (q := 20) dX1_add_19 rfl rfl rfl ?_
        refine wp_iload_n (i := 2) (q := 21) dX1_add_20 rfl rfl rfl ?_
        refine wq_iald (q := 22) dX1_add_21 (by first | exact fh_obj | exact fh_F | exact fh_L | exact fh_Le | exact fh_Gr | exact fh_Fe | exact fh_St | exact fh_Mo | exact fh_Un | exact fh_few | exact fh_Fw (by omega) | exact fh_ord | exact fh_Or (by omega) | assumption | exact (fh_out (by omega)).trans (by assumption)) rfl (by first | omega | exact ⟨by omega, by omega⟩) rfl ?_
        refine wp_Vv (μ' := mX1_begin) (ci := 1) (q := 25) (tX1_begin (d := d - 1) (by omega) hk) dX1_add_22 okX1_begin lkX1_65 (by first | exact fh_obj | exact fh_F | exact fh_L | exact fh_Le | exact fh_Gr | exact fh_Fe | exact fh_St | exact fh_Mo | exact fh_Un | exact fh_few | exact fh_Fw (by omega) | exact fh_ord | exact fh_Or (by omega) | assumption | exact (fh_out (by omega)).trans (by assumption)) rfl rfl rfl (Nat.le_of_ble_eq_true rfl) (by omega) rfl ?_
        rw [hVi]
        refine wp_goto (q := 36) dX1_add_25 (by decide) ?_
        exact K36 _ _ (by unfold adV; rw [if_pos h0])
  have := P k 0 none (by omega)
  exact this
end F2
