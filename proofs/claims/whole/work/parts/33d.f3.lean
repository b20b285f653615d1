/-! THE CLASS: Facts, what is asked -/
def rsO (x : Int32) (m : Nat) : Int32 := if 0 < m then flM x (nI m) else -1000
def stQ (V : Nat → VS) (s i j : Nat) : Bool := if s = 0 then decide (vUn (V i) = 1) else if s = 1 then (decide (1 < vUn (V i)) && decide (vUn (V i) ≤ 3)) else if s = 2 then true else if s = 3 then true else if s = 4 then decide (0 < vMo (V i)) else if s = 9 then !vFe (V i) else fitO (nI s) (vOr (V i) j)
def stN (c : Nat) (V : Nat → VS) (s i j : Nat) : Bool := !decide (c = 0) && stQ V s i j
def nbN (V : Nat → VS) (s i : Nat) (w : Int32) : Int32 := if s = 1 ∧ ¬ w < nI 2 then (if w.toNatClampNeg - 2 < vUn (V i) ∧ w.toNatClampNeg - 2 < 3 then vFw (V i) (w.toNatClampNeg - 2) else -1000) else if s = 4 ∧ w = nI 1 then rsO (vF (V i)) (vMo (V i)) else if ¬ w = 0 then -1000 else if s = 0 then vLe (V i) else if s = 1 then nI (vUn (V i)) else if s = 2 then vLe (V i) else if s = 3 then vGr (V i) else nI (vMo (V i))
def tlN (c : Nat) (V : Nat → VS) (s i j : Nat) : Bool := stN c V s i j && (if s = 0 then true else if twB s = false then !stN c V 0 i 0 else if (stN c V 0 i 0 && stN c V 0 j 0) = true then false else if s = 7 then !stN c V 5 i j && !stN c V 6 i j else if s = 8 then !stN c V 6 i j && !stN c V 6 j i else true)
def bkN (V : Nat → VS) (x : Nat → Int32) (s i j : Nat) : Bool := if s = 0 then !decide (x i = vF (V i)) else if s = 1 then !amB (vFw (V i)) (vUn (V i)) (x i) else if s = 2 then decide (x i < vLe (V i)) else if s = 3 then decide (vGr (V i) < x i) else if s = 4 then !decide (rsO (x i) (vMo (V i)) = rsO (vF (V i)) (vMo (V i))) else if s = 9 then false else !fitO (nI s) (ordO (x i) (x j))
theorem o2B_nI {s : Nat} (h : s < 2 ^ 31) : o2B (nI s) = twB s := by
  unfold o2B twB
  rw [Bool.eq_iff_iff]
  simp only [Bool.and_eq_true, decide_eq_true_eq]
  rw [nI_ltI (by omega) (by omega), nI_ltI (by omega) (by omega)]
  omega
section F3
variable {l : Launch} {d sz q k c : Nat} {T : TS} {V : Nat → VS} {G : Nat → Option aE} {h : aH}
theorem tX1_restOf {x : Int32} {m : Nat} (hd : 1 ≤ d) (hm : m < 2 ^ 20) : mt l mX1_restOf d 0 0 [.int x, .int (nI m)] h (rI (rsO x m) h) := by
  refine mt_in (lv := [_, _]) (by decide) (Nat.le_of_ble_eq_true rfl) rfl ?_
  refine wp_iload_n (i := 1) (q := 1) dX1_restOf_0 rfl rfl rfl ?_
  unfold rsO
  refine wp_if_le (t := 12) (q := 4) dX1_restOf_1 (by decide) rfl (fun hc => ?_) (fun hc => ?_)
  · rw [if_neg (by have := (nI_leI (a := m) (b := 0) (by omega) (by omega)).mp hc; omega)]
    refine wp_sipush (v := (-1000)) (q := 15) dX1_restOf_12 (by decide) rfl ?_
    refine wp_iret dX1_restOf_15 rfl ?_
    exact ⟨rfl, rfl⟩
  · have h0 : 0 < m := by
      rcases Nat.eq_zero_or_pos m with w | w
      · subst w; exact absurd (by decide) hc
      · exact w
    rw [if_pos h0]
    refine wp_iload_n (i := 0) (q := 5) dX1_restOf_4 rfl rfl rfl ?_
    refine wp_iload_n (i := 1) (q := 6) dX1_restOf_5 rfl rfl rfl ?_
    refine wp_Si (μ' := mJ9_floorMod_7cf53) (q := 9) (tJ9_floorMod (d := d - 1) (nI_ne0 h0 (by omega))) dX1_restOf_6 okJ9_floorMod_7cf53 lkX1_113 rfl rfl (Nat.le_of_ble_eq_true rfl) (by omega) rfl ?_
    refine wp_goto (q := 15) dX1_restOf_9 (by decide) ?_
    refine wp_iret dX1_restOf_15 rfl ?_
    exact ⟨rfl, rfl⟩
theorem tX1_stands {s i j : Nat} (hd : 1 ≤ d) (hs : s < 10) (hi : i < k) (hj : j < k) (hk : k < 2 ^ 20) (hc : c < 2 ^ 20) (hu : vUn (V i) < 2 ^ 20) (hm : vMo (V i) < 2 ^ 20) : mt l mX1_stands d 0 0 [.ref q, .int (nI s), .int (nI i), .int (nI j)] (sz, fh q k (c, T, V) G) (rI (b2 (stN c V s i j)) (sz, fh q k (c, T, V) G)) := by
  refine mt_in (lv := [_, _, _, _]) (by decide) (Nat.le_of_ble_eq_true rfl) rfl ?_
  refine wp_aload_n (i := 0) (q := 1) dX1_stands_0 rfl rfl rfl ?_
  refine wg1_2 (q := 4) dX1_stands_1 ffX1_59 (by first | exact fh_obj | exact fh_F | exact fh_L | exact fh_Le | exact fh_Gr | exact fh_Fe | exact fh_St | exact fh_Mo | exact fh_Un | exact fh_few | exact fh_Fw (by omega) | exact fh_ord | exact fh_Or (by omega) | assumption | exact (fh_out (by omega)).trans (by assumption)) rfl ?_ -- count
  unfold stN
  refine wp_if_eq (t := 23) (q := 7) dX1_stands_4 (by decide) rfl (fun h0 => ?_) (fun h0 => ?_)
  · rw [decide_eq_true ((nI_eq (b := 0) (by omega) (by omega)).mp h0)]
    refine wp_iconst (v := nI 0) (q := 24) dX1_stands_23 (by decide) rfl ?_
    refine wp_zret dX1_stands_24 rfl (by first | exact Or.inl rfl | exact Or.inr rfl | exact b2_01 _ | assumption) ?_
    exact ⟨rfl, rfl⟩
  rw [decide_eq_false (fun q => h0 (by rw [q]; rfl)), Bool.not_false, Bool.true_and]
  refine wp_aload_n (i := 0) (q := 8) dX1_stands_7 rfl rfl rfl ?_
  refine wp_iload_n (i := 2) (q := 9) dX1_stands_8 rfl rfl rfl ?_
  refine wp_Vi (μ' := mX1_hasVariable) (ci := 1) (q := 12) (tX1_hasVariable (d := d - 1) hk) dX1_stands_9 okX1_hasVariable lkX1_103 (by first | exact fh_obj | exact fh_F | exact fh_L | exact fh_Le | exact fh_Gr | exact fh_Fe | exact fh_St | exact fh_Mo | exact fh_Un | exact fh_few | exact fh_Fw (by omega) | exact fh_ord | exact fh_Or (by omega) | assumption | exact (fh_out (by omega)).trans (by assumption)) rfl rfl rfl (Nat.le_of_ble_eq_true rfl) (by omega) rfl ?_
  rw [ix_nI (by omega), decide_eq_true hi]
  refine wp_if_eq (t := 23) (q := 15) dX1_stands_12 (by decide) rfl (fun hv => ?_) (fun hv => ?_)
  · exact absurd hv b2t0
  refine wp_aload_n (i := 0) (q := 16) dX1_stands_15 rfl rfl rfl ?_
  refine wp_iload_n (i := 3) (q := 17) dX1_stands_16 rfl rfl rfl ?_
  refine wp_Vi (μ' := mX1_hasVariable) (ci := 1) (q := 20) (tX1_hasVariable (d := d - 1) hk) dX1_stands_17 okX1_hasVariable lkX1_103 (by first | exact fh_obj | exact fh_F | exact fh_L | exact fh_Le | exact fh_Gr | exact fh_Fe | exact fh_St | exact fh_Mo | exact fh_Un | exact fh_few | exact fh_Fw (by omega) | exact fh_ord | exact fh_Or (by omega) | assumption | exact (fh_out (by omega)).trans (by assumption)) rfl rfl rfl (Nat.le_of_ble_eq_true rfl) (by omega) rfl ?_
  rw [ix_nI (by omega), decide_eq_true hj]
  refine wp_if_ne (t := 25) (q := 23) dX1_stands_20 (by decide) rfl (fun hv => ?_) (fun hv => ?_)
  case _ =>
    refine wp_iload_n (i := 1) (q := 26) dX1_stands_25 rfl rfl rfl ?_
    have K154 : ∀ s, wp l mX1_stands [] d 0 0 (rI (b2 (fitO (nI s) (vOr (V i) j))) (sz, fh q k (c, T, V) G)) (sz, fh q k (c, T, V) G) 154 [some (.ref q), some (.int (nI s)), some (.int (nI i)), some (.int (nI j))] [] := by
      intro s
      refine wp_iload_n (i := 1) (q := 155) dX1_stands_154 rfl rfl rfl ?_
      refine wp_aload_n (i := 0) (q := 156) dX1_stands_155 rfl rfl rfl ?_
      refine wg1_12 (q := 159) dX1_stands_156 ffX1_56 (by first | exact fh_obj | exact fh_F | exact fh_L | exact fh_Le | exact fh_Gr | exact fh_Fe | exact fh_St | exact fh_Mo | exact fh_Un | exact fh_few | exact fh_Fw (by omega) | exact fh_ord | exact fh_Or (by omega) | assumption | exact (fh_out (by omega)).trans (by assumption)) rfl ?_ -- orders
      refine wp_iload_n (i := 2) (q := 160) dX1_stands_159 rfl rfl rfl ?_
      refine wq_aald (q := 161) dX1_stands_160 (by first | exact fh_obj | exact fh_F | exact fh_L | exact fh_Le | exact fh_Gr | exact fh_Fe | exact fh_St | exact fh_Mo | exact fh_Un | exact fh_few | exact fh_Fw (by omega) | exact fh_ord | exact fh_Or (by omega) | assumption | exact (fh_out (by omega)).trans (by assumption)) (by decide) rfl (by first | omega | exact ⟨by omega, by omega⟩) (by exact if_pos (by omega)) rfl ?_
      refine wp_iload_n (i := 3) (q := 162) dX1_stands_161 rfl rfl rfl ?_
      refine wq_iald (q := 163) dX1_stands_162 (by first | exact fh_obj | exact fh_F | exact fh_L | exact fh_Le | exact fh_Gr | exact fh_Fe | exact fh_St | exact fh_Mo | exact fh_Un | exact fh_few | exact fh_Fw (by omega) | exact fh_ord | exact fh_Or (by omega) | assumption | exact (fh_out (by omega)).trans (by assumption)) rfl (by first | omega | exact ⟨by omega, by omega⟩) rfl ?_
      refine wp_SNi (μ' := mX7_fitsOrders) (q := 166) (tX7_fitsOrders (d := d - 1)) dX1_stands_163 okX7_fitsOrders lkX1_107 rfl rfl (Nat.le_of_ble_eq_true rfl) (by omega) rfl ?_
      refine wp_zret dX1_stands_166 rfl (by first | exact Or.inl rfl | exact Or.inr rfl | exact b2_01 _ | assumption) ?_
      exact ⟨rfl, rfl⟩
    rcases (show s = 0 ∨ s = 1 ∨ s = 2 ∨ s = 3 ∨ s = 4 ∨ s = 5 ∨ s = 6 ∨ s = 7 ∨ s = 8 ∨ s = 9 by omega) with rfl | rfl | rfl | rfl | rfl | rfl | rfl | rfl | rfl | rfl
    · show wp _ _ _ _ _ _ (rI (b2 (decide (vUn (V i) = 1))) _) _ _ _ _
      refine wp_tableIn (off := 54) (q := 80) dX1_stands_26 (by decide) (by decide) (by decide) (by decide) ?_
      refine wp_aload_n (i := 0) (q := 81) dX1_stands_80 rfl rfl rfl ?_
      refine wg1_10 (q := 84) dX1_stands_81 ffX1_48 (by first | exact fh_obj | exact fh_F | exact fh_L | exact fh_Le | exact fh_Gr | exact fh_Fe | exact fh_St | exact fh_Mo | exact fh_Un | exact fh_few | exact fh_Fw (by omega) | exact fh_ord | exact fh_Or (by omega) | assumption | exact (fh_out (by omega)).trans (by assumption)) rfl ?_ -- unlike
      refine wp_iload_n (i := 2) (q := 85) dX1_stands_84 rfl rfl rfl ?_
      refine wq_iald (q := 86) dX1_stands_85 (by first | exact fh_obj | exact fh_F | exact fh_L | exact fh_Le | exact fh_Gr | exact fh_Fe | exact fh_St | exact fh_Mo | exact fh_Un | exact fh_few | exact fh_Fw (by omega) | exact fh_ord | exact fh_Or (by omega) | assumption | exact (fh_out (by omega)).trans (by assumption)) rfl (by first | omega | exact ⟨by omega, by omega⟩) rfl ?_
      refine wp_iconst (v := nI 1) (q := 87) dX1_stands_86 (by decide) rfl ?_
      refine wp_icmp_ne (t := 94) (q := 90) dX1_stands_87 (by decide) rfl (fun h1 => ?_) (fun h1 => ?_)
      · rw [decide_eq_false (fun q => h1 (by rw [q]))]
        refine wp_iconst (v := nI 0) (q := 95) dX1_stands_94 (by decide) rfl ?_
        refine wp_zret dX1_stands_95 rfl (by first | exact Or.inl rfl | exact Or.inr rfl | exact b2_01 _ | assumption) ?_
        exact ⟨rfl, rfl⟩
      · rw [decide_eq_true ((nI_eq (by omega) (by omega)).mp h1)]
        refine wp_iconst (v := nI 1) (q := 91) dX1_stands_90 (by decide) rfl ?_
        refine wp_goto (q := 95) dX1_stands_91 (by decide) ?_
        refine wp_zret dX1_stands_95 rfl (by first | exact Or.inl rfl | exact Or.inr rfl | exact b2_01 _ | assumption) ?_
        exact ⟨rfl, rfl⟩
    · show wp _ _ _ _ _ _ (rI (b2 (decide (1 < vUn (V i)) && decide (vUn (V i) ≤ 3))) _) _ _ _ _
      refine wp_tableIn (off := 70) (q := 96) dX1_stands_26 (by decide) (by decide) (by decide) (by decide) ?_
      refine wp_aload_n (i := 0) (q := 97) dX1_stands_96 rfl rfl rfl ?_
      refine wg1_10 (q := 100) dX1_stands_97 ffX1_48 (by first | exact fh_obj | exact fh_F | exact fh_L | exact fh_Le | exact fh_Gr | exact fh_Fe | exact fh_St | exact fh_Mo | exact fh_Un | exact fh_few | exact fh_Fw (by omega) | exact fh_ord | exact fh_Or (by omega) | assumption | exact (fh_out (by omega)).trans (by assumption)) rfl ?_ -- unlike
      refine wp_iload_n (i := 2) (q := 101) dX1_stands_100 rfl rfl rfl ?_
      refine wq_iald (q := 102) dX1_stands_101 (by first | exact fh_obj | exact fh_F | exact fh_L | exact fh_Le | exact fh_Gr | exact fh_Fe | exact fh_St | exact fh_Mo | exact fh_Un | exact fh_few | exact fh_Fw (by omega) | exact fh_ord | exact fh_Or (by omega) | assumption | exact (fh_out (by omega)).trans (by assumption)) rfl (by first | omega | exact ⟨by omega, by omega⟩) rfl ?_
      refine wp_iconst (v := nI 1) (q := 103) dX1_stands_102 (by decide) rfl ?_
      refine wp_icmp_le (t := 120) (q := 106) dX1_stands_103 (by decide) rfl (fun h1 => ?_) (fun h1 => ?_)
      · rw [decide_eq_false (Nat.not_lt.mpr ((nI_leI (by omega) (by omega)).mp h1)), Bool.false_and]
        refine wp_iconst (v := nI 0) (q := 121) dX1_stands_120 (by decide) rfl ?_
        refine wp_zret dX1_stands_121 rfl (by first | exact Or.inl rfl | exact Or.inr rfl | exact b2_01 _ | assumption) ?_
        exact ⟨rfl, rfl⟩
      rw [decide_eq_true (Nat.not_le.mp (fun q => h1 ((nI_leI (by omega) (by omega)).mpr q))), Bool.true_and]
      refine wp_aload_n (i := 0) (q := 107) dX1_stands_106 rfl rfl rfl ?_
      refine wg1_10 (q := 110) dX1_stands_107 ffX1_48 (by first | exact fh_obj | exact fh_F | exact fh_L | exact fh_Le | exact fh_Gr | exact fh_Fe | exact fh_St | exact fh_Mo | exact fh_Un | exact fh_few | exact fh_Fw (by omega) | exact fh_ord | exact fh_Or (by omega) | assumption | exact (fh_out (by omega)).trans (by assumption)) rfl ?_ -- unlike
      refine wp_iload_n (i := 2) (q := 111) dX1_stands_110 rfl rfl rfl ?_
      refine wq_iald (q := 112) dX1_stands_111 (by first | exact fh_obj | exact fh_F | exact fh_L | exact fh_Le | exact fh_Gr | exact fh_Fe | exact fh_St | exact fh_Mo | exact fh_Un | exact fh_few | exact fh_Fw (by omega) | exact fh_ord | exact fh_Or (by omega) | assumption | exact (fh_out (by omega)).trans (by assumption)) rfl (by first | omega | exact ⟨by omega, by omega⟩) rfl ?_
      refine wp_iconst (v := nI 3) (q := 113) dX1_stands_112 (by decide) rfl ?_
      refine wp_icmp_gt (t := 120) (q := 116) dX1_stands_113 (by decide) rfl (fun h2 => ?_) (fun h2 => ?_)
      · rw [decide_eq_false (Nat.not_le.mpr ((nI_ltI (by omega) (by omega)).mp h2))]
        refine wp_iconst (v := nI 0) (q := 121) dX1_stands_120 (by decide) rfl ?_
        refine wp_zret dX1_stands_121 rfl (by first | exact Or.inl rfl | exact Or.inr rfl | exact b2_01 _ | assumption) ?_
        exact ⟨rfl, rfl⟩
      · rw [decide_eq_true (Nat.not_lt.mp (fun q => h2 ((nI_ltI (by omega) (by omega)).mpr q)))]
        refine wp_iconst (v := nI 1) (q := 117) dX1_stands_116 (by decide) rfl ?_
        refine wp_goto (q := 121) dX1_stands_117 (by decide) ?_
        refine wp_zret dX1_stands_121 rfl (by first | exact Or.inl rfl | exact Or.inr rfl | exact b2_01 _ | assumption) ?_
        exact ⟨rfl, rfl⟩
    · refine wp_tableIn (off := 96) (q := 122) dX1_stands_26 (by decide) (by decide) (by decide) (by decide) ?_
      refine wp_iconst (v := nI 1) (q := 123) dX1_stands_122 (by decide) rfl ?_
      refine wp_zret dX1_stands_123 rfl (by first | exact Or.inl rfl | exact Or.inr rfl | exact b2_01 _ | assumption) ?_
      exact ⟨rfl, rfl⟩
    · refine wp_tableIn (off := 96) (q := 122) dX1_stands_26 (by decide) (by decide) (by decide) (by decide) ?_
      refine wp_iconst (v := nI 1) (q := 123) dX1_stands_122 (by decide) rfl ?_
      refine wp_zret dX1_stands_123 rfl (by first | exact Or.inl rfl | exact Or.inr rfl | exact b2_01 _ | assumption) ?_
      exact ⟨rfl, rfl⟩
    · show wp _ _ _ _ _ _ (rI (b2 (decide (0 < vMo (V i)))) _) _ _ _ _
      refine wp_tableIn (off := 98) (q := 124) dX1_stands_26 (by decide) (by decide) (by decide) (by decide) ?_
      refine wp_aload_n (i := 0) (q := 125) dX1_stands_124 rfl rfl rfl ?_
      refine wg1_9 (q := 128) dX1_stands_125 ffX1_45 (by first | exact fh_obj | exact fh_F | exact fh_L | exact fh_Le | exact fh_Gr | exact fh_Fe | exact fh_St | exact fh_Mo | exact fh_Un | exact fh_few | exact fh_Fw (by omega) | exact fh_ord | exact fh_Or (by omega) | assumption | exact (fh_out (by omega)).trans (by assumption)) rfl ?_ -- modulus
      refine wp_iload_n (i := 2) (q := 129) dX1_stands_128 rfl rfl rfl ?_
      refine wq_iald (q := 130) dX1_stands_129 (by first | exact fh_obj | exact fh_F | exact fh_L | exact fh_Le | exact fh_Gr | exact fh_Fe | exact fh_St | exact fh_Mo | exact fh_Un | exact fh_few | exact fh_Fw (by omega) | exact fh_ord | exact fh_Or (by omega) | assumption | exact (fh_out (by omega)).trans (by assumption)) rfl (by first | omega | exact ⟨by omega, by omega⟩) rfl ?_
      refine wp_if_le (t := 137) (q := 133) dX1_stands_130 (by decide) rfl (fun h1 => ?_) (fun h1 => ?_)
      · rw [decide_eq_false (Nat.not_lt.mpr ((nI_leI (b := 0) (by omega) (by omega)).mp h1))]
        refine wp_iconst (v := nI 0) (q := 138) dX1_stands_137 (by decide) rfl ?_
        refine wp_zret dX1_stands_138 rfl (by first | exact Or.inl rfl | exact Or.inr rfl | exact b2_01 _ | assumption) ?_
        exact ⟨rfl, rfl⟩
      · rw [decide_eq_true (Nat.not_le.mp (fun q => h1 ((nI_leI (b := 0) (by omega) (by omega)).mpr q)))]
        refine wp_iconst (v := nI 1) (q := 134) dX1_stands_133 (by decide) rfl ?_
        refine wp_goto (q := 138) dX1_stands_134 (by decide) ?_
        refine wp_zret dX1_stands_138 rfl (by first | exact Or.inl rfl | exact Or.inr rfl | exact b2_01 _ | assumption) ?_
        exact ⟨rfl, rfl⟩
    · refine wp_tableIn (off := 128) (q := 154) dX1_stands_26 (by decide) (by decide) (by decide) (by decide) ?_
      exact K154 5
    · refine wp_tableIn (off := 128) (q := 154) dX1_stands_26 (by decide) (by decide) (by decide) (by decide) ?_
      exact K154 6
    · refine wp_tableIn (off := 128) (q := 154) dX1_stands_26 (by decide) (by decide) (by decide) (by decide) ?_
      exact K154 7
    · refine wp_tableIn (off := 128) (q := 154) dX1_stands_26 (by decide) (by decide) (by decide) (by decide) ?_
      exact K154 8
    · show wp _ _ _ _ _ _ (rI (b2 (!vFe (V i))) _) _ _ _ _
      refine wp_tableIn (off := 113) (q := 139) dX1_stands_26 (by decide) (by decide) (by decide) (by decide) ?_
      refine wp_aload_n (i := 0) (q := 140) dX1_stands_139 rfl rfl rfl ?_
      refine wg1_7 (q := 143) dX1_stands_140 ffX1_37 (by first | exact fh_obj | exact fh_F | exact fh_L | exact fh_Le | exact fh_Gr | exact fh_Fe | exact fh_St | exact fh_Mo | exact fh_Un | exact fh_few | exact fh_Fw (by omega) | exact fh_ord | exact fh_Or (by omega) | assumption | exact (fh_out (by omega)).trans (by assumption)) rfl ?_ -- fell
      refine wp_iload_n (i := 2) (q := 144) dX1_stands_143 rfl rfl rfl ?_
      refine wq_zald (q := 145) dX1_stands_144 (by first | exact fh_obj | exact fh_F | exact fh_L | exact fh_Le | exact fh_Gr | exact fh_Fe | exact fh_St | exact fh_Mo | exact fh_Un | exact fh_few | exact fh_Fw (by omega) | exact fh_ord | exact fh_Or (by omega) | assumption | exact (fh_out (by omega)).trans (by assumption)) rfl (by first | omega | exact ⟨by omega, by omega⟩) rfl ?_
      refine wp_if_ne (t := 152) (q := 148) dX1_stands_145 (by decide) rfl (fun h1 => ?_) (fun h1 => ?_)
      · rw [b2_ne0.mp h1]
        refine wp_iconst (v := nI 0) (q := 153) dX1_stands_152 (by decide) rfl ?_
        refine wp_zret dX1_stands_153 rfl (by first | exact Or.inl rfl | exact Or.inr rfl | exact b2_01 _ | assumption) ?_
        exact ⟨rfl, rfl⟩
      · rw [b2_eq0.mp h1]
        refine wp_iconst (v := nI 1) (q := 149) dX1_stands_148 (by decide) rfl ?_
        refine wp_goto (q := 153) dX1_stands_149 (by decide) ?_
        refine wp_zret dX1_stands_153 rfl (by first | exact Or.inl rfl | exact Or.inr rfl | exact b2_01 _ | assumption) ?_
        exact ⟨rfl, rfl⟩
  · exact absurd hv b2t0
theorem tX1_numberOf {s i : Nat} {w : Int32} (hd : 2 ≤ d) (hs : s < 5) (hi : i < k) (hk : k < 2 ^ 20) (hu : vUn (V i) < 2 ^ 20) (hm : vMo (V i) < 2 ^ 20) : mt l mX1_numberOf d 0 0 [.ref q, .int (nI s), .int (nI i), .int w] (sz, fh q k (c, T, V) G) (rI (nbN V s i w) (sz, fh q k (c, T, V) G)) := by
  refine mt_in (lv := [_, _, _, _]) (by decide) (Nat.le_of_ble_eq_true rfl) rfl ?_
  refine wp_iload_n (i := 1) (q := 1) dX1_numberOf_0 rfl rfl rfl ?_
  refine wp_iconst (v := nI 1) (q := 2) dX1_numberOf_1 (by decide) rfl ?_
  unfold nbN
  have K72 : ¬ (s = 1 ∧ ¬ w < nI 2) → ¬ (s = 4 ∧ w = nI 1) → wp l mX1_numberOf [] d 0 0 (rI (if s = 1 ∧ ¬ w < nI 2 then (if w.toNatClampNeg - 2 < vUn (V i) ∧ w.toNatClampNeg - 2 < 3 then vFw (V i) (w.toNatClampNeg - 2) else -1000) else if s = 4 ∧ w = nI 1 then rsO (vF (V i)) (vMo (V i)) else if ¬ w = 0 then -1000 else if s = 0 then vLe (V i) else if s = 1 then nI (vUn (V i)) else if s = 2 then vLe (V i) else if s = 3 then vGr (V i) else nI (vMo (V i))) (sz, fh q k (c, T, V) G)) (sz, fh q k (c, T, V) G) 72 [some (.ref q), some (.int (nI s)), some (.int (nI i)), some (.int w)] [] := by
    intro h1 h2
    rw [if_neg h1, if_neg h2]
    refine wp_iload_n (i := 3) (q := 73) dX1_numberOf_72 rfl rfl rfl ?_
    refine wp_if_eq (t := 80) (q := 76) dX1_numberOf_73 (by decide) rfl (fun h0 => ?_) (fun h0 => ?_)
    · rw [if_neg (fun q => q h0)]
      refine wp_iload_n (i := 1) (q := 81) dX1_numberOf_80 rfl rfl rfl ?_
      rcases (show s = 0 ∨ s = 1 ∨ s = 2 ∨ s = 3 ∨ s = 4 by omega) with rfl | rfl | rfl | rfl | rfl
      · refine wp_tableIn (off := 35) (q := 116) dX1_numberOf_81 (by decide) (by decide) (by decide) (by decide) ?_
        refine wp_aload_n (i := 0) (q := 117) dX1_numberOf_116 rfl rfl rfl ?_
        refine wg1_5 (q := 120) dX1_numberOf_117 ffX1_31 (by first | exact fh_obj | exact fh_F | exact fh_L | exact fh_Le | exact fh_Gr | exact fh_Fe | exact fh_St | exact fh_Mo | exact fh_Un | exact fh_few | exact fh_Fw (by omega) | exact fh_ord | exact fh_Or (by omega) | assumption | exact (fh_out (by omega)).trans (by assumption)) rfl ?_ -- least
        refine wp_iload_n (i := 2) (q := 121) dX1_numberOf_120 rfl rfl rfl ?_
        refine wq_iald (q := 122) dX1_numberOf_121 (by first | exact fh_obj | exact fh_F | exact fh_L | exact fh_Le | exact fh_Gr | exact fh_Fe | exact fh_St | exact fh_Mo | exact fh_Un | exact fh_few | exact fh_Fw (by omega) | exact fh_ord | exact fh_Or (by omega) | assumption | exact (fh_out (by omega)).trans (by assumption)) rfl (by first | omega | exact ⟨by omega, by omega⟩) rfl ?_
        refine wp_iret dX1_numberOf_122 rfl ?_
        exact ⟨rfl, rfl⟩
      · refine wp_tableIn (off := 49) (q := 130) dX1_numberOf_81 (by decide) (by decide) (by decide) (by decide) ?_
        refine wp_aload_n (i := 0) (q := 131) dX1_numberOf_130 rfl rfl rfl ?_
        refine wg1_10 (q := 134) dX1_numberOf_131 ffX1_48 (by first | exact fh_obj | exact fh_F | exact fh_L | exact fh_Le | exact fh_Gr | exact fh_Fe | exact fh_St | exact fh_Mo | exact fh_Un | exact fh_few | exact fh_Fw (by omega) | exact fh_ord | exact fh_Or (by omega) | assumption | exact (fh_out (by omega)).trans (by assumption)) rfl ?_ -- unlike
        refine wp_iload_n (i := 2) (q := 135) dX1_numberOf_134 rfl rfl rfl ?_
        refine wq_iald (q := 136) dX1_numberOf_135 (by first | exact fh_obj | exact fh_F | exact fh_L | exact fh_Le | exact fh_Gr | exact fh_Fe | exact fh_St | exact fh_Mo | exact fh_Un | exact fh_few | exact fh_Fw (by omega) | exact fh_ord | exact fh_Or (by omega) | assumption | exact (fh_out (by omega)).trans (by assumption)) rfl (by first | omega | exact ⟨by omega, by omega⟩) rfl ?_
        refine wp_iret dX1_numberOf_136 rfl ?_
        exact ⟨rfl, rfl⟩
      · refine wp_tableIn (off := 35) (q := 116) dX1_numberOf_81 (by decide) (by decide) (by decide) (by decide) ?_
        refine wp_aload_n (i := 0) (q := 117) dX1_numberOf_116 rfl rfl rfl ?_
        refine wg1_5 (q := 120) dX1_numberOf_117 ffX1_31 (by first | exact fh_obj | exact fh_F | exact fh_L | exact fh_Le | exact fh_Gr | exact fh_Fe | exact fh_St | exact fh_Mo | exact fh_Un | exact fh_few | exact fh_Fw (by omega) | exact fh_ord | exact fh_Or (by omega) | assumption | exact (fh_out (by omega)).trans (by assumption)) rfl ?_ -- least
        refine wp_iload_n (i := 2) (q := 121) dX1_numberOf_120 rfl rfl rfl ?_
        refine wq_iald (q := 122) dX1_numberOf_121 (by first | exact fh_obj | exact fh_F | exact fh_L | exact fh_Le | exact fh_Gr | exact fh_Fe | exact fh_St | exact fh_Mo | exact fh_Un | exact fh_few | exact fh_Fw (by omega) | exact fh_ord | exact fh_Or (by omega) | assumption | exact (fh_out (by omega)).trans (by assumption)) rfl (by first | omega | exact ⟨by omega, by omega⟩) rfl ?_
        refine wp_iret dX1_numberOf_122 rfl ?_
        exact ⟨rfl, rfl⟩
      · refine wp_tableIn (off := 42) (q := 123) dX1_numberOf_81 (by decide) (by decide) (by decide) (by decide) ?_
        refine wp_aload_n (i := 0) (q := 124) dX1_numberOf_123 rfl rfl rfl ?_
        refine wg1_6 (q := 127) dX1_numberOf_124 ffX1_34 (by first | exact fh_obj | exact fh_F | exact fh_L | exact fh_Le | exact fh_Gr | exact fh_Fe | exact fh_St | exact fh_Mo | exact fh_Un | exact fh_few | exact fh_Fw (by omega) | exact fh_ord | exact fh_Or (by omega) | assumption | exact (fh_out (by omega)).trans (by assumption)) rfl ?_ -- greatest
        refine wp_iload_n (i := 2) (q := 128) dX1_numberOf_127 rfl rfl rfl ?_
        refine wq_iald (q := 129) dX1_numberOf_128 (by first | exact fh_obj | exact fh_F | exact fh_L | exact fh_Le | exact fh_Gr | exact fh_Fe | exact fh_St | exact fh_Mo | exact fh_Un | exact fh_few | exact fh_Fw (by omega) | exact fh_ord | exact fh_Or (by omega) | assumption | exact (fh_out (by omega)).trans (by assumption)) rfl (by first | omega | exact ⟨by omega, by omega⟩) rfl ?_
        refine wp_iret dX1_numberOf_129 rfl ?_
        exact ⟨rfl, rfl⟩
      · refine wp_tableIn (off := 56) (q := 137) dX1_numberOf_81 (by decide) (by decide) (by decide) (by decide) ?_
        refine wp_aload_n (i := 0) (q := 138) dX1_numberOf_137 rfl rfl rfl ?_
        refine wg1_9 (q := 141) dX1_numberOf_138 ffX1_45 (by first | exact fh_obj | exact fh_F | exact fh_L | exact fh_Le | exact fh_Gr | exact fh_Fe | exact fh_St | exact fh_Mo | exact fh_Un | exact fh_few | exact fh_Fw (by omega) | exact fh_ord | exact fh_Or (by omega) | assumption | exact (fh_out (by omega)).trans (by assumption)) rfl ?_ -- modulus
        refine wp_iload_n (i := 2) (q := 142) dX1_numberOf_141 rfl rfl rfl ?_
        refine wq_iald (q := 143) dX1_numberOf_142 (by first | exact fh_obj | exact fh_F | exact fh_L | exact fh_Le | exact fh_Gr | exact fh_Fe | exact fh_St | exact fh_Mo | exact fh_Un | exact fh_few | exact fh_Fw (by omega) | exact fh_ord | exact fh_Or (by omega) | assumption | exact (fh_out (by omega)).trans (by assumption)) rfl (by first | omega | exact ⟨by omega, by omega⟩) rfl ?_
        refine wp_iret dX1_numberOf_143 rfl ?_
        exact ⟨rfl, rfl⟩
    · rw [if_pos h0]
      refine wp_sipush (v := (-1000)) (q := 79) dX1_numberOf_76 (by decide) rfl ?_
      refine wp_iret dX1_numberOf_79 rfl ?_
      exact ⟨rfl, rfl⟩
  have K46 : ¬ (s = 1 ∧ ¬ w < nI 2) → wp l mX1_numberOf [] d 0 0 (rI (if s = 1 ∧ ¬ w < nI 2 then (if w.toNatClampNeg - 2 < vUn (V i) ∧ w.toNatClampNeg - 2 < 3 then vFw (V i) (w.toNatClampNeg - 2) else -1000) else if s = 4 ∧ w = nI 1 then rsO (vF (V i)) (vMo (V i)) else if ¬ w = 0 then -1000 else if s = 0 then vLe (V i) else if s = 1 then nI (vUn (V i)) else if s = 2 then vLe (V i) else if s = 3 then vGr (V i) else nI (vMo (V i))) (sz, fh q k (c, T, V) G)) (sz, fh q k (c, T, V) G) 46 [some (.ref q), some (.int (nI s)), some (.int (nI i)), some (.int w)] [] := by
    intro h1
    refine wp_iload_n (i := 1) (q := 47) dX1_numberOf_46 rfl rfl rfl ?_
    refine wp_iconst (v := nI 4) (q := 48) dX1_numberOf_47 (by decide) rfl ?_
    refine wp_icmp_ne (t := 72) (q := 51) dX1_numberOf_48 (by decide) rfl (fun h4 => ?_) (fun h4 => ?_)
    · exact K72 h1 (fun q => h4 (by rw [q.1]))
    have h4 : s = 4 := (nI_eq (by omega) (by omega)).mp h4
    refine wp_iload_n (i := 3) (q := 52) dX1_numberOf_51 rfl rfl rfl ?_
    refine wp_iconst (v := nI 1) (q := 53) dX1_numberOf_52 (by decide) rfl ?_
    refine wp_icmp_ne (t := 72) (q := 56) dX1_numberOf_53 (by decide) rfl (fun hw => ?_) (fun hw => ?_)
    · exact K72 h1 (fun q => hw q.2)
    rw [if_neg h1, if_pos ⟨h4, hw⟩]
    refine wp_aload_n (i := 0) (q := 57) dX1_numberOf_56 rfl rfl rfl ?_
    refine wg1_3 (q := 60) dX1_numberOf_57 ffX1_24 (by first | exact fh_obj | exact fh_F | exact fh_L | exact fh_Le | exact fh_Gr | exact fh_Fe | exact fh_St | exact fh_Mo | exact fh_Un | exact fh_few | exact fh_Fw (by omega) | exact fh_ord | exact fh_Or (by omega) | assumption | exact (fh_out (by omega)).trans (by assumption)) rfl ?_ -- first
    refine wp_iload_n (i := 2) (q := 61) dX1_numberOf_60 rfl rfl rfl ?_
    refine wq_iald (q := 62) dX1_numberOf_61 (by first | exact fh_obj | exact fh_F | exact fh_L | exact fh_Le | exact fh_Gr | exact fh_Fe | exact fh_St | exact fh_Mo | exact fh_Un | exact fh_few | exact fh_Fw (by omega) | exact fh_ord | exact fh_Or (by omega) | assumption | exact (fh_out (by omega)).trans (by assumption)) rfl (by first | omega | exact ⟨by omega, by omega⟩) rfl ?_
    refine wp_aload_n (i := 0) (q := 63) dX1_numberOf_62 rfl rfl rfl ?_
    refine wg1_9 (q := 66) dX1_numberOf_63 ffX1_45 (by first | exact fh_obj | exact fh_F | exact fh_L | exact fh_Le | exact fh_Gr | exact fh_Fe | exact fh_St | exact fh_Mo | exact fh_Un | exact fh_few | exact fh_Fw (by omega) | exact fh_ord | exact fh_Or (by omega) | assumption | exact (fh_out (by omega)).trans (by assumption)) rfl ?_ -- modulus
    refine wp_iload_n (i := 2) (q := 67) dX1_numberOf_66 rfl rfl rfl ?_
    refine wq_iald (q := 68) dX1_numberOf_67 (by first | exact fh_obj | exact fh_F | exact fh_L | exact fh_Le | exact fh_Gr | exact fh_Fe | exact fh_St | exact fh_Mo | exact fh_Un | exact fh_few | exact fh_Fw (by omega) | exact fh_ord | exact fh_Or (by omega) | assumption | exact (fh_out (by omega)).trans (by assumption)) rfl (by first | omega | exact ⟨by omega, by omega⟩) rfl ?_
    refine wp_Si (μ' := mX1_restOf) (q := 71) (tX1_restOf (d := d - 1) (by omega) hm) dX1_numberOf_68 okX1_restOf lkX1_110 rfl rfl (Nat.le_of_ble_eq_true rfl) (by omega) rfl ?_
    refine wp_iret dX1_numberOf_71 rfl ?_
    exact ⟨rfl, rfl⟩
  refine wp_icmp_ne (t := 46) (q := 5) dX1_numberOf_2 (by decide) rfl (fun hs1 => ?_) (fun hs1 => ?_)
  · exact K46 (fun q => hs1 (by rw [q.1]))
  have hs1 : s = 1 := (nI_eq (by omega) (by omega)).mp hs1
  refine wp_iload_n (i := 3) (q := 6) dX1_numberOf_5 rfl rfl rfl ?_
  refine wp_iconst (v := nI 2) (q := 7) dX1_numberOf_6 (by decide) rfl ?_
  refine wp_icmp_lt (t := 46) (q := 10) dX1_numberOf_7 (by decide) rfl (fun hw => ?_) (fun hw => ?_)
  · exact K46 (fun q => q.2 hw)
  obtain ⟨a, ha, rfl⟩ := nI_of (x := w) (fun q => hw (Int32.lt_trans q (by decide)))
  have ha2 : 2 ≤ a := Nat.not_lt.mp (fun q => hw ((nI_ltI (by omega) (by omega)).mpr q))
  rw [if_pos ⟨hs1, hw⟩, nI_clamp ha]
  clear K46 K72
  refine wp_iload_n (i := 3) (q := 11) dX1_numberOf_10 rfl rfl rfl ?_
  refine wp_iconst (v := nI 2) (q := 12) dX1_numberOf_11 (by decide) rfl ?_
  refine wp_isub (q := 13) dX1_numberOf_12 rfl ?_
  rw [pk_sub ha2]
  refine wp_aload_n (i := 0) (q := 14) dX1_numberOf_13 rfl rfl rfl ?_
  refine wg1_10 (q := 17) dX1_numberOf_14 ffX1_48 (by first | exact fh_obj | exact fh_F | exact fh_L | exact fh_Le | exact fh_Gr | exact fh_Fe | exact fh_St | exact fh_Mo | exact fh_Un | exact fh_few | exact fh_Fw (by omega) | exact fh_ord | exact fh_Or (by omega) | assumption | exact (fh_out (by omega)).trans (by assumption)) rfl ?_ -- unlike
  refine wp_iload_n (i := 2) (q := 18) dX1_numberOf_17 rfl rfl rfl ?_
  refine wq_iald (q := 19) dX1_numberOf_18 (by first | exact fh_obj | exact fh_F | exact fh_L | exact fh_Le | exact fh_Gr | exact fh_Fe | exact fh_St | exact fh_Mo | exact fh_Un | exact fh_few | exact fh_Fw (by omega) | exact fh_ord | exact fh_Or (by omega) | assumption | exact (fh_out (by omega)).trans (by assumption)) rfl (by first | omega | exact ⟨by omega, by omega⟩) rfl ?_
  refine wp_icmp_ge (t := 42) (q := 22) dX1_numberOf_19 (by decide) rfl (fun hc1 => ?_) (fun hc1 => ?_)
  · rw [if_neg (fun q => absurd ((nI_leI (by omega) (by omega)).mp hc1) (by omega))]
    refine wp_sipush (v := (-1000)) (q := 45) dX1_numberOf_42 (by decide) rfl ?_
    refine wp_iret dX1_numberOf_45 rfl ?_
    exact ⟨rfl, rfl⟩
  have hc1 : a - 2 < vUn (V i) := Nat.not_le.mp (fun q => hc1 ((nI_leI (by omega) (by omega)).mpr q))
  refine wp_iload_n (i := 3) (q := 23) dX1_numberOf_22 rfl rfl rfl ?_
  refine wp_iconst (v := nI 2) (q := 24) dX1_numberOf_23 (by decide) rfl ?_
  refine wp_isub (q := 25) dX1_numberOf_24 rfl ?_
  rw [pk_sub ha2]
  refine wp_iconst (v := nI 3) (q := 26) dX1_numberOf_25 (by decide) rfl ?_
  refine wp_icmp_ge (t := 42) (q := 29) dX1_numberOf_26 (by decide) rfl (fun hc2 => ?_) (fun hc2 => ?_)
  · rw [if_neg (fun q => absurd ((nI_leI (by omega) (by omega)).mp hc2) (by omega))]
    refine wp_sipush (v := (-1000)) (q := 45) dX1_numberOf_42 (by decide) rfl ?_
    refine wp_iret dX1_numberOf_45 rfl ?_
    exact ⟨rfl, rfl⟩
  have hc2 : a - 2 < 3 := Nat.not_le.mp (fun q => hc2 ((nI_leI (by omega) (by omega)).mpr q))
  rw [if_pos ⟨hc1, hc2⟩]
  refine wp_aload_n (i := 0) (q := 30) dX1_numberOf_29 rfl rfl rfl ?_
  refine wg1_11 (q := 33) dX1_numberOf_30 ffX1_53 (by first | exact fh_obj | exact fh_F | exact fh_L | exact fh_Le | exact fh_Gr | exact fh_Fe | exact fh_St | exact fh_Mo | exact fh_Un | exact fh_few | exact fh_Fw (by omega) | exact fh_ord | exact fh_Or (by omega) | assumption | exact (fh_out (by omega)).trans (by assumption)) rfl ?_ -- few
  refine wp_iload_n (i := 2) (q := 34) dX1_numberOf_33 rfl rfl rfl ?_
  refine wq_aald (q := 35) dX1_numberOf_34 (by first | exact fh_obj | exact fh_F | exact fh_L | exact fh_Le | exact fh_Gr | exact fh_Fe | exact fh_St | exact fh_Mo | exact fh_Un | exact fh_few | exact fh_Fw (by omega) | exact fh_ord | exact fh_Or (by omega) | assumption | exact (fh_out (by omega)).trans (by assumption)) (by decide) rfl (by first | omega | exact ⟨by omega, by omega⟩) (by exact if_pos (by omega)) rfl ?_
  refine wp_iload_n (i := 3) (q := 36) dX1_numberOf_35 rfl rfl rfl ?_
  refine wp_iconst (v := nI 2) (q := 37) dX1_numberOf_36 (by decide) rfl ?_
  refine wp_isub (q := 38) dX1_numberOf_37 rfl ?_
  rw [pk_sub ha2]
  refine wq_iald (q := 39) dX1_numberOf_38 (by first | exact fh_obj | exact fh_F | exact fh_L | exact fh_Le | exact fh_Gr | exact fh_Fe | exact fh_St | exact fh_Mo | exact fh_Un | exact fh_few | exact fh_Fw (by omega) | exact fh_ord | exact fh_Or (by omega) | assumption | exact (fh_out (by omega)).trans (by assumption)) rfl (by first | omega | exact ⟨by omega, by omega⟩) rfl ?_
  refine wp_goto (q := 45) dX1_numberOf_39 (by decide) ?_
  refine wp_iret dX1_numberOf_45 rfl ?_
  exact ⟨rfl, rfl⟩
theorem tX1_isTold {s i j : Nat} (hd : 2 ≤ d) (hs : s < 10) (hi : i < k) (hj : j < k) (hk : k < 2 ^ 20) (hc : c < 2 ^ 20) (hu : ∀ i, i < k → vUn (V i) < 2 ^ 20 ∧ vMo (V i) < 2 ^ 20) : mt l mX1_isTold d 0 0 [.ref q, .int (nI s), .int (nI i), .int (nI j)] (sz, fh q k (c, T, V) G) (rI (b2 (tlN c V s i j)) (sz, fh q k (c, T, V) G)) := by
  refine mt_in (lv := [_, _, _, _, _]) (by decide) (Nat.le_of_ble_eq_true rfl) rfl ?_
  refine wp_aload_n (i := 0) (q := 1) dX1_isTold_0 rfl rfl rfl ?_
  refine wp_iload_n (i := 1) (q := 2) dX1_isTold_1 rfl rfl rfl ?_
  refine wp_iload_n (i := 2) (q := 3) dX1_isTold_2 rfl rfl rfl ?_
  refine wp_iload_n (i := 3) (q := 4) dX1_isTold_3 rfl rfl rfl ?_
  unfold tlN
  refine wp_Vi (μ' := mX1_stands) (ci := 1) (q := 7) (tX1_stands (d := d - 1) (by omega) hs hi hj hk hc (hu i hi).1 (hu i hi).2) dX1_isTold_4 okX1_stands lkX1_123 (by first | exact fh_obj | exact fh_F | exact fh_L | exact fh_Le | exact fh_Gr | exact fh_Fe | exact fh_St | exact fh_Mo | exact fh_Un | exact fh_few | exact fh_Fw (by omega) | exact fh_ord | exact fh_Or (by omega) | assumption | exact (fh_out (by omega)).trans (by assumption)) rfl rfl rfl (Nat.le_of_ble_eq_true rfl) (by omega) rfl ?_
  refine wp_if_ne (t := 12) (q := 10) dX1_isTold_7 (by decide) rfl (fun h1 => ?_) (fun h1 => ?_)
  case _ =>
    rw [b2_ne0.mp h1, Bool.true_and]
    refine wp_iload_n (i := 1) (q := 13) dX1_isTold_12 rfl rfl rfl ?_
    refine wp_if_ne (t := 18) (q := 16) dX1_isTold_13 (by decide) rfl (fun h2 => ?_) (fun h2 => ?_)
    · have h2 : ¬ s = 0 := fun q => h2 (by rw [q]; rfl)
      rw [if_neg h2]
      refine wp_aload_n (i := 0) (q := 19) dX1_isTold_18 rfl rfl rfl ?_
      refine wp_iconst (v := nI 0) (q := 20) dX1_isTold_19 (by decide) rfl ?_
      refine wp_iload_n (i := 2) (q := 21) dX1_isTold_20 rfl rfl rfl ?_
      refine wp_iconst (v := nI 0) (q := 22) dX1_isTold_21 (by decide) rfl ?_
      refine wp_Vi (μ' := mX1_stands) (ci := 1) (q := 25) (tX1_stands (s := 0) (j := 0) (d := d - 1) (by omega) (by omega) hi (by omega) hk hc (hu i hi).1 (hu i hi).2) dX1_isTold_22 okX1_stands lkX1_123 (by first | exact fh_obj | exact fh_F | exact fh_L | exact fh_Le | exact fh_Gr | exact fh_Fe | exact fh_St | exact fh_Mo | exact fh_Un | exact fh_few | exact fh_Fw (by omega) | exact fh_ord | exact fh_Or (by omega) | assumption | exact (fh_out (by omega)).trans (by assumption)) rfl rfl rfl (Nat.le_of_ble_eq_true rfl) (by omega) rfl ?_
      generalize stN c V 0 i 0 = c0
      refine wp_istore (lv' := [_, _, _, some _, _]) (q := 27) dX1_isTold_25 (by decide) rfl rfl ?_
      refine wp_iload_n (i := 1) (q := 28) dX1_isTold_27 rfl rfl rfl ?_
      refine wp_SNi (μ' := mX7_isOfTwo) (q := 31) (tX7_isOfTwo (d := d - 1)) dX1_isTold_28 okX7_isOfTwo lkX1_130 rfl rfl (Nat.le_of_ble_eq_true rfl) (by omega) rfl ?_
      rw [o2B_nI (by omega)]
      refine wp_if_ne (t := 45) (q := 34) dX1_isTold_31 (by decide) rfl (fun h3 => ?_) (fun h3 => ?_)
      · rw [if_neg (by rw [b2_ne0.mp h3]; decide)]
        refine wp_iload (q := 47) dX1_isTold_45 rfl rfl ?_
        have K62 : (c0 && stN c V 0 j 0) = false → wp l mX1_isTold [] d 0 0 (rI (b2 (if (c0 && stN c V 0 j 0) = true then false else if s = 7 then !stN c V 5 i j && !stN c V 6 i j else if s = 8 then !stN c V 6 i j && !stN c V 6 j i else true)) (sz, fh q k (c, T, V) G)) (sz, fh q k (c, T, V) G) 62 [some (.ref q), some (.int (nI s)), some (.int (nI i)), some (.int (nI j)), some (.int (b2 c0))] [] := by
          intro hno
          rw [if_neg (by rw [hno]; decide)]
          refine wp_iload_n (i := 1) (q := 63) dX1_isTold_62 rfl rfl rfl ?_
          refine wp_bipush (v := nI 7) (q := 65) dX1_isTold_63 (by decide) rfl ?_
          refine wp_icmp_ne (t := 95) (q := 68) dX1_isTold_65 (by decide) rfl (fun h7 => ?_) (fun h7 => ?_)
          · have h7 : ¬ s = 7 := fun q => h7 (by rw [q])
            rw [if_neg h7]
            refine wp_iload_n (i := 1) (q := 96) dX1_isTold_95 rfl rfl rfl ?_
            refine wp_bipush (v := nI 8) (q := 98) dX1_isTold_96 (by decide) rfl ?_
            refine wp_icmp_ne (t := 123) (q := 101) dX1_isTold_98 (by decide) rfl (fun h8 => ?_) (fun h8 => ?_)
            · have h8 : ¬ s = 8 := fun q => h8 (by rw [q])
              rw [if_neg h8]
              refine wp_iconst (v := nI 1) (q := 124) dX1_isTold_123 (by decide) rfl ?_
              refine wp_goto (q := 128) dX1_isTold_124 (by decide) ?_
              refine wp_zret dX1_isTold_128 rfl (by first | exact Or.inl rfl | exact Or.inr rfl | exact b2_01 _ | assumption) ?_
              exact ⟨rfl, rfl⟩
            · have h8 : s = 8 := (nI_eq (by omega) (by omega)).mp h8
              rw [if_pos h8]
              refine wp_aload_n (i := 0) (q := 102) dX1_isTold_101 rfl rfl rfl ?_
              refine wp_bipush (v := nI 6) (q := 104) dX1_isTold_102 (by decide) rfl ?_
              refine wp_iload_n (i := 2) (q := 105) dX1_isTold_104 rfl rfl rfl ?_
              refine wp_iload_n (i := 3) (q := 106) dX1_isTold_105 rfl rfl rfl ?_
              refine wp_Vi (μ' := mX1_stands) (ci := 1) (q := 109) (tX1_stands (s := 6) (d := d - 1) (by omega) (by omega) hi hj hk hc (hu i hi).1 (hu i hi).2) dX1_isTold_106 okX1_stands lkX1_123 (by first | exact fh_obj | exact fh_F | exact fh_L | exact fh_Le | exact fh_Gr | exact fh_Fe | exact fh_St | exact fh_Mo | exact fh_Un | exact fh_few | exact fh_Fw (by omega) | exact fh_ord | exact fh_Or (by omega) | assumption | exact (fh_out (by omega)).trans (by assumption)) rfl rfl rfl (Nat.le_of_ble_eq_true rfl) (by omega) rfl ?_
              generalize stN c V 6 i j = c1
              refine wp_if_ne (t := 127) (q := 112) dX1_isTold_109 (by decide) rfl (fun h9 => ?_) (fun h9 => ?_)
              · rw [b2_ne0.mp h9]
                refine wp_iconst (v := nI 0) (q := 128) dX1_isTold_127 (by decide) rfl ?_
                refine wp_zret dX1_isTold_128 rfl (by first | exact Or.inl rfl | exact Or.inr rfl | exact b2_01 _ | assumption) ?_
                exact ⟨rfl, rfl⟩
              rw [b2_eq0.mp h9]
              refine wp_aload_n (i := 0) (q := 113) dX1_isTold_112 rfl rfl rfl ?_
              refine wp_bipush (v := nI 6) (q := 115) dX1_isTold_113 (by decide) rfl ?_
              refine wp_iload_n (i := 3) (q := 116) dX1_isTold_115 rfl rfl rfl ?_
              refine wp_iload_n (i := 2) (q := 117) dX1_isTold_116 rfl rfl rfl ?_
              refine wp_Vi (μ' := mX1_stands) (ci := 1) (q := 120) (tX1_stands (s := 6) (d := d - 1) (by omega) (by omega) hj hi hk hc (hu j hj).1 (hu j hj).2) dX1_isTold_117 okX1_stands lkX1_123 (by first | exact fh_obj | exact fh_F | exact fh_L | exact fh_Le | exact fh_Gr | exact fh_Fe | exact fh_St | exact fh_Mo | exact fh_Un | exact fh_few | exact fh_Fw (by omega) | exact fh_ord | exact fh_Or (by omega) | assumption | exact (fh_out (by omega)).trans (by assumption)) rfl rfl rfl (Nat.le_of_ble_eq_true rfl) (by omega) rfl ?_
              generalize stN c V 6 j i = c2
              refine wp_if_ne (t := 127) (q := 123) dX1_isTold_120 (by decide) rfl (fun h9 => ?_) (fun h9 => ?_)
              · rw [b2_ne0.mp h9]
                refine wp_iconst (v := nI 0) (q := 128) dX1_isTold_127 (by decide) rfl ?_
                refine wp_zret dX1_isTold_128 rfl (by first | exact Or.inl rfl | exact Or.inr rfl | exact b2_01 _ | assumption) ?_
                exact ⟨rfl, rfl⟩
              rw [b2_eq0.mp h9]
              refine wp_iconst (v := nI 1) (q := 124) dX1_isTold_123 (by decide) rfl ?_
              refine wp_goto (q := 128) dX1_isTold_124 (by decide) ?_
              refine wp_zret dX1_isTold_128 rfl (by first | exact Or.inl rfl | exact Or.inr rfl | exact b2_01 _ | assumption) ?_
              exact ⟨rfl, rfl⟩
          · have h7 : s = 7 := (nI_eq (by omega) (by omega)).mp h7
            rw [if_pos h7]
            refine wp_aload_n (i := 0) (q := 69) dX1_isTold_68 rfl rfl rfl ?_
            refine wp_iconst (v := nI 5) (q := 70) dX1_isTold_69 (by decide) rfl ?_
            refine wp_iload_n (i := 2) (q := 71) dX1_isTold_70 rfl rfl rfl ?_
            refine wp_iload_n (i := 3) (q := 72) dX1_isTold_71 rfl rfl rfl ?_
            refine wp_Vi (μ' := mX1_stands) (ci := 1) (q := 75) (tX1_stands (s := 5) (d := d - 1) (by omega) (by omega) hi hj hk hc (hu i hi).1 (hu i hi).2) dX1_isTold_72 okX1_stands lkX1_123 (by first | exact fh_obj | exact fh_F | exact fh_L | exact fh_Le | exact fh_Gr | exact fh_Fe | exact fh_St | exact fh_Mo | exact fh_Un | exact fh_few | exact fh_Fw (by omega) | exact fh_ord | exact fh_Or (by omega) | assumption | exact (fh_out (by omega)).trans (by assumption)) rfl rfl rfl (Nat.le_of_ble_eq_true rfl) (by omega) rfl ?_
            generalize stN c V 5 i j = c1
            refine wp_if_ne (t := 93) (q := 78) dX1_isTold_75 (by decide) rfl (fun h9 => ?_) (fun h9 => ?_)
            · rw [b2_ne0.mp h9]
              refine wp_iconst (v := nI 0) (q := 94) dX1_isTold_93 (by decide) rfl ?_
              refine wp_zret dX1_isTold_94 rfl (by first | exact Or.inl rfl | exact Or.inr rfl | exact b2_01 _ | assumption) ?_
              exact ⟨rfl, rfl⟩
            rw [b2_eq0.mp h9]
            refine wp_aload_n (i := 0) (q := 79) dX1_isTold_78 rfl rfl rfl ?_
            refine wp_bipush (v := nI 6) (q := 81) dX1_isTold_79 (by decide) rfl ?_
            refine wp_iload_n (i := 2) (q := 82) dX1_isTold_81 rfl rfl rfl ?_
            refine wp_iload_n (i := 3) (q := 83) dX1_isTold_82 rfl rfl rfl ?_
            refine wp_Vi (μ' := mX1_stands) (ci := 1) (q := 86) (tX1_stands (s := 6) (d := d - 1) (by omega) (by omega) hi hj hk hc (hu i hi).1 (hu i hi).2) dX1_isTold_83 okX1_stands lkX1_123 (by first | exact fh_obj | exact fh_F | exact fh_L | exact fh_Le | exact fh_Gr | exact fh_Fe | exact fh_St | exact fh_Mo | exact fh_Un | exact fh_few | exact fh_Fw (by omega) | exact fh_ord | exact fh_Or (by omega) | assumption | exact (fh_out (by omega)).trans (by assumption)) rfl rfl rfl (Nat.le_of_ble_eq_true rfl) (by omega) rfl ?_
            generalize stN c V 6 i j = c2
            refine wp_if_ne (t := 93) (q := 89) dX1_isTold_86 (by decide) rfl (fun h9 => ?_) (fun h9 => ?_)
            · rw [b2_ne0.mp h9]
              refine wp_iconst (v := nI 0) (q := 94) dX1_isTold_93 (by decide) rfl ?_
              refine wp_zret dX1_isTold_94 rfl (by first | exact Or.inl rfl | exact Or.inr rfl | exact b2_01 _ | assumption) ?_
              exact ⟨rfl, rfl⟩
            rw [b2_eq0.mp h9]
            refine wp_iconst (v := nI 1) (q := 90) dX1_isTold_89 (by decide) rfl ?_
            refine wp_goto (q := 94) dX1_isTold_90 (by decide) ?_
            refine wp_zret dX1_isTold_94 rfl (by first | exact Or.inl rfl | exact Or.inr rfl | exact b2_01 _ | assumption) ?_
            exact ⟨rfl, rfl⟩
        refine wp_if_eq (t := 62) (q := 50) dX1_isTold_47 (by decide) rfl (fun h4 => ?_) (fun h4 => ?_)
        · exact K62 (by rw [b2_eq0.mp h4, Bool.false_and])
        refine wp_aload_n (i := 0) (q := 51) dX1_isTold_50 rfl rfl rfl ?_
        refine wp_iconst (v := nI 0) (q := 52) dX1_isTold_51 (by decide) rfl ?_
        refine wp_iload_n (i := 3) (q := 53) dX1_isTold_52 rfl rfl rfl ?_
        refine wp_iconst (v := nI 0) (q := 54) dX1_isTold_53 (by decide) rfl ?_
        refine wp_Vi (μ' := mX1_stands) (ci := 1) (q := 57) (tX1_stands (s := 0) (j := 0) (d := d - 1) (by omega) (by omega) hj (by omega) hk hc (hu j hj).1 (hu j hj).2) dX1_isTold_54 okX1_stands lkX1_123 (by first | exact fh_obj | exact fh_F | exact fh_L | exact fh_Le | exact fh_Gr | exact fh_Fe | exact fh_St | exact fh_Mo | exact fh_Un | exact fh_few | exact fh_Fw (by omega) | exact fh_ord | exact fh_Or (by omega) | assumption | exact (fh_out (by omega)).trans (by assumption)) rfl rfl rfl (Nat.le_of_ble_eq_true rfl) (by omega) rfl ?_
        refine wp_if_eq (t := 62) (q := 60) dX1_isTold_57 (by decide) rfl (fun h5 => ?_) (fun h5 => ?_)
        · exact K62 (by rw [b2_eq0.mp h5, Bool.and_false])
        rw [if_pos (by rw [b2_ne0.mp h4, b2_ne0.mp h5]; rfl)]
        refine wp_iconst (v := nI 0) (q := 61) dX1_isTold_60 (by decide) rfl ?_
        refine wp_zret dX1_isTold_61 rfl (by first | exact Or.inl rfl | exact Or.inr rfl | exact b2_01 _ | assumption) ?_
        exact ⟨rfl, rfl⟩
      · rw [if_pos (b2_eq0.mp h3)]
        refine wp_iload (q := 36) dX1_isTold_34 rfl rfl ?_
        refine wp_if_ne (t := 43) (q := 39) dX1_isTold_36 (by decide) rfl (fun h4 => ?_) (fun h4 => ?_)
        · rw [b2_ne0.mp h4]
          refine wp_iconst (v := nI 0) (q := 44) dX1_isTold_43 (by decide) rfl ?_
          refine wp_zret dX1_isTold_44 rfl (by first | exact Or.inl rfl | exact Or.inr rfl | exact b2_01 _ | assumption) ?_
          exact ⟨rfl, rfl⟩
        · rw [b2_eq0.mp h4]
          refine wp_iconst (v := nI 1) (q := 40) dX1_isTold_39 (by decide) rfl ?_
          refine wp_goto (q := 44) dX1_isTold_40 (by decide) ?_
          refine wp_zret dX1_isTold_44 rfl (by first | exact Or.inl rfl | exact Or.inr rfl | exact b2_01 _ | assumption) ?_
          exact ⟨rfl, rfl⟩
    · have h2 : s = 0 := (nI_eq (b := 0) (by omega) (by omega)).mp h2
      rw [if_pos h2]
      refine wp_iconst (v := nI 1) (q := 17) dX1_isTold_16 (by decide) rfl ?_
      refine wp_zret dX1_isTold_17 rfl (by first | exact Or.inl rfl | exact Or.inr rfl | exact b2_01 _ | assumption) ?_
      exact ⟨rfl, rfl⟩
  · rw [b2_eq0.mp h1, Bool.false_and]
    refine wp_iconst (v := nI 0) (q := 11) dX1_isTold_10 (by decide) rfl ?_
    refine wp_zret dX1_isTold_11 rfl (by first | exact Or.inl rfl | exact Or.inr rfl | exact b2_01 _ | assumption) ?_
    exact ⟨rfl, rfl⟩
theorem tX1_isBrokenBy {w mm s i j : Nat} {x : Nat → Int32} (hd : 2 ≤ d) (hs : s < 10) (hi : i < k) (hj : j < k) (hk : k < 2 ^ 20) (hu : vUn (V i) < 2 ^ 20) (hm : vMo (V i) < 2 ^ 20) (hw : G w = some (iA mm x)) (hwo : w < q ∨ q + (3 * k + 17) ≤ w) (hmm : k ≤ mm) (hm2 : mm < 2 ^ 30) : mt l mX1_isBrokenBy d 0 0 [.ref q, .ref w, .int (nI s), .int (nI i), .int (nI j)] (sz, fh q k (c, T, V) G) (rI (b2 (bkN V x s i j)) (sz, fh q k (c, T, V) G)) := by
  refine mt_in (lv := [_, _, _, _, _, _]) (by decide) (Nat.le_of_ble_eq_true rfl) rfl ?_
  refine wp_aload_n (i := 0) (q := 1) dX1_isBrokenBy_0 rfl rfl rfl ?_
  refine wp_iload_n (i := 3) (q := 2) dX1_isBrokenBy_1 rfl rfl rfl ?_
  refine wp_Vi (μ' := mX1_hasVariable) (ci := 1) (q := 5) (tX1_hasVariable (d := d - 1) hk) dX1_isBrokenBy_2 okX1_hasVariable lkX1_103 (by first | exact fh_obj | exact fh_F | exact fh_L | exact fh_Le | exact fh_Gr | exact fh_Fe | exact fh_St | exact fh_Mo | exact fh_Un | exact fh_few | exact fh_Fw (by omega) | exact fh_ord | exact fh_Or (by omega) | assumption | exact (fh_out (by omega)).trans (by assumption)) rfl rfl rfl (Nat.le_of_ble_eq_true rfl) (by omega) rfl ?_
  rw [ix_nI (by omega), decide_eq_true hi]
  refine wp_if_eq (t := 17) (q := 8) dX1_isBrokenBy_5 (by decide) rfl (fun hv => ?_) (fun hv => ?_)
  · exact absurd hv b2t0
  refine wp_aload_n (i := 0) (q := 9) dX1_isBrokenBy_8 rfl rfl rfl ?_
  refine wp_iload (q := 11) dX1_isBrokenBy_9 rfl rfl ?_
  refine wp_Vi (μ' := mX1_hasVariable) (ci := 1) (q := 14) (tX1_hasVariable (d := d - 1) hk) dX1_isBrokenBy_11 okX1_hasVariable lkX1_103 (by first | exact fh_obj | exact fh_F | exact fh_L | exact fh_Le | exact fh_Gr | exact fh_Fe | exact fh_St | exact fh_Mo | exact fh_Un | exact fh_few | exact fh_Fw (by omega) | exact fh_ord | exact fh_Or (by omega) | assumption | exact (fh_out (by omega)).trans (by assumption)) rfl rfl rfl (Nat.le_of_ble_eq_true rfl) (by omega) rfl ?_
  rw [ix_nI (by omega), decide_eq_true hj]
  refine wp_if_ne (t := 19) (q := 17) dX1_isBrokenBy_14 (by decide) rfl (fun hv => ?_) (fun hv => ?_)
  case _ =>
    refine wp_aload_n (i := 1) (q := 20) dX1_isBrokenBy_19 rfl rfl rfl ?_
    refine wp_iload_n (i := 3) (q := 21) dX1_isBrokenBy_20 rfl rfl rfl ?_
    refine wq_iald (q := 22) dX1_isBrokenBy_21 (by first | exact fh_obj | exact fh_F | exact fh_L | exact fh_Le | exact fh_Gr | exact fh_Fe | exact fh_St | exact fh_Mo | exact fh_Un | exact fh_few | exact fh_Fw (by omega) | exact fh_ord | exact fh_Or (by omega) | assumption | exact (fh_out (by omega)).trans (by assumption)) rfl (by first | omega | exact ⟨by omega, by omega⟩) rfl ?_
    refine wp_istore (lv' := [_, _, _, _, some _, _]) (q := 24) dX1_isBrokenBy_22 (by decide) rfl rfl ?_
    refine wp_iload_n (i := 2) (q := 25) dX1_isBrokenBy_24 rfl rfl rfl ?_
    have K184 : ∀ s, wp l mX1_isBrokenBy [] d 0 0 (rI (b2 (!fitO (nI s) (ordO (x i) (x j)))) (sz, fh q k (c, T, V) G)) (sz, fh q k (c, T, V) G) 184 [some (.ref q), some (.ref w), some (.int (nI s)), some (.int (nI i)), some (.int (nI j)), some (.int (x i))] [] := by
      intro s
      refine wp_iload_n (i := 2) (q := 185) dX1_isBrokenBy_184 rfl rfl rfl ?_
      refine wp_iload (q := 187) dX1_isBrokenBy_185 rfl rfl ?_
      refine wp_aload_n (i := 1) (q := 188) dX1_isBrokenBy_187 rfl rfl rfl ?_
      refine wp_iload (q := 190) dX1_isBrokenBy_188 rfl rfl ?_
      refine wq_iald (q := 191) dX1_isBrokenBy_190 (by first | exact fh_obj | exact fh_F | exact fh_L | exact fh_Le | exact fh_Gr | exact fh_Fe | exact fh_St | exact fh_Mo | exact fh_Un | exact fh_few | exact fh_Fw (by omega) | exact fh_ord | exact fh_Or (by omega) | assumption | exact (fh_out (by omega)).trans (by assumption)) rfl (by first | omega | exact ⟨by omega, by omega⟩) rfl ?_
      refine wp_SNi (μ' := mX7_orderOf) (q := 194) (tX7_orderOf (d := d - 1)) dX1_isBrokenBy_191 okX7_orderOf lkX1_72 rfl rfl (Nat.le_of_ble_eq_true rfl) (by omega) rfl ?_
      refine wp_SNi (μ' := mX7_fitsOrders) (q := 197) (tX7_fitsOrders (d := d - 1)) dX1_isBrokenBy_194 okX7_fitsOrders lkX1_107 rfl rfl (Nat.le_of_ble_eq_true rfl) (by omega) rfl ?_
      refine wp_if_ne (t := 204) (q := 200) dX1_isBrokenBy_197 (by decide) rfl (fun h1 => ?_) (fun h1 => ?_)
      · rw [b2_ne0.mp h1]
        refine wp_iconst (v := nI 0) (q := 205) dX1_isBrokenBy_204 (by decide) rfl ?_
        refine wp_zret dX1_isBrokenBy_205 rfl (by first | exact Or.inl rfl | exact Or.inr rfl | exact b2_01 _ | assumption) ?_
        exact ⟨rfl, rfl⟩
      · rw [b2_eq0.mp h1]
        refine wp_iconst (v := nI 1) (q := 201) dX1_isBrokenBy_200 (by decide) rfl ?_
        refine wp_goto (q := 205) dX1_isBrokenBy_201 (by decide) ?_
        refine wp_zret dX1_isBrokenBy_205 rfl (by first | exact Or.inl rfl | exact Or.inr rfl | exact b2_01 _ | assumption) ?_
        exact ⟨rfl, rfl⟩
    rcases (show s = 0 ∨ s = 1 ∨ s = 2 ∨ s = 3 ∨ s = 4 ∨ s = 5 ∨ s = 6 ∨ s = 7 ∨ s = 8 ∨ s = 9 by omega) with rfl | rfl | rfl | rfl | rfl | rfl | rfl | rfl | rfl | rfl
    · show wp _ _ _ _ _ _ (rI (b2 (!decide (x i = vF (V i)))) _) _ _ _ _
      refine wp_tableIn (off := 55) (q := 80) dX1_isBrokenBy_25 (by decide) (by decide) (by decide) (by decide) ?_
      refine wp_iload (q := 82) dX1_isBrokenBy_80 rfl rfl ?_
      refine wp_aload_n (i := 0) (q := 83) dX1_isBrokenBy_82 rfl rfl rfl ?_
      refine wg1_3 (q := 86) dX1_isBrokenBy_83 ffX1_24 (by first | exact fh_obj | exact fh_F | exact fh_L | exact fh_Le | exact fh_Gr | exact fh_Fe | exact fh_St | exact fh_Mo | exact fh_Un | exact fh_few | exact fh_Fw (by omega) | exact fh_ord | exact fh_Or (by omega) | assumption | exact (fh_out (by omega)).trans (by assumption)) rfl ?_ -- first
      refine wp_iload_n (i := 3) (q := 87) dX1_isBrokenBy_86 rfl rfl rfl ?_
      refine wq_iald (q := 88) dX1_isBrokenBy_87 (by first | exact fh_obj | exact fh_F | exact fh_L | exact fh_Le | exact fh_Gr | exact fh_Fe | exact fh_St | exact fh_Mo | exact fh_Un | exact fh_few | exact fh_Fw (by omega) | exact fh_ord | exact fh_Or (by omega) | assumption | exact (fh_out (by omega)).trans (by assumption)) rfl (by first | omega | exact ⟨by omega, by omega⟩) rfl ?_
      refine wp_icmp_eq (t := 95) (q := 91) dX1_isBrokenBy_88 (by decide) rfl (fun h1 => ?_) (fun h1 => ?_)
      · rw [decide_eq_true h1]
        refine wp_iconst (v := nI 0) (q := 96) dX1_isBrokenBy_95 (by decide) rfl ?_
        refine wp_zret dX1_isBrokenBy_96 rfl (by first | exact Or.inl rfl | exact Or.inr rfl | exact b2_01 _ | assumption) ?_
        exact ⟨rfl, rfl⟩
      · rw [decide_eq_false h1]
        refine wp_iconst (v := nI 1) (q := 92) dX1_isBrokenBy_91 (by decide) rfl ?_
        refine wp_goto (q := 96) dX1_isBrokenBy_92 (by decide) ?_
        refine wp_zret dX1_isBrokenBy_96 rfl (by first | exact Or.inl rfl | exact Or.inr rfl | exact b2_01 _ | assumption) ?_
        exact ⟨rfl, rfl⟩
    · show wp _ _ _ _ _ _ (rI (b2 (!amB (vFw (V i)) (vUn (V i)) (x i))) _) _ _ _ _
      refine wp_tableIn (off := 72) (q := 97) dX1_isBrokenBy_25 (by decide) (by decide) (by decide) (by decide) ?_
      refine wp_aload_n (i := 0) (q := 98) dX1_isBrokenBy_97 rfl rfl rfl ?_
      refine wp_iload_n (i := 3) (q := 99) dX1_isBrokenBy_98 rfl rfl rfl ?_
      refine wp_iload (q := 101) dX1_isBrokenBy_99 rfl rfl ?_
      refine wp_Vi (μ' := mX1_isAmongFew) (ci := 1) (q := 104) (tX1_isAmongFew (d := d - 1) hi hk hu) dX1_isBrokenBy_101 okX1_isAmongFew lkX1_99 (by first | exact fh_obj | exact fh_F | exact fh_L | exact fh_Le | exact fh_Gr | exact fh_Fe | exact fh_St | exact fh_Mo | exact fh_Un | exact fh_few | exact fh_Fw (by omega) | exact fh_ord | exact fh_Or (by omega) | assumption | exact (fh_out (by omega)).trans (by assumption)) rfl rfl rfl (Nat.le_of_ble_eq_true rfl) (by omega) rfl ?_
      refine wp_if_ne (t := 111) (q := 107) dX1_isBrokenBy_104 (by decide) rfl (fun h1 => ?_) (fun h1 => ?_)
      · rw [b2_ne0.mp h1]
        refine wp_iconst (v := nI 0) (q := 112) dX1_isBrokenBy_111 (by decide) rfl ?_
        refine wp_zret dX1_isBrokenBy_112 rfl (by first | exact Or.inl rfl | exact Or.inr rfl | exact b2_01 _ | assumption) ?_
        exact ⟨rfl, rfl⟩
      · rw [b2_eq0.mp h1]
        refine wp_iconst (v := nI 1) (q := 108) dX1_isBrokenBy_107 (by decide) rfl ?_
        refine wp_goto (q := 112) dX1_isBrokenBy_108 (by decide) ?_
        refine wp_zret dX1_isBrokenBy_112 rfl (by first | exact Or.inl rfl | exact Or.inr rfl | exact b2_01 _ | assumption) ?_
        exact ⟨rfl, rfl⟩
    · show wp _ _ _ _ _ _ (rI (b2 (decide (x i < vLe (V i)))) _) _ _ _ _
      refine wp_tableIn (off := 88) (q := 113) dX1_isBrokenBy_25 (by decide) (by decide) (by decide) (by decide) ?_
      refine wp_iload (q := 115) dX1_isBrokenBy_113 rfl rfl ?_
      refine wp_aload_n (i := 0) (q := 116) dX1_isBrokenBy_115 rfl rfl rfl ?_
      refine wg1_5 (q := 119) dX1_isBrokenBy_116 ffX1_31 (by first | exact fh_obj | exact fh_F | exact fh_L | exact fh_Le | exact fh_Gr | exact fh_Fe | exact fh_St | exact fh_Mo | exact fh_Un | exact fh_few | exact fh_Fw (by omega) | exact fh_ord | exact fh_Or (by omega) | assumption | exact (fh_out (by omega)).trans (by assumption)) rfl ?_ -- least
      refine wp_iload_n (i := 3) (q := 120) dX1_isBrokenBy_119 rfl rfl rfl ?_
      refine wq_iald (q := 121) dX1_isBrokenBy_120 (by first | exact fh_obj | exact fh_F | exact fh_L | exact fh_Le | exact fh_Gr | exact fh_Fe | exact fh_St | exact fh_Mo | exact fh_Un | exact fh_few | exact fh_Fw (by omega) | exact fh_ord | exact fh_Or (by omega) | assumption | exact (fh_out (by omega)).trans (by assumption)) rfl (by first | omega | exact ⟨by omega, by omega⟩) rfl ?_
      refine wp_icmp_ge (t := 128) (q := 124) dX1_isBrokenBy_121 (by decide) rfl (fun h1 => ?_) (fun h1 => ?_)
      · rw [decide_eq_false (Int32.not_lt.mpr h1)]
        refine wp_iconst (v := nI 0) (q := 129) dX1_isBrokenBy_128 (by decide) rfl ?_
        refine wp_zret dX1_isBrokenBy_129 rfl (by first | exact Or.inl rfl | exact Or.inr rfl | exact b2_01 _ | assumption) ?_
        exact ⟨rfl, rfl⟩
      · rw [decide_eq_true (Int32.not_le.mp h1)]
        refine wp_iconst (v := nI 1) (q := 125) dX1_isBrokenBy_124 (by decide) rfl ?_
        refine wp_goto (q := 129) dX1_isBrokenBy_125 (by decide) ?_
        refine wp_zret dX1_isBrokenBy_129 rfl (by first | exact Or.inl rfl | exact Or.inr rfl | exact b2_01 _ | assumption) ?_
        exact ⟨rfl, rfl⟩
    · show wp _ _ _ _ _ _ (rI (b2 (decide (vGr (V i) < x i))) _) _ _ _ _
      refine wp_tableIn (off := 105) (q := 130) dX1_isBrokenBy_25 (by decide) (by decide) (by decide) (by decide) ?_
      refine wp_iload (q := 132) dX1_isBrokenBy_130 rfl rfl ?_
      refine wp_aload_n (i := 0) (q := 133) dX1_isBrokenBy_132 rfl rfl rfl ?_
      refine wg1_6 (q := 136) dX1_isBrokenBy_133 ffX1_34 (by first | exact fh_obj | exact fh_F | exact fh_L | exact fh_Le | exact fh_Gr | exact fh_Fe | exact fh_St | exact fh_Mo | exact fh_Un | exact fh_few | exact fh_Fw (by omega) | exact fh_ord | exact fh_Or (by omega) | assumption | exact (fh_out (by omega)).trans (by assumption)) rfl ?_ -- greatest
      refine wp_iload_n (i := 3) (q := 137) dX1_isBrokenBy_136 rfl rfl rfl ?_
      refine wq_iald (q := 138) dX1_isBrokenBy_137 (by first | exact fh_obj | exact fh_F | exact fh_L | exact fh_Le | exact fh_Gr | exact fh_Fe | exact fh_St | exact fh_Mo | exact fh_Un | exact fh_few | exact fh_Fw (by omega) | exact fh_ord | exact fh_Or (by omega) | assumption | exact (fh_out (by omega)).trans (by assumption)) rfl (by first | omega | exact ⟨by omega, by omega⟩) rfl ?_
      refine wp_icmp_le (t := 145) (q := 141) dX1_isBrokenBy_138 (by decide) rfl (fun h1 => ?_) (fun h1 => ?_)
      · rw [decide_eq_false (Int32.not_lt.mpr h1)]
        refine wp_iconst (v := nI 0) (q := 146) dX1_isBrokenBy_145 (by decide) rfl ?_
        refine wp_zret dX1_isBrokenBy_146 rfl (by first | exact Or.inl rfl | exact Or.inr rfl | exact b2_01 _ | assumption) ?_
        exact ⟨rfl, rfl⟩
      · rw [decide_eq_true (Int32.not_le.mp h1)]
        refine wp_iconst (v := nI 1) (q := 142) dX1_isBrokenBy_141 (by decide) rfl ?_
        refine wp_goto (q := 146) dX1_isBrokenBy_142 (by decide) ?_
        refine wp_zret dX1_isBrokenBy_146 rfl (by first | exact Or.inl rfl | exact Or.inr rfl | exact b2_01 _ | assumption) ?_
        exact ⟨rfl, rfl⟩
    · show wp _ _ _ _ _ _ (rI (b2 (!decide (rsO (x i) (vMo (V i)) = rsO (vF (V i)) (vMo (V i))))) _) _ _ _ _
      refine wp_tableIn (off := 122) (q := 147) dX1_isBrokenBy_25 (by decide) (by decide) (by decide) (by decide) ?_
      refine wp_iload (q := 149) dX1_isBrokenBy_147 rfl rfl ?_
      refine wp_aload_n (i := 0) (q := 150) dX1_isBrokenBy_149 rfl rfl rfl ?_
      refine wg1_9 (q := 153) dX1_isBrokenBy_150 ffX1_45 (by first | exact fh_obj | exact fh_F | exact fh_L | exact fh_Le | exact fh_Gr | exact fh_Fe | exact fh_St | exact fh_Mo | exact fh_Un | exact fh_few | exact fh_Fw (by omega) | exact fh_ord | exact fh_Or (by omega) | assumption | exact (fh_out (by omega)).trans (by assumption)) rfl ?_ -- modulus
      refine wp_iload_n (i := 3) (q := 154) dX1_isBrokenBy_153 rfl rfl rfl ?_
      refine wq_iald (q := 155) dX1_isBrokenBy_154 (by first | exact fh_obj | exact fh_F | exact fh_L | exact fh_Le | exact fh_Gr | exact fh_Fe | exact fh_St | exact fh_Mo | exact fh_Un | exact fh_few | exact fh_Fw (by omega) | exact fh_ord | exact fh_Or (by omega) | assumption | exact (fh_out (by omega)).trans (by assumption)) rfl (by first | omega | exact ⟨by omega, by omega⟩) rfl ?_
      refine wp_Si (μ' := mX1_restOf) (q := 158) (tX1_restOf (d := d - 1) (by omega) hm) dX1_isBrokenBy_155 okX1_restOf lkX1_110 rfl rfl (Nat.le_of_ble_eq_true rfl) (by omega) rfl ?_
      refine wp_aload_n (i := 0) (q := 159) dX1_isBrokenBy_158 rfl rfl rfl ?_
      refine wg1_3 (q := 162) dX1_isBrokenBy_159 ffX1_24 (by first | exact fh_obj | exact fh_F | exact fh_L | exact fh_Le | exact fh_Gr | exact fh_Fe | exact fh_St | exact fh_Mo | exact fh_Un | exact fh_few | exact fh_Fw (by omega) | exact fh_ord | exact fh_Or (by omega) | assumption | exact (fh_out (by omega)).trans (by assumption)) rfl ?_ -- first
      refine wp_iload_n (i := 3) (q := 163) dX1_isBrokenBy_162 rfl rfl rfl ?_
      refine wq_iald (q := 164) dX1_isBrokenBy_163 (by first | exact fh_obj | exact fh_F | exact fh_L | exact fh_Le | exact fh_Gr | exact fh_Fe | exact fh_St | exact fh_Mo | exact fh_Un | exact fh_few | exact fh_Fw (by omega) | exact fh_ord | exact fh_Or (by omega) | assumption | exact (fh_out (by omega)).trans (by assumption)) rfl (by first | omega | exact ⟨by omega, by omega⟩) rfl ?_
      refine wp_aload_n (i := 0) (q := 165) dX1_isBrokenBy_164 rfl rfl rfl ?_
      refine wg1_9 (q := 168) dX1_isBrokenBy_165 ffX1_45 (by first | exact fh_obj | exact fh_F | exact fh_L | exact fh_Le | exact fh_Gr | exact fh_Fe | exact fh_St | exact fh_Mo | exact fh_Un | exact fh_few | exact fh_Fw (by omega) | exact fh_ord | exact fh_Or (by omega) | assumption | exact (fh_out (by omega)).trans (by assumption)) rfl ?_ -- modulus
      refine wp_iload_n (i := 3) (q := 169) dX1_isBrokenBy_168 rfl rfl rfl ?_
      refine wq_iald (q := 170) dX1_isBrokenBy_169 (by first | exact fh_obj | exact fh_F | exact fh_L | exact fh_Le | exact fh_Gr | exact fh_Fe | exact fh_St | exact fh_Mo | exact fh_Un | exact fh_few | exact fh_Fw (by omega) | exact fh_ord | exact fh_Or (by omega) | assumption | exact (fh_out (by omega)).trans (by assumption)) rfl (by first | omega | exact ⟨by omega, by omega⟩) rfl ?_
      refine wp_Si (μ' := mX1_restOf) (q := 173) (tX1_restOf (d := d - 1) (by omega) hm) dX1_isBrokenBy_170 okX1_restOf lkX1_110 rfl rfl (Nat.le_of_ble_eq_true rfl) (by omega) rfl ?_
      refine wp_icmp_eq (t := 180) (q := 176) dX1_isBrokenBy_173 (by decide) rfl (fun h1 => ?_) (fun h1 => ?_)
      · rw [decide_eq_true h1]
        refine wp_iconst (v := nI 0) (q := 181) dX1_isBrokenBy_180 (by decide) rfl ?_
        refine wp_zret dX1_isBrokenBy_181 rfl (by first | exact Or.inl rfl | exact Or.inr rfl | exact b2_01 _ | assumption) ?_
        exact ⟨rfl, rfl⟩
      · rw [decide_eq_false h1]
        refine wp_iconst (v := nI 1) (q := 177) dX1_isBrokenBy_176 (by decide) rfl ?_
        refine wp_goto (q := 181) dX1_isBrokenBy_177 (by decide) ?_
        refine wp_zret dX1_isBrokenBy_181 rfl (by first | exact Or.inl rfl | exact Or.inr rfl | exact b2_01 _ | assumption) ?_
        exact ⟨rfl, rfl⟩
    · refine wp_tableIn (off := 159) (q := 184) dX1_isBrokenBy_25 (by decide) (by decide) (by decide) (by decide) ?_
      exact K184 5
    · refine wp_tableIn (off := 159) (q := 184) dX1_isBrokenBy_25 (by decide) (by decide) (by decide) (by decide) ?_
      exact K184 6
    · refine wp_tableIn (off := 159) (q := 184) dX1_isBrokenBy_25 (by decide) (by decide) (by decide) (by decide) ?_
      exact K184 7
    · refine wp_tableIn (off := 159) (q := 184) dX1_isBrokenBy_25 (by decide) (by decide) (by decide) (by decide) ?_
      exact K184 8
    · refine wp_tableIn (off := 157) (q := 182) dX1_isBrokenBy_25 (by decide) (by decide) (by decide) (by decide) ?_
      refine wp_iconst (v := nI 0) (q := 183) dX1_isBrokenBy_182 (by decide) rfl ?_
      refine wp_zret dX1_isBrokenBy_183 rfl (by first | exact Or.inl rfl | exact Or.inr rfl | exact b2_01 _ | assumption) ?_
      exact ⟨rfl, rfl⟩
  · exact absurd hv b2t0
end F3
