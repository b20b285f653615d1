/-! THE CLASS: RunLaws, run -/
theorem lcS_cg {M : Nat → Nat → Int32} {v : Nat} {x y : Nat → Int32} : ∀ m, (∀ u, u < m → y u = x u) → lcS M v y m = lcS M v x m
  | 0, _ => rfl
  | m + 1, h => by
    unfold lcS
    rw [lcS_cg m (fun u hu => h u (by omega)), h m (by omega)]
theorem lcG_cg {M : Nat → Nat → Int32} {m n : Nat} {x y : Nat → Int32} (h : ∀ u, u < m → y u = x u) : lcG M m y n = lcG M m x n := by
  unfold lcG
  congr 1
  funext v
  rw [lcS_cg m h]
/-- an act's step on the numbers of a state -/
def lcD (D : DS) (a : Nat) (xs : List Int32) : Bool := lcG (dM D a) (dK D (dFr D a)) (gt_ xs) (dK D (dTo D a))
def lcX (D : DS) (a : Nat) (xs : List Int32) : List Int32 := stL (fun v => lcS (dM D a) v (gt_ xs) (dK D (dFr D a))) (dK D (dTo D a))
def rcF (D : DS) : Nat → Nat → Nat → List Int32 → Int32 ⊕ (Nat × List Int32)
  | 0, _, pt, xs => .inr (pt, xs)
  | m + 1, n, pt, xs => if dNa D ≤ n % 10 ∨ ¬ dFr D (n % 10) = pt then .inl (-1) else if lcD D (n % 10) xs = false then .inl (-9) else rcF D m (n / 10) (dTo D (n % 10)) (lcX D (n % 10) xs)
def rcQ (lo sz b : Nat) (I : Nat → Int32) (A : Nat → Nat → Int32) (D : DS) (g : Nat → Option aE) (R : Int32 ⊕ (Nat × List Int32)) (rv : Option Value) (h' : aH) : Prop := match R with
  | .inl e => rv = some (.int e) ∧ qQ lo sz b I A D g h'
  | .inr (p, xs) => ((dP D p).1 = 40 ∧ rv = some (.int (-4)) ∧ qQ lo sz b I A D g h') ∨ ((dP D p).1 < 40 ∧ ∃ x, stL x (dK D p) = xs ∧ tkQ lo sz b I A D g p x rv h')
def rdOK (m n : Int32) : Bool := ix 10 m && !decide (n < 0)
section R4
variable {l : Launch} {d lo sz b p a : Nat} {g : Nat → Option aE} {D : DS} {I : Nat → Int32} {A : Nat → Nat → Int32} {B : Nat → Int64}
theorem tX0_leadsD {w1 w2 o2 : Nat} {x y : Nat → Int32} (hd : 1 ≤ d) (hW : DW lo sz g D) (hb : b + 33 ≤ lo) (ha : a < dNa D) (hw1 : ch b I A B D g w1 = some (iA 4 x)) (hw2 : ch b I A B D g w2 = some (iA 4 y)) (h12 : w1 ≠ w2) (hl1 : w1 < lo) (hl2 : w2 < lo) (hgs : ∀ f, gset (ch b I A B D g) w2 (iA 4 f) = ch b I (upR A o2 f) B D g) : mt l mX0_leads d 0 0 [.ref (dAa D a), .ref w1, .ref w2] (sz, ch b I A B D g) (fun rv h' => rv = some (.int (b2 (lcG (dM D a) (dK D (dFr D a)) x (dK D (dTo D a))))) ∧ ∃ f, h' = (sz, ch b I (upR A o2 f) B D g) ∧ (lcG (dM D a) (dK D (dFr D a)) x (dK D (dTo D a)) = true → ∀ v, v < dK D (dTo D a) → f v = lcS (dM D a) v x (dK D (dFr D a)))) := by
  have h4 := hW.k4 (hW.fr ha)
  have h4' := hW.k4 (hW.to ha)
  have hl := hW.al ha
  have M := tX0_leads (l := l) (d := d) (sz := sz) (q := dAa D a) (f := dFr D a) (t := dTo D a) (m := dK D (dFr D a)) (n := dK D (dTo D a)) (M := dM D a) (G := ch b I A B D g) (w1 := w1) (w2 := w2) (mm := 4) (nn := 4) (x := x) (y := y) hd (by omega) h4 hw1 hw2 (by omega) (by omega) h12 h4 (by omega) h4' (by omega)
  rw [← dw_ah hW hb ha] at M
  refine mt_post M (fun rv h' q => ⟨q.1, ?_⟩)
  obtain ⟨f, e, hf, -⟩ := q.2
  rw [hgs, ← dw_ah hW hb ha] at e
  exact ⟨f, e, hf⟩
theorem gset_ch30 {f : Nat → Int32} : gset (ch b I A B D g) (b + 30) (iA 4 f) = ch b I (upR A 30 f) B D g := congrArg Prod.snd (ch_s30 (sz := 0) (b := b) (I := I) (A := A) (B := B) (D := D) (g := g) (f := f))
theorem tX7_run {n m : Int32} (hd : 6 ≤ d) (hW : DW lo sz g D) (hK : PK D) (hb : b + 33 ≤ lo) (hc : ∀ p, p < dNp D → (dP D p).1 < 40 → ∀ t, t < 3 → (dF D p t).1 < 40) (hS : CSt I D) : mt l mX7_run d 0 0 [.ref b, .int n, .int m] (sz, ch b I A B D g) (fun rv h' =>
    (rdOK m n = false ∧ rv = some (.int (-2)) ∧ h' = (sz, ch b I A B D g)) ∨ (rdOK m n = true ∧ I 3 < 0 ∧ rv = some (.int (-3)) ∧ h' = (sz, ch b I A B D g)) ∨
    (rdOK m n = true ∧ ¬ I 3 < 0 ∧ rcQ lo sz b I A D g (rcF D m.toNatClampNeg n.toNatClampNeg (I 3).toNatClampNeg (stL (A 4) (dK D (I 3).toNatClampNeg))) rv h')) := by
  have h6 := hW.np
  have h10 := hW.na
  have bad : rdOK m n = false → wp l mX7_run [] d 0 0 (fun rv h' =>
    (rdOK m n = false ∧ rv = some (.int (-2)) ∧ h' = (sz, ch b I A B D g)) ∨ (rdOK m n = true ∧ I 3 < 0 ∧ rv = some (.int (-3)) ∧ h' = (sz, ch b I A B D g)) ∨
    (rdOK m n = true ∧ ¬ I 3 < 0 ∧ rcQ lo sz b I A D g (rcF D m.toNatClampNeg n.toNatClampNeg (I 3).toNatClampNeg (stL (A 4) (dK D (I 3).toNatClampNeg))) rv h')) (sz, ch b I A B D g) 14 [some (.ref b), some (.int n), some (.int m), none, none, none, none] [] := by
    intro hbad
    refine wp_bipush (v := (-2)) (q := 16) dX7_run_14 (by decide) rfl ?_
    refine wp_iret dX7_run_16 rfl ?_
    exact Or.inl ⟨hbad, rfl, rfl⟩
  refine mt_in (lv := [_, _, _, _, _, _, _]) (by decide) (Nat.le_of_ble_eq_true rfl) rfl ?_
  refine wp_iload_n (i := 2) (q := 1) dX7_run_0 rfl rfl rfl ?_
  refine wp_if_lt (t := 14) (q := 4) dX7_run_1 (by decide) rfl (fun hm => ?_) (fun hm => ?_)
  · exact bad (by unfold rdOK; rw [ix_neg hm, Bool.false_and])
  obtain ⟨m, hm2, rfl⟩ := nI_of hm
  refine wp_iload_n (i := 2) (q := 5) dX7_run_4 rfl rfl rfl ?_
  refine wp_bipush (v := nI 9) (q := 7) dX7_run_5 (by decide) rfl ?_
  refine wp_icmp_gt (t := 14) (q := 10) dX7_run_7 (by decide) rfl (fun hm9 => ?_) (fun hm9 => ?_)
  · exact bad (by unfold rdOK; rw [ix_nI hm2, decide_eq_false (by have := (nI_ltI (by omega) (by omega)).mp hm9; omega), Bool.false_and])
  have hm9 : m < 10 := by
    rcases Nat.lt_or_ge m 10 with q | q
    · exact q
    · exact absurd ((nI_ltI (by omega) (by omega)).mpr q) hm9
  refine wp_iload_n (i := 1) (q := 11) dX7_run_10 rfl rfl rfl ?_
  refine wp_if_ge (t := 17) (q := 14) dX7_run_11 (by decide) rfl (fun hn => ?_) (fun hn => ?_)
  case _ =>
    obtain ⟨n, hn2, rfl⟩ := nI_of (Int32.not_lt.mpr hn)
    have hok : rdOK (nI m) (nI n) = true := by
      unfold rdOK
      rw [ix_nI hm2, decide_eq_true hm9, decide_eq_false (Int32.not_lt.mpr hn)]
      rfl
    clear bad
    refine wp_aload_n (i := 0) (q := 18) dX7_run_17 rfl rfl rfl ?_
    refine wg7_0 (q := 21) dX7_run_18 ffX7_10 (by first | exact ch_obj | exact ch_prg | exact ch_pts | exact ch_acs | exact ch_4 | exact ch_pul | exact ch_sea | exact ch_27 | exact ch_28 | exact ch_29 | exact ch_30 | exact ch_31 | exact ch_32 | assumption) rfl ?_ -- program
    refine wp_Vi (μ' := mX4_hasStart) (ci := 4) (q := 24) (tX4_hasStart (d := d - 1)) dX7_run_21 okX4_hasStart lkX7_158 (by first | exact ch_obj | exact ch_prg | exact ch_pts | exact ch_acs | exact ch_4 | exact ch_pul | exact ch_sea | exact ch_27 | exact ch_28 | exact ch_29 | exact ch_30 | exact ch_31 | exact ch_32 | assumption) rfl rfl rfl (Nat.le_of_ble_eq_true rfl) (by omega) rfl ?_
    refine wp_if_ne (t := 30) (q := 27) dX7_run_24 (by decide) rfl (fun hz => ?_) (fun hz => ?_)
    case _ =>
      have h3 : ¬ I 3 < 0 := of_decide_eq_false (by simpa using b2_ne0.mp hz)
      obtain ⟨pt, hpt, hI⟩ : ∃ p, p < dNp D ∧ I 3 = nI p := hS.resolve_left h3
      refine wp_post (Q' := rcQ lo sz b I A D g (rcF D (nI m).toNatClampNeg (nI n).toNatClampNeg (I 3).toNatClampNeg (stL (A 4) (dK D (I 3).toNatClampNeg)))) (fun rv h' q => Or.inr (Or.inr ⟨hok, h3, q⟩)) ?_
      rw [hI, nI_clamp hm2, nI_clamp hn2, nI_clamp (n := pt) (by omega)]
      refine wp_aload_n (i := 0) (q := 31) dX7_run_30 rfl rfl rfl ?_
      refine wg7_0 (q := 34) dX7_run_31 ffX7_10 (by first | exact ch_obj | exact ch_prg | exact ch_pts | exact ch_acs | exact ch_4 | exact ch_pul | exact ch_sea | exact ch_27 | exact ch_28 | exact ch_29 | exact ch_30 | exact ch_31 | exact ch_32 | assumption) rfl ?_ -- program
      refine wg4_6 (q := 37) dX7_run_34 ffX7_182 (by first | exact ch_obj | exact ch_prg | exact ch_pts | exact ch_acs | exact ch_4 | exact ch_pul | exact ch_sea | exact ch_27 | exact ch_28 | exact ch_29 | exact ch_30 | exact ch_31 | exact ch_32 | assumption) rfl ?_ -- startPoint
      refine wp_istore_n (i := 3) (lv' := [_, _, some _, _, _, _, _]) (q := 38) dX7_run_37 rfl (by decide) rfl rfl ?_
      refine wp_aload_n (i := 0) (q := 39) dX7_run_38 rfl rfl rfl ?_
      refine wg7_0 (q := 42) dX7_run_39 ffX7_10 (by first | exact ch_obj | exact ch_prg | exact ch_pts | exact ch_acs | exact ch_4 | exact ch_pul | exact ch_sea | exact ch_27 | exact ch_28 | exact ch_29 | exact ch_30 | exact ch_31 | exact ch_32 | assumption) rfl ?_ -- program
      refine wg4_2 (q := 45) dX7_run_42 ffX7_185 (by first | exact ch_obj | exact ch_prg | exact ch_pts | exact ch_acs | exact ch_4 | exact ch_pul | exact ch_sea | exact ch_27 | exact ch_28 | exact ch_29 | exact ch_30 | exact ch_31 | exact ch_32 | assumption) rfl ?_ -- startNumbers
      refine wp_aload_n (i := 0) (q := 46) dX7_run_45 rfl rfl rfl ?_
      refine wg7_2 (q := 49) dX7_run_46 ffX7_25 (by first | exact ch_obj | exact ch_prg | exact ch_pts | exact ch_acs | exact ch_4 | exact ch_pul | exact ch_sea | exact ch_27 | exact ch_28 | exact ch_29 | exact ch_30 | exact ch_31 | exact ch_32 | assumption) rfl ?_ -- given
      rw [hI]
      refine wp_Sv (μ' := mX7_copy) (q := 52) (tX7_copy (d := d - 1) (n := 4) (m := 4) ch_4 ch_29 (by omega) (by omega) (by omega)) dX7_run_49 okX7_copy lkX7_188 rfl rfl (Nat.le_of_ble_eq_true rfl) (by omega) rfl ?_
      rw [ch_s29]
      refine wp_iload_n (i := 1) (q := 53) dX7_run_52 rfl rfl rfl ?_
      refine wp_istore (lv' := [_, _, _, some _, _, _, _]) (q := 55) dX7_run_53 (by decide) rfl rfl ?_
      refine wp_iconst (v := nI 0) (q := 56) dX7_run_55 (by decide) rfl ?_
      refine wp_istore (lv' := [_, _, _, _, some _, _, _]) (q := 58) dX7_run_56 (by decide) rfl rfl ?_
      generalize hn0 : n = n0
      have P : ∀ k (j n pt : Nat) (xs : List Int32) (A1 : Nat → Nat → Int32) (y6 : Option Value), j + k = m → n < 2 ^ 31 → pt < dNp D → aEq A A1 → stL (A1 29) (dK D pt) = xs → wp l mX7_run [] d 0 0 (rcQ lo sz b I A D g (rcF D k n pt xs)) (sz, ch b I A1 B D g) 58 [some (.ref b), some (.int (nI n0)), some (.int (nI m)), some (.int (nI pt)), some (.int (nI n)), some (.int (nI j)), y6] [] := by
        intro k
        induction k with
        | zero =>
          intro j n pt xs A1 y6 hj hn hpt hA hxs
          refine wp_iload (q := 60) dX7_run_58 rfl rfl ?_
          refine wp_iload_n (i := 2) (q := 61) dX7_run_60 rfl rfl rfl ?_
          refine wp_icmp_ge (t := 143) (q := 64) dX7_run_61 (by decide) rfl (fun hc1 => ?_) (fun hc1 => ?_)
          · refine wp_aload_n (i := 0) (q := 144) dX7_run_143 rfl rfl rfl ?_
            refine wg7_0 (q := 147) dX7_run_144 ffX7_10 (by first | exact ch_obj | exact ch_prg | exact ch_pts | exact ch_acs | exact ch_4 | exact ch_pul | exact ch_sea | exact ch_27 | exact ch_28 | exact ch_29 | exact ch_30 | exact ch_31 | exact ch_32 | assumption) rfl ?_ -- program
            refine wp_iload_n (i := 3) (q := 148) dX7_run_147 rfl rfl rfl ?_
            refine wp_Vr (μ' := mX4_pointAt) (ci := 4) (q := 151) (tX4_pointAt (d := d - 1) hW hpt) dX7_run_148 okX4_pointAt lkX7_46 (by first | exact ch_obj | exact ch_prg | exact ch_pts | exact ch_acs | exact ch_4 | exact ch_pul | exact ch_sea | exact ch_27 | exact ch_28 | exact ch_29 | exact ch_30 | exact ch_31 | exact ch_32 | assumption) rfl rfl rfl (Nat.le_of_ble_eq_true rfl) (by omega) rfl ?_
            refine wp_astore (lv' := [_, _, _, _, some _, _, _]) (q := 153) dX7_run_151 (by decide) rfl rfl ?_
            refine wp_aload (q := 155) dX7_run_153 rfl rfl ?_
            refine wp_ifnonnull (q := 162) dX7_run_155 (by decide) ?_
            refine wp_aload_n (i := 0) (q := 163) dX7_run_162 rfl rfl rfl ?_
            refine wp_aload (q := 165) dX7_run_163 rfl rfl ?_
            refine wp_aload_n (i := 0) (q := 166) dX7_run_165 rfl rfl rfl ?_
            refine wg7_2 (q := 169) dX7_run_166 ffX7_25 (by first | exact ch_obj | exact ch_prg | exact ch_pts | exact ch_acs | exact ch_4 | exact ch_pul | exact ch_sea | exact ch_27 | exact ch_28 | exact ch_29 | exact ch_30 | exact ch_31 | exact ch_32 | assumption) rfl ?_ -- given
            refine wp_V (μ' := mX7_takeReading) (ci := 7) (q := 172) (tX7_takeReading (d := d - 1) (by omega) hW hK hb hpt (hc pt hpt)) dX7_run_169 okX7_takeReading lkX7_84 (by first | exact ch_obj | exact ch_prg | exact ch_pts | exact ch_acs | exact ch_4 | exact ch_pul | exact ch_sea | exact ch_27 | exact ch_28 | exact ch_29 | exact ch_30 | exact ch_31 | exact ch_32 | assumption) rfl rfl rfl (Nat.le_of_ble_eq_true rfl) (by omega) rfl (fun rv hx hq => ?_)
            rcases hq with ⟨q1, rfl, rfl⟩ | ⟨q1, q2⟩
            · show wp _ _ _ _ _ _ _ _ _ _ [.int (-4)]
              refine wp_iret dX7_run_172 rfl ?_
              exact Or.inl ⟨q1, rfl, _, _, _, _, _, rfl, hW, fun _ _ => rfl, dEq.rf, hA, iEq.rf⟩
            · obtain ⟨rfl, I', A', B', g', rfl, a1, a2, a3, a4, a5, a6, a7, a8⟩ := q2
              show wp _ _ _ _ _ _ _ _ _ _ [.int (nI (dcL D pt (A1 29) 3).length)]
              refine wp_iret dX7_run_172 rfl ?_
              exact Or.inr ⟨q1, A1 29, hxs, rfl, I', A', B', g', rfl, a1, a2, a3, a4.trans hA.1, a5.trans hA.2.1, a6.trans hA.2.2.1, a7, a8⟩
          · exact absurd ((nI_leI (by omega) (by omega)).mpr (by omega)) hc1
        | succ k ih =>
          intro j n pt xs A1 y6 hj hn hpt hA hxs
          refine wp_iload (q := 60) dX7_run_58 rfl rfl ?_
          refine wp_iload_n (i := 2) (q := 61) dX7_run_60 rfl rfl rfl ?_
          refine wp_icmp_ge (t := 143) (q := 64) dX7_run_61 (by decide) rfl (fun hc1 => ?_) (fun hc1 => ?_)
          · exact absurd ((nI_leI (by omega) (by omega)).mp hc1) (by omega)
          refine wp_aload_n (i := 0) (q := 65) dX7_run_64 rfl rfl rfl ?_
          refine wg7_0 (q := 68) dX7_run_65 ffX7_10 (by first | exact ch_obj | exact ch_prg | exact ch_pts | exact ch_acs | exact ch_4 | exact ch_pul | exact ch_sea | exact ch_27 | exact ch_28 | exact ch_29 | exact ch_30 | exact ch_31 | exact ch_32 | assumption) rfl ?_ -- program
          refine wp_iload (q := 70) dX7_run_68 rfl rfl ?_
          refine wp_bipush (v := nI 10) (q := 72) dX7_run_70 (by decide) rfl ?_
          refine wp_irem (q := 73) dX7_run_72 (by first | assumption | decide) rfl ?_
          rw [pk_rem hn (by omega) (by omega)]
          have hxu : ∀ u, u < dK D pt → A1 29 u = gt_ xs u := fun u hu => by rw [← hxs, gt_stL hu]
          by_cases w : n % 10 < dNa D
          · have hao := ch_aob (I := I) (A := A1) (B := B) hW hb w
            refine wp_Vr (μ' := mX4_actAt) (ci := 4) (q := 76) (tX4_actAt (d := d - 1) hW w) dX7_run_73 okX4_actAt lkX7_141 (by first | exact ch_obj | exact ch_prg | exact ch_pts | exact ch_acs | exact ch_4 | exact ch_pul | exact ch_sea | exact ch_27 | exact ch_28 | exact ch_29 | exact ch_30 | exact ch_31 | exact ch_32 | assumption) rfl rfl rfl (Nat.le_of_ble_eq_true rfl) (by omega) rfl ?_
            refine wp_astore (lv' := [_, _, _, _, _, some _, _]) (q := 78) dX7_run_76 (by decide) rfl rfl ?_
            refine wp_iload (q := 80) dX7_run_78 rfl rfl ?_
            refine wp_bipush (v := nI 10) (q := 82) dX7_run_80 (by decide) rfl ?_
            refine wp_idiv (q := 83) dX7_run_82 (by first | assumption | decide) rfl ?_
            rw [pk_div hn (by omega) (by omega)]
            refine wp_istore (lv' := [_, _, _, some _, _, _, _]) (q := 85) dX7_run_83 (by decide) rfl rfl ?_
            refine wp_aload (q := 87) dX7_run_85 rfl rfl ?_
            refine wp_ifnull (q := 90) dX7_run_87 rfl ?_
            refine wp_aload (q := 92) dX7_run_90 rfl rfl ?_
            refine wg0_0 (q := 95) dX7_run_92 ffX7_192 (by first | exact ch_obj | exact ch_prg | exact ch_pts | exact ch_acs | exact ch_4 | exact ch_pul | exact ch_sea | exact ch_27 | exact ch_28 | exact ch_29 | exact ch_30 | exact ch_31 | exact ch_32 | assumption) rfl ?_ -- from
            refine wp_iload_n (i := 3) (q := 96) dX7_run_95 rfl rfl rfl ?_
            have hfr := hW.fr w
            have hto := hW.to w
            refine wp_icmp_eq (t := 101) (q := 99) dX7_run_96 (by decide) rfl (fun hf => ?_) (fun hf => ?_)
            · have hf : dFr D (n % 10) = pt := (nI_eq (by omega) (by omega)).mp hf
              have e1 : lcG (dM D (n % 10)) (dK D (dFr D (n % 10))) (A1 29) (dK D (dTo D (n % 10))) = lcD D (n % 10) xs := lcG_cg (fun u hu => hxu u (by rw [hf] at hu; exact hu))
              refine wp_aload (q := 103) dX7_run_101 rfl rfl ?_
              refine wp_aload_n (i := 0) (q := 104) dX7_run_103 rfl rfl rfl ?_
              refine wg7_2 (q := 107) dX7_run_104 ffX7_25 (by first | exact ch_obj | exact ch_prg | exact ch_pts | exact ch_acs | exact ch_4 | exact ch_pul | exact ch_sea | exact ch_27 | exact ch_28 | exact ch_29 | exact ch_30 | exact ch_31 | exact ch_32 | assumption) rfl ?_ -- given
              refine wp_aload_n (i := 0) (q := 108) dX7_run_107 rfl rfl rfl ?_
              refine wg7_3 (q := 111) dX7_run_108 ffX7_29 (by first | exact ch_obj | exact ch_prg | exact ch_pts | exact ch_acs | exact ch_4 | exact ch_pul | exact ch_sea | exact ch_27 | exact ch_28 | exact ch_29 | exact ch_30 | exact ch_31 | exact ch_32 | assumption) rfl ?_ -- next
              refine wp_V (μ' := mX0_leads) (ci := 0) (q := 114) (tX0_leadsD (d := d - 1) (o2 := 30) (by omega) hW hb w ch_29 ch_30 (by omega) (by omega) (by omega) (fun f => gset_ch30)) dX7_run_111 okX0_leads lkX7_195 hao rfl rfl rfl (Nat.le_of_ble_eq_true rfl) (by omega) rfl (fun rv hx hq => ?_)
              obtain ⟨rfl, f, rfl, hff⟩ := hq
              rw [e1] at hff ⊢
              show wp _ _ _ _ _ _ _ _ _ _ [.int (b2 (lcD D (n % 10) xs))]
              have hao2 := ch_aob (I := I) (A := upR A1 30 f) (B := B) hW hb w
              refine wp_if_ne (t := 120) (q := 117) dX7_run_114 (by decide) rfl (fun hl => ?_) (fun hl => ?_)
              · have hl := b2_ne0.mp hl
                have e2 : rcF D (k + 1) n pt xs = rcF D k (n / 10) (dTo D (n % 10)) (lcX D (n % 10) xs) := by
                  show (if dNa D ≤ n % 10 ∨ ¬ dFr D (n % 10) = pt then _ else _) = _
                  rw [if_neg (fun q => q.elim (fun q => by omega) (fun q => q hf)), if_neg (by rw [hl]; decide)]
                rw [e2]
                refine wp_aload (q := 122) dX7_run_120 rfl rfl ?_
                refine wg0_1 (q := 125) dX7_run_122 ffX7_199 (by first | exact ch_obj | exact ch_prg | exact ch_pts | exact ch_acs | exact ch_4 | exact ch_pul | exact ch_sea | exact ch_27 | exact ch_28 | exact ch_29 | exact ch_30 | exact ch_31 | exact ch_32 | assumption) rfl ?_ -- to
                refine wp_istore_n (i := 3) (lv' := [_, _, some _, _, _, _, _]) (q := 126) dX7_run_125 rfl (by decide) rfl rfl ?_
                refine wp_aload_n (i := 0) (q := 127) dX7_run_126 rfl rfl rfl ?_
                refine wg7_3 (q := 130) dX7_run_127 ffX7_29 (by first | exact ch_obj | exact ch_prg | exact ch_pts | exact ch_acs | exact ch_4 | exact ch_pul | exact ch_sea | exact ch_27 | exact ch_28 | exact ch_29 | exact ch_30 | exact ch_31 | exact ch_32 | assumption) rfl ?_ -- next
                refine wp_aload_n (i := 0) (q := 131) dX7_run_130 rfl rfl rfl ?_
                refine wg7_2 (q := 134) dX7_run_131 ffX7_25 (by first | exact ch_obj | exact ch_prg | exact ch_pts | exact ch_acs | exact ch_4 | exact ch_pul | exact ch_sea | exact ch_27 | exact ch_28 | exact ch_29 | exact ch_30 | exact ch_31 | exact ch_32 | assumption) rfl ?_ -- given
                refine wp_Sv (μ' := mX7_copy) (q := 137) (tX7_copy (d := d - 1) (n := 4) (m := 4) ch_30 ch_29 (by omega) (by omega) (by omega)) dX7_run_134 okX7_copy lkX7_188 rfl rfl (Nat.le_of_ble_eq_true rfl) (by omega) rfl ?_
                rw [ch_s29, upR_at]
                refine wp_iinc (v := _ + nI 1) (lv' := [_, _, _, _, some _, _, _]) (q := 140) dX7_run_137 rfl rfl (by decide) rfl rfl ?_
                refine wp_goto (q := 58) dX7_run_140 (by decide) ?_
                rw [nI_add]
                refine ih (j + 1) (n / 10) (dTo D (n % 10)) _ _ _ (by omega) (by have := Nat.div_le_self n 10; omega) hto ((hA.tr (aEq.up (by decide))).tr (aEq.up (by decide))) ?_
                have h4' := hW.k4 hto
                unfold lcX
                refine stL_congr (fun u hu => ?_)
                rw [upR_at, if_pos (show u < min 4 4 by omega), hff hl u hu]
                exact lcS_cg _ (fun u hu => hxu u (by rw [hf] at hu; exact hu))
              · have hl := b2_eq0.mp hl
                have e2 : rcF D (k + 1) n pt xs = .inl (-9) := by
                  show (if dNa D ≤ n % 10 ∨ ¬ dFr D (n % 10) = pt then _ else _) = _
                  rw [if_neg (fun q => q.elim (fun q => by omega) (fun q => q hf)), if_pos hl]
                rw [e2]
                refine wp_bipush (v := (-9)) (q := 119) dX7_run_117 (by decide) rfl ?_
                refine wp_iret dX7_run_119 rfl ?_
                exact ⟨rfl, _, _, _, _, _, rfl, hW, fun _ _ => rfl, dEq.rf, hA.tr (aEq.up (by decide)), iEq.rf⟩
            · have hf : ¬ dFr D (n % 10) = pt := fun q => hf (by rw [q])
              have e2 : rcF D (k + 1) n pt xs = .inl (-1) := by
                show (if dNa D ≤ n % 10 ∨ ¬ dFr D (n % 10) = pt then _ else _) = _
                rw [if_pos (Or.inr hf)]
              rw [e2]
              refine wp_iconst (v := (-1)) (q := 100) dX7_run_99 (by decide) rfl ?_
              refine wp_iret dX7_run_100 rfl ?_
              exact ⟨rfl, _, _, _, _, _, rfl, hW, fun _ _ => rfl, dEq.rf, hA, iEq.rf⟩
          · have e2 : rcF D (k + 1) n pt xs = .inl (-1) := by
              show (if dNa D ≤ n % 10 ∨ ¬ dFr D (n % 10) = pt then _ else _) = _
              rw [if_pos (Or.inl (by omega))]
            rw [e2]
            refine wp_Vr (μ' := mX4_actAt) (ci := 4) (q := 76) (tX4_actAtN (d := d - 1) hW (by rw [ix_nI (by have := Nat.mod_lt n (show 10 > 0 by omega); omega)]; exact decide_eq_false w)) dX7_run_73 okX4_actAt lkX7_141 (by first | exact ch_obj | exact ch_prg | exact ch_pts | exact ch_acs | exact ch_4 | exact ch_pul | exact ch_sea | exact ch_27 | exact ch_28 | exact ch_29 | exact ch_30 | exact ch_31 | exact ch_32 | assumption) rfl rfl rfl (Nat.le_of_ble_eq_true rfl) (by omega) rfl ?_
            refine wp_astoreN (lv' := [_, _, _, _, _, some _, _]) (q := 78) dX7_run_76 (by decide) rfl rfl ?_
            refine wp_iload (q := 80) dX7_run_78 rfl rfl ?_
            refine wp_bipush (v := nI 10) (q := 82) dX7_run_80 (by decide) rfl ?_
            refine wp_idiv (q := 83) dX7_run_82 (by first | assumption | decide) rfl ?_
            refine wp_istore (lv' := [_, _, _, some _, _, _, _]) (q := 85) dX7_run_83 (by decide) rfl rfl ?_
            refine wp_aloadN (q := 87) dX7_run_85 rfl rfl ?_
            refine wp_ifnullN (q := 99) dX7_run_87 (by decide) ?_
            refine wp_iconst (v := (-1)) (q := 100) dX7_run_99 (by decide) rfl ?_
            refine wp_iret dX7_run_100 rfl ?_
            exact ⟨rfl, _, _, _, _, _, rfl, hW, fun _ _ => rfl, dEq.rf, hA, iEq.rf⟩
      refine P m 0 n0 pt _ _ _ (by omega) (hn0 ▸ hn2) hpt (aEq.up (by decide)) (stL_congr (fun u hu => ?_))
      have h4 := hW.k4 hpt
      rw [upR_at, if_pos (show u < min 4 4 by omega)]
    · have h3 : I 3 < 0 := by
        have := b2_eq0.mp hz
        simpa using this
      refine wp_bipush (v := (-3)) (q := 29) dX7_run_27 (by decide) rfl ?_
      refine wp_iret dX7_run_29 rfl ?_
      exact Or.inr (Or.inl ⟨hok, h3, rfl, rfl⟩)
  · exact bad (by unfold rdOK; rw [decide_eq_true (Int32.not_le.mp hn)]; simp)
end R4
