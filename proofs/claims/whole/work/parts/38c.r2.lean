/-! THE CLASS: RunLaws, kept, start, makes, split -/
def kcF (D : DS) : Nat → Nat → Int32
  | 0, _ => nI 1
  | m + 1, a => if swF (slB D a) (bzD D (dTo D a)) 0 < 0 then kcF D m (a + 1) else -20 - nI 100 * (nI a + nI 1) - swF (slB D a) (bzD D (dTo D a)) 0
def cKept (I : Nat → Int32) (A : Nat → Nat → Int32) (D : DS) : Int32 := if I 3 < 0 then -3 else if swF (swB D (I 3).toNatClampNeg (A 4)) (bzD D (I 3).toNatClampNeg) 0 < 0 then kcF D (dNa D) 0 else -20 - swF (swB D (I 3).toNatClampNeg (A 4)) (bzD D (I 3).toNatClampNeg) 0
theorem kcF_eq {D D' : DS} (h : dEq D D') : ∀ m a, kcF D' m a = kcF D m a
  | 0, _ => rfl
  | m + 1, a => by
    unfold kcF
    rw [slB_eq h, bzD_eq h, h.1.2.2.2.2.2.2.1, kcF_eq h m (a + 1)]
def CSt (I : Nat → Int32) (D : DS) : Prop := I 3 < 0 ∨ ∃ p, p < dNp D ∧ I 3 = nI p
def cWi (k : Nat) (r : Int32) (f : Nat → Int32) : Bool := (List.range' 0 k).all (fun v => wiB (f v) r)
def cStart (A : Nat → Nat → Int32) (D : DS) (x v0 v1 v2 v3 : Int32) : Int32 := if ix (dNp D) x = true then (if cWi (dK D x.toNatClampNeg) (nI 30) (fill4 (A 29) v0 v1 v2 v3) = true then nI 1 else -2) else -1
def okSt (A : Nat → Nat → Int32) (D : DS) (x v0 v1 v2 v3 : Int32) : Bool := ix (dNp D) x && cWi (dK D x.toNatClampNeg) (nI 30) (fill4 (A 29) v0 v1 v2 v3)
def okMk (A : Nat → Nat → Int32) (D : DS) (k v v0 v1 v2 v3 e : Int32) : Bool := (cWi (dK D (dFr D k.toNatClampNeg)) (nI 9) (fill4 (A 29) v0 v1 v2 v3) && wiB e (nI 99))
def cMakes (A : Nat → Nat → Int32) (D : DS) (k v v0 v1 v2 v3 e : Int32) : Int32 := if (ix (dNa D) k && ix (dK D (dTo D k.toNatClampNeg)) v) = true then (if okMk A D k v v0 v1 v2 v3 e = true then nI 1 else -2) else -1
def mkD (A : Nat → Nat → Int32) (D : DS) (a v : Nat) (v0 v1 v2 v3 e : Int32) : DS := dsM D a (upR (dM D a) v (upd (fun c => if c < dK D (dFr D a) then fill4 (A 29) v0 v1 v2 v3 c else dM D a v c) 4 e))
def spD (D : DS) (p v : Nat) (c : Int32) : DS := dsP D p ((dP D p).1, nI v, c, (dP D p).2.2.2.1, ptS (dK D p) (nI v) c (dP D p).2.2.2.1 (dP D p).2.2.2.2 (dP D p).1)
def okSl (D : DS) (x v c : Int32) : Bool := ix (dNp D) x && ix (dK D x.toNatClampNeg) v && wiB c (nI 30)
def cSplit (D : DS) (x v c : Int32) : Int32 := if (ix (dNp D) x && ix (dK D x.toNatClampNeg) v) = true then (if wiB c (nI 30) = true then nI (dF (spD D x.toNatClampNeg v.toNatClampNeg c) x.toNatClampNeg 1).1 else -2) else -1
section R2
variable {l : Launch} {d lo sz b p a : Nat} {g : Nat → Option aE} {D : DS} {I : Nat → Int32} {A : Nat → Nat → Int32} {B : Nat → Int64}
theorem swF_neg {f : Nat → Bool} : ∀ m s, s + m < 2 ^ 30 → swF f m s < 0 ∨ ∃ j, j < 2 ^ 30 ∧ swF f m s = nI j
  | 0, _, _ => Or.inl (by unfold swF; decide)
  | m + 1, s, h => by
    unfold swF
    split
    · exact swF_neg m (s + 1) (by omega)
    · exact Or.inr ⟨s, by omega, rfl⟩
theorem tX7_kept (hd : 4 ≤ d) (hW : DW lo sz g D) (hK : PK D) (hb : b + 33 ≤ lo) (hS : CSt I D) : mt l mX7_kept d 0 0 [.ref b] (sz, ch b I A B D g) (fun rv h' => rv = some (.int (cKept I A D)) ∧ qQ lo sz b I A D g h') := by
  have h10 := hW.na
  refine mt_in (lv := [_, _, _]) (by decide) (Nat.le_of_ble_eq_true rfl) rfl ?_
  refine wp_aload_n (i := 0) (q := 1) dX7_kept_0 rfl rfl rfl ?_
  refine wg7_0 (q := 4) dX7_kept_1 ffX7_10 (by first | exact ch_obj | exact ch_prg | exact ch_pts | exact ch_acs | exact ch_4 | exact ch_pul | exact ch_sea | exact ch_27 | exact ch_28 | exact ch_29 | exact ch_30 | exact ch_31 | exact ch_32 | assumption) rfl ?_ -- program
  unfold cKept
  refine wp_Vi (μ' := mX4_hasStart) (ci := 4) (q := 7) (tX4_hasStart (d := d - 1)) dX7_kept_4 okX4_hasStart lkX7_158 (by first | exact ch_obj | exact ch_prg | exact ch_pts | exact ch_acs | exact ch_4 | exact ch_pul | exact ch_sea | exact ch_27 | exact ch_28 | exact ch_29 | exact ch_30 | exact ch_31 | exact ch_32 | assumption) rfl rfl rfl (Nat.le_of_ble_eq_true rfl) (by omega) rfl ?_
  refine wp_if_ne (t := 13) (q := 10) dX7_kept_7 (by decide) rfl (fun hz => ?_) (fun hz => ?_)
  case _ =>
    have h3 : ¬ I 3 < 0 := of_decide_eq_false (by simpa using b2_ne0.mp hz)
    obtain ⟨p, hp, hI⟩ : ∃ p, p < dNp D ∧ I 3 = nI p := hS.resolve_left h3
    have h6 := hW.np
    rw [if_neg h3, hI, nI_clamp (by omega)]
    refine wp_aload_n (i := 0) (q := 14) dX7_kept_13 rfl rfl rfl ?_
    refine wg7_0 (q := 17) dX7_kept_14 ffX7_10 (by first | exact ch_obj | exact ch_prg | exact ch_pts | exact ch_acs | exact ch_4 | exact ch_pul | exact ch_sea | exact ch_27 | exact ch_28 | exact ch_29 | exact ch_30 | exact ch_31 | exact ch_32 | assumption) rfl ?_ -- program
    refine wp_V (μ' := mX4_sumWrongAtStart) (ci := 4) (q := 20) (tX4_sumWrongAtStart (d := d - 1) (by omega) hW hK hb hp hI) dX7_kept_17 okX4_sumWrongAtStart lkX7_162 (by first | exact ch_obj | exact ch_prg | exact ch_pts | exact ch_acs | exact ch_4 | exact ch_pul | exact ch_sea | exact ch_27 | exact ch_28 | exact ch_29 | exact ch_30 | exact ch_31 | exact ch_32 | assumption) rfl rfl rfl (Nat.le_of_ble_eq_true rfl) (by omega) rfl (fun rv hx hq => ?_)
    obtain ⟨rfl, B1, D1, g1, rfl, hW1, hlo1, hE1⟩ := hq
    have hbz : bzD D p ≤ 5 := by have := hW.k4 hp; unfold bzD bzN; split <;> omega
    have hs0 := swF_neg (f := swB D p (A 4)) (bzD D p) 0 (by omega)
    generalize swF (swB D p (A 4)) (bzD D p) 0 = r0 at hs0
    show wp _ _ _ _ _ _ _ _ _ _ [.int r0]
    refine wp_istore_n (i := 1) (lv' := [some _, _, _]) (q := 21) dX7_kept_20 rfl (by decide) rfl rfl ?_
    refine wp_iload_n (i := 1) (q := 22) dX7_kept_21 rfl rfl rfl ?_
    refine wp_if_lt (t := 30) (q := 25) dX7_kept_22 (by decide) rfl (fun hr => ?_) (fun hr => ?_)
    · rw [if_pos hr]
      refine wp_iconst (v := nI 0) (q := 31) dX7_kept_30 (by decide) rfl ?_
      refine wp_istore_n (i := 2) (lv' := [_, some _, _]) (q := 32) dX7_kept_31 rfl (by decide) rfl rfl ?_
      have P : ∀ m a (r : Int32) (B1 : Nat → Int64) (D1 : DS) (g1 : Nat → Option aE), DW lo sz g1 D1 → (∀ x, x < lo → g1 x = g x) → dEq D D1 → a + m = dNa D → kcF D m a = kcF D (dNa D) 0 → wp l mX7_kept [] d 0 0 (fun rv h' => rv = some (.int (kcF D (dNa D) 0)) ∧ qQ lo sz b I A D g h') (sz, ch b I A B1 D1 g1) 32 [some (.ref b), some (.int r), some (.int (nI a))] [] := by
        intro m
        induction m with
        | zero =>
          intro a r B1 D1 g1 hW1 hlo hE ha he
          have hna : dNa D1 = dNa D := hE.1.2.1
          refine wp_iload_n (i := 2) (q := 33) dX7_kept_32 rfl rfl rfl ?_
          refine wp_aload_n (i := 0) (q := 34) dX7_kept_33 rfl rfl rfl ?_
          refine wg7_0 (q := 37) dX7_kept_34 ffX7_10 (by first | exact ch_obj | exact ch_prg | exact ch_pts | exact ch_acs | exact ch_4 | exact ch_pul | exact ch_sea | exact ch_27 | exact ch_28 | exact ch_29 | exact ch_30 | exact ch_31 | exact ch_32 | assumption) rfl ?_ -- program
          refine wg4_5 (q := 40) dX7_kept_37 ffX7_165 (by first | exact ch_obj | exact ch_prg | exact ch_pts | exact ch_acs | exact ch_4 | exact ch_pul | exact ch_sea | exact ch_27 | exact ch_28 | exact ch_29 | exact ch_30 | exact ch_31 | exact ch_32 | assumption) rfl ?_ -- actCount
          rw [hna]
          refine wp_icmp_ge (t := 82) (q := 43) dX7_kept_40 (by decide) rfl (fun hc => ?_) (fun hc => ?_)
          · rw [show kcF D 0 a = nI 1 from rfl] at he
            refine wp_iconst (v := nI 1) (q := 83) dX7_kept_82 (by decide) rfl ?_
            refine wp_iret dX7_kept_83 rfl ?_
            exact ⟨by rw [← he], I, A, B1, D1, g1, rfl, hW1, hlo, hE, aEq.rf, iEq.rf⟩
          · exact absurd ((nI_leI (by omega) (by omega)).mpr (by omega)) hc
        | succ m ih =>
          intro a r B1 D1 g1 hW1 hlo hE ha he
          have hna : dNa D1 = dNa D := hE.1.2.1
          have ha1 : a < dNa D1 := by rw [hna]; omega
          rw [show kcF D (m + 1) a = if swF (slB D a) (bzD D (dTo D a)) 0 < 0 then kcF D m (a + 1) else -20 - nI 100 * (nI a + nI 1) - swF (slB D a) (bzD D (dTo D a)) 0 from rfl] at he
          refine wp_iload_n (i := 2) (q := 33) dX7_kept_32 rfl rfl rfl ?_
          refine wp_aload_n (i := 0) (q := 34) dX7_kept_33 rfl rfl rfl ?_
          refine wg7_0 (q := 37) dX7_kept_34 ffX7_10 (by first | exact ch_obj | exact ch_prg | exact ch_pts | exact ch_acs | exact ch_4 | exact ch_pul | exact ch_sea | exact ch_27 | exact ch_28 | exact ch_29 | exact ch_30 | exact ch_31 | exact ch_32 | assumption) rfl ?_ -- program
          refine wg4_5 (q := 40) dX7_kept_37 ffX7_165 (by first | exact ch_obj | exact ch_prg | exact ch_pts | exact ch_acs | exact ch_4 | exact ch_pul | exact ch_sea | exact ch_27 | exact ch_28 | exact ch_29 | exact ch_30 | exact ch_31 | exact ch_32 | assumption) rfl ?_ -- actCount
          rw [hna]
          refine wp_icmp_ge (t := 82) (q := 43) dX7_kept_40 (by decide) rfl (fun hc => ?_) (fun hc => ?_)
          · exact absurd ((nI_leI (by omega) (by omega)).mp hc) (by omega)
          have hac : acR D1 a = some (dAa D1 a) := if_pos ha1
          refine wp_aload_n (i := 0) (q := 44) dX7_kept_43 rfl rfl rfl ?_
          refine wg7_0 (q := 47) dX7_kept_44 ffX7_10 (by first | exact ch_obj | exact ch_prg | exact ch_pts | exact ch_acs | exact ch_4 | exact ch_pul | exact ch_sea | exact ch_27 | exact ch_28 | exact ch_29 | exact ch_30 | exact ch_31 | exact ch_32 | assumption) rfl ?_ -- program
          refine wp_aload_n (i := 0) (q := 48) dX7_kept_47 rfl rfl rfl ?_
          refine wg7_0 (q := 51) dX7_kept_48 ffX7_10 (by first | exact ch_obj | exact ch_prg | exact ch_pts | exact ch_acs | exact ch_4 | exact ch_pul | exact ch_sea | exact ch_27 | exact ch_28 | exact ch_29 | exact ch_30 | exact ch_31 | exact ch_32 | assumption) rfl ?_ -- program
          refine wg4_1 (q := 54) dX7_kept_51 ffX7_168 (by first | exact ch_obj | exact ch_prg | exact ch_pts | exact ch_acs | exact ch_4 | exact ch_pul | exact ch_sea | exact ch_27 | exact ch_28 | exact ch_29 | exact ch_30 | exact ch_31 | exact ch_32 | assumption) rfl ?_ -- acts
          refine wp_iload_n (i := 2) (q := 55) dX7_kept_54 rfl rfl rfl ?_
          refine wq_aald (q := 56) dX7_kept_55 (by first | exact ch_obj | exact ch_prg | exact ch_pts | exact ch_acs | exact ch_4 | exact ch_pul | exact ch_sea | exact ch_27 | exact ch_28 | exact ch_29 | exact ch_30 | exact ch_31 | exact ch_32 | assumption) (by decide) rfl (by first | omega | exact ⟨by omega, by omega⟩) (by exact hac) rfl ?_
          refine wp_V (μ' := mX4_sumLostBy) (ci := 4) (q := 59) (tX4_sumLostBy (d := d - 1) (by omega) hW1 (hK.eq hE) hb ha1) dX7_kept_56 okX4_sumLostBy lkX7_172 (by first | exact ch_obj | exact ch_prg | exact ch_pts | exact ch_acs | exact ch_4 | exact ch_pul | exact ch_sea | exact ch_27 | exact ch_28 | exact ch_29 | exact ch_30 | exact ch_31 | exact ch_32 | assumption) rfl rfl rfl (Nat.le_of_ble_eq_true rfl) (by omega) rfl (fun rv hx hq => ?_)
          obtain ⟨rfl, B2, D2, g2, rfl, hW2, hlo2, hE2⟩ := hq
          rw [slB_eq hE, bzD_eq hE, hE.1.2.2.2.2.2.2.1]
          have hlo3 : ∀ x, x < lo → g2 x = g x := fun x hx => (hlo2 x hx).trans (hlo x hx)
          have hE3 := hE.tr hE2
          have hbz : bzD D (dTo D a) ≤ 5 := by have := hW.k4 (hW.to (show a < dNa D by omega)); unfold bzD bzN; split <;> omega
          have hs0 := swF_neg (f := slB D a) (bzD D (dTo D a)) 0 (by omega)
          generalize swF (slB D a) (bzD D (dTo D a)) 0 = r1 at hs0 he
          show wp _ _ _ _ _ _ _ _ _ _ [.int r1]
          refine wp_istore_n (i := 1) (lv' := [some _, _, _]) (q := 60) dX7_kept_59 rfl (by decide) rfl rfl ?_
          refine wp_iload_n (i := 1) (q := 61) dX7_kept_60 rfl rfl rfl ?_
          refine wp_if_lt (t := 76) (q := 64) dX7_kept_61 (by decide) rfl (fun hr1 => ?_) (fun hr1 => ?_)
          · rw [if_pos hr1] at he
            refine wp_iinc (v := _ + nI 1) (lv' := [_, some _, _]) (q := 79) dX7_kept_76 rfl rfl (by decide) rfl rfl ?_
            refine wp_goto (q := 32) dX7_kept_79 (by decide) ?_
            rw [nI_add]
            exact ih (a + 1) r1 B2 D2 g2 hW2 hlo3 hE3 (by omega) he
          · rw [if_neg hr1] at he
            rw [← he]
            refine wp_bipush (v := (-20)) (q := 66) dX7_kept_64 (by decide) rfl ?_
            refine wp_bipush (v := nI 100) (q := 68) dX7_kept_66 (by decide) rfl ?_
            refine wp_iload_n (i := 2) (q := 69) dX7_kept_68 rfl rfl rfl ?_
            refine wp_iconst (v := nI 1) (q := 70) dX7_kept_69 (by decide) rfl ?_
            refine wp_iadd (q := 71) dX7_kept_70 rfl ?_
            refine wp_imul (q := 72) dX7_kept_71 rfl ?_
            refine wp_isub (q := 73) dX7_kept_72 rfl ?_
            refine wp_iload_n (i := 1) (q := 74) dX7_kept_73 rfl rfl rfl ?_
            refine wp_isub (q := 75) dX7_kept_74 rfl ?_
            refine wp_iret dX7_kept_75 rfl ?_
            exact ⟨rfl, I, A, B2, D2, g2, rfl, hW2, hlo3, hE3, aEq.rf, iEq.rf⟩
      exact P (dNa D) 0 r0 B1 D1 g1 hW1 hlo1 hE1 (by omega) rfl
    · rw [if_neg hr]
      refine wp_bipush (v := (-20)) (q := 27) dX7_kept_25 (by decide) rfl ?_
      refine wp_iload_n (i := 1) (q := 28) dX7_kept_27 rfl rfl rfl ?_
      refine wp_isub (q := 29) dX7_kept_28 rfl ?_
      refine wp_iret dX7_kept_29 rfl ?_
      exact ⟨rfl, I, A, B1, D1, g1, rfl, hW1, hlo1, hE1, aEq.rf, iEq.rf⟩
  · have h3 : I 3 < 0 := by
      have := b2_eq0.mp hz
      simpa using this
    rw [if_pos h3]
    refine wp_bipush (v := (-3)) (q := 12) dX7_kept_10 (by decide) rfl ?_
    refine wp_iret dX7_kept_12 rfl ?_
    exact ⟨rfl, qQ.rf hW⟩
theorem tX7_start {x v0 v1 v2 v3 : Int32} (hd : 2 ≤ d) (hW : DW lo sz g D) (hb : b + 33 ≤ lo) : mt l mX7_start d 0 0 [.ref b, .int x, .int v0, .int v1, .int v2, .int v3] (sz, ch b I A B D g) (fun rv h' => rv = some (.int (cStart A D x v0 v1 v2 v3)) ∧ ((okSt A D x v0 v1 v2 v3 = false ∧ qQ lo sz b I A D g h') ∨ (okSt A D x v0 v1 v2 v3 = true ∧ ∃ A', h' = (sz, ch b (upd I 3 x) A' B D g) ∧ A' 27 = A 27 ∧ A' 28 = A 28 ∧ A' 32 = A 32 ∧ ∀ v, v < 4 → A' 4 v = fill4 (A 29) v0 v1 v2 v3 v))) := by
  have h6 := hW.np
  refine mt_in (lv := [_, _, _, _, _, _, _]) (by decide) (Nat.le_of_ble_eq_true rfl) rfl ?_
  refine wp_aload_n (i := 0) (q := 1) dX7_start_0 rfl rfl rfl ?_
  refine wg7_0 (q := 4) dX7_start_1 ffX7_10 (by first | exact ch_obj | exact ch_prg | exact ch_pts | exact ch_acs | exact ch_4 | exact ch_pul | exact ch_sea | exact ch_27 | exact ch_28 | exact ch_29 | exact ch_30 | exact ch_31 | exact ch_32 | assumption) rfl ?_ -- program
  refine wp_iload_n (i := 1) (q := 5) dX7_start_4 rfl rfl rfl ?_
  unfold cStart okSt
  by_cases w : ix (dNp D) x = true
  · rw [if_pos w, w, Bool.true_and]
    obtain ⟨p, hp, rfl⟩ := ix_of w (by omega)
    rw [nI_clamp (by omega)]
    have hob := ch_pob (I := I) (A := upR A 29 (fill4 (A 29) v0 v1 v2 v3)) (B := B) hW hb hp
    have h4 := hW.k4 hp
    refine wp_Vr (μ' := mX4_pointAt) (ci := 4) (q := 8) (tX4_pointAt (d := d - 1) hW hp) dX7_start_5 okX4_pointAt lkX7_46 (by first | exact ch_obj | exact ch_prg | exact ch_pts | exact ch_acs | exact ch_4 | exact ch_pul | exact ch_sea | exact ch_27 | exact ch_28 | exact ch_29 | exact ch_30 | exact ch_31 | exact ch_32 | assumption) rfl rfl rfl (Nat.le_of_ble_eq_true rfl) (by omega) rfl ?_
    refine wp_astore (lv' := [_, _, _, _, _, some _, _]) (q := 10) dX7_start_8 (by decide) rfl rfl ?_
    refine wp_aload (q := 12) dX7_start_10 rfl rfl ?_
    refine wp_ifnonnull (q := 17) dX7_start_12 (by decide) ?_
    refine wp_aload_n (i := 0) (q := 18) dX7_start_17 rfl rfl rfl ?_
    refine wg7_2 (q := 21) dX7_start_18 ffX7_25 (by first | exact ch_obj | exact ch_prg | exact ch_pts | exact ch_acs | exact ch_4 | exact ch_pul | exact ch_sea | exact ch_27 | exact ch_28 | exact ch_29 | exact ch_30 | exact ch_31 | exact ch_32 | assumption) rfl ?_ -- given
    refine wp_iload_n (i := 2) (q := 22) dX7_start_21 rfl rfl rfl ?_
    refine wp_iload_n (i := 3) (q := 23) dX7_start_22 rfl rfl rfl ?_
    refine wp_iload (q := 25) dX7_start_23 rfl rfl ?_
    refine wp_iload (q := 27) dX7_start_25 rfl rfl ?_
    refine wp_Sv (μ' := mX7_fill) (q := 30) (tX7_fill (d := d - 1) ch_29 (by omega) (by omega)) dX7_start_27 okX7_fill lkX7_73 rfl rfl (Nat.le_of_ble_eq_true rfl) (by omega) rfl ?_
    rw [ch_s29]
    refine wp_aload_n (i := 0) (q := 31) dX7_start_30 rfl rfl rfl ?_
    refine wg7_2 (q := 34) dX7_start_31 ffX7_25 (by first | exact ch_obj | exact ch_prg | exact ch_pts | exact ch_acs | exact ch_4 | exact ch_pul | exact ch_sea | exact ch_27 | exact ch_28 | exact ch_29 | exact ch_30 | exact ch_31 | exact ch_32 | assumption) rfl ?_ -- given
    refine wp_aload (q := 36) dX7_start_34 rfl rfl ?_
    refine wg3_0 (q := 39) dX7_start_36 ffX7_77 (by first | exact ch_obj | exact ch_prg | exact ch_pts | exact ch_acs | exact ch_4 | exact ch_pul | exact ch_sea | exact ch_27 | exact ch_28 | exact ch_29 | exact ch_30 | exact ch_31 | exact ch_32 | assumption) rfl ?_ -- size
    refine wp_bipush (v := nI 30) (q := 41) dX7_start_39 (by decide) rfl ?_
    refine wp_Si (μ' := mX7_areWithin) (q := 44) (tX7_areWithin (d := d - 1) (n := 4) (by omega) ch_29 (by omega) (by omega)) dX7_start_41 okX7_areWithin lkX7_80 rfl rfl (Nat.le_of_ble_eq_true rfl) (by omega) rfl ?_
    rw [upR_at]
    show wp _ _ _ _ _ _ _ _ _ _ [.int (b2 (cWi (dK D p) (nI 30) (fill4 (A 29) v0 v1 v2 v3)))]
    refine wp_if_ne (t := 50) (q := 47) dX7_start_44 (by decide) rfl (fun hz => ?_) (fun hz => ?_)
    · have hz := b2_ne0.mp hz
      rw [if_pos hz, hz]
      refine wp_aload_n (i := 0) (q := 51) dX7_start_50 rfl rfl rfl ?_
      refine wg7_0 (q := 54) dX7_start_51 ffX7_10 (by first | exact ch_obj | exact ch_prg | exact ch_pts | exact ch_acs | exact ch_4 | exact ch_pul | exact ch_sea | exact ch_27 | exact ch_28 | exact ch_29 | exact ch_30 | exact ch_31 | exact ch_32 | assumption) rfl ?_ -- program
      refine wp_iload_n (i := 1) (q := 55) dX7_start_54 rfl rfl rfl ?_
      refine wp_aload_n (i := 0) (q := 56) dX7_start_55 rfl rfl rfl ?_
      refine wg7_2 (q := 59) dX7_start_56 ffX7_25 (by first | exact ch_obj | exact ch_prg | exact ch_pts | exact ch_acs | exact ch_4 | exact ch_pul | exact ch_sea | exact ch_27 | exact ch_28 | exact ch_29 | exact ch_30 | exact ch_31 | exact ch_32 | assumption) rfl ?_ -- given
      refine wp_Vv (μ' := mX4_setStart) (ci := 4) (q := 62) (tX4_setStart (d := d - 1) (by omega)) dX7_start_59 okX4_setStart lkX7_133 (by first | exact ch_obj | exact ch_prg | exact ch_pts | exact ch_acs | exact ch_4 | exact ch_pul | exact ch_sea | exact ch_27 | exact ch_28 | exact ch_29 | exact ch_30 | exact ch_31 | exact ch_32 | assumption) rfl rfl rfl (Nat.le_of_ble_eq_true rfl) (by omega) rfl ?_
      refine wp_iconst (v := nI 1) (q := 63) dX7_start_62 (by decide) rfl ?_
      refine wp_iret dX7_start_63 rfl ?_
      refine ⟨rfl, Or.inr ⟨rfl, _, rfl, ?_, ?_, ?_, fun v hv => ?_⟩⟩
      · rw [upR_ne (by decide), upR_ne (by decide)]
      · rw [upR_ne (by decide), upR_ne (by decide)]
      · rw [upR_ne (by decide), upR_ne (by decide)]
      · rw [upR_at, upR_at, if_pos hv]
    · have hz := b2_eq0.mp hz
      rw [if_neg (by rw [hz]; decide), hz]
      refine wp_bipush (v := (-2)) (q := 49) dX7_start_47 (by decide) rfl ?_
      refine wp_iret dX7_start_49 rfl ?_
      exact ⟨rfl, Or.inl ⟨rfl, _, _, _, _, _, rfl, hW, fun _ _ => rfl, dEq.rf, aEq.up (by decide), iEq.rf⟩⟩
  · rw [if_neg w, Bool.eq_false_iff.mpr w, Bool.false_and]
    refine wp_Vr (μ' := mX4_pointAt) (ci := 4) (q := 8) (tX4_pointAtN (d := d - 1) hW (Bool.eq_false_iff.mpr w)) dX7_start_5 okX4_pointAt lkX7_46 (by first | exact ch_obj | exact ch_prg | exact ch_pts | exact ch_acs | exact ch_4 | exact ch_pul | exact ch_sea | exact ch_27 | exact ch_28 | exact ch_29 | exact ch_30 | exact ch_31 | exact ch_32 | assumption) rfl rfl rfl (Nat.le_of_ble_eq_true rfl) (by omega) rfl ?_
    refine wp_astoreN (lv' := [_, _, _, _, _, some _, _]) (q := 10) dX7_start_8 (by decide) rfl rfl ?_
    refine wp_aloadN (q := 12) dX7_start_10 rfl rfl ?_
    refine wp_ifnonnullN (q := 15) dX7_start_12 rfl ?_
    refine wp_iconst (v := (-1)) (q := 16) dX7_start_15 (by decide) rfl ?_
    refine wp_iret dX7_start_16 rfl ?_
    exact ⟨rfl, Or.inl ⟨rfl, qQ.rf hW⟩⟩
theorem tX0_setD {v : Nat} {e : Int32} (hW : DW lo sz g D) (hb : b + 33 ≤ lo) (ha : a < dNa D) (hv : v < dK D (dTo D a)) : mt l mX0_set d 0 0 [.ref (dAa D a), .int (nI v), .ref (b + 29), .int e] (sz, ch b I A B D g) (rV (sz, ah (dAa D a) (dFr D a) (dTo D a) (dK D (dFr D a)) (dK D (dTo D a)) (upR (dM D a) v (upd (fun c => if c < dK D (dFr D a) then A 29 c else dM D a v c) 4 e)) (ch b I A B D g))) := by
  have h4 := hW.k4 (hW.fr ha)
  have h4' := hW.k4 (hW.to ha)
  have hl := hW.al ha
  have M := tX0_set (l := l) (d := d) (sz := sz) (q := dAa D a) (f := dFr D a) (t := dTo D a) (m := dK D (dFr D a)) (n := dK D (dTo D a)) (M := dM D a) (G := ch b I A B D g) (w := b + 29) (mm := 4) (x := A 29) (e := e) hv (by omega) h4 ch_29 (by omega) h4 (by omega)
  rw [← dw_ah hW hb ha] at M
  exact M
theorem tX7_makes {k v v0 v1 v2 v3 e : Int32} (hd : 2 ≤ d) (hW : DW lo sz g D) (hb : b + 33 ≤ lo) : mt l mX7_makes d 0 0 [.ref b, .int k, .int v, .int v0, .int v1, .int v2, .int v3, .int e] (sz, ch b I A B D g) (fun rv h' => rv = some (.int (cMakes A D k v v0 v1 v2 v3 e)) ∧ (((ix (dNa D) k && ix (dK D (dTo D k.toNatClampNeg)) v && okMk A D k v v0 v1 v2 v3 e) = false ∧ qQ lo sz b I A D g h') ∨ ((ix (dNa D) k && ix (dK D (dTo D k.toNatClampNeg)) v && okMk A D k v v0 v1 v2 v3 e) = true ∧ ∃ A' g', h' = (sz, ch b I A' B (mkD A D k.toNatClampNeg v.toNatClampNeg v0 v1 v2 v3 e) g') ∧ DW lo sz g' (mkD A D k.toNatClampNeg v.toNatClampNeg v0 v1 v2 v3 e) ∧ (∀ x, x < lo → g' x = g x) ∧ aEq A A'))) := by
  have h10 := hW.na
  refine mt_in (lv := [_, _, _, _, _, _, _, _, _]) (by decide) (Nat.le_of_ble_eq_true rfl) rfl ?_
  refine wp_aload_n (i := 0) (q := 1) dX7_makes_0 rfl rfl rfl ?_
  refine wg7_0 (q := 4) dX7_makes_1 ffX7_10 (by first | exact ch_obj | exact ch_prg | exact ch_pts | exact ch_acs | exact ch_4 | exact ch_pul | exact ch_sea | exact ch_27 | exact ch_28 | exact ch_29 | exact ch_30 | exact ch_31 | exact ch_32 | assumption) rfl ?_ -- program
  refine wp_iload_n (i := 1) (q := 5) dX7_makes_4 rfl rfl rfl ?_
  unfold cMakes okMk
  by_cases w : ix (dNa D) k = true
  · rw [w, Bool.true_and]
    obtain ⟨a, ha, rfl⟩ := ix_of w (by omega)
    rw [nI_clamp (by omega)]
    have hao := ch_aob (I := I) (A := A) (B := B) hW hb ha
    have hao2 := ch_aob (I := I) (A := upR A 29 (fill4 (A 29) v0 v1 v2 v3)) (B := B) hW hb ha
    have h4 := hW.k4 (hW.to ha)
    have h4f := hW.k4 (hW.fr ha)
    refine wp_Vr (μ' := mX4_actAt) (ci := 4) (q := 8) (tX4_actAt (d := d - 1) hW ha) dX7_makes_5 okX4_actAt lkX7_141 (by first | exact ch_obj | exact ch_prg | exact ch_pts | exact ch_acs | exact ch_4 | exact ch_pul | exact ch_sea | exact ch_27 | exact ch_28 | exact ch_29 | exact ch_30 | exact ch_31 | exact ch_32 | assumption) rfl rfl rfl (Nat.le_of_ble_eq_true rfl) (by omega) rfl ?_
    refine wp_astore (lv' := [_, _, _, _, _, _, _, some _, _]) (q := 10) dX7_makes_8 (by decide) rfl rfl ?_
    refine wp_aload (q := 12) dX7_makes_10 rfl rfl ?_
    refine wp_ifnull (q := 15) dX7_makes_12 rfl ?_
    refine wp_aload (q := 17) dX7_makes_15 rfl rfl ?_
    refine wp_iload_n (i := 2) (q := 18) dX7_makes_17 rfl rfl rfl ?_
    refine wp_Vi (μ' := mX0_hasVariable) (ci := 0) (q := 21) (tX0_hasVariableD (d := d - 1) hW hb ha) dX7_makes_18 okX0_hasVariable lkX7_145 hao rfl rfl rfl (Nat.le_of_ble_eq_true rfl) (by omega) rfl ?_
    refine wp_if_ne (t := 26) (q := 24) dX7_makes_21 (by decide) rfl (fun hv => ?_) (fun hv => ?_)
    · have hv := b2_ne0.mp hv
      rw [if_pos hv, hv, Bool.true_and]
      obtain ⟨v, hv2, rfl⟩ := ix_of hv (by omega)
      rw [nI_clamp (by omega)]
      refine wp_aload_n (i := 0) (q := 27) dX7_makes_26 rfl rfl rfl ?_
      refine wg7_2 (q := 30) dX7_makes_27 ffX7_25 (by first | exact ch_obj | exact ch_prg | exact ch_pts | exact ch_acs | exact ch_4 | exact ch_pul | exact ch_sea | exact ch_27 | exact ch_28 | exact ch_29 | exact ch_30 | exact ch_31 | exact ch_32 | assumption) rfl ?_ -- given
      refine wp_iload_n (i := 3) (q := 31) dX7_makes_30 rfl rfl rfl ?_
      refine wp_iload (q := 33) dX7_makes_31 rfl rfl ?_
      refine wp_iload (q := 35) dX7_makes_33 rfl rfl ?_
      refine wp_iload (q := 37) dX7_makes_35 rfl rfl ?_
      refine wp_Sv (μ' := mX7_fill) (q := 40) (tX7_fill (d := d - 1) ch_29 (by omega) (by omega)) dX7_makes_37 okX7_fill lkX7_73 rfl rfl (Nat.le_of_ble_eq_true rfl) (by omega) rfl ?_
      rw [ch_s29]
      refine wp_aload_n (i := 0) (q := 41) dX7_makes_40 rfl rfl rfl ?_
      refine wg7_2 (q := 44) dX7_makes_41 ffX7_25 (by first | exact ch_obj | exact ch_prg | exact ch_pts | exact ch_acs | exact ch_4 | exact ch_pul | exact ch_sea | exact ch_27 | exact ch_28 | exact ch_29 | exact ch_30 | exact ch_31 | exact ch_32 | assumption) rfl ?_ -- given
      refine wp_aload (q := 46) dX7_makes_44 rfl rfl ?_
      refine wg0_2 (q := 49) dX7_makes_46 ffX7_148 (by first | exact ch_obj | exact ch_prg | exact ch_pts | exact ch_acs | exact ch_4 | exact ch_pul | exact ch_sea | exact ch_27 | exact ch_28 | exact ch_29 | exact ch_30 | exact ch_31 | exact ch_32 | assumption) rfl ?_ -- fromSize
      refine wp_bipush (v := nI 9) (q := 51) dX7_makes_49 (by decide) rfl ?_
      refine wp_Si (μ' := mX7_areWithin) (q := 54) (tX7_areWithin (d := d - 1) (n := 4) (by omega) ch_29 (by omega) (by omega)) dX7_makes_51 okX7_areWithin lkX7_80 rfl rfl (Nat.le_of_ble_eq_true rfl) (by omega) rfl ?_
      rw [upR_at]
      show wp _ _ _ _ _ _ _ _ _ _ [.int (b2 (cWi (dK D (dFr D a)) (nI 9) (fill4 (A 29) v0 v1 v2 v3)))]
      refine wp_if_eq (t := 67) (q := 57) dX7_makes_54 (by decide) rfl (fun hz => ?_) (fun hz => ?_)
      · have hz := b2_eq0.mp hz
        rw [hz, Bool.false_and, if_neg (by decide)]
        refine wp_bipush (v := (-2)) (q := 69) dX7_makes_67 (by decide) rfl ?_
        refine wp_iret dX7_makes_69 rfl ?_
        exact ⟨rfl, Or.inl ⟨rfl, _, _, _, _, _, rfl, hW, fun _ _ => rfl, dEq.rf, aEq.up (by decide), iEq.rf⟩⟩
      have hz := b2_ne0.mp hz
      rw [hz, Bool.true_and]
      refine wp_iload (q := 59) dX7_makes_57 rfl rfl ?_
      refine wp_bipush (v := nI 99) (q := 61) dX7_makes_59 (by decide) rfl ?_
      refine wp_Si (μ' := mX7_isWithin) (q := 64) (tX7_isWithin (d := d - 1)) dX7_makes_61 okX7_isWithin lkX7_56 rfl rfl (Nat.le_of_ble_eq_true rfl) (by omega) rfl ?_
      refine wp_if_ne (t := 70) (q := 67) dX7_makes_64 (by decide) rfl (fun hy => ?_) (fun hy => ?_)
      · have hy := b2_ne0.mp hy
        rw [if_pos hy, hy]
        refine wp_aload (q := 72) dX7_makes_70 rfl rfl ?_
        refine wp_iload_n (i := 2) (q := 73) dX7_makes_72 rfl rfl rfl ?_
        refine wp_aload_n (i := 0) (q := 74) dX7_makes_73 rfl rfl rfl ?_
        refine wg7_2 (q := 77) dX7_makes_74 ffX7_25 (by first | exact ch_obj | exact ch_prg | exact ch_pts | exact ch_acs | exact ch_4 | exact ch_pul | exact ch_sea | exact ch_27 | exact ch_28 | exact ch_29 | exact ch_30 | exact ch_31 | exact ch_32 | assumption) rfl ?_ -- given
        refine wp_iload (q := 79) dX7_makes_77 rfl rfl ?_
        refine wp_Vv (μ' := mX0_set) (ci := 0) (q := 82) (tX0_setD (d := d - 1) hW hb ha hv2) dX7_makes_79 okX0_set lkX7_151 hao2 rfl rfl rfl (Nat.le_of_ble_eq_true rfl) (by omega) rfl ?_
        rw [upR_at, dw_ah2 hW hb ha]
        refine wp_iconst (v := nI 1) (q := 83) dX7_makes_82 (by decide) rfl ?_
        refine wp_iret dX7_makes_83 rfl ?_
        exact ⟨rfl, Or.inr ⟨rfl, _, _, rfl, dw_setA hW ha, (fun x hx => dw_lowA hW ha hx), aEq.up (by decide)⟩⟩
      · have hy := b2_eq0.mp hy
        rw [hy, if_neg (by decide)]
        refine wp_bipush (v := (-2)) (q := 69) dX7_makes_67 (by decide) rfl ?_
        refine wp_iret dX7_makes_69 rfl ?_
        exact ⟨rfl, Or.inl ⟨rfl, _, _, _, _, _, rfl, hW, fun _ _ => rfl, dEq.rf, aEq.up (by decide), iEq.rf⟩⟩
    · rw [b2_eq0.mp hv, if_neg (by decide), Bool.false_and]
      refine wp_iconst (v := (-1)) (q := 25) dX7_makes_24 (by decide) rfl ?_
      refine wp_iret dX7_makes_25 rfl ?_
      exact ⟨rfl, Or.inl ⟨rfl, qQ.rf hW⟩⟩
  · rw [Bool.eq_false_iff.mpr w, Bool.false_and, if_neg (by decide), Bool.false_and]
    refine wp_Vr (μ' := mX4_actAt) (ci := 4) (q := 8) (tX4_actAtN (d := d - 1) hW (Bool.eq_false_iff.mpr w)) dX7_makes_5 okX4_actAt lkX7_141 (by first | exact ch_obj | exact ch_prg | exact ch_pts | exact ch_acs | exact ch_4 | exact ch_pul | exact ch_sea | exact ch_27 | exact ch_28 | exact ch_29 | exact ch_30 | exact ch_31 | exact ch_32 | assumption) rfl rfl rfl (Nat.le_of_ble_eq_true rfl) (by omega) rfl ?_
    refine wp_astoreN (lv' := [_, _, _, _, _, _, _, some _, _]) (q := 10) dX7_makes_8 (by decide) rfl rfl ?_
    refine wp_aloadN (q := 12) dX7_makes_10 rfl rfl ?_
    refine wp_ifnullN (q := 24) dX7_makes_12 (by decide) ?_
    refine wp_iconst (v := (-1)) (q := 25) dX7_makes_24 (by decide) rfl ?_
    refine wp_iret dX7_makes_25 rfl ?_
    exact ⟨rfl, Or.inl ⟨rfl, qQ.rf hW⟩⟩
theorem tX3_partD {v : Nat} {c : Int32} (hd : 5 ≤ d) (hW : DW lo sz g D) (hK : PK D) (hb : b + 33 ≤ lo) (hp : p < dNp D) (hv : v < dK D p) : mt l mX3_part d 0 0 [.ref (dPa D p), .int (nI v), .int c] (sz, ch b I A B D g) (fun rv h' => rv = none ∧ ∃ g', h' = (sz, ch b I A B (spD D p v c) g') ∧ DW lo sz g' (spD D p v c) ∧ ∀ x, x < lo → g' x = g x) := by
  have h4 := hW.k4 hp
  have M := tX3_part (l := l) (d := d) (sz := sz) (q := dPa D p) (k := dK D p) (n := (dP D p).1) (sv := (dP D p).2.1) (sb := (dP D p).2.2.1) (R := (dP D p).2.2.2.1) (S := (dP D p).2.2.2.2) (G := ch b I A B D g) (v := v) (b := c) hd (by omega) hv (hK p hp).1 (fun s hs => ((hK p hp).2 s hs).1) (Nat.lt_of_le_of_lt ((hK p hp).2 0 (by omega)).2 (by decide))
  rw [show ((dP D p).1, (dP D p).2.1, (dP D p).2.2.1, (dP D p).2.2.2.1, (dP D p).2.2.2.2) = dP D p from rfl, ← dw_ph hW hb hp, dw_ph2 hW hb hp] at M
  exact mt_post M (fun rv h' q => ⟨q.1, _, q.2, dw_setP hW hp, fun x hx => dw_lowP hW hp hx⟩)
theorem tX7_split {x v c : Int32} (hd : 6 ≤ d) (hW : DW lo sz g D) (hK : PK D) (hb : b + 33 ≤ lo) : mt l mX7_split d 0 0 [.ref b, .int x, .int v, .int c] (sz, ch b I A B D g) (fun rv h' => rv = some (.int (cSplit D x v c)) ∧ ((okSl D x v c = false ∧ h' = (sz, ch b I A B D g)) ∨ (okSl D x v c = true ∧ ∃ g', h' = (sz, ch b I A B (spD D x.toNatClampNeg v.toNatClampNeg c) g') ∧ DW lo sz g' (spD D x.toNatClampNeg v.toNatClampNeg c) ∧ ∀ x, x < lo → g' x = g x))) := by
  have h6 := hW.np
  refine mt_in (lv := [_, _, _, _, _]) (by decide) (Nat.le_of_ble_eq_true rfl) rfl ?_
  refine wp_aload_n (i := 0) (q := 1) dX7_split_0 rfl rfl rfl ?_
  refine wg7_0 (q := 4) dX7_split_1 ffX7_10 (by first | exact ch_obj | exact ch_prg | exact ch_pts | exact ch_acs | exact ch_4 | exact ch_pul | exact ch_sea | exact ch_27 | exact ch_28 | exact ch_29 | exact ch_30 | exact ch_31 | exact ch_32 | assumption) rfl ?_ -- program
  refine wp_iload_n (i := 1) (q := 5) dX7_split_4 rfl rfl rfl ?_
  unfold cSplit okSl
  by_cases w : ix (dNp D) x = true
  · rw [w, Bool.true_and]
    obtain ⟨p, hp, rfl⟩ := ix_of w (by omega)
    rw [nI_clamp (by omega)]
    have hob := ch_pob (I := I) (A := A) (B := B) hW hb hp
    have h4 := hW.k4 hp
    refine wp_Vr (μ' := mX4_pointAt) (ci := 4) (q := 8) (tX4_pointAt (d := d - 1) hW hp) dX7_split_5 okX4_pointAt lkX7_46 (by first | exact ch_obj | exact ch_prg | exact ch_pts | exact ch_acs | exact ch_4 | exact ch_pul | exact ch_sea | exact ch_27 | exact ch_28 | exact ch_29 | exact ch_30 | exact ch_31 | exact ch_32 | assumption) rfl rfl rfl (Nat.le_of_ble_eq_true rfl) (by omega) rfl ?_
    refine wp_astore (lv' := [_, _, _, some _, _]) (q := 10) dX7_split_8 (by decide) rfl rfl ?_
    refine wp_aload (q := 12) dX7_split_10 rfl rfl ?_
    refine wp_ifnull (q := 15) dX7_split_12 rfl ?_
    refine wp_aload (q := 17) dX7_split_15 rfl rfl ?_
    refine wp_iload_n (i := 2) (q := 18) dX7_split_17 rfl rfl rfl ?_
    refine wp_Vi (μ' := mX3_hasVariable) (ci := 3) (q := 21) (tX3_hasVariableD (d := d - 1) hW hb hp) dX7_split_18 okX3_hasVariable lkX7_50 hob rfl rfl rfl (Nat.le_of_ble_eq_true rfl) (by omega) rfl ?_
    refine wp_if_ne (t := 26) (q := 24) dX7_split_21 (by decide) rfl (fun hv => ?_) (fun hv => ?_)
    · have hv := b2_ne0.mp hv
      rw [if_pos hv, hv, Bool.true_and]
      obtain ⟨v, hv2, rfl⟩ := ix_of hv (by omega)
      rw [nI_clamp (by omega)]
      refine wp_iload_n (i := 3) (q := 27) dX7_split_26 rfl rfl rfl ?_
      refine wp_bipush (v := nI 30) (q := 29) dX7_split_27 (by decide) rfl ?_
      refine wp_Si (μ' := mX7_isWithin) (q := 32) (tX7_isWithin (d := d - 1)) dX7_split_29 okX7_isWithin lkX7_56 rfl rfl (Nat.le_of_ble_eq_true rfl) (by omega) rfl ?_
      refine wp_if_ne (t := 38) (q := 35) dX7_split_32 (by decide) rfl (fun hy => ?_) (fun hy => ?_)
      · have hy := b2_ne0.mp hy
        rw [if_pos hy, hy]
        refine wp_aload (q := 40) dX7_split_38 rfl rfl ?_
        refine wp_iload_n (i := 2) (q := 41) dX7_split_40 rfl rfl rfl ?_
        refine wp_iload_n (i := 3) (q := 42) dX7_split_41 rfl rfl rfl ?_
        refine wp_V (μ' := mX3_part) (ci := 3) (q := 45) (tX3_partD (d := d - 1) (by omega) hW hK hb hp hv2) dX7_split_42 okX3_part lkX7_60 hob rfl rfl rfl (Nat.le_of_ble_eq_true rfl) (by omega) rfl (fun rv hx hq => ?_)
        obtain ⟨rfl, g', rfl, hW2, hlo2⟩ := hq
        have hp2 : p < dNp (spD D p v c) := hp
        have hob2 : ch b I A B (spD D p v c) g' (dPa D p) = _ := ch_pob (I := I) (A := A) (B := B) hW2 hb hp2
        have hsd2 : ch b I A B (spD D p v c) g' (dPa D p + 42) = _ := ch_psd (I := I) (A := A) (B := B) hW2 hb hp2
        obtain ⟨r1, r3, r4, r5, r6, r7, r8, r9, r10, r11, r12, hof2, -⟩ := ch_fob (I := I) (A := A) (B := B) hW2 hb hp2 (s := 1) (by omega)
        show wp _ _ _ _ _ _ _ _ _ _ []
        refine wp_aload (q := 47) dX7_split_45 rfl rfl ?_
        refine wg3_2 (q := 50) dX7_split_47 ffX7_64 (by first | exact ch_obj | exact ch_prg | exact ch_pts | exact ch_acs | exact ch_4 | exact ch_pul | exact ch_sea | exact ch_27 | exact ch_28 | exact ch_29 | exact ch_30 | exact ch_31 | exact ch_32 | assumption) rfl ?_ -- sides
        refine wp_iconst (v := nI 1) (q := 51) dX7_split_50 (by decide) rfl ?_
        refine wq_aald (q := 52) dX7_split_51 (by first | exact ch_obj | exact ch_prg | exact ch_pts | exact ch_acs | exact ch_4 | exact ch_pul | exact ch_sea | exact ch_27 | exact ch_28 | exact ch_29 | exact ch_30 | exact ch_31 | exact ch_32 | assumption) (by decide) rfl (by first | omega | exact ⟨by omega, by omega⟩) (by exact if_pos (by omega)) rfl ?_
        refine wg1_2 (q := 55) dX7_split_52 ffX7_68 (by first | exact ch_obj | exact ch_prg | exact ch_pts | exact ch_acs | exact ch_4 | exact ch_pul | exact ch_sea | exact ch_27 | exact ch_28 | exact ch_29 | exact ch_30 | exact ch_31 | exact ch_32 | assumption) rfl ?_ -- count
        refine wp_iret dX7_split_55 rfl ?_
        exact ⟨rfl, Or.inr ⟨rfl, g', rfl, hW2, hlo2⟩⟩
      · have hy := b2_eq0.mp hy
        rw [hy, if_neg (by decide)]
        refine wp_bipush (v := (-2)) (q := 37) dX7_split_35 (by decide) rfl ?_
        refine wp_iret dX7_split_37 rfl ?_
        exact ⟨rfl, Or.inl ⟨rfl, rfl⟩⟩
    · rw [b2_eq0.mp hv, if_neg (by decide), Bool.false_and]
      refine wp_iconst (v := (-1)) (q := 25) dX7_split_24 (by decide) rfl ?_
      refine wp_iret dX7_split_25 rfl ?_
      exact ⟨rfl, Or.inl ⟨rfl, rfl⟩⟩
  · rw [Bool.eq_false_iff.mpr w, Bool.false_and, if_neg (by decide), Bool.false_and]
    refine wp_Vr (μ' := mX4_pointAt) (ci := 4) (q := 8) (tX4_pointAtN (d := d - 1) hW (Bool.eq_false_iff.mpr w)) dX7_split_5 okX4_pointAt lkX7_46 (by first | exact ch_obj | exact ch_prg | exact ch_pts | exact ch_acs | exact ch_4 | exact ch_pul | exact ch_sea | exact ch_27 | exact ch_28 | exact ch_29 | exact ch_30 | exact ch_31 | exact ch_32 | assumption) rfl rfl rfl (Nat.le_of_ble_eq_true rfl) (by omega) rfl ?_
    refine wp_astoreN (lv' := [_, _, _, some _, _]) (q := 10) dX7_split_8 (by decide) rfl rfl ?_
    refine wp_aloadN (q := 12) dX7_split_10 rfl rfl ?_
    refine wp_ifnullN (q := 24) dX7_split_12 (by decide) ?_
    refine wp_iconst (v := (-1)) (q := 25) dX7_split_24 (by decide) rfl ?_
    refine wp_iret dX7_split_25 rfl ?_
    exact ⟨rfl, Or.inl ⟨rfl, rfl⟩⟩
end R2
