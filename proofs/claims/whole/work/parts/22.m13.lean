/-! THE REFERENCE: the search -/
abbrev sR_ : Type := List Nat × Nat × List Int32 × Nat
def srK (A : Nat → Nat → Int32) (np : Nat) (last : Bool) (f : Nat → List Int32 → Nat → Nat × Option sR_) (pt : Nat) (xs : List Int32) : List Nat → Nat → Nat × Option sR_
  | [], cnt => (cnt, none)
  | k :: ks, cnt =>
    if ¬ frA A k = pt then srK A np last f pt xs ks cnt
    else if last = true then
      (if ldG A k (gt_ xs) (kA A (toA A k)) = true then
        (match brkF A np (toA A k) (stL (ldV A k (gt_ xs)) (kA A (toA A k))) with
          | some c => (cnt + 1, some ([k], toA A k, stL (ldV A k (gt_ xs)) (kA A (toA A k)), c))
          | none => srK A np last f pt xs ks (cnt + 1))
        else srK A np last f pt xs ks (cnt + 1))
    else if ldG A k (gt_ xs) (kA A (toA A k)) = true then
      (match f (toA A k) (stL (ldV A k (gt_ xs)) (kA A (toA A k))) cnt with
        | (cnt', some r) => (cnt', some (k :: r.1, r.2))
        | (cnt', none) => srK A np last f pt xs ks cnt')
    else srK A np last f pt xs ks cnt
/-- rows of left + 1 acts from a state: how many are gone through, and the first that breaks a guess -/
def srA (A : Nat → Nat → Int32) (na np : Nat) : Nat → Nat → List Int32 → Nat → Nat × Option sR_
  | 0 => fun pt xs cnt => srK A np true (fun _ _ c => (c, none)) pt xs (List.range' 0 na) cnt
  | left + 1 => fun pt xs cnt => srK A np false (srA A na np left) pt xs (List.range' 0 na) cnt
def srG (A : Nat → Nat → Int32) (na np left pt : Nat) (xs : List Int32) (ks : List Nat) (cnt : Nat) : Nat × Option sR_ := match left with
  | 0 => srK A np true (fun _ _ c => (c, none)) pt xs ks cnt
  | left + 1 => srK A np false (srA A na np left) pt xs ks cnt
theorem srA_G {A : Nat → Nat → Int32} {na np left pt cnt : Nat} {xs : List Int32} : srA A na np left pt xs cnt = srG A na np left pt xs (List.range' 0 na) cnt := by cases left <;> rfl
def FD (A0 : Nat → Nat → Int32) (np : Nat) (I : Nat → Int32) (A : Nat → Nat → Int32) (len c' : Nat) (r : sR_) (I' : Nat → Int32) (A' : Nat → Nat → Int32) : Prop := SC [41, 42, 43, 46] [22, 23, 24, 30, 31] I A I' A' ∧ I' 46 = nI c' ∧ I' 41 = nI r.2.2.2 ∧ I' 42 = nI r.2.1 ∧ I' 43 = nI len ∧ stL (A' 30) (kA A0 r.2.1) = r.2.2.1 ∧ r.2.1 < np ∧ ∀ k, k < len → A' 31 k = nI (r.1.getD k 0)
theorem brkF_lt {A : Nat → Nat → Int32} {np pt c : Nat} {xs : List Int32} (hk : kA A pt ≤ 4) (h : brkF A np pt xs = some c) : c < 1000 := by
  unfold brkF at h
  obtain ⟨sh, i, j, rfl, h1, h2, h3, -⟩ := gl_mem hk (List.mem_of_find?_eq_some h)
  have := jlG_le (sh := sh) hk
  omega
section M13
variable {l : Launch} {d sz b np na : Nat} {I : Nat → Int32} {L : Int64} {A A0 : Nat → Nat → Int32} {B : Nat → Nat → Int64} {g : Nat → Option aE} {Q : Option Value → aH → Prop}
theorem goL (hd : 3 ≤ d) (hM : MM I A0 np) (hA : MA I A0 np na) (hE : ag A0 A ∧ A 17 = A0 17 ∧ A 18 = A0 18 ∧ A 19 = A0 19) (hT : TT A0 np A) {len : Nat} (hlen : len < 6) :
    ∀ left at_, at_ + left + 1 = len → ∀ (k : Nat) (I1 : Nat → Int32) (A1 : Nat → Nat → Int32) (cnt pt : Nat) (xs : List Int32) (pref : List Nat) (j3 j4 j5 : Option Value), k ≤ na → SC [46] [22, 23, 24] I A I1 A1 → I1 46 = nI cnt → A1 22 at_ = nI pt → pt < np → stL (fun u => A1 23 (4 * at_ + u)) (kA A0 pt) = xs → pref.length = at_ → (∀ j, j < at_ → A1 24 j = nI (pref.getD j 0)) → A1 24 at_ + nI 1 = nI k →
      (∀ c', srG A0 na np left pt xs (List.range' k (na - k)) cnt = (c', none) → ∀ (I2 : Nat → Int32) (A2 : Nat → Nat → Int32) (j3 j4 j5 : Option Value), SC [46] [22, 23, 24] I A I2 A2 → I2 46 = nI c' → (∀ j, j ≤ at_ → A2 22 j = A1 22 j) → (∀ j, j < 4 * at_ + 4 → A2 23 j = A1 23 j) → (∀ j, j < at_ → A2 24 j = A1 24 j) → wp l mX8_goThrough [] d 0 0 Q (sz, mh b I2 L A2 B g) 9 [some (.ref b), some (.int (nI len)), some (.int (nI at_ + -1)), j3, j4, j5] []) →
      (∀ c' r, srG A0 na np left pt xs (List.range' k (na - k)) cnt = (c', some r) → ∀ (I2 : Nat → Int32) (A2 : Nat → Nat → Int32), FD A0 np I A len c' (pref ++ r.1, r.2) I2 A2 → Q (some (.int (nI 1))) (sz, mh b I2 L A2 B g)) →
      wp l mX8_goThrough [] d 0 0 Q (sz, mh b I1 L A1 B g) 9 [some (.ref b), some (.int (nI len)), some (.int (nI at_)), j3, j4, j5] [] := by
  have hM0 := hM
  have hA0 := hA
  obtain ⟨hn, h0, hP, hk1⟩ := hM
  obtain ⟨a1, a2, a3⟩ := hA
  have hSm : ∀ (I1 : Nat → Int32) (A2 : Nat → Nat → Int32), SC [46] [22, 23, 24] I A I1 A2 → MM I1 A2 np ∧ MA I1 A2 np na ∧ ag A0 A2 ∧ A2 19 = A0 19 ∧ frA A2 = frA A0 ∧ toA A2 = toA A0 ∧ MM I1 A0 np ∧ TT A0 np A2 ∧ I1 27 = nI na ∧ A2 17 = A0 17 ∧ A2 18 = A0 18 := by
    intro I1 A2 hS
    obtain ⟨g0, g17, g18, g19⟩ := hE
    have hag1 := ag_of hS (by decide)
    have hag : ag A0 A2 := ⟨hag1.1.trans g0.1, hag1.2.1.trans g0.2.1, hag1.2.2.1.trans g0.2.2.1, hag1.2.2.2.1.trans g0.2.2.2.1, hag1.2.2.2.2.1.trans g0.2.2.2.2.1, hag1.2.2.2.2.2.trans g0.2.2.2.2.2⟩
    have e17 : A2 17 = A0 17 := (hS.2 17 (by decide)).trans g17
    have e18 : A2 18 = A0 18 := (hS.2 18 (by decide)).trans g18
    have efr : frA A2 = frA A0 := by funext a; unfold frA; rw [e17]
    have eto : toA A2 = toA A0 := by funext a; unfold toA; rw [e18]
    have i0 : I1 0 = nI np := (hS.1 0 (by decide)).trans h0
    have i27 : I1 27 = nI na := (hS.1 27 (by decide)).trans a2
    refine ⟨⟨hn, i0, fun p hp => MP_ag hag (hP p hp), fun p hp => by rw [kA_ag hag]; exact hk1 p hp⟩, ⟨a1, i27, fun a ha => by rw [e17, e18, efr, eto]; exact a3 a ha⟩, hag, (hS.2 19 (by decide)).trans g19, efr, eto, ⟨hn, i0, hP, hk1⟩, ?_, i27, e17, e18⟩
    intro p hp
    obtain ⟨t1, t2⟩ := hT p hp
    exact ⟨by rw [hS.2 25 (by decide)]; exact t1, fun k c hk => TD_of (t2 k c hk) (by rw [hS.2 26 (by decide)]) (by rw [hS.2 27 (by decide)]) (by rw [hS.2 28 (by decide)]) (by rw [hS.2 29 (by decide)])⟩
  intro left
  induction left with
  | zero =>
    intro at_ hat k0 I1' A1' cnt0 pt xs pref j3 j4 j5 hk0 hS1 h46' h22' hpt hx' hpl hpf' hnx hnone hsome
    have k4 := (hP pt (by omega)).2.1
    have W22 : ∀ m k, k + m = na → ∀ (I1 : Nat → Int32) (A1 : Nat → Nat → Int32) (cnt : Nat) (j4 j5 : Option Value), SC [46] [22, 23, 24] I A I1 A1 → I1 46 = nI cnt → (∀ j, j ≤ at_ → A1 22 j = A1' 22 j) → (∀ j, j < 4 * at_ + 4 → A1 23 j = A1' 23 j) → (∀ j, j < at_ → A1 24 j = A1' 24 j) → srG A0 na np 0 pt xs (List.range' k m) cnt = srG A0 na np 0 pt xs (List.range' k0 (na - k0)) cnt0 → wp l mX8_goThrough [] d 0 0 Q (sz, mh b I1 L A1 B g) 22 [some (.ref b), some (.int (nI len)), some (.int (nI at_)), some (.int (nI k)), j4, j5] [] := by
      intro m
      induction m with
      | zero =>
        intro k hk I1 A1 cnt j4 j5 hS h46 p22 p23 p24 he
        obtain ⟨hMM, hMA, hag, e19, efr, eto, hM2, hT2, i27, e17, e18⟩ := hSm I1 A1 hS
        have hk : k = na := by omega
        subst hk
        refine wp_iload_n (i := 3) (q := 23) dX8_goThrough_22 rfl rfl rfl ?_
        refine wp_aload_n (i := 0) (q := 24) dX8_goThrough_23 rfl rfl rfl ?_
        refine wm_getI (k := 27) (q := 27) dX8_goThrough_24 ffX8_241 rfl rfl ?_ -- acts
        rw [i27]
        refine wp_icmp_ge (t := 51) (q := 30) dX8_goThrough_27 (by decide) rfl (fun hc => ?_) (fun hc => ?_)
        · refine wp_aload_n (i := 0) (q := 52) dX8_goThrough_51 rfl rfl rfl ?_
          refine wm_getA (k := 35) (o := 24) (q := 55) dX8_goThrough_52 ffX8_81 rfl rfl rfl ?_ -- wayAct
          refine wp_iload_n (i := 2) (q := 56) dX8_goThrough_55 rfl rfl rfl ?_
          refine wp_iload_n (i := 3) (q := 57) dX8_goThrough_56 rfl rfl rfl ?_
          refine wm_iastN (q := 58) dX8_goThrough_57 ⟨by decide, by decide, rfl⟩ rfl (by simp only [mlen]; omega) (by decide) rfl ?_
          refine wp_iload_n (i := 3) (q := 59) dX8_goThrough_58 rfl rfl rfl ?_
          refine wp_aload_n (i := 0) (q := 60) dX8_goThrough_59 rfl rfl rfl ?_
          refine wm_getI (k := 27) (q := 63) dX8_goThrough_60 ffX8_241 rfl rfl ?_ -- acts
          rw [i27]
          refine wp_icmp_ne (t := 72) (q := 66) dX8_goThrough_63 (by decide) rfl (fun hne => ?_) (fun hne => ?_)
          · exact absurd rfl hne
          · refine wp_iinc (v := _ + (-1)) (lv' := [_, some _, _, _, _, _]) (q := 69) dX8_goThrough_66 rfl rfl (by decide) rfl rfl ?_
            refine wp_goto (q := 9) dX8_goThrough_69 (by decide) ?_
            exact hnone cnt he.symm I1 _ _ _ _ (hS.tr (SC.u2 (by decide))) h46 (fun j hj => by rw [up2_ne (by decide)]; exact p22 j hj) (fun j hj => by rw [up2_ne (by decide)]; exact p23 j hj) (fun j hj => by rw [up2_row]; simp only [show ¬ j = at_ by omega, if_false]; exact p24 j hj)
        · exact absurd ((nI_leI (by omega) (by omega)).mpr (by omega)) hc
      | succ m ih =>
        intro k hk I1 A1 cnt j4 j5 hS h46 p22 p23 p24 he
        obtain ⟨hMM, hMA, hag, e19, efr, eto, hM2, hT2, i27, e17, e18⟩ := hSm I1 A1 hS
        obtain ⟨e1, e2, e3, e4⟩ := a3 k (by omega)
        have f4 := (hP (frA A0 k) (by omega)).2.1
        have t4 := (hP (toA A0 k) (by omega)).2.1
        have h22 : A1 22 at_ = nI pt := (p22 at_ (by omega)).trans h22'
        have hx : stL (fun u => A1 23 (4 * at_ + u)) (kA A0 pt) = xs := by rw [← hx']; exact stL_congr (fun u hu => p23 _ (by omega))
        refine wp_iload_n (i := 3) (q := 23) dX8_goThrough_22 rfl rfl rfl ?_
        refine wp_aload_n (i := 0) (q := 24) dX8_goThrough_23 rfl rfl rfl ?_
        refine wm_getI (k := 27) (q := 27) dX8_goThrough_24 ffX8_241 rfl rfl ?_ -- acts
        rw [i27]
        refine wp_icmp_ge (t := 51) (q := 30) dX8_goThrough_27 (by decide) rfl (fun hc => ?_) (fun hc => ?_)
        · exact absurd ((nI_leI (by omega) (by omega)).mp hc) (by omega)
        refine wp_aload_n (i := 0) (q := 31) dX8_goThrough_30 rfl rfl rfl ?_
        refine wm_getA (k := 28) (o := 17) (q := 34) dX8_goThrough_31 ffX8_60 rfl rfl rfl ?_ -- from
        refine wp_iload_n (i := 3) (q := 35) dX8_goThrough_34 rfl rfl rfl ?_
        refine wm_ialdN (q := 36) dX8_goThrough_35 ⟨by decide, by decide, rfl⟩ rfl (by simp only [mlen]; omega) (by decide) rfl ?_
        refine wp_aload_n (i := 0) (q := 37) dX8_goThrough_36 rfl rfl rfl ?_
        refine wm_getA (k := 33) (o := 22) (q := 40) dX8_goThrough_37 ffX8_75 rfl rfl rfl ?_ -- wayPoint
        refine wp_iload_n (i := 2) (q := 41) dX8_goThrough_40 rfl rfl rfl ?_
        refine wm_ialdN (q := 42) dX8_goThrough_41 ⟨by decide, by decide, rfl⟩ rfl (by simp only [mlen]; omega) (by decide) rfl ?_
        rw [e17, e1, h22]
        rw [List.range'_succ] at he
        rw [show srG A0 na np 0 pt xs (k :: List.range' (k + 1) m) cnt = srK A0 np true (fun _ _ c => (c, none)) pt xs (k :: List.range' (k + 1) m) cnt from rfl, srK] at he
        refine wp_icmp_eq (t := 51) (q := 45) dX8_goThrough_42 (by decide) rfl (fun hfr => ?_) (fun hfr => ?_)
        · have hfr : frA A0 k = pt := (nI_eq (by omega) (by omega)).mp hfr
          rw [if_neg (fun q => q hfr)] at he
          refine wp_aload_n (i := 0) (q := 52) dX8_goThrough_51 rfl rfl rfl ?_
          refine wm_getA (k := 35) (o := 24) (q := 55) dX8_goThrough_52 ffX8_81 rfl rfl rfl ?_ -- wayAct
          refine wp_iload_n (i := 2) (q := 56) dX8_goThrough_55 rfl rfl rfl ?_
          refine wp_iload_n (i := 3) (q := 57) dX8_goThrough_56 rfl rfl rfl ?_
          refine wm_iastN (q := 58) dX8_goThrough_57 ⟨by decide, by decide, rfl⟩ rfl (by simp only [mlen]; omega) (by decide) rfl ?_
          refine wp_iload_n (i := 3) (q := 59) dX8_goThrough_58 rfl rfl rfl ?_
          refine wp_aload_n (i := 0) (q := 60) dX8_goThrough_59 rfl rfl rfl ?_
          refine wm_getI (k := 27) (q := 63) dX8_goThrough_60 ffX8_241 rfl rfl ?_ -- acts
          rw [i27]
          refine wp_icmp_ne (t := 72) (q := 66) dX8_goThrough_63 (by decide) rfl (fun hne => ?_) (fun hne => ?_)
          · have hS2 : SC [46] [22, 23, 24] I A I1 (up2 A1 24 at_ (nI k)) := hS.tr (SC.u2 (by decide))
            obtain ⟨hMM, hMA, hag, e19, efr, eto, hM2, hT2, i27, e17, e18⟩ := hSm I1 _ hS2
            refine wp_aload_n (i := 0) (q := 73) dX8_goThrough_72 rfl rfl rfl ?_
            refine wp_iload_n (i := 2) (q := 74) dX8_goThrough_73 rfl rfl rfl ?_
            refine wp_iload_n (i := 3) (q := 75) dX8_goThrough_74 rfl rfl rfl ?_
            refine wp_V (μ' := mX8_leads) (ci := 8) (q := 78) (tX8_leads (d := d - 1) (by omega) hMM hMA (show k < na by omega) (by omega)) dX8_goThrough_75 okX8_leads lkX8_265 mh_obj rfl rfl rfl (Nat.le_of_ble_eq_true rfl) (by omega) rfl (fun rv hx hq => ?_)
            obtain ⟨rfl, A3, rfl, hS3, q22, q23, q23o⟩ := hq
            have eV : ∀ v, ldV (up2 A1 24 at_ (nI k)) k (fun u => up2 A1 24 at_ (nI k) 23 (4 * at_ + u)) v = ldV A0 k (gt_ xs) v := fun v => ldV_congr e19 (by rw [kA_ag hag, efr]) (fun u hu => by rw [← hx, gt_stL (by rw [← hfr]; exact hu), up2_ne (by decide)])
            rw [eto, kA_ag hag, ldG_congr eV]
            rw [eto, kA_ag hag] at q23 q23o
            rw [eto] at q22
            show wp _ _ _ _ _ _ _ _ _ _ [.int (b2 (ldG A0 k (gt_ xs) (kA A0 (toA A0 k))))]
            have hS4 : SC [46] [22, 23, 24] I A I1 A3 := hS2.tr (hS3.mo (by decide) (by decide))
            have r22 : ∀ j, j ≤ at_ → A3 22 j = A1' 22 j := fun j hj => by rw [q22]; simp only [upd, show ¬ j = at_ + 1 by omega, if_false]; rw [up2_ne (by decide)]; exact p22 j hj
            have r23 : ∀ j, j < 4 * at_ + 4 → A3 23 j = A1' 23 j := fun j hj => by rw [q23o j (Or.inl hj), up2_ne (by decide)]; exact p23 j hj
            have r24 : A3 24 = up2 A1 24 at_ (nI k) 24 := hS3.2 24 (by decide)
            have r24k : A3 24 at_ = nI k := by rw [r24]; simp [up2]
            have r24o : ∀ j, j < at_ → A3 24 j = A1' 24 j := fun j hj => by rw [r24, up2_row]; simp only [show ¬ j = at_ by omega, if_false]; exact p24 j hj
            have rx : stL (fun u => A3 23 (4 * (at_ + 1) + u)) (kA A0 (toA A0 k)) = stL (ldV A0 k (gt_ xs)) (kA A0 (toA A0 k)) := stL_congr (fun u hu => by rw [show 4 * (at_ + 1) + u = 4 * at_ + 4 + u by omega, q23 u hu, eV u])
            have rp : A3 22 (at_ + 1) = nI (toA A0 k) := by rw [q22]; simp [upd]
            have head : ∀ (I5 : Nat → Int32) (A5 : Nat → Nat → Int32) (cnt : Nat) (j3 j4 j5 : Option Value), SC [46] [22, 23, 24] I A I5 A5 → I5 46 = nI cnt → (∀ j, j ≤ at_ → A5 22 j = A1' 22 j) → (∀ j, j < 4 * at_ + 4 → A5 23 j = A1' 23 j) → (∀ j, j < at_ → A5 24 j = A1' 24 j) → A5 24 at_ = nI k → srG A0 na np 0 pt xs (List.range' (k + 1) m) cnt = srG A0 na np 0 pt xs (List.range' k0 (na - k0)) cnt0 → wp l mX8_goThrough [] d 0 0 Q (sz, mh b I5 L A5 B g) 9 [some (.ref b), some (.int (nI len)), some (.int (nI at_)), j3, j4, j5] [] := by
              intro I5 A5 cnt j3 j4 j5 hS5 h465 s22 s23 s24 s24k he5
              refine wp_iload_n (i := 2) (q := 10) dX8_goThrough_9 rfl rfl rfl ?_
              refine wp_if_lt (t := 150) (q := 13) dX8_goThrough_10 (by decide) rfl (fun hneg => ?_) (fun hneg => ?_)
              · exact absurd hneg (nI_pos (by omega))
              refine wp_aload_n (i := 0) (q := 14) dX8_goThrough_13 rfl rfl rfl ?_
              refine wm_getA (k := 35) (o := 24) (q := 17) dX8_goThrough_14 ffX8_81 rfl rfl rfl ?_ -- wayAct
              refine wp_iload_n (i := 2) (q := 18) dX8_goThrough_17 rfl rfl rfl ?_
              refine wm_ialdN (q := 19) dX8_goThrough_18 ⟨by decide, by decide, rfl⟩ rfl (by simp only [mlen]; omega) (by decide) rfl ?_
              refine wp_iconst (v := nI 1) (q := 20) dX8_goThrough_19 (by decide) rfl ?_
              refine wp_iadd (q := 21) dX8_goThrough_20 rfl ?_
              refine wp_istore_n (i := 3) (lv' := [_, _, some _, _, _, _]) (q := 22) dX8_goThrough_21 rfl (by decide) rfl rfl ?_
              rw [s24k, nI_add]
              exact ih (k + 1) (by omega) I5 A5 cnt _ _ hS5 h465 s22 s23 s24 he5
            refine wp_istore (lv' := [_, _, _, some _, _, _]) (q := 80) dX8_goThrough_78 (by decide) rfl rfl ?_
            refine wp_iload_n (i := 2) (q := 81) dX8_goThrough_80 rfl rfl rfl ?_
            refine wp_iconst (v := nI 1) (q := 82) dX8_goThrough_81 (by decide) rfl ?_
            refine wp_iadd (q := 83) dX8_goThrough_82 rfl ?_
            refine wp_iload_n (i := 1) (q := 84) dX8_goThrough_83 rfl rfl rfl ?_
            rw [nI_add]
            refine wp_icmp_ne (t := 132) (q := 87) dX8_goThrough_84 (by decide) rfl (fun hlast => ?_) (fun hlast => ?_)
            · exact absurd (by rw [show at_ + 1 = len by omega]) hlast
            rw [if_pos rfl] at he
            refine wp_aload_n (i := 0) (q := 88) dX8_goThrough_87 rfl rfl rfl ?_
            refine wp_dup (q := 89) dX8_goThrough_88 rfl rfl ?_
            refine wm_getI (k := 46) (q := 92) dX8_goThrough_89 ffX8_268 rfl rfl ?_ -- gone
            refine wp_iconst (v := nI 1) (q := 93) dX8_goThrough_92 (by decide) rfl ?_
            refine wp_iadd (q := 94) dX8_goThrough_93 rfl ?_
            rw [h46, nI_add]
            refine wm_putI (k := 46) (q := 97) dX8_goThrough_94 ffX8_268 rfl rfl ?_ -- gone
            refine wp_iload (q := 99) dX8_goThrough_97 rfl rfl ?_
            have hS5 : SC [46] [22, 23, 24] I A (upd I1 46 (nI (cnt + 1))) A3 := hS4.tr (SC.uI (by decide))
            refine wp_if_eq (t := 112) (q := 102) dX8_goThrough_99 (by decide) rfl (fun hgd => ?_) (fun hgd => ?_)
            · rw [if_neg (by rw [b2_eq0.mp hgd]; decide)] at he
              refine wp_iconst (v := (-1)) (q := 113) dX8_goThrough_112 (by decide) rfl ?_
              refine wp_istore (lv' := [_, _, _, _, some _, _]) (q := 115) dX8_goThrough_113 (by decide) rfl rfl ?_
              refine wp_iload (q := 117) dX8_goThrough_115 rfl rfl ?_
              refine wp_if_lt (t := 129) (q := 120) dX8_goThrough_117 (by decide) rfl (fun hlt => ?_) (fun hlt => ?_)
              · refine wp_goto (q := 147) dX8_goThrough_129 (by decide) ?_
                refine wp_goto (q := 9) dX8_goThrough_147 (by decide) ?_
                exact head _ _ (cnt + 1) _ _ _ hS5 (by simp [upd]) r22 r23 r24o r24k he
              · exact absurd (by decide) hlt
            rw [if_pos (b2_ne0.mp hgd)] at he
            obtain ⟨hMM, hMA, hag, e19, efr, eto, hM2, hT2, i27, e17, e18⟩ := hSm _ _ hS5
            refine wp_aload_n (i := 0) (q := 103) dX8_goThrough_102 rfl rfl rfl ?_
            refine wp_iload_n (i := 2) (q := 104) dX8_goThrough_103 rfl rfl rfl ?_
            refine wp_iconst (v := nI 1) (q := 105) dX8_goThrough_104 (by decide) rfl ?_
            refine wp_iadd (q := 106) dX8_goThrough_105 rfl ?_
            rw [nI_add]
            refine wp_Vi (μ' := mX8_broken) (ci := 8) (q := 109) (tX8_broken (A0 := A0) (d := d - 1) (by omega) (by omega) hM2 rp e4 hT2) dX8_goThrough_106 okX8_broken lkX8_271 mh_obj rfl rfl rfl (Nat.le_of_ble_eq_true rfl) (by omega) rfl ?_
            rw [rx]
            cases hbk : brkF A0 np (toA A0 k) (stL (ldV A0 k (gt_ xs)) (kA A0 (toA A0 k))) with
            | none =>
              rw [hbk] at he
              refine wp_goto (q := 113) dX8_goThrough_109 (by decide) ?_
              refine wp_istore (lv' := [_, _, _, _, some _, _]) (q := 115) dX8_goThrough_113 (by decide) rfl rfl ?_
              refine wp_iload (q := 117) dX8_goThrough_115 rfl rfl ?_
              refine wp_if_lt (t := 129) (q := 120) dX8_goThrough_117 (by decide) rfl (fun hlt => ?_) (fun hlt => ?_)
              · refine wp_goto (q := 147) dX8_goThrough_129 (by decide) ?_
                refine wp_goto (q := 9) dX8_goThrough_147 (by decide) ?_
                exact head _ _ (cnt + 1) _ _ _ hS5 (by simp [upd]) r22 r23 r24o r24k he
              · exact absurd (by decide) hlt
            | some c =>
              rw [hbk] at he
              have hc1 := brkF_lt t4 hbk
              refine wp_goto (q := 113) dX8_goThrough_109 (by decide) ?_
              refine wp_istore (lv' := [_, _, _, _, some _, _]) (q := 115) dX8_goThrough_113 (by decide) rfl rfl ?_
              refine wp_iload (q := 117) dX8_goThrough_115 rfl rfl ?_
              refine wp_if_lt (t := 129) (q := 120) dX8_goThrough_117 (by decide) rfl (fun hlt => ?_) (fun hlt => ?_)
              · exact absurd hlt (nI_pos (by omega))
              refine wp_aload_n (i := 0) (q := 121) dX8_goThrough_120 rfl rfl rfl ?_
              refine wp_iload (q := 123) dX8_goThrough_121 rfl rfl ?_
              refine wp_iload_n (i := 1) (q := 124) dX8_goThrough_123 rfl rfl rfl ?_
              refine wp_V (μ' := mX8_note) (ci := 8) (q := 127) (tX8_note (c := c) (len := len) (pt := toA A0 k) (d := d - 1) hlen (by rw [show len = at_ + 1 by omega]; exact rp)) dX8_goThrough_124 okX8_note lkX8_275 mh_obj rfl rfl rfl (Nat.le_of_ble_eq_true rfl) (by omega) rfl (fun rv hx hq => ?_)
              obtain ⟨rfl, I6, A6, rfl, hS6, n41, n42, n43, n30, n31⟩ := hq
              show wp _ _ _ _ _ _ _ _ _ _ []
              refine wp_iconst (v := nI 1) (q := 128) dX8_goThrough_127 (by decide) rfl ?_
              refine wp_zret dX8_goThrough_128 rfl (by first | exact Or.inl rfl | exact Or.inr rfl | exact b2_01 _ | assumption) ?_
              refine hsome (cnt + 1) _ he.symm I6 A6 ⟨(hS5.mo (by decide) (by decide)).tr (hS6.mo (by decide) (by decide)), by rw [hS6.1 46 (by decide)]; simp [upd], n41, n42, n43, ?_, e4, fun j hj => ?_⟩
              · rw [← rx]
                refine stL_congr (fun u hu => ?_)
                have hu : u < kA A0 (toA A0 k) := hu
                rw [n30 u (by omega), show len = at_ + 1 by omega]
              · rw [n31 j hj]
                by_cases e : j = at_
                · subst e
                  rw [r24k]
                  simp [List.getD_eq_getElem?_getD, hpl]
                · rw [r24o j (by omega), hpf' j (by omega)]
                  congr 1
                  simp only [List.getD_eq_getElem?_getD]
                  rw [List.getElem?_append_left (by omega)]
          · exact absurd ((nI_eq (by omega) (by omega)).mp hne) (by omega)
        · have hfr : ¬ frA A0 k = pt := fun q => hfr (by rw [q])
          rw [if_pos hfr] at he
          refine wp_iinc (v := _ + nI 1) (lv' := [_, _, some _, _, _, _]) (q := 48) dX8_goThrough_45 rfl rfl (by decide) rfl rfl ?_
          refine wp_goto (q := 22) dX8_goThrough_48 (by decide) ?_
          rw [nI_add]
          exact ih (k + 1) (by omega) I1 A1 cnt _ _ hS h46 p22 p23 p24 he
    refine wp_iload_n (i := 2) (q := 10) dX8_goThrough_9 rfl rfl rfl ?_
    refine wp_if_lt (t := 150) (q := 13) dX8_goThrough_10 (by decide) rfl (fun hneg => ?_) (fun hneg => ?_)
    · exact absurd hneg (nI_pos (by omega))
    refine wp_aload_n (i := 0) (q := 14) dX8_goThrough_13 rfl rfl rfl ?_
    refine wm_getA (k := 35) (o := 24) (q := 17) dX8_goThrough_14 ffX8_81 rfl rfl rfl ?_ -- wayAct
    refine wp_iload_n (i := 2) (q := 18) dX8_goThrough_17 rfl rfl rfl ?_
    refine wm_ialdN (q := 19) dX8_goThrough_18 ⟨by decide, by decide, rfl⟩ rfl (by simp only [mlen]; omega) (by decide) rfl ?_
    refine wp_iconst (v := nI 1) (q := 20) dX8_goThrough_19 (by decide) rfl ?_
    refine wp_iadd (q := 21) dX8_goThrough_20 rfl ?_
    refine wp_istore_n (i := 3) (lv' := [_, _, some _, _, _, _]) (q := 22) dX8_goThrough_21 rfl (by decide) rfl rfl ?_
    rw [hnx]
    exact W22 (na - k0) k0 (by omega) I1' A1' cnt0 _ _ hS1 h46' (fun _ _ => rfl) (fun _ _ => rfl) (fun _ _ => rfl) rfl
  | succ left ihL =>
    intro at_ hat k0 I1' A1' cnt0 pt xs pref j3 j4 j5 hk0 hS1 h46' h22' hpt hx' hpl hpf' hnx hnone hsome
    have k4 := (hP pt (by omega)).2.1
    have W22 : ∀ m k, k + m = na → ∀ (I1 : Nat → Int32) (A1 : Nat → Nat → Int32) (cnt : Nat) (j4 j5 : Option Value), SC [46] [22, 23, 24] I A I1 A1 → I1 46 = nI cnt → (∀ j, j ≤ at_ → A1 22 j = A1' 22 j) → (∀ j, j < 4 * at_ + 4 → A1 23 j = A1' 23 j) → (∀ j, j < at_ → A1 24 j = A1' 24 j) → srG A0 na np (left + 1) pt xs (List.range' k m) cnt = srG A0 na np (left + 1) pt xs (List.range' k0 (na - k0)) cnt0 → wp l mX8_goThrough [] d 0 0 Q (sz, mh b I1 L A1 B g) 22 [some (.ref b), some (.int (nI len)), some (.int (nI at_)), some (.int (nI k)), j4, j5] [] := by
      intro m
      induction m with
      | zero =>
        intro k hk I1 A1 cnt j4 j5 hS h46 p22 p23 p24 he
        obtain ⟨hMM, hMA, hag, e19, efr, eto, hM2, hT2, i27, e17, e18⟩ := hSm I1 A1 hS
        have hk : k = na := by omega
        subst hk
        refine wp_iload_n (i := 3) (q := 23) dX8_goThrough_22 rfl rfl rfl ?_
        refine wp_aload_n (i := 0) (q := 24) dX8_goThrough_23 rfl rfl rfl ?_
        refine wm_getI (k := 27) (q := 27) dX8_goThrough_24 ffX8_241 rfl rfl ?_ -- acts
        rw [i27]
        refine wp_icmp_ge (t := 51) (q := 30) dX8_goThrough_27 (by decide) rfl (fun hc => ?_) (fun hc => ?_)
        · refine wp_aload_n (i := 0) (q := 52) dX8_goThrough_51 rfl rfl rfl ?_
          refine wm_getA (k := 35) (o := 24) (q := 55) dX8_goThrough_52 ffX8_81 rfl rfl rfl ?_ -- wayAct
          refine wp_iload_n (i := 2) (q := 56) dX8_goThrough_55 rfl rfl rfl ?_
          refine wp_iload_n (i := 3) (q := 57) dX8_goThrough_56 rfl rfl rfl ?_
          refine wm_iastN (q := 58) dX8_goThrough_57 ⟨by decide, by decide, rfl⟩ rfl (by simp only [mlen]; omega) (by decide) rfl ?_
          refine wp_iload_n (i := 3) (q := 59) dX8_goThrough_58 rfl rfl rfl ?_
          refine wp_aload_n (i := 0) (q := 60) dX8_goThrough_59 rfl rfl rfl ?_
          refine wm_getI (k := 27) (q := 63) dX8_goThrough_60 ffX8_241 rfl rfl ?_ -- acts
          rw [i27]
          refine wp_icmp_ne (t := 72) (q := 66) dX8_goThrough_63 (by decide) rfl (fun hne => ?_) (fun hne => ?_)
          · exact absurd rfl hne
          · refine wp_iinc (v := _ + (-1)) (lv' := [_, some _, _, _, _, _]) (q := 69) dX8_goThrough_66 rfl rfl (by decide) rfl rfl ?_
            refine wp_goto (q := 9) dX8_goThrough_69 (by decide) ?_
            exact hnone cnt he.symm I1 _ _ _ _ (hS.tr (SC.u2 (by decide))) h46 (fun j hj => by rw [up2_ne (by decide)]; exact p22 j hj) (fun j hj => by rw [up2_ne (by decide)]; exact p23 j hj) (fun j hj => by rw [up2_row]; simp only [show ¬ j = at_ by omega, if_false]; exact p24 j hj)
        · exact absurd ((nI_leI (by omega) (by omega)).mpr (by omega)) hc
      | succ m ih =>
        intro k hk I1 A1 cnt j4 j5 hS h46 p22 p23 p24 he
        obtain ⟨hMM, hMA, hag, e19, efr, eto, hM2, hT2, i27, e17, e18⟩ := hSm I1 A1 hS
        obtain ⟨e1, e2, e3, e4⟩ := a3 k (by omega)
        have f4 := (hP (frA A0 k) (by omega)).2.1
        have t4 := (hP (toA A0 k) (by omega)).2.1
        have h22 : A1 22 at_ = nI pt := (p22 at_ (by omega)).trans h22'
        have hx : stL (fun u => A1 23 (4 * at_ + u)) (kA A0 pt) = xs := by rw [← hx']; exact stL_congr (fun u hu => p23 _ (by omega))
        refine wp_iload_n (i := 3) (q := 23) dX8_goThrough_22 rfl rfl rfl ?_
        refine wp_aload_n (i := 0) (q := 24) dX8_goThrough_23 rfl rfl rfl ?_
        refine wm_getI (k := 27) (q := 27) dX8_goThrough_24 ffX8_241 rfl rfl ?_ -- acts
        rw [i27]
        refine wp_icmp_ge (t := 51) (q := 30) dX8_goThrough_27 (by decide) rfl (fun hc => ?_) (fun hc => ?_)
        · exact absurd ((nI_leI (by omega) (by omega)).mp hc) (by omega)
        refine wp_aload_n (i := 0) (q := 31) dX8_goThrough_30 rfl rfl rfl ?_
        refine wm_getA (k := 28) (o := 17) (q := 34) dX8_goThrough_31 ffX8_60 rfl rfl rfl ?_ -- from
        refine wp_iload_n (i := 3) (q := 35) dX8_goThrough_34 rfl rfl rfl ?_
        refine wm_ialdN (q := 36) dX8_goThrough_35 ⟨by decide, by decide, rfl⟩ rfl (by simp only [mlen]; omega) (by decide) rfl ?_
        refine wp_aload_n (i := 0) (q := 37) dX8_goThrough_36 rfl rfl rfl ?_
        refine wm_getA (k := 33) (o := 22) (q := 40) dX8_goThrough_37 ffX8_75 rfl rfl rfl ?_ -- wayPoint
        refine wp_iload_n (i := 2) (q := 41) dX8_goThrough_40 rfl rfl rfl ?_
        refine wm_ialdN (q := 42) dX8_goThrough_41 ⟨by decide, by decide, rfl⟩ rfl (by simp only [mlen]; omega) (by decide) rfl ?_
        rw [e17, e1, h22]
        rw [List.range'_succ] at he
        rw [show srG A0 na np (left + 1) pt xs (k :: List.range' (k + 1) m) cnt = srK A0 np false (srA A0 na np left) pt xs (k :: List.range' (k + 1) m) cnt from rfl, srK] at he
        refine wp_icmp_eq (t := 51) (q := 45) dX8_goThrough_42 (by decide) rfl (fun hfr => ?_) (fun hfr => ?_)
        · have hfr : frA A0 k = pt := (nI_eq (by omega) (by omega)).mp hfr
          rw [if_neg (fun q => q hfr)] at he
          refine wp_aload_n (i := 0) (q := 52) dX8_goThrough_51 rfl rfl rfl ?_
          refine wm_getA (k := 35) (o := 24) (q := 55) dX8_goThrough_52 ffX8_81 rfl rfl rfl ?_ -- wayAct
          refine wp_iload_n (i := 2) (q := 56) dX8_goThrough_55 rfl rfl rfl ?_
          refine wp_iload_n (i := 3) (q := 57) dX8_goThrough_56 rfl rfl rfl ?_
          refine wm_iastN (q := 58) dX8_goThrough_57 ⟨by decide, by decide, rfl⟩ rfl (by simp only [mlen]; omega) (by decide) rfl ?_
          refine wp_iload_n (i := 3) (q := 59) dX8_goThrough_58 rfl rfl rfl ?_
          refine wp_aload_n (i := 0) (q := 60) dX8_goThrough_59 rfl rfl rfl ?_
          refine wm_getI (k := 27) (q := 63) dX8_goThrough_60 ffX8_241 rfl rfl ?_ -- acts
          rw [i27]
          refine wp_icmp_ne (t := 72) (q := 66) dX8_goThrough_63 (by decide) rfl (fun hne => ?_) (fun hne => ?_)
          · have hS2 : SC [46] [22, 23, 24] I A I1 (up2 A1 24 at_ (nI k)) := hS.tr (SC.u2 (by decide))
            obtain ⟨hMM, hMA, hag, e19, efr, eto, hM2, hT2, i27, e17, e18⟩ := hSm I1 _ hS2
            refine wp_aload_n (i := 0) (q := 73) dX8_goThrough_72 rfl rfl rfl ?_
            refine wp_iload_n (i := 2) (q := 74) dX8_goThrough_73 rfl rfl rfl ?_
            refine wp_iload_n (i := 3) (q := 75) dX8_goThrough_74 rfl rfl rfl ?_
            refine wp_V (μ' := mX8_leads) (ci := 8) (q := 78) (tX8_leads (d := d - 1) (by omega) hMM hMA (show k < na by omega) (by omega)) dX8_goThrough_75 okX8_leads lkX8_265 mh_obj rfl rfl rfl (Nat.le_of_ble_eq_true rfl) (by omega) rfl (fun rv hx hq => ?_)
            obtain ⟨rfl, A3, rfl, hS3, q22, q23, q23o⟩ := hq
            have eV : ∀ v, ldV (up2 A1 24 at_ (nI k)) k (fun u => up2 A1 24 at_ (nI k) 23 (4 * at_ + u)) v = ldV A0 k (gt_ xs) v := fun v => ldV_congr e19 (by rw [kA_ag hag, efr]) (fun u hu => by rw [← hx, gt_stL (by rw [← hfr]; exact hu), up2_ne (by decide)])
            rw [eto, kA_ag hag, ldG_congr eV]
            rw [eto, kA_ag hag] at q23 q23o
            rw [eto] at q22
            show wp _ _ _ _ _ _ _ _ _ _ [.int (b2 (ldG A0 k (gt_ xs) (kA A0 (toA A0 k))))]
            have hS4 : SC [46] [22, 23, 24] I A I1 A3 := hS2.tr (hS3.mo (by decide) (by decide))
            have r22 : ∀ j, j ≤ at_ → A3 22 j = A1' 22 j := fun j hj => by rw [q22]; simp only [upd, show ¬ j = at_ + 1 by omega, if_false]; rw [up2_ne (by decide)]; exact p22 j hj
            have r23 : ∀ j, j < 4 * at_ + 4 → A3 23 j = A1' 23 j := fun j hj => by rw [q23o j (Or.inl hj), up2_ne (by decide)]; exact p23 j hj
            have r24 : A3 24 = up2 A1 24 at_ (nI k) 24 := hS3.2 24 (by decide)
            have r24k : A3 24 at_ = nI k := by rw [r24]; simp [up2]
            have r24o : ∀ j, j < at_ → A3 24 j = A1' 24 j := fun j hj => by rw [r24, up2_row]; simp only [show ¬ j = at_ by omega, if_false]; exact p24 j hj
            have rx : stL (fun u => A3 23 (4 * (at_ + 1) + u)) (kA A0 (toA A0 k)) = stL (ldV A0 k (gt_ xs)) (kA A0 (toA A0 k)) := stL_congr (fun u hu => by rw [show 4 * (at_ + 1) + u = 4 * at_ + 4 + u by omega, q23 u hu, eV u])
            have rp : A3 22 (at_ + 1) = nI (toA A0 k) := by rw [q22]; simp [upd]
            have head : ∀ (I5 : Nat → Int32) (A5 : Nat → Nat → Int32) (cnt : Nat) (j3 j4 j5 : Option Value), SC [46] [22, 23, 24] I A I5 A5 → I5 46 = nI cnt → (∀ j, j ≤ at_ → A5 22 j = A1' 22 j) → (∀ j, j < 4 * at_ + 4 → A5 23 j = A1' 23 j) → (∀ j, j < at_ → A5 24 j = A1' 24 j) → A5 24 at_ = nI k → srG A0 na np (left + 1) pt xs (List.range' (k + 1) m) cnt = srG A0 na np (left + 1) pt xs (List.range' k0 (na - k0)) cnt0 → wp l mX8_goThrough [] d 0 0 Q (sz, mh b I5 L A5 B g) 9 [some (.ref b), some (.int (nI len)), some (.int (nI at_)), j3, j4, j5] [] := by
              intro I5 A5 cnt j3 j4 j5 hS5 h465 s22 s23 s24 s24k he5
              refine wp_iload_n (i := 2) (q := 10) dX8_goThrough_9 rfl rfl rfl ?_
              refine wp_if_lt (t := 150) (q := 13) dX8_goThrough_10 (by decide) rfl (fun hneg => ?_) (fun hneg => ?_)
              · exact absurd hneg (nI_pos (by omega))
              refine wp_aload_n (i := 0) (q := 14) dX8_goThrough_13 rfl rfl rfl ?_
              refine wm_getA (k := 35) (o := 24) (q := 17) dX8_goThrough_14 ffX8_81 rfl rfl rfl ?_ -- wayAct
              refine wp_iload_n (i := 2) (q := 18) dX8_goThrough_17 rfl rfl rfl ?_
              refine wm_ialdN (q := 19) dX8_goThrough_18 ⟨by decide, by decide, rfl⟩ rfl (by simp only [mlen]; omega) (by decide) rfl ?_
              refine wp_iconst (v := nI 1) (q := 20) dX8_goThrough_19 (by decide) rfl ?_
              refine wp_iadd (q := 21) dX8_goThrough_20 rfl ?_
              refine wp_istore_n (i := 3) (lv' := [_, _, some _, _, _, _]) (q := 22) dX8_goThrough_21 rfl (by decide) rfl rfl ?_
              rw [s24k, nI_add]
              exact ih (k + 1) (by omega) I5 A5 cnt _ _ hS5 h465 s22 s23 s24 he5
            refine wp_istore (lv' := [_, _, _, some _, _, _]) (q := 80) dX8_goThrough_78 (by decide) rfl rfl ?_
            refine wp_iload_n (i := 2) (q := 81) dX8_goThrough_80 rfl rfl rfl ?_
            refine wp_iconst (v := nI 1) (q := 82) dX8_goThrough_81 (by decide) rfl ?_
            refine wp_iadd (q := 83) dX8_goThrough_82 rfl ?_
            refine wp_iload_n (i := 1) (q := 84) dX8_goThrough_83 rfl rfl rfl ?_
            rw [nI_add]
            refine wp_icmp_ne (t := 132) (q := 87) dX8_goThrough_84 (by decide) rfl (fun hlast => ?_) (fun hlast => ?_)
            · have hxx : True := trivial
              rw [if_neg (by decide)] at he
              refine wp_iload (q := 134) dX8_goThrough_132 rfl rfl ?_
              refine wp_if_eq (t := 147) (q := 137) dX8_goThrough_134 (by decide) rfl (fun hgd => ?_) (fun hgd => ?_)
              · rw [if_neg (by rw [b2_eq0.mp hgd]; decide)] at he
                refine wp_goto (q := 9) dX8_goThrough_147 (by decide) ?_
                exact head _ _ cnt _ _ _ hS4 h46 r22 r23 r24o r24k he
              rw [if_pos (b2_ne0.mp hgd)] at he
              refine wp_iinc (v := _ + nI 1) (lv' := [_, some _, _, _, _, _]) (q := 140) dX8_goThrough_137 rfl rfl (by decide) rfl rfl ?_
              refine wp_aload_n (i := 0) (q := 141) dX8_goThrough_140 rfl rfl rfl ?_
              refine wm_getA (k := 35) (o := 24) (q := 144) dX8_goThrough_141 ffX8_81 rfl rfl rfl ?_ -- wayAct
              refine wp_iload_n (i := 2) (q := 145) dX8_goThrough_144 rfl rfl rfl ?_
              refine wp_iconst (v := (-1)) (q := 146) dX8_goThrough_145 (by decide) rfl ?_
              rw [nI_add]
              refine wm_iastN (q := 147) dX8_goThrough_146 ⟨by decide, by decide, rfl⟩ rfl (by simp only [mlen]; omega) (by decide) rfl ?_
              refine wp_goto (q := 9) dX8_goThrough_147 (by decide) ?_
              rw [srA_G] at he
              have hS7 : SC [46] [22, 23, 24] I A I1 (up2 A3 24 (at_ + 1) (-1)) := hS4.tr (SC.u2 (by decide))
              refine ihL (at_ + 1) (by omega) 0 I1 _ cnt (toA A0 k) _ (pref ++ [k]) _ _ _ (by omega) hS7 h46 (by rw [up2_ne (by decide)]; exact rp) e4 rfl (by simp [hpl]) ?_ (by simp [up2]; decide) ?_ ?_
              · intro j hj
                rw [up2_row]
                simp only [show ¬ j = at_ + 1 by omega, if_false]
                by_cases e : j = at_
                · subst e
                  rw [r24k]
                  simp [List.getD_eq_getElem?_getD, hpl]
                · rw [r24o j (by omega), hpf' j (by omega)]
                  congr 1
                  simp only [List.getD_eq_getElem?_getD]
                  rw [List.getElem?_append_left (by omega)]
              · intro c' hres I8 A8 y3 y4 y5 hS8 h468 z22 z23 z24
                rw [Nat.sub_zero, show stL (fun u => up2 A3 24 (at_ + 1) (-1) 23 (4 * (at_ + 1) + u)) (kA A0 (toA A0 k)) = stL (ldV A0 k (gt_ xs)) (kA A0 (toA A0 k)) by rw [← rx]; exact stL_congr (fun u hu => by rw [up2_ne (by decide)])] at hres
                rw [hres] at he
                rw [pk_m1]
                exact head I8 A8 c' _ _ _ hS8 h468 (fun j hj => by rw [z22 j (by omega), up2_ne (by decide)]; exact r22 j hj) (fun j hj => by rw [z23 j (by omega), up2_ne (by decide)]; exact r23 j hj) (fun j hj => by rw [z24 j (by omega), up2_row]; simp only [show ¬ j = at_ + 1 by omega, if_false]; exact r24o j hj) (by rw [z24 at_ (by omega), up2_row]; simp only [show ¬ at_ = at_ + 1 by omega, if_false]; exact r24k) he
              · intro c' r hres I8 A8 hF
                rw [Nat.sub_zero, show stL (fun u => up2 A3 24 (at_ + 1) (-1) 23 (4 * (at_ + 1) + u)) (kA A0 (toA A0 k)) = stL (ldV A0 k (gt_ xs)) (kA A0 (toA A0 k)) by rw [← rx]; exact stL_congr (fun u hu => by rw [up2_ne (by decide)])] at hres
                rw [hres] at he
                rw [List.append_assoc] at hF
                exact hsome c' (k :: r.1, r.2) he.symm I8 A8 hF
            · exact absurd ((nI_eq (by omega) (by omega)).mp hlast) (by omega)
          · exact absurd ((nI_eq (by omega) (by omega)).mp hne) (by omega)
        · have hfr : ¬ frA A0 k = pt := fun q => hfr (by rw [q])
          rw [if_pos hfr] at he
          refine wp_iinc (v := _ + nI 1) (lv' := [_, _, some _, _, _, _]) (q := 48) dX8_goThrough_45 rfl rfl (by decide) rfl rfl ?_
          refine wp_goto (q := 22) dX8_goThrough_48 (by decide) ?_
          rw [nI_add]
          exact ih (k + 1) (by omega) I1 A1 cnt _ _ hS h46 p22 p23 p24 he
    refine wp_iload_n (i := 2) (q := 10) dX8_goThrough_9 rfl rfl rfl ?_
    refine wp_if_lt (t := 150) (q := 13) dX8_goThrough_10 (by decide) rfl (fun hneg => ?_) (fun hneg => ?_)
    · exact absurd hneg (nI_pos (by omega))
    refine wp_aload_n (i := 0) (q := 14) dX8_goThrough_13 rfl rfl rfl ?_
    refine wm_getA (k := 35) (o := 24) (q := 17) dX8_goThrough_14 ffX8_81 rfl rfl rfl ?_ -- wayAct
    refine wp_iload_n (i := 2) (q := 18) dX8_goThrough_17 rfl rfl rfl ?_
    refine wm_ialdN (q := 19) dX8_goThrough_18 ⟨by decide, by decide, rfl⟩ rfl (by simp only [mlen]; omega) (by decide) rfl ?_
    refine wp_iconst (v := nI 1) (q := 20) dX8_goThrough_19 (by decide) rfl ?_
    refine wp_iadd (q := 21) dX8_goThrough_20 rfl ?_
    refine wp_istore_n (i := 3) (lv' := [_, _, some _, _, _, _]) (q := 22) dX8_goThrough_21 rfl (by decide) rfl rfl ?_
    rw [hnx]
    exact W22 (na - k0) k0 (by omega) I1' A1' cnt0 _ _ hS1 h46' (fun _ _ => rfl) (fun _ _ => rfl) (fun _ _ => rfl) rfl
end M13
