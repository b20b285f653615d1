/-! THE REFERENCE: goThrough, search -/
def FB (A0 : Nat → Nat → Int32) (np len : Nat) (r : sR_) (I' : Nat → Int32) (A' : Nat → Nat → Int32) : Prop := I' 41 = nI r.2.2.2 ∧ I' 42 = nI r.2.1 ∧ I' 43 = nI len ∧ stL (A' 30) (kA A0 r.2.1) = r.2.2.1 ∧ r.2.1 < np ∧ ∀ k, k < len → A' 31 k = nI (r.1.getD k 0)
def gtQ (sz b : Nat) (L : Int64) (B : Nat → Nat → Int64) (g : Nat → Option aE) (A0 : Nat → Nat → Int32) (np len : Nat) (I : Nat → Int32) (A : Nat → Nat → Int32) (R : Nat × Option sR_) (rv : Option Value) (h' : aH) : Prop := ∃ I' A', h' = (sz, mh b I' L A' B g) ∧ match R with
  | (c', none) => rv = some (.int (b2 false)) ∧ SC [46] [22, 23, 24] I A I' A' ∧ I' 46 = nI c' ∧ A' 22 0 = A 22 0 ∧ ∀ j, j < 4 → A' 23 j = A 23 j
  | (c', some r) => rv = some (.int (b2 true)) ∧ SC [41, 42, 43, 46] [22, 23, 24, 30, 31] I A I' A' ∧ I' 46 = nI c' ∧ FB A0 np len r I' A'
def srN (A : Nat → Nat → Int32) (na np pt : Nat) (xs : List Int32) : Nat → Nat → Nat → Option (Nat × Nat × sR_)
  | 0, _, _ => none
  | m + 1, left, cnt => match srA A na np left pt xs cnt with
    | (c', some r) => some (c', left + 1, r)
    | (c', none) => srN A na np pt xs m (left + 1) c'
def srT (A : Nat → Nat → Int32) (na np n pt : Nat) (xs : List Int32) : Option (Nat × Nat × sR_) := match brkF A np pt xs with
  | some c => some (1, 0, ([], pt, xs, c))
  | none => srN A na np pt xs n 0 1
def seQ (sz b : Nat) (L : Int64) (B : Nat → Nat → Int64) (g : Nat → Option aE) (np : Nat) (I : Nat → Int32) (A : Nat → Nat → Int32) (R : Option (Nat × Nat × sR_)) (rv : Option Value) (h' : aH) : Prop := ∃ I' A', h' = (sz, mh b I' L A' B g) ∧ match R with
  | none => rv = some (.int (-9)) ∧ SC [7, 9, 46] [7, 8, 22, 23, 24, 25, 26, 27, 28, 29] I A I' A'
  | some (c', len, r) => rv = some (.int (nI c')) ∧ SC [7, 9, 41, 42, 43, 46] [7, 8, 22, 23, 24, 25, 26, 27, 28, 29, 30, 31] I A I' A' ∧ len ≤ 5 ∧ r.2.2.2 < 1000 ∧ FB A np len r I' A'
theorem srK_code {A : Nat → Nat → Int32} {np : Nat} {last : Bool} {f : Nat → List Int32 → Nat → Nat × Option sR_} {pt : Nat} {xs : List Int32} (hk : ∀ p, p < np → kA A p ≤ 4) (hf : ∀ pt xs c c' r, pt < np → f pt xs c = (c', some r) → r.2.2.2 < 1000) : ∀ (ks : List Nat) (cnt c' : Nat) (r : sR_), (∀ k ∈ ks, toA A k < np) → srK A np last f pt xs ks cnt = (c', some r) → r.2.2.2 < 1000
  | [], cnt, c', r, _, h => by simp [srK] at h
  | k :: ks, cnt, c', r, ht, h => by
    have ih := fun cnt => srK_code (last := last) (f := f) (pt := pt) (xs := xs) hk hf ks cnt c' r (fun k hk => ht k (List.mem_cons_of_mem _ hk))
    have htk := ht k List.mem_cons_self
    rw [srK] at h
    split at h
    · exact ih _ h
    · split at h
      · split at h
        · split at h
          · next c hc =>
            cases h
            exact brkF_lt (hk _ htk) hc
          · exact ih _ h
        · exact ih _ h
      · split at h
        · split at h
          · next cnt2 r2 hr =>
            cases h
            exact (hf _ _ _ _ r2 htk hr : r2.2.2.2 < 1000)
          · exact ih _ h
        · exact ih _ h
theorem srA_code {A : Nat → Nat → Int32} {na np : Nat} (hk : ∀ p, p < np → kA A p ≤ 4) (ht : ∀ a, a < na → toA A a < np) : ∀ left pt xs cnt c' r, srA A na np left pt xs cnt = (c', some r) → r.2.2.2 < 1000
  | 0, pt, xs, cnt, c', r, h => srK_code hk (fun _ _ _ _ _ _ h => by cases h) _ _ _ _ (fun k hk => ht k (by have := List.mem_range'_1.mp hk; omega)) h
  | left + 1, pt, xs, cnt, c', r, h => srK_code hk (fun pt xs c c' r _ h => srA_code hk ht left pt xs c c' r h) _ _ _ _ (fun k hk => ht k (by have := List.mem_range'_1.mp hk; omega)) h
section M14
variable {l : Launch} {d sz b np na : Nat} {I : Nat → Int32} {L : Int64} {A A0 : Nat → Nat → Int32} {B : Nat → Nat → Int64} {g : Nat → Option aE}
theorem tX8_goThrough {left pt cnt : Nat} {xs : List Int32} (hd : 3 ≤ d) (hl : left < 5) (hM : MM I A0 np) (hA : MA I A0 np na) (hE : ag A0 A ∧ A 17 = A0 17 ∧ A 18 = A0 18 ∧ A 19 = A0 19) (hT : TT A0 np A) (h46 : I 46 = nI cnt) (h22 : A 22 0 = nI pt) (hpt : pt < np) (hx : stL (A 23) (kA A0 pt) = xs) : mt l mX8_goThrough d 0 0 [.ref b, .int (nI (left + 1))] (sz, mh b I L A B g) (gtQ sz b L B g A0 np (left + 1) I A (srA A0 na np left pt xs cnt)) := by
  have hT' : TT A0 np (up2 A 24 0 (-1)) := fun p hp => ⟨by rw [up2_ne (by decide)]; exact (hT p hp).1, fun k c hk => TD_of ((hT p hp).2 k c hk) (by rw [up2_ne (by decide)]) (by rw [up2_ne (by decide)]) (by rw [up2_ne (by decide)]) (by rw [up2_ne (by decide)])⟩
  obtain ⟨⟨g1, g2, g3, g4, g5, g6⟩, g17, g18, g19⟩ := id hE
  refine mt_in (lv := [_, _, _, _, _, _]) (by decide) (Nat.le_of_ble_eq_true rfl) rfl ?_
  refine wp_iconst (v := nI 0) (q := 1) dX8_goThrough_0 (by decide) rfl ?_
  refine wp_istore_n (i := 2) (lv' := [_, some _, _, _, _, _]) (q := 2) dX8_goThrough_1 rfl (by decide) rfl rfl ?_
  refine wp_aload_n (i := 0) (q := 3) dX8_goThrough_2 rfl rfl rfl ?_
  refine wm_getA (k := 35) (o := 24) (q := 6) dX8_goThrough_3 ffX8_81 rfl rfl rfl ?_ -- wayAct
  refine wp_iconst (v := nI 0) (q := 7) dX8_goThrough_6 (by decide) rfl ?_
  refine wp_iconst (v := (-1)) (q := 8) dX8_goThrough_7 (by decide) rfl ?_
  refine wm_iastN (q := 9) dX8_goThrough_8 ⟨by decide, by decide, rfl⟩ rfl (by simp only [mlen]; omega) (by decide) rfl ?_
  refine goL (A := up2 A 24 0 (-1)) hd hM hA ⟨⟨by rw [up2_ne (by decide)]; exact g1, by rw [up2_ne (by decide)]; exact g2, by rw [up2_ne (by decide)]; exact g3, by rw [up2_ne (by decide)]; exact g4, by rw [up2_ne (by decide)]; exact g5, by rw [up2_ne (by decide)]; exact g6⟩, by rw [up2_ne (by decide)]; exact g17, by rw [up2_ne (by decide)]; exact g18, by rw [up2_ne (by decide)]; exact g19⟩ hT' (len := left + 1) (by omega) left 0 (by omega) 0 I _ cnt pt xs [] _ _ _ (by omega) SC.rf h46 (by rw [up2_ne (by decide)]; exact h22) hpt (by rw [← hx]; exact stL_congr (fun u hu => by rw [up2_ne (by decide), Nat.mul_zero, Nat.zero_add])) rfl (fun j hj => by omega) (by simp [up2]; decide) ?_ ?_
  · intro c' hres I2 A2 y3 y4 y5 hS2 h462 z22 z23 z24
    rw [Nat.sub_zero, ← srA_G] at hres
    rw [hres]
    refine wp_iload_n (i := 2) (q := 10) dX8_goThrough_9 rfl rfl rfl ?_
    refine wp_if_lt (t := 150) (q := 13) dX8_goThrough_10 (by decide) rfl (fun hneg => ?_) (fun hneg => ?_)
    · refine wp_iconst (v := nI 0) (q := 151) dX8_goThrough_150 (by decide) rfl ?_
      refine wp_zret dX8_goThrough_151 rfl (by first | exact Or.inl rfl | exact Or.inr rfl | exact b2_01 _ | assumption) ?_
      exact ⟨I2, A2, rfl, rfl, (SC.u2 (by decide)).tr hS2, h462, by rw [z22 0 (by omega), up2_ne (by decide)], fun j hj => by rw [z23 j (by omega), up2_ne (by decide)]⟩
    · exact absurd (by decide) hneg
  · intro c' r hres I2 A2 hF
    rw [Nat.sub_zero, ← srA_G] at hres
    rw [hres]
    rw [List.nil_append] at hF
    exact ⟨I2, A2, rfl, rfl, (SC.u2 (by decide)).tr hF.1, hF.2.1, hF.2.2⟩
theorem tX8_search {n : Int32} (hd : 8 ≤ d) (hM : MM I A np) (hA : MA I A np na) (hSt : MSt I np) : mt l mX8_search d 0 0 [.ref b, .int n] (sz, mh b I L A B g) (fun rv h' =>
    (ix 6 n = false ∧ rv = some (.int (-2)) ∧ h' = (sz, mh b I L A B g)) ∨ (ix 6 n = true ∧ I 25 < 0 ∧ rv = some (.int (-3)) ∧ h' = (sz, mh b I L A B g)) ∨
    (ix 6 n = true ∧ ¬ I 25 < 0 ∧ seQ sz b L B g np I A (srT A na np n.toNatClampNeg (I 25).toNatClampNeg (stL (A 16) (kA A (I 25).toNatClampNeg))) rv h')) := by
  have hM0 := hM
  have hA0 := hA
  obtain ⟨hn, h0, hP, -⟩ := hM
  obtain ⟨a1, a2, a3⟩ := hA
  refine mt_in (lv := [_, _, _, _]) (by decide) (Nat.le_of_ble_eq_true rfl) rfl ?_
  refine wp_iload_n (i := 1) (q := 1) dX8_search_0 rfl rfl rfl ?_
  refine wp_iconst (v := nI 0) (q := 2) dX8_search_1 (by decide) rfl ?_
  refine wp_iconst (v := nI 5) (q := 3) dX8_search_2 (by decide) rfl ?_
  refine wp_Si (μ' := mX8_in) (q := 6) (tX8_in (d := d - 1)) dX8_search_3 okX8_in lkX8_115 rfl rfl (Nat.le_of_ble_eq_true rfl) (by omega) rfl ?_
  rw [inB_le (by decide)]
  refine wp_if_ne (t := 12) (q := 9) dX8_search_6 (by decide) rfl (fun hn6 => ?_) (fun hn6 => ?_)
  · have hn6 : ix 6 n = true := b2_ne0.mp hn6
    refine wp_aload_n (i := 0) (q := 13) dX8_search_12 rfl rfl rfl ?_
    refine wm_getI (k := 25) (q := 16) dX8_search_13 ffX8_109 rfl rfl ?_ -- startAt
    refine wp_if_ge (t := 22) (q := 19) dX8_search_16 (by decide) rfl (fun hs => ?_) (fun hs => ?_)
    · have hs : ¬ I 25 < 0 := Int32.not_lt.mpr hs
      obtain ⟨s1, s2⟩ := hSt.resolve_left hs
      obtain ⟨n, hn5, rfl⟩ := ix_of hn6 (by decide)
      rw [nI_clamp (by omega)]
      generalize hst : (I 25).toNatClampNeg = st at s1 s2 ⊢
      have k4 := (hP st (by omega)).2.1
      refine wp_aload_n (i := 0) (q := 23) dX8_search_22 rfl rfl rfl ?_
      refine wp_V (μ' := mX8_noteTold) (ci := 8) (q := 26) (tX8_noteTold (d := d - 1) (by omega) hM0) dX8_search_23 okX8_noteTold lkX8_278 mh_obj rfl rfl rfl (Nat.le_of_ble_eq_true rfl) (by omega) rfl (fun rv hx hq => ?_)
      obtain ⟨rfl, I1, A1, rfl, hS1, hT1⟩ := hq
      refine wp_aload_n (i := 0) (q := 27) dX8_search_26 rfl rfl rfl ?_
      refine wp_V (μ' := mX8_begin) (ci := 8) (q := 30) (tX8_begin (d := d - 1)) dX8_search_27 okX8_begin lkX8_281 mh_obj rfl rfl rfl (Nat.le_of_ble_eq_true rfl) (by omega) rfl (fun rv hx hq => ?_)
      obtain ⟨rfl, A2, rfl, hS2, w22, w23⟩ := hq
      have hS12 : SC [7, 9] [7, 8, 22, 23, 25, 26, 27, 28, 29] I A I1 A2 := (hS1.mo (by decide) (by decide)).tr (hS2.mo (by decide) (by decide))
      have hT2 : TT A np A2 := fun p hp => ⟨by rw [hS2.2 25 (by decide)]; exact (hT1 p hp).1, fun k c hk => TD_of ((hT1 p hp).2 k c hk) (by rw [hS2.2 26 (by decide)]) (by rw [hS2.2 27 (by decide)]) (by rw [hS2.2 28 (by decide)]) (by rw [hS2.2 29 (by decide)])⟩
      have e22 : A2 22 0 = nI st := by rw [w22, hS1.1 25 (by decide)]; exact s1
      have ex : stL (A2 23) (kA A st) = stL (A 16) (kA A st) := stL_congr (fun u hu => by rw [w23 u (by omega), hS1.2 16 (by decide)])
      have hMM : ∀ I3 : Nat → Int32, (∀ k, k ∉ [7, 9, 41, 42, 43, 46] → I3 k = I k) → MM I3 A np ∧ MA I3 A np na := fun I3 h => ⟨⟨hn, (h 0 (by decide)).trans h0, hP, hM0.2.2.2⟩, ⟨a1, (h 27 (by decide)).trans a2, a3⟩⟩
      refine wp_aload_n (i := 0) (q := 31) dX8_search_30 rfl rfl rfl ?_
      refine wp_iconst (v := nI 1) (q := 32) dX8_search_31 (by decide) rfl ?_
      refine wm_putI (k := 46) (q := 35) dX8_search_32 ffX8_268 rfl rfl ?_ -- gone
      refine wp_aload_n (i := 0) (q := 36) dX8_search_35 rfl rfl rfl ?_
      refine wp_iconst (v := nI 0) (q := 37) dX8_search_36 (by decide) rfl ?_
      have hI3 : ∀ k, k ∉ [7, 9, 41, 42, 43, 46] → upd I1 46 (nI 1) k = I k := fun k hk => by
        rw [show upd I1 46 (nI 1) k = I1 k by simp [upd, show k ≠ 46 from fun q => hk (by rw [q]; decide)]]
        exact hS1.1 k (fun q => hk (by simp at q ⊢; omega))
      refine wp_Vi (μ' := mX8_broken) (ci := 8) (q := 40) (tX8_broken (w := 0) (pt := st) (A0 := A) (d := d - 1) (by omega) (by decide) (hMM _ hI3).1 e22 s2 hT2) dX8_search_37 okX8_broken lkX8_271 mh_obj rfl rfl rfl (Nat.le_of_ble_eq_true rfl) (by omega) rfl ?_
      rw [show stL (fun u => A2 23 (4 * 0 + u)) (kA A st) = stL (A 16) (kA A st) by rw [← ex]; exact stL_congr (fun u hu => by rw [Nat.mul_zero, Nat.zero_add])]
      unfold srT
      cases hbk : brkF A np st (stL (A 16) (kA A st)) with
      | some c =>
        have hc1 := brkF_lt k4 hbk
        show wp _ _ _ _ _ _ _ _ _ _ [.int (nI c)]
        refine wp_istore_n (i := 2) (lv' := [_, some _, _, _]) (q := 41) dX8_search_40 rfl (by decide) rfl rfl ?_
        refine wp_iload_n (i := 2) (q := 42) dX8_search_41 rfl rfl rfl ?_
        refine wp_if_lt (t := 53) (q := 45) dX8_search_42 (by decide) rfl (fun hlt => ?_) (fun hlt => ?_)
        · exact absurd hlt (nI_pos (by omega))
        refine wp_aload_n (i := 0) (q := 46) dX8_search_45 rfl rfl rfl ?_
        refine wp_iload_n (i := 2) (q := 47) dX8_search_46 rfl rfl rfl ?_
        refine wp_iconst (v := nI 0) (q := 48) dX8_search_47 (by decide) rfl ?_
        refine wp_V (μ' := mX8_note) (ci := 8) (q := 51) (tX8_note (c := c) (len := 0) (pt := st) (d := d - 1) (by decide) e22) dX8_search_48 okX8_note lkX8_275 mh_obj rfl rfl rfl (Nat.le_of_ble_eq_true rfl) (by omega) rfl (fun rv hx hq => ?_)
        obtain ⟨rfl, I6, A6, rfl, hS6, n41, n42, n43, n30, n31⟩ := hq
        show wp _ _ _ _ _ _ _ _ _ _ []
        refine wp_iconst (v := nI 1) (q := 52) dX8_search_51 (by decide) rfl ?_
        refine wp_iret dX8_search_52 rfl ?_
        refine Or.inr (Or.inr ⟨hn6, hs, I6, A6, rfl, rfl, (hS12.mo (by decide) (by decide)).tr ((SC.uI (by decide)).tr (hS6.mo (by decide) (by decide))), by decide, hc1, n41, n42, n43, ?_, s2, fun j hj => by omega⟩)
        rw [← ex]
        refine stL_congr (fun u hu => ?_)
        have hu : u < kA A st := hu
        rw [n30 u (by omega), Nat.mul_zero, Nat.zero_add]
      | none =>
        show wp _ _ _ _ _ _ _ _ _ _ [.int (-1)]
        refine wp_istore_n (i := 2) (lv' := [_, some _, _, _]) (q := 41) dX8_search_40 rfl (by decide) rfl rfl ?_
        refine wp_iload_n (i := 2) (q := 42) dX8_search_41 rfl rfl rfl ?_
        refine wp_if_lt (t := 53) (q := 45) dX8_search_42 (by decide) rfl (fun hlt => ?_) (fun hlt => ?_)
        · have H : ∀ m left, left + m = n → ∀ (I3 : Nat → Int32) (A3 : Nat → Nat → Int32) (cnt : Nat), SC [7, 9, 46] [7, 8, 22, 23, 24, 25, 26, 27, 28, 29] I A I3 A3 → TT A np A3 → I3 46 = nI cnt → A3 22 0 = nI st → stL (A3 23) (kA A st) = stL (A 16) (kA A st) → srN A na np st (stL (A 16) (kA A st)) m left cnt = srN A na np st (stL (A 16) (kA A st)) n 0 1 → wp l mX8_search [] d 0 0 (fun rv h' =>
    (ix 6 (nI n) = false ∧ rv = some (.int (-2)) ∧ h' = (sz, mh b I L A B g)) ∨ (ix 6 (nI n) = true ∧ I 25 < 0 ∧ rv = some (.int (-3)) ∧ h' = (sz, mh b I L A B g)) ∨
    (ix 6 (nI n) = true ∧ ¬ I 25 < 0 ∧ seQ sz b L B g np I A (srN A na np st (stL (A 16) (kA A st)) n 0 1) rv h')) (sz, mh b I3 L A3 B g) 55 [some (.ref b), some (.int (nI n)), some (.int (-1)), some (.int (nI (left + 1)))] [] := by
            intro m
            induction m with
            | zero =>
              intro left hl I3 A3 cnt hS3 hT3 h46 h22 hx he
              refine wp_iload_n (i := 3) (q := 56) dX8_search_55 rfl rfl rfl ?_
              refine wp_iload_n (i := 1) (q := 57) dX8_search_56 rfl rfl rfl ?_
              refine wp_icmp_gt (t := 79) (q := 60) dX8_search_57 (by decide) rfl (fun hgt => ?_) (fun hgt => ?_)
              · rw [← he]
                refine wp_bipush (v := (-9)) (q := 81) dX8_search_79 (by decide) rfl ?_
                refine wp_iret dX8_search_81 rfl ?_
                exact Or.inr (Or.inr ⟨hn6, hs, I3, A3, rfl, rfl, hS3⟩)
              · exact absurd ((nI_ltI (by omega) (by omega)).mpr (by omega)) hgt
            | succ m ih =>
              intro left hl I3 A3 cnt hS3 hT3 h46 h22 hx he
              have hag := ag_of hS3 (by decide)
              have hMA := hMM I3 (fun k hk => hS3.1 k (fun q => hk (by simp at q ⊢; omega)))
              refine wp_iload_n (i := 3) (q := 56) dX8_search_55 rfl rfl rfl ?_
              refine wp_iload_n (i := 1) (q := 57) dX8_search_56 rfl rfl rfl ?_
              refine wp_icmp_gt (t := 79) (q := 60) dX8_search_57 (by decide) rfl (fun hgt => ?_) (fun hgt => ?_)
              · exact absurd ((nI_ltI (by omega) (by omega)).mp hgt) (by omega)
              refine wp_aload_n (i := 0) (q := 61) dX8_search_60 rfl rfl rfl ?_
              refine wp_iload_n (i := 3) (q := 62) dX8_search_61 rfl rfl rfl ?_
              refine wp_V (μ' := mX8_goThrough) (ci := 8) (q := 65) (tX8_goThrough (left := left) (pt := st) (cnt := cnt) (A0 := A) (d := d - 1) (by omega) (by omega) hMA.1 hMA.2 ⟨hag, hS3.2 17 (by decide), hS3.2 18 (by decide), hS3.2 19 (by decide)⟩ hT3 h46 h22 s2 hx) dX8_search_62 okX8_goThrough lkX8_284 mh_obj rfl rfl rfl (Nat.le_of_ble_eq_true rfl) (by omega) rfl (fun rv hx hq => ?_)
              obtain ⟨I4, A4, rfl, hq⟩ := hq
              rw [srN] at he
              cases hR : srA A na np left st (stL (A 16) (kA A st)) cnt with
              | mk c' o =>
                rw [hR] at hq he
                cases o with
                | none =>
                  obtain ⟨rfl, hS4, h464, z22, z23⟩ := hq
                  show wp _ _ _ _ _ _ _ _ _ _ [.int (b2 false)]
                  refine wp_if_eq (t := 73) (q := 68) dX8_search_65 (by decide) rfl (fun hz => ?_) (fun hz => ?_)
                  · refine wp_iinc (v := _ + nI 1) (lv' := [_, _, some _, _]) (q := 76) dX8_search_73 rfl rfl (by decide) rfl rfl ?_
                    refine wp_goto (q := 55) dX8_search_76 (by decide) ?_
                    rw [nI_add]
                    refine ih (left + 1) (by omega) I4 A4 c' (hS3.tr (hS4.mo (by decide) (by decide))) (fun p hp => ⟨by rw [hS4.2 25 (by decide)]; exact (hT3 p hp).1, fun k c hk => TD_of ((hT3 p hp).2 k c hk) (by rw [hS4.2 26 (by decide)]) (by rw [hS4.2 27 (by decide)]) (by rw [hS4.2 28 (by decide)]) (by rw [hS4.2 29 (by decide)])⟩) h464 (z22.trans h22) ?_ he
                    rw [← hx]
                    exact stL_congr (fun u hu => z23 u (by omega))
                  · exact absurd rfl hz
                | some r =>
                  obtain ⟨rfl, hS4, h464, hF⟩ := hq
                  show wp _ _ _ _ _ _ _ _ _ _ [.int (b2 true)]
                  refine wp_if_eq (t := 73) (q := 68) dX8_search_65 (by decide) rfl (fun hz => ?_) (fun hz => ?_)
                  · exact absurd hz b2t0
                  · refine wp_aload_n (i := 0) (q := 69) dX8_search_68 rfl rfl rfl ?_
                    refine wm_getI (k := 46) (q := 72) dX8_search_69 ffX8_268 rfl rfl ?_ -- gone
                    rw [h464, ← he]
                    refine wp_iret dX8_search_72 rfl ?_
                    exact Or.inr (Or.inr ⟨hn6, hs, I4, A4, rfl, rfl, (hS3.mo (by decide) (by decide)).tr (hS4.mo (by decide) (by decide)), by omega, srA_code (fun p hp => (hP p (by omega)).2.1) (fun a ha => (a3 a ha).2.2.2) _ _ _ _ _ _ hR, hF⟩)
          refine wp_iconst (v := nI 1) (q := 54) dX8_search_53 (by decide) rfl ?_
          refine wp_istore_n (i := 3) (lv' := [_, _, some _, _]) (q := 55) dX8_search_54 rfl (by decide) rfl rfl ?_
          exact H n 0 (by omega) _ A2 1 ((hS12.mo (by decide) (by decide)).tr (SC.uI (by decide))) hT2 (by simp [upd]) e22 ex rfl
        · exact absurd (by decide) hlt
    · have hs : I 25 < 0 := Int32.not_le.mp hs
      refine wp_bipush (v := (-3)) (q := 21) dX8_search_19 (by decide) rfl ?_
      refine wp_iret dX8_search_21 rfl ?_
      exact Or.inr (Or.inl ⟨hn6, hs, rfl, rfl⟩)
  · refine wp_bipush (v := (-2)) (q := 11) dX8_search_9 (by decide) rfl ?_
    refine wp_iret dX8_search_11 rfl ?_
    exact Or.inl ⟨b2_eq0.mp hn6, rfl, rfl⟩
end M14
