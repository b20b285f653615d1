/-! THE REFERENCE: gather, extreme, rests, pairs, rising -/
theorem insL_len {v : Int32} : ∀ {s : List Int32}, (insL v s).length ≤ s.length + 1
  | [] => by simp [insL]
  | a :: s => by
    have := insL_len (v := v) (s := s)
    unfold insL
    split
    · simp; omega
    · split <;> simp
section M3
variable {l : Launch} {d sz b p side r i j m : Nat} {I : Nat → Int32} {L : Int64} {A : Nat → Nat → Int32} {B : Nat → Nat → Int64} {g : Nat → Option aE}
theorem MP_upR {o : Nat} {f : Nat → Int32} (h : MP A p) (ho : 6 < o) : MP (upR A o f) p := by
  unfold MP kA nA at h ⊢
  simp only [upR_ne (A := A) (f := f) (show 1 ≠ o by omega), upR_ne (A := A) (f := f) (show 2 ≠ o by omega), upR_ne (A := A) (f := f) (show 3 ≠ o by omega), upR_ne (A := A) (f := f) (show 4 ≠ o by omega)]
  exact h
theorem ofA_upR {o : Nat} {f : Nat → Int32} (ho : 6 < o) : ofA (upR A o f) p side r = ofA A p side r := by
  unfold ofA xA
  simp only [upR_ne (A := A) (f := f) (show 3 ≠ o by omega), upR_ne (A := A) (f := f) (show 4 ≠ o by omega), upR_ne (A := A) (f := f) (show 5 ≠ o by omega), upR_ne (A := A) (f := f) (show 6 ≠ o by omega)]
theorem tX8_gather (hd : 2 ≤ d) (hp : p < 6) (hs : side < 3) (hi : i < 4) (hM : MP A p) : mt l mX8_gather d 0 0 [.ref b, .int (nI p), .int (nI side), .int (nI i)] (sz, mh b I L A B g) (fun rv h' => rv = none ∧ ∃ f, h' = (sz, mh b (upd I 7 (nI (gth [] (vl A p side i)).length)) L (upR A 7 f) B g) ∧ fw f (gth [] (vl A p side i))) := by
  have hM2 := hM
  obtain ⟨m1, m2, m3, m4, m5, m6⟩ := hM2
  refine mt_in (lv := [_, _, _, _, _]) (by decide) (Nat.le_of_ble_eq_true rfl) rfl ?_
  refine wp_aload_n (i := 0) (q := 1) dX8_gather_0 rfl rfl rfl ?_
  refine wp_iconst (v := nI 0) (q := 2) dX8_gather_1 (by decide) rfl ?_
  refine wm_putI (k := 7) (q := 5) dX8_gather_2 ffX8_141 rfl rfl ?_ -- unlike
  refine wp_iconst (v := nI 0) (q := 6) dX8_gather_5 (by decide) rfl ?_
  refine wp_istore (lv' := [_, _, _, some _, _]) (q := 8) dX8_gather_6 (by decide) rfl rfl ?_
  have H : ∀ n r (s : List Int32) (f : Nat → Int32), r + n = nA A p → s.length ≤ 4 → fw f s → wp l mX8_gather [] d 0 0 (fun rv h' => rv = none ∧ ∃ f, h' = (sz, mh b (upd I 7 (nI (gth s (vlF A p side i r)).length)) L (upR A 7 f) B g) ∧ fw f (gth s (vlF A p side i r))) (sz, mh b (upd I 7 (nI s.length)) L (upR A 7 f) B g) 8 [some (.ref b), some (.int (nI p)), some (.int (nI side)), some (.int (nI i)), some (.int (nI r))] [] := by
    intro n
    induction n with
    | zero =>
      intro r s f hr hs4 hf
      refine wp_iload (q := 10) dX8_gather_8 rfl rfl ?_
      refine wp_aload_n (i := 0) (q := 11) dX8_gather_10 rfl rfl rfl ?_
      refine wm_getA (k := 2) (o := 2) (q := 14) dX8_gather_11 ffX8_13 rfl rfl rfl ?_ -- many
      refine wp_iload_n (i := 1) (q := 15) dX8_gather_14 rfl rfl rfl ?_
      refine wm_ialdN (q := 16) dX8_gather_15 ⟨by decide, by decide, rfl⟩ rfl (by simp only [mlen]; omega) (by decide) rfl ?_
      rw [upR_ne (by decide), m3]
      refine wp_icmp_ge (t := 56) (q := 19) dX8_gather_16 (by decide) rfl (fun hc => ?_) (fun hc => ?_)
      · refine wp_vret dX8_gather_56 rfl ?_
        rw [vlF_end (by omega)]
        exact ⟨rfl, f, rfl, hf⟩
      · exact absurd ((nI_leI (by omega) (by omega)).mpr (by omega)) hc
    | succ n ih =>
      intro r s f hr hs4 hf
      refine wp_iload (q := 10) dX8_gather_8 rfl rfl ?_
      refine wp_aload_n (i := 0) (q := 11) dX8_gather_10 rfl rfl rfl ?_
      refine wm_getA (k := 2) (o := 2) (q := 14) dX8_gather_11 ffX8_13 rfl rfl rfl ?_ -- many
      refine wp_iload_n (i := 1) (q := 15) dX8_gather_14 rfl rfl rfl ?_
      refine wm_ialdN (q := 16) dX8_gather_15 ⟨by decide, by decide, rfl⟩ rfl (by simp only [mlen]; omega) (by decide) rfl ?_
      rw [upR_ne (by decide), m3]
      refine wp_icmp_ge (t := 56) (q := 19) dX8_gather_16 (by decide) rfl (fun hc => ?_) (fun hc => ?_)
      · exact absurd ((nI_leI (by omega) (by omega)).mp hc) (by omega)
      refine wp_aload_n (i := 0) (q := 20) dX8_gather_19 rfl rfl rfl ?_
      refine wm_getI (k := 7) (q := 23) dX8_gather_20 ffX8_141 rfl rfl ?_ -- unlike
      refine wp_iconst (v := nI 4) (q := 24) dX8_gather_23 (by decide) rfl ?_
      rw [show upd I 7 (nI s.length) 7 = nI s.length by simp [upd]]
      refine wp_icmp_ge (t := 56) (q := 27) dX8_gather_24 (by decide) rfl (fun hc4 => ?_) (fun hc4 => ?_)
      · have h4 : 4 ≤ s.length := (nI_leI (by omega) (by omega)).mp hc4
        refine wp_vret dX8_gather_56 rfl ?_
        have e : gth s (vlF A p side i r) = s := by
          cases vlF A p side i r with
          | nil => rfl
          | cons v vs => rw [gth, if_neg (by omega)]
        rw [e]
        exact ⟨rfl, f, rfl, hf⟩
      have h4 : s.length < 4 := Nat.lt_of_not_le (fun q => hc4 ((nI_leI (by omega) (by omega)).mpr q))
      refine wp_aload_n (i := 0) (q := 28) dX8_gather_27 rfl rfl rfl ?_
      refine wp_iload_n (i := 1) (q := 29) dX8_gather_28 rfl rfl rfl ?_
      refine wp_iload_n (i := 2) (q := 30) dX8_gather_29 rfl rfl rfl ?_
      refine wp_iload (q := 32) dX8_gather_30 rfl rfl ?_
      refine wp_Vi (μ' := mX8_isOf) (ci := 8) (q := 35) (tX8_isOf (d := d - 1) (by omega) hp (by omega) hs (MP_upR hM (by decide))) dX8_gather_32 okX8_isOf lkX8_127 mh_obj rfl rfl rfl (Nat.le_of_ble_eq_true rfl) (by omega) rfl ?_
      rw [ofA_upR (by decide)]
      refine wp_if_eq (t := 50) (q := 38) dX8_gather_35 (by decide) rfl (fun ho => ?_) (fun ho => ?_)
      · have ho := b2_eq0.mp ho
        rw [vlF_f (by omega) ho]
        refine wp_iinc (v := _ + nI 1) (lv' := [_, _, _, some _, _]) (q := 53) dX8_gather_50 rfl rfl (by decide) rfl rfl ?_
        refine wp_goto (q := 8) dX8_gather_53 (by decide) ?_
        rw [nI_add]
        exact ih (r + 1) s f (by omega) hs4 hf
      · have ho := b2_ne0.mp ho
        rw [vlF_t (by omega) ho, gth, if_pos h4]
        refine wp_aload_n (i := 0) (q := 39) dX8_gather_38 rfl rfl rfl ?_
        refine wp_aload_n (i := 0) (q := 40) dX8_gather_39 rfl rfl rfl ?_
        refine wp_iload_n (i := 1) (q := 41) dX8_gather_40 rfl rfl rfl ?_
        refine wp_iload (q := 43) dX8_gather_41 rfl rfl ?_
        refine wp_iload_n (i := 3) (q := 44) dX8_gather_43 rfl rfl rfl ?_
        refine wp_Vi (μ' := mX8_at) (ci := 8) (q := 47) (tX8_at (d := d - 1) hp (by omega) hi) dX8_gather_44 okX8_at lkX8_123 mh_obj rfl rfl rfl (Nat.le_of_ble_eq_true rfl) (by omega) rfl ?_
        refine wp_V (μ' := mX8_addFew) (ci := 8) (q := 50) (tX8_addFew (d := d - 1) (v := xA A p r i) h4 (by simp [upd]) (by rw [upR_at]; exact hf)) dX8_gather_47 okX8_addFew lkX8_144 mh_obj rfl rfl rfl (Nat.le_of_ble_eq_true rfl) (by omega) rfl (fun rv hx hq => ?_)
        obtain ⟨rfl, f2, rfl, hf2⟩ := hq
        rw [upR_upR, upd_upd]
        refine wp_iinc (v := _ + nI 1) (lv' := [_, _, _, some _, _]) (q := 53) dX8_gather_50 rfl rfl (by decide) rfl rfl ?_
        refine wp_goto (q := 8) dX8_gather_53 (by decide) ?_
        rw [nI_add]
        exact ih (r + 1) _ f2 (by omega) (by have := insL_len (v := xA A p r i) (s := s); omega) hf2
  have := H (nA A p) 0 [] (A 7) (by omega) (by simp) (fun j x h => by simp at h)
  rw [upR_self] at this
  exact this
theorem tX8_extreme {gr : Bool} (hd : 2 ≤ d) (hp : p < 6) (hs : side < 3) (hi : i < 4) (hM : MP A p) : mt l mX8_extreme d 0 0 [.ref b, .int (nI p), .int (nI side), .int (nI i), .int (b2 gr)] (sz, mh b I L A B g) (rI (exS gr 0 false (vl A p side i)) (sz, mh b I L A B g)) := by
  have hM2 := hM
  obtain ⟨m1, m2, m3, m4, m5, m6⟩ := hM2
  refine mt_in (lv := [_, _, _, _, _, _, _, _, _]) (by decide) (Nat.le_of_ble_eq_true rfl) rfl ?_
  refine wp_iconst (v := nI 0) (q := 1) dX8_extreme_0 (by decide) rfl ?_
  refine wp_istore (lv' := [_, _, _, _, some _, _, _, _, _]) (q := 3) dX8_extreme_1 (by decide) rfl rfl ?_
  refine wp_iconst (v := nI 0) (q := 4) dX8_extreme_3 (by decide) rfl ?_
  refine wp_istore (lv' := [_, _, _, _, _, some _, _, _, _]) (q := 6) dX8_extreme_4 (by decide) rfl rfl ?_
  refine wp_iconst (v := nI 0) (q := 7) dX8_extreme_6 (by decide) rfl ?_
  refine wp_istore (lv' := [_, _, _, _, _, _, some _, _, _]) (q := 9) dX8_extreme_7 (by decide) rfl rfl ?_
  have H : ∀ n r (best : Int32) (any : Bool) (j8 : Option Value), r + n = nA A p → wp l mX8_extreme [] d 0 0 (rI (exS gr best any (vlF A p side i r)) (sz, mh b I L A B g)) (sz, mh b I L A B g) 9 [some (.ref b), some (.int (nI p)), some (.int (nI side)), some (.int (nI i)), some (.int (b2 gr)), some (.int best), some (.int (b2 any)), some (.int (nI r)), j8] [] := by
    intro n
    induction n with
    | zero =>
      intro r best any j8 hr
      refine wp_iload (q := 11) dX8_extreme_9 rfl rfl ?_
      refine wp_aload_n (i := 0) (q := 12) dX8_extreme_11 rfl rfl rfl ?_
      refine wm_getA (k := 2) (o := 2) (q := 15) dX8_extreme_12 ffX8_13 rfl rfl rfl ?_ -- many
      refine wp_iload_n (i := 1) (q := 16) dX8_extreme_15 rfl rfl rfl ?_
      refine wm_ialdN (q := 17) dX8_extreme_16 ⟨by decide, by decide, rfl⟩ rfl (by simp only [mlen]; omega) (by decide) rfl ?_
      rw [m3]
      refine wp_icmp_ge (t := 86) (q := 20) dX8_extreme_17 (by decide) rfl (fun hc => ?_) (fun hc => ?_)
      · refine wp_iload (q := 88) dX8_extreme_86 rfl rfl ?_
        refine wp_iret dX8_extreme_88 rfl ?_
        rw [vlF_end (by omega)]
        exact ⟨rfl, rfl⟩
      · exact absurd ((nI_leI (by omega) (by omega)).mpr (by omega)) hc
    | succ n ih =>
      intro r best any j8 hr
      refine wp_iload (q := 11) dX8_extreme_9 rfl rfl ?_
      refine wp_aload_n (i := 0) (q := 12) dX8_extreme_11 rfl rfl rfl ?_
      refine wm_getA (k := 2) (o := 2) (q := 15) dX8_extreme_12 ffX8_13 rfl rfl rfl ?_ -- many
      refine wp_iload_n (i := 1) (q := 16) dX8_extreme_15 rfl rfl rfl ?_
      refine wm_ialdN (q := 17) dX8_extreme_16 ⟨by decide, by decide, rfl⟩ rfl (by simp only [mlen]; omega) (by decide) rfl ?_
      rw [m3]
      refine wp_icmp_ge (t := 86) (q := 20) dX8_extreme_17 (by decide) rfl (fun hc => ?_) (fun hc => ?_)
      · exact absurd ((nI_leI (by omega) (by omega)).mp hc) (by omega)
      refine wp_aload_n (i := 0) (q := 21) dX8_extreme_20 rfl rfl rfl ?_
      refine wp_iload_n (i := 1) (q := 22) dX8_extreme_21 rfl rfl rfl ?_
      refine wp_iload_n (i := 2) (q := 23) dX8_extreme_22 rfl rfl rfl ?_
      refine wp_iload (q := 25) dX8_extreme_23 rfl rfl ?_
      refine wp_Vi (μ' := mX8_isOf) (ci := 8) (q := 28) (tX8_isOf (d := d - 1) (by omega) hp (by omega) hs hM) dX8_extreme_25 okX8_isOf lkX8_127 mh_obj rfl rfl rfl (Nat.le_of_ble_eq_true rfl) (by omega) rfl ?_
      refine wp_if_eq (t := 80) (q := 31) dX8_extreme_28 (by decide) rfl (fun ho => ?_) (fun ho => ?_)
      · rw [vlF_f (by omega) (b2_eq0.mp ho)]
        refine wp_iinc (v := _ + nI 1) (lv' := [_, _, _, _, _, _, some _, _, _]) (q := 83) dX8_extreme_80 rfl rfl (by decide) rfl rfl ?_
        refine wp_goto (q := 9) dX8_extreme_83 (by decide) ?_
        rw [nI_add]
        exact ih (r + 1) best any j8 (by omega)
      rw [vlF_t (by omega) (b2_ne0.mp ho), exS]
      refine wp_aload_n (i := 0) (q := 32) dX8_extreme_31 rfl rfl rfl ?_
      refine wp_iload_n (i := 1) (q := 33) dX8_extreme_32 rfl rfl rfl ?_
      refine wp_iload (q := 35) dX8_extreme_33 rfl rfl ?_
      refine wp_iload_n (i := 3) (q := 36) dX8_extreme_35 rfl rfl rfl ?_
      refine wp_Vi (μ' := mX8_at) (ci := 8) (q := 39) (tX8_at (d := d - 1) hp (by omega) hi) dX8_extreme_36 okX8_at lkX8_123 mh_obj rfl rfl rfl (Nat.le_of_ble_eq_true rfl) (by omega) rfl ?_
      have Kx : ∀ z : Int32, z = (if (!any || (if gr then decide (best < xA A p r i) else decide (xA A p r i < best))) = true then xA A p r i else best) → wp l mX8_extreme [] d 0 0 (rI (exS gr (if (!any || (if gr then decide (best < xA A p r i) else decide (xA A p r i < best))) = true then xA A p r i else best) true (vlF A p side i (r + 1))) (sz, mh b I L A B g)) (sz, mh b I L A B g) 75 [some (.ref b), some (.int (nI p)), some (.int (nI side)), some (.int (nI i)), some (.int (b2 gr)), some (.int best), some (.int (b2 any)), some (.int (nI r)), some (.int (xA A p r i))] [.int z] := by
        intro z hz
        refine wp_istore (lv' := [_, _, _, _, some _, _, _, _, _]) (q := 77) dX8_extreme_75 (by decide) rfl rfl ?_
        refine wp_iconst (v := nI 1) (q := 78) dX8_extreme_77 (by decide) rfl ?_
        refine wp_istore (lv' := [_, _, _, _, _, some _, _, _, _]) (q := 80) dX8_extreme_78 (by decide) rfl rfl ?_
        refine wp_iinc (v := _ + nI 1) (lv' := [_, _, _, _, _, _, some _, _, _]) (q := 83) dX8_extreme_80 rfl rfl (by decide) rfl rfl ?_
        refine wp_goto (q := 9) dX8_extreme_83 (by decide) ?_
        rw [nI_add, hz]
        exact ih (r + 1) _ true _ (by omega)
      refine wp_istore (lv' := [_, _, _, _, _, _, _, some _, _]) (q := 41) dX8_extreme_39 (by decide) rfl rfl ?_
      refine wp_iload (q := 43) dX8_extreme_41 rfl rfl ?_
      refine wp_if_eq (t := 68) (q := 46) dX8_extreme_43 (by decide) rfl (fun ha => ?_) (fun ha => ?_)
      · refine wp_iload (q := 70) dX8_extreme_68 rfl rfl ?_
        refine wp_goto (q := 75) dX8_extreme_70 (by decide) ?_
        exact Kx _ (by rw [b2_eq0.mp ha]; rfl)
      have ha := b2_ne0.mp ha
      refine wp_iload (q := 48) dX8_extreme_46 rfl rfl ?_
      refine wp_if_eq (t := 61) (q := 51) dX8_extreme_48 (by decide) rfl (fun hg => ?_) (fun hg => ?_)
      · have hg := b2_eq0.mp hg
        refine wp_iload (q := 63) dX8_extreme_61 rfl rfl ?_
        refine wp_iload (q := 65) dX8_extreme_63 rfl rfl ?_
        refine wp_icmp_ge (t := 73) (q := 68) dX8_extreme_65 (by decide) rfl (fun hv => ?_) (fun hv => ?_)
        · refine wp_iload (q := 75) dX8_extreme_73 rfl rfl ?_
          exact Kx _ (by rw [ha, hg]; simp [decide_eq_false (show ¬ xA A p r i < best from Int32.not_lt.mpr hv)])
        · refine wp_iload (q := 70) dX8_extreme_68 rfl rfl ?_
          refine wp_goto (q := 75) dX8_extreme_70 (by decide) ?_
          exact Kx _ (by rw [ha, hg]; simp [decide_eq_true (show xA A p r i < best from Int32.not_le.mp hv)])
      · have hg := b2_ne0.mp hg
        refine wp_iload (q := 53) dX8_extreme_51 rfl rfl ?_
        refine wp_iload (q := 55) dX8_extreme_53 rfl rfl ?_
        refine wp_icmp_le (t := 73) (q := 58) dX8_extreme_55 (by decide) rfl (fun hv => ?_) (fun hv => ?_)
        · refine wp_iload (q := 75) dX8_extreme_73 rfl rfl ?_
          exact Kx _ (by rw [ha, hg]; simp [decide_eq_false (show ¬ best < xA A p r i from Int32.not_lt.mpr hv)])
        · refine wp_goto (q := 68) dX8_extreme_58 (by decide) ?_
          refine wp_iload (q := 70) dX8_extreme_68 rfl rfl ?_
          refine wp_goto (q := 75) dX8_extreme_70 (by decide) ?_
          exact Kx _ (by rw [ha, hg]; simp [decide_eq_true (show best < xA A p r i from Int32.not_le.mp hv)])
  exact H (nA A p) 0 0 false none (by omega)
theorem tX8_restOf {v : Int32} {h : aH} (hm : 0 < m) (hm2 : m < 2 ^ 31) : mt l mX8_restOf d 0 0 [.int v, .int (nI m)] h (rI (rst v m) h) := by
  have hz : ¬ nI m = 0 := nI_ne0 hm hm2
  refine mt_in (lv := [_, _, _]) (by decide) (Nat.le_of_ble_eq_true rfl) rfl ?_
  refine wp_iload_n (i := 0) (q := 1) dX8_restOf_0 rfl rfl rfl ?_
  refine wp_iload_n (i := 1) (q := 2) dX8_restOf_1 rfl rfl rfl ?_
  refine wp_irem (q := 3) dX8_restOf_2 (by first | assumption | decide) rfl ?_
  refine wp_istore_n (i := 2) (lv' := [_, some _, _]) (q := 4) dX8_restOf_3 rfl (by decide) rfl rfl ?_
  refine wp_iload_n (i := 2) (q := 5) dX8_restOf_4 rfl rfl rfl ?_
  refine wp_if_ge (t := 14) (q := 8) dX8_restOf_5 (by decide) rfl (fun hc => ?_) (fun hc => ?_)
  · refine wp_iload_n (i := 2) (q := 15) dX8_restOf_14 rfl rfl rfl ?_
    refine wp_iret dX8_restOf_15 rfl ?_
    exact ⟨by rw [rst, if_pos hc], rfl⟩
  refine wp_iload_n (i := 2) (q := 9) dX8_restOf_8 rfl rfl rfl ?_
  refine wp_iload_n (i := 1) (q := 10) dX8_restOf_9 rfl rfl rfl ?_
  refine wp_iadd (q := 11) dX8_restOf_10 rfl ?_
  refine wp_goto (q := 15) dX8_restOf_11 (by decide) ?_
  refine wp_iret dX8_restOf_15 rfl ?_
  exact ⟨by rw [rst, if_neg hc], rfl⟩
theorem tX8_modulus (hd : 2 ≤ d) (hp : p < 6) (hs : side < 3) (hi : i < 4) (hM : MP A p) : mt l mX8_modulus d 0 0 [.ref b, .int (nI p), .int (nI side), .int (nI i)] (sz, mh b I L A B g) (rI (nI (mdF (vl A p side i) 12)) (sz, mh b I L A B g)) := by
  have hM2 := hM
  obtain ⟨m1, m2, m3, m4, m5, m6⟩ := hM2
  refine mt_in (lv := [_, _, _, _, _, _, _, _, _]) (by decide) (Nat.le_of_ble_eq_true rfl) rfl ?_
  refine wp_bipush (v := nI 12) (q := 2) dX8_modulus_0 (by decide) rfl ?_
  refine wp_istore (lv' := [_, _, _, some _, _, _, _, _, _]) (q := 4) dX8_modulus_2 (by decide) rfl rfl ?_
  have H : ∀ m, m ≤ 12 → ∀ (j5 j6 j7 j8 : Option Value), wp l mX8_modulus [] d 0 0 (rI (nI (mdF (vl A p side i) m)) (sz, mh b I L A B g)) (sz, mh b I L A B g) 4 [some (.ref b), some (.int (nI p)), some (.int (nI side)), some (.int (nI i)), some (.int (nI m)), j5, j6, j7, j8] [] := by
    intro m
    induction m with
    | zero =>
      intro _ j5 j6 j7 j8
      refine wp_iload (q := 6) dX8_modulus_4 rfl rfl ?_
      refine wp_iconst (v := nI 1) (q := 7) dX8_modulus_6 (by decide) rfl ?_
      refine wp_icmp_le (t := 104) (q := 10) dX8_modulus_7 (by decide) rfl (fun hc => ?_) (fun hc => ?_)
      · refine wp_iconst (v := nI 0) (q := 105) dX8_modulus_104 (by decide) rfl ?_
        refine wp_iret dX8_modulus_105 rfl ?_
        exact ⟨rfl, rfl⟩
      · exact absurd ((nI_leI (by omega) (by omega)).mpr (by omega)) hc
    | succ m ihm =>
      intro hm12 j5 j6 j7 j8
      refine wp_iload (q := 6) dX8_modulus_4 rfl rfl ?_
      refine wp_iconst (v := nI 1) (q := 7) dX8_modulus_6 (by decide) rfl ?_
      refine wp_icmp_le (t := 104) (q := 10) dX8_modulus_7 (by decide) rfl (fun hc => ?_) (fun hc => ?_)
      · have : m = 0 := by have := (nI_leI (by omega) (by omega)).mp hc; omega
        subst this
        refine wp_iconst (v := nI 0) (q := 105) dX8_modulus_104 (by decide) rfl ?_
        refine wp_iret dX8_modulus_105 rfl ?_
        exact ⟨rfl, rfl⟩
      have hm1 : 1 ≤ m := by
        rcases Nat.lt_or_ge m 1 with q | q
        · exact absurd ((nI_leI (by omega) (by omega)).mpr (by omega)) hc
        · exact q
      obtain ⟨m', rfl⟩ : ∃ m', m = m' + 1 := ⟨m - 1, by omega⟩
      rw [mdF]
      have tail : ∀ (c : Bool) (o : Int32) (r : Nat) (j8 : Option Value), (if c = true then m' + 2 else mdF (vl A p side i) (m' + 1)) = (if sR (m' + 2) (-1) (vl A p side i) = true then m' + 2 else mdF (vl A p side i) (m' + 1)) → wp l mX8_modulus [] d 0 0 (rI (nI (if sR (m' + 2) (-1) (vl A p side i) = true then m' + 2 else mdF (vl A p side i) (m' + 1))) (sz, mh b I L A B g)) (sz, mh b I L A B g) 90 [some (.ref b), some (.int (nI p)), some (.int (nI side)), some (.int (nI i)), some (.int (nI (m' + 2))), some (.int o), some (.int (b2 c)), some (.int (nI r)), j8] [] := by
        intro c o r j8 he
        refine wp_iload (q := 92) dX8_modulus_90 rfl rfl ?_
        rw [← he]
        refine wp_if_eq (t := 98) (q := 95) dX8_modulus_92 (by decide) rfl (fun hq => ?_) (fun hq => ?_)
        · rw [b2_eq0.mp hq, if_neg (by decide)]
          refine wp_iinc (v := _ + (-1)) (lv' := [_, _, _, some _, _, _, _, _, _]) (q := 101) dX8_modulus_98 rfl rfl (by decide) rfl rfl ?_
          refine wp_goto (q := 4) dX8_modulus_101 (by decide) ?_
          rw [show m' + 2 = m' + 1 + 1 by omega, pk_m1]
          exact ihm (by omega) _ _ _ _
        · rw [b2_ne0.mp hq, if_pos rfl]
          refine wp_iload (q := 97) dX8_modulus_95 rfl rfl ?_
          refine wp_iret dX8_modulus_97 rfl ?_
          exact ⟨rfl, rfl⟩
      have inner : ∀ n r (o : Int32) (j8 : Option Value), r + n = nA A p → sR (m' + 2) o (vlF A p side i r) = sR (m' + 2) (-1) (vl A p side i) → wp l mX8_modulus [] d 0 0 (rI (nI (if sR (m' + 2) (-1) (vl A p side i) = true then m' + 2 else mdF (vl A p side i) (m' + 1))) (sz, mh b I L A B g)) (sz, mh b I L A B g) 19 [some (.ref b), some (.int (nI p)), some (.int (nI side)), some (.int (nI i)), some (.int (nI (m' + 2))), some (.int o), some (.int (b2 true)), some (.int (nI r)), j8] [] := by
        intro n
        induction n with
        | zero =>
          intro r o j8 hr he
          refine wp_iload (q := 21) dX8_modulus_19 rfl rfl ?_
          refine wp_aload_n (i := 0) (q := 22) dX8_modulus_21 rfl rfl rfl ?_
          refine wm_getA (k := 2) (o := 2) (q := 25) dX8_modulus_22 ffX8_13 rfl rfl rfl ?_ -- many
          refine wp_iload_n (i := 1) (q := 26) dX8_modulus_25 rfl rfl rfl ?_
          refine wm_ialdN (q := 27) dX8_modulus_26 ⟨by decide, by decide, rfl⟩ rfl (by simp only [mlen]; omega) (by decide) rfl ?_
          rw [m3]
          refine wp_icmp_ge (t := 90) (q := 30) dX8_modulus_27 (by decide) rfl (fun hc => ?_) (fun hc => ?_)
          · refine tail true o r j8 ?_
            rw [← he, vlF_end (by omega)]
            rfl
          · exact absurd ((nI_leI (by omega) (by omega)).mpr (by omega)) hc
        | succ n ih =>
          intro r o j8 hr he
          refine wp_iload (q := 21) dX8_modulus_19 rfl rfl ?_
          refine wp_aload_n (i := 0) (q := 22) dX8_modulus_21 rfl rfl rfl ?_
          refine wm_getA (k := 2) (o := 2) (q := 25) dX8_modulus_22 ffX8_13 rfl rfl rfl ?_ -- many
          refine wp_iload_n (i := 1) (q := 26) dX8_modulus_25 rfl rfl rfl ?_
          refine wm_ialdN (q := 27) dX8_modulus_26 ⟨by decide, by decide, rfl⟩ rfl (by simp only [mlen]; omega) (by decide) rfl ?_
          rw [m3]
          refine wp_icmp_ge (t := 90) (q := 30) dX8_modulus_27 (by decide) rfl (fun hc => ?_) (fun hc => ?_)
          · exact absurd ((nI_leI (by omega) (by omega)).mp hc) (by omega)
          refine wp_iload (q := 32) dX8_modulus_30 rfl rfl ?_
          refine wp_if_eq (t := 90) (q := 35) dX8_modulus_32 (by decide) rfl (fun hz => ?_) (fun hz => ?_)
          · exact absurd hz b2t0
          refine wp_aload_n (i := 0) (q := 36) dX8_modulus_35 rfl rfl rfl ?_
          refine wp_iload_n (i := 1) (q := 37) dX8_modulus_36 rfl rfl rfl ?_
          refine wp_iload_n (i := 2) (q := 38) dX8_modulus_37 rfl rfl rfl ?_
          refine wp_iload (q := 40) dX8_modulus_38 rfl rfl ?_
          refine wp_Vi (μ' := mX8_isOf) (ci := 8) (q := 43) (tX8_isOf (d := d - 1) (by omega) hp (by omega) hs hM) dX8_modulus_40 okX8_isOf lkX8_127 mh_obj rfl rfl rfl (Nat.le_of_ble_eq_true rfl) (by omega) rfl ?_
          refine wp_if_eq (t := 84) (q := 46) dX8_modulus_43 (by decide) rfl (fun ho => ?_) (fun ho => ?_)
          · rw [vlF_f (by omega) (b2_eq0.mp ho)] at he
            refine wp_iinc (v := _ + nI 1) (lv' := [_, _, _, _, _, _, some _, _, _]) (q := 87) dX8_modulus_84 rfl rfl (by decide) rfl rfl ?_
            refine wp_goto (q := 19) dX8_modulus_87 (by decide) ?_
            rw [nI_add]
            exact ih (r + 1) o j8 (by omega) he
          rw [vlF_t (by omega) (b2_ne0.mp ho), sR] at he
          refine wp_aload_n (i := 0) (q := 47) dX8_modulus_46 rfl rfl rfl ?_
          refine wp_iload_n (i := 1) (q := 48) dX8_modulus_47 rfl rfl rfl ?_
          refine wp_iload (q := 50) dX8_modulus_48 rfl rfl ?_
          refine wp_iload_n (i := 3) (q := 51) dX8_modulus_50 rfl rfl rfl ?_
          refine wp_Vi (μ' := mX8_at) (ci := 8) (q := 54) (tX8_at (d := d - 1) hp (by omega) hi) dX8_modulus_51 okX8_at lkX8_123 mh_obj rfl rfl rfl (Nat.le_of_ble_eq_true rfl) (by omega) rfl ?_
          refine wp_iload (q := 56) dX8_modulus_54 rfl rfl ?_
          refine wp_Si (μ' := mX8_restOf) (q := 59) (tX8_restOf (d := d - 1) (by omega) (by omega)) dX8_modulus_56 okX8_restOf lkX8_148 rfl rfl (Nat.le_of_ble_eq_true rfl) (by omega) rfl ?_
          have good : (decide (o < 0) || decide (o = rst (xA A p r i) (m' + 2))) = true → wp l mX8_modulus [] d 0 0 (rI (nI (if sR (m' + 2) (-1) (vl A p side i) = true then m' + 2 else mdF (vl A p side i) (m' + 1))) (sz, mh b I L A B g)) (sz, mh b I L A B g) 78 [some (.ref b), some (.int (nI p)), some (.int (nI side)), some (.int (nI i)), some (.int (nI (m' + 2))), some (.int o), some (.int (b2 true)), some (.int (nI r)), some (.int (rst (xA A p r i) (m' + 2)))] [.int (nI 1)] := by
            intro hgood
            rw [hgood, Bool.true_and] at he
            refine wp_istore (lv' := [_, _, _, _, _, some _, _, _, _]) (q := 80) dX8_modulus_78 (by decide) rfl rfl ?_
            refine wp_iload (q := 82) dX8_modulus_80 rfl rfl ?_
            refine wp_istore (lv' := [_, _, _, _, some _, _, _, _, _]) (q := 84) dX8_modulus_82 (by decide) rfl rfl ?_
            refine wp_iinc (v := _ + nI 1) (lv' := [_, _, _, _, _, _, some _, _, _]) (q := 87) dX8_modulus_84 rfl rfl (by decide) rfl rfl ?_
            refine wp_goto (q := 19) dX8_modulus_87 (by decide) ?_
            rw [nI_add]
            exact ih (r + 1) _ _ (by omega) he
          refine wp_istore (lv' := [_, _, _, _, _, _, _, some _, _]) (q := 61) dX8_modulus_59 (by decide) rfl rfl ?_
          refine wp_iload (q := 63) dX8_modulus_61 rfl rfl ?_
          refine wp_if_lt (t := 73) (q := 66) dX8_modulus_63 (by decide) rfl (fun h1 => ?_) (fun h1 => ?_)
          · refine wp_iconst (v := nI 1) (q := 74) dX8_modulus_73 (by decide) rfl ?_
            refine wp_goto (q := 78) dX8_modulus_74 (by decide) ?_
            exact good (by simp [h1])
          refine wp_iload (q := 68) dX8_modulus_66 rfl rfl ?_
          refine wp_iload (q := 70) dX8_modulus_68 rfl rfl ?_
          refine wp_icmp_ne (t := 77) (q := 73) dX8_modulus_70 (by decide) rfl (fun h2 => ?_) (fun h2 => ?_)
          · have hbad : (decide (o < 0) || decide (o = rst (xA A p r i) (m' + 2))) = false := by simp [h1]; exact h2
            rw [hbad, Bool.false_and] at he
            refine wp_iconst (v := nI 0) (q := 78) dX8_modulus_77 (by decide) rfl ?_
            refine wp_istore (lv' := [_, _, _, _, _, some _, _, _, _]) (q := 80) dX8_modulus_78 (by decide) rfl rfl ?_
            refine wp_iload (q := 82) dX8_modulus_80 rfl rfl ?_
            refine wp_istore (lv' := [_, _, _, _, some _, _, _, _, _]) (q := 84) dX8_modulus_82 (by decide) rfl rfl ?_
            refine wp_iinc (v := _ + nI 1) (lv' := [_, _, _, _, _, _, some _, _, _]) (q := 87) dX8_modulus_84 rfl rfl (by decide) rfl rfl ?_
            refine wp_goto (q := 19) dX8_modulus_87 (by decide) ?_
            rw [nI_add]
            have e2 : nA A p ≤ r + 1 ∨ r + 1 < nA A p := by omega
            refine wp_iload (q := 21) dX8_modulus_19 rfl rfl ?_
            refine wp_aload_n (i := 0) (q := 22) dX8_modulus_21 rfl rfl rfl ?_
            refine wm_getA (k := 2) (o := 2) (q := 25) dX8_modulus_22 ffX8_13 rfl rfl rfl ?_ -- many
            refine wp_iload_n (i := 1) (q := 26) dX8_modulus_25 rfl rfl rfl ?_
            refine wm_ialdN (q := 27) dX8_modulus_26 ⟨by decide, by decide, rfl⟩ rfl (by simp only [mlen]; omega) (by decide) rfl ?_
            rw [m3]
            refine wp_icmp_ge (t := 90) (q := 30) dX8_modulus_27 (by decide) rfl (fun hc5 => ?_) (fun hc5 => ?_)
            · refine tail false _ _ _ ?_
              rw [← he]
            refine wp_iload (q := 32) dX8_modulus_30 rfl rfl ?_
            refine wp_if_eq (t := 90) (q := 35) dX8_modulus_32 (by decide) rfl (fun hz5 => ?_) (fun hz5 => ?_)
            · refine tail false _ _ _ ?_
              rw [← he]
            · exact absurd rfl hz5
          · refine wp_iconst (v := nI 1) (q := 74) dX8_modulus_73 (by decide) rfl ?_
            refine wp_goto (q := 78) dX8_modulus_74 (by decide) ?_
            exact good (by rw [decide_eq_true h2, Bool.or_true])
      refine wp_iconst (v := (-1)) (q := 11) dX8_modulus_10 (by decide) rfl ?_
      refine wp_istore (lv' := [_, _, _, _, some _, _, _, _, _]) (q := 13) dX8_modulus_11 (by decide) rfl rfl ?_
      refine wp_iconst (v := nI 1) (q := 14) dX8_modulus_13 (by decide) rfl ?_
      refine wp_istore (lv' := [_, _, _, _, _, some _, _, _, _]) (q := 16) dX8_modulus_14 (by decide) rfl rfl ?_
      refine wp_iconst (v := nI 0) (q := 17) dX8_modulus_16 (by decide) rfl ?_
      refine wp_istore (lv' := [_, _, _, _, _, _, some _, _, _]) (q := 19) dX8_modulus_17 (by decide) rfl rfl ?_
      exact inner (nA A p) 0 (-1) _ (by omega) rfl
  exact H 12 (by omega) _ _ _ _
end M3
