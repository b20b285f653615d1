/-! THE REFERENCE: pairs, rising, isSo, the plain calls -/
def isSoB (A : Nat → Nat → Int32) (p side shape i j : Nat) : Bool :=
  if shape = 0 then decide ((gth [] (vl A p side i)).length = 1)
  else if shape = 1 then decide ((gth [] (vl A p side i)).length = 2) || decide ((gth [] (vl A p side i)).length = 3)
  else if shape = 2 ∨ shape = 3 then true
  else if shape = 4 then decide (0 < mdF (vl A p side i) 12)
  else if shape = 9 then risF (-31) (vl A p side i)
  else (rs A p side).all (fun r => goesB shape (xA A p r i) (xA A p r j))
/-- all but the int fields ks and the rows os stays -/
def SC (ks os : List Nat) (I : Nat → Int32) (A : Nat → Nat → Int32) (I' : Nat → Int32) (A' : Nat → Nat → Int32) : Prop := (∀ k, k ∉ ks → I' k = I k) ∧ ∀ o, o ∉ os → A' o = A o
theorem SC.rf {ks os : List Nat} {I : Nat → Int32} {A : Nat → Nat → Int32} : SC ks os I A I A := ⟨fun _ _ => rfl, fun _ _ => rfl⟩
theorem SC.tr {ks os : List Nat} {I I' I2 : Nat → Int32} {A A' A2 : Nat → Nat → Int32} (h1 : SC ks os I A I' A') (h2 : SC ks os I' A' I2 A2) : SC ks os I A I2 A2 := ⟨fun k hk => (h2.1 k hk).trans (h1.1 k hk), fun o ho => (h2.2 o ho).trans (h1.2 o ho)⟩
theorem SC.mo {ks os ks' os' : List Nat} {I I' : Nat → Int32} {A A' : Nat → Nat → Int32} (h : SC ks os I A I' A') (h1 : ∀ k ∈ ks, k ∈ ks') (h2 : ∀ o ∈ os, o ∈ os') : SC ks' os' I A I' A' := ⟨fun k hk => h.1 k (fun q => hk (h1 k q)), fun o ho => h.2 o (fun q => ho (h2 o q))⟩
theorem SC.uI {ks os : List Nat} {I : Nat → Int32} {A : Nat → Nat → Int32} {k : Nat} {x : Int32} (h : k ∈ ks) : SC ks os I A (upd I k x) A := ⟨fun j hj => by simp [upd, show j ≠ k from fun q => hj (q ▸ h)], fun _ _ => rfl⟩
theorem SC.uR {ks os : List Nat} {I : Nat → Int32} {A : Nat → Nat → Int32} {o : Nat} {f : Nat → Int32} (h : o ∈ os) : SC ks os I A I (upR A o f) := ⟨fun _ _ => rfl, fun j hj => upR_ne (fun q => hj (q ▸ h))⟩
theorem SC.u2 {ks os : List Nat} {I : Nat → Int32} {A : Nat → Nat → Int32} {o j : Nat} {x : Int32} (h : o ∈ os) : SC ks os I A I (up2 A o j x) := ⟨fun _ _ => rfl, fun j hj => up2_ne (fun q => hj (q ▸ h))⟩
/-- the rows that tell of points agree -/
def ag (A A' : Nat → Nat → Int32) : Prop := A' 1 = A 1 ∧ A' 2 = A 2 ∧ A' 3 = A 3 ∧ A' 4 = A 4 ∧ A' 5 = A 5 ∧ A' 6 = A 6
theorem ag_of {ks os : List Nat} {I I' : Nat → Int32} {A A' : Nat → Nat → Int32} (h : SC ks os I A I' A') (ho : os.all (fun o => decide (6 < o)) = true) : ag A A' := by
  have k : ∀ o, o ≤ 6 → A' o = A o := fun o h6 => h.2 o (fun q => by have := of_decide_eq_true (List.all_eq_true.mp ho o q); omega)
  exact ⟨k 1 (by decide), k 2 (by decide), k 3 (by decide), k 4 (by decide), k 5 (by decide), k 6 (by decide)⟩
theorem kA_ag {A A' : Nat → Nat → Int32} (h : ag A A') {p : Nat} : kA A' p = kA A p := by unfold kA; rw [h.1]
theorem nA_ag {A A' : Nat → Nat → Int32} (h : ag A A') {p : Nat} : nA A' p = nA A p := by unfold nA; rw [h.2.1]
theorem xA_ag {A A' : Nat → Nat → Int32} (h : ag A A') : xA A' = xA A := by unfold xA; rw [h.2.2.2.2.2]
theorem ofA_ag {A A' : Nat → Nat → Int32} (h : ag A A') : ofA A' = ofA A := by unfold ofA; rw [h.2.2.1, h.2.2.2.1, h.2.2.2.2.1, xA_ag h]
theorem rsF_ag {A A' : Nat → Nat → Int32} (h : ag A A') : rsF A' = rsF A := by
  funext p side r
  unfold rsF
  rw [nA_ag h, ofA_ag h]
theorem vlF_ag {A A' : Nat → Nat → Int32} (h : ag A A') : vlF A' = vlF A := by unfold vlF; rw [rsF_ag h, xA_ag h]
theorem isSoB_ag {A A' : Nat → Nat → Int32} (h : ag A A') : isSoB A' = isSoB A := by
  funext p side shape i j
  unfold isSoB vl rs
  rw [vlF_ag h, rsF_ag h, xA_ag h]
theorem MP_ag {A A' : Nat → Nat → Int32} (h : ag A A') {p : Nat} (hM : MP A p) : MP A' p := by
  unfold MP at hM ⊢
  rw [kA_ag h, nA_ag h, h.1, h.2.1, h.2.2.1, h.2.2.2.1]
  exact hM
section M4
variable {l : Launch} {d sz b p side r i j m shape : Nat} {I : Nat → Int32} {L : Int64} {A : Nat → Nat → Int32} {B : Nat → Nat → Int64} {g : Nat → Option aE}
theorem tX8_goes {x y : Int32} {h : aH} (hs : shape < 10) : mt l mX8_goes d 0 0 [.int (nI shape), .int x, .int y] h (rI (b2 (goesB shape x y)) h) := by
  refine mt_in (lv := [_, _, _]) (by decide) (Nat.le_of_ble_eq_true rfl) rfl ?_
  refine wp_iload_n (i := 0) (q := 1) dX8_goes_0 rfl rfl rfl ?_
  refine wp_iconst (v := nI 5) (q := 2) dX8_goes_1 (by decide) rfl ?_
  refine wp_icmp_ne (t := 18) (q := 5) dX8_goes_2 (by decide) rfl (fun h5 => ?_) (fun h5 => ?_)
  · have h5 : ¬ shape = 5 := fun q => h5 (by rw [q])
    refine wp_iload_n (i := 0) (q := 19) dX8_goes_18 rfl rfl rfl ?_
    refine wp_bipush (v := nI 6) (q := 21) dX8_goes_19 (by decide) rfl ?_
    refine wp_icmp_ne (t := 37) (q := 24) dX8_goes_21 (by decide) rfl (fun h6 => ?_) (fun h6 => ?_)
    · have h6 : ¬ shape = 6 := fun q => h6 (by rw [q])
      refine wp_iload_n (i := 0) (q := 38) dX8_goes_37 rfl rfl rfl ?_
      refine wp_bipush (v := nI 7) (q := 40) dX8_goes_38 (by decide) rfl ?_
      refine wp_icmp_ne (t := 56) (q := 43) dX8_goes_40 (by decide) rfl (fun h7 => ?_) (fun h7 => ?_)
      · have h7 : ¬ shape = 7 := fun q => h7 (by rw [q])
        refine wp_iload_n (i := 1) (q := 57) dX8_goes_56 rfl rfl rfl ?_
        refine wp_iload_n (i := 2) (q := 58) dX8_goes_57 rfl rfl rfl ?_
        refine wp_b2ceq (q := 61) (t := 65) (y := 66) dX8_goes_58 dX8_goes_61 dX8_goes_62 dX8_goes_65 (by decide) rfl rfl (by decide) rfl ?_
        refine wp_zret dX8_goes_66 rfl (by first | exact Or.inl rfl | exact Or.inr rfl | exact b2_01 _ | assumption) ?_
        exact ⟨by simp [goesB, h5, h6, h7], rfl⟩
      · have h7 : shape = 7 := (nI_eq (by omega) (by decide)).mp h7
        refine wp_iload_n (i := 1) (q := 44) dX8_goes_43 rfl rfl rfl ?_
        refine wp_iload_n (i := 2) (q := 45) dX8_goes_44 rfl rfl rfl ?_
        refine wp_icmp_gt (t := 52) (q := 48) dX8_goes_45 (by decide) rfl (fun hc => ?_) (fun hc => ?_)
        · refine wp_iconst (v := nI 0) (q := 53) dX8_goes_52 (by decide) rfl ?_
          refine wp_goto (q := 66) dX8_goes_53 (by decide) ?_
          refine wp_zret dX8_goes_66 rfl (by first | exact Or.inl rfl | exact Or.inr rfl | exact b2_01 _ | assumption) ?_
          exact ⟨by simp [goesB, h7, hc, b2], rfl⟩
        · refine wp_iconst (v := nI 1) (q := 49) dX8_goes_48 (by decide) rfl ?_
          refine wp_goto (q := 66) dX8_goes_49 (by decide) ?_
          refine wp_zret dX8_goes_66 rfl (by first | exact Or.inl rfl | exact Or.inr rfl | exact b2_01 _ | assumption) ?_
          exact ⟨by simp [goesB, h7, hc, b2], rfl⟩
    · have h6 : shape = 6 := (nI_eq (by omega) (by decide)).mp h6
      refine wp_iload_n (i := 1) (q := 25) dX8_goes_24 rfl rfl rfl ?_
      refine wp_iload_n (i := 2) (q := 26) dX8_goes_25 rfl rfl rfl ?_
      refine wp_icmp_ge (t := 33) (q := 29) dX8_goes_26 (by decide) rfl (fun hc => ?_) (fun hc => ?_)
      · refine wp_iconst (v := nI 0) (q := 34) dX8_goes_33 (by decide) rfl ?_
        refine wp_goto (q := 66) dX8_goes_34 (by decide) ?_
        refine wp_zret dX8_goes_66 rfl (by first | exact Or.inl rfl | exact Or.inr rfl | exact b2_01 _ | assumption) ?_
        exact ⟨by simp [goesB, h6, Int32.not_lt.mpr hc, b2], rfl⟩
      · refine wp_iconst (v := nI 1) (q := 30) dX8_goes_29 (by decide) rfl ?_
        refine wp_goto (q := 66) dX8_goes_30 (by decide) ?_
        refine wp_zret dX8_goes_66 rfl (by first | exact Or.inl rfl | exact Or.inr rfl | exact b2_01 _ | assumption) ?_
        exact ⟨by simp [goesB, h6, Int32.not_le.mp hc, b2], rfl⟩
  · have h5 : shape = 5 := (nI_eq (by omega) (by decide)).mp h5
    refine wp_iload_n (i := 1) (q := 6) dX8_goes_5 rfl rfl rfl ?_
    refine wp_iload_n (i := 2) (q := 7) dX8_goes_6 rfl rfl rfl ?_
    refine wp_icmp_ne (t := 14) (q := 10) dX8_goes_7 (by decide) rfl (fun hc => ?_) (fun hc => ?_)
    · refine wp_iconst (v := nI 0) (q := 15) dX8_goes_14 (by decide) rfl ?_
      refine wp_goto (q := 66) dX8_goes_15 (by decide) ?_
      refine wp_zret dX8_goes_66 rfl (by first | exact Or.inl rfl | exact Or.inr rfl | exact b2_01 _ | assumption) ?_
      exact ⟨by simp [goesB, h5, hc, b2], rfl⟩
    · refine wp_iconst (v := nI 1) (q := 11) dX8_goes_10 (by decide) rfl ?_
      refine wp_goto (q := 66) dX8_goes_11 (by decide) ?_
      refine wp_zret dX8_goes_66 rfl (by first | exact Or.inl rfl | exact Or.inr rfl | exact b2_01 _ | assumption) ?_
      exact ⟨by simp [goesB, h5, hc, b2], rfl⟩
theorem tX8_isTwo (hd : 2 ≤ d) (hp : p < 6) (hs : side < 3) (hi : i < 4) (hj : j < 4) (hsh : shape < 10) (hM : MP A p) : mt l mX8_isTwo d 0 0 [.ref b, .int (nI p), .int (nI side), .int (nI shape), .int (nI i), .int (nI j)] (sz, mh b I L A B g) (rI (b2 ((rs A p side).all (fun r => goesB shape (xA A p r i) (xA A p r j)))) (sz, mh b I L A B g)) := by
  have hM2 := hM
  obtain ⟨m1, m2, m3, m4, m5, m6⟩ := hM2
  refine mt_in (lv := [_, _, _, _, _, _, _, _]) (by decide) (Nat.le_of_ble_eq_true rfl) rfl ?_
  refine wp_iconst (v := nI 1) (q := 1) dX8_isTwo_0 (by decide) rfl ?_
  refine wp_istore (lv' := [_, _, _, _, _, some _, _, _]) (q := 3) dX8_isTwo_1 (by decide) rfl rfl ?_
  refine wp_iconst (v := nI 0) (q := 4) dX8_isTwo_3 (by decide) rfl ?_
  refine wp_istore (lv' := [_, _, _, _, _, _, some _, _]) (q := 6) dX8_isTwo_4 (by decide) rfl rfl ?_
  have H : ∀ n r (c : Bool), r + n = nA A p → wp l mX8_isTwo [] d 0 0 (rI (b2 (c && (rsF A p side r).all (fun r => goesB shape (xA A p r i) (xA A p r j)))) (sz, mh b I L A B g)) (sz, mh b I L A B g) 6 [some (.ref b), some (.int (nI p)), some (.int (nI side)), some (.int (nI shape)), some (.int (nI i)), some (.int (nI j)), some (.int (b2 c)), some (.int (nI r))] [] := by
    intro n
    induction n with
    | zero =>
      intro r c hr
      refine wp_iload (q := 8) dX8_isTwo_6 rfl rfl ?_
      refine wp_aload_n (i := 0) (q := 9) dX8_isTwo_8 rfl rfl rfl ?_
      refine wm_getA (k := 2) (o := 2) (q := 12) dX8_isTwo_9 ffX8_13 rfl rfl rfl ?_ -- many
      refine wp_iload_n (i := 1) (q := 13) dX8_isTwo_12 rfl rfl rfl ?_
      refine wm_ialdN (q := 14) dX8_isTwo_13 ⟨by decide, by decide, rfl⟩ rfl (by simp only [mlen]; omega) (by decide) rfl ?_
      rw [m3]
      refine wp_icmp_ge (t := 71) (q := 17) dX8_isTwo_14 (by decide) rfl (fun hc => ?_) (fun hc => ?_)
      · refine wp_iload (q := 73) dX8_isTwo_71 rfl rfl ?_
        refine wp_zret dX8_isTwo_73 rfl (by first | exact Or.inl rfl | exact Or.inr rfl | exact b2_01 _ | assumption) ?_
        rw [rsF_end (by omega)]
        exact ⟨by simp, rfl⟩
      · exact absurd ((nI_leI (by omega) (by omega)).mpr (by omega)) hc
    | succ n ih =>
      intro r c hr
      have K : ∀ c' : Bool, (c && (rsF A p side r).all (fun r => goesB shape (xA A p r i) (xA A p r j))) = (c' && (rsF A p side (r + 1)).all (fun r => goesB shape (xA A p r i) (xA A p r j))) → wp l mX8_isTwo [] d 0 0 (rI (b2 (c && (rsF A p side r).all (fun r => goesB shape (xA A p r i) (xA A p r j)))) (sz, mh b I L A B g)) (sz, mh b I L A B g) 63 [some (.ref b), some (.int (nI p)), some (.int (nI side)), some (.int (nI shape)), some (.int (nI i)), some (.int (nI j)), some (.int (b2 c)), some (.int (nI r))] [.int (b2 c')] := by
        intro c' he
        rw [he]
        refine wp_istore (lv' := [_, _, _, _, _, some _, _, _]) (q := 65) dX8_isTwo_63 (by decide) rfl rfl ?_
        refine wp_iinc (v := _ + nI 1) (lv' := [_, _, _, _, _, _, some _, _]) (q := 68) dX8_isTwo_65 rfl rfl (by decide) rfl rfl ?_
        refine wp_goto (q := 6) dX8_isTwo_68 (by decide) ?_
        rw [nI_add]
        exact ih (r + 1) c' (by omega)
      refine wp_iload (q := 8) dX8_isTwo_6 rfl rfl ?_
      refine wp_aload_n (i := 0) (q := 9) dX8_isTwo_8 rfl rfl rfl ?_
      refine wm_getA (k := 2) (o := 2) (q := 12) dX8_isTwo_9 ffX8_13 rfl rfl rfl ?_ -- many
      refine wp_iload_n (i := 1) (q := 13) dX8_isTwo_12 rfl rfl rfl ?_
      refine wm_ialdN (q := 14) dX8_isTwo_13 ⟨by decide, by decide, rfl⟩ rfl (by simp only [mlen]; omega) (by decide) rfl ?_
      rw [m3]
      refine wp_icmp_ge (t := 71) (q := 17) dX8_isTwo_14 (by decide) rfl (fun hc => ?_) (fun hc => ?_)
      · exact absurd ((nI_leI (by omega) (by omega)).mp hc) (by omega)
      refine wp_iload (q := 19) dX8_isTwo_17 rfl rfl ?_
      refine wp_if_eq (t := 62) (q := 22) dX8_isTwo_19 (by decide) rfl (fun hz => ?_) (fun hz => ?_)
      · refine wp_iconst (v := nI 0) (q := 63) dX8_isTwo_62 (by decide) rfl ?_
        exact K false (by rw [b2_eq0.mp hz]; simp)
      have hz := b2_ne0.mp hz
      refine wp_aload_n (i := 0) (q := 23) dX8_isTwo_22 rfl rfl rfl ?_
      refine wp_iload_n (i := 1) (q := 24) dX8_isTwo_23 rfl rfl rfl ?_
      refine wp_iload_n (i := 2) (q := 25) dX8_isTwo_24 rfl rfl rfl ?_
      refine wp_iload (q := 27) dX8_isTwo_25 rfl rfl ?_
      refine wp_Vi (μ' := mX8_isOf) (ci := 8) (q := 30) (tX8_isOf (d := d - 1) (by omega) hp (by omega) hs hM) dX8_isTwo_27 okX8_isOf lkX8_127 mh_obj rfl rfl rfl (Nat.le_of_ble_eq_true rfl) (by omega) rfl ?_
      refine wp_if_eq (t := 58) (q := 33) dX8_isTwo_30 (by decide) rfl (fun ho => ?_) (fun ho => ?_)
      · refine wp_iconst (v := nI 1) (q := 59) dX8_isTwo_58 (by decide) rfl ?_
        refine wp_goto (q := 63) dX8_isTwo_59 (by decide) ?_
        exact K true (by rw [hz, rsF_step (by omega), if_neg (by rw [b2_eq0.mp ho]; decide)])
      have ho := b2_ne0.mp ho
      refine wp_iload_n (i := 3) (q := 34) dX8_isTwo_33 rfl rfl rfl ?_
      refine wp_aload_n (i := 0) (q := 35) dX8_isTwo_34 rfl rfl rfl ?_
      refine wp_iload_n (i := 1) (q := 36) dX8_isTwo_35 rfl rfl rfl ?_
      refine wp_iload (q := 38) dX8_isTwo_36 rfl rfl ?_
      refine wp_iload (q := 40) dX8_isTwo_38 rfl rfl ?_
      refine wp_Vi (μ' := mX8_at) (ci := 8) (q := 43) (tX8_at (d := d - 1) hp (by omega) hi) dX8_isTwo_40 okX8_at lkX8_123 mh_obj rfl rfl rfl (Nat.le_of_ble_eq_true rfl) (by omega) rfl ?_
      refine wp_aload_n (i := 0) (q := 44) dX8_isTwo_43 rfl rfl rfl ?_
      refine wp_iload_n (i := 1) (q := 45) dX8_isTwo_44 rfl rfl rfl ?_
      refine wp_iload (q := 47) dX8_isTwo_45 rfl rfl ?_
      refine wp_iload (q := 49) dX8_isTwo_47 rfl rfl ?_
      refine wp_Vi (μ' := mX8_at) (ci := 8) (q := 52) (tX8_at (d := d - 1) hp (by omega) hj) dX8_isTwo_49 okX8_at lkX8_123 mh_obj rfl rfl rfl (Nat.le_of_ble_eq_true rfl) (by omega) rfl ?_
      refine wp_Si (μ' := mX8_goes) (q := 55) (tX8_goes (d := d - 1) hsh) dX8_isTwo_52 okX8_goes lkX8_151 rfl rfl (Nat.le_of_ble_eq_true rfl) (by omega) rfl ?_
      refine wp_if_eq (t := 62) (q := 58) dX8_isTwo_55 (by decide) rfl (fun hg => ?_) (fun hg => ?_)
      · refine wp_iconst (v := nI 0) (q := 63) dX8_isTwo_62 (by decide) rfl ?_
        exact K false (by rw [rsF_step (by omega), if_pos ho, List.all_cons, b2_eq0.mp hg]; simp)
      · refine wp_iconst (v := nI 1) (q := 59) dX8_isTwo_58 (by decide) rfl ?_
        refine wp_goto (q := 63) dX8_isTwo_59 (by decide) ?_
        exact K true (by rw [hz, rsF_step (by omega), if_pos ho, List.all_cons, b2_ne0.mp hg]; simp)
  have := H (nA A p) 0 true (by omega)
  rw [Bool.true_and] at this
  exact this
theorem tX8_isRising (hd : 2 ≤ d) (hp : p < 6) (hs : side < 3) (hi : i < 4) (hM : MP A p) : mt l mX8_isRising d 0 0 [.ref b, .int (nI p), .int (nI side), .int (nI i)] (sz, mh b I L A B g) (rI (b2 (risF (-31) (vl A p side i))) (sz, mh b I L A B g)) := by
  have hM2 := hM
  obtain ⟨m1, m2, m3, m4, m5, m6⟩ := hM2
  refine mt_in (lv := [_, _, _, _, _, _, _]) (by decide) (Nat.le_of_ble_eq_true rfl) rfl ?_
  refine wp_bipush (v := (-31)) (q := 2) dX8_isRising_0 (by decide) rfl ?_
  refine wp_istore (lv' := [_, _, _, some _, _, _, _]) (q := 4) dX8_isRising_2 (by decide) rfl rfl ?_
  refine wp_iconst (v := nI 1) (q := 5) dX8_isRising_4 (by decide) rfl ?_
  refine wp_istore (lv' := [_, _, _, _, some _, _, _]) (q := 7) dX8_isRising_5 (by decide) rfl rfl ?_
  refine wp_iconst (v := nI 0) (q := 8) dX8_isRising_7 (by decide) rfl ?_
  refine wp_istore (lv' := [_, _, _, _, _, some _, _]) (q := 10) dX8_isRising_8 (by decide) rfl rfl ?_
  have H : ∀ n r (o : Int32) (c : Bool), r + n = nA A p → wp l mX8_isRising [] d 0 0 (rI (b2 (c && risF o (vlF A p side i r))) (sz, mh b I L A B g)) (sz, mh b I L A B g) 10 [some (.ref b), some (.int (nI p)), some (.int (nI side)), some (.int (nI i)), some (.int o), some (.int (b2 c)), some (.int (nI r))] [] := by
    intro n
    induction n with
    | zero =>
      intro r o c hr
      refine wp_iload (q := 12) dX8_isRising_10 rfl rfl ?_
      refine wp_aload_n (i := 0) (q := 13) dX8_isRising_12 rfl rfl rfl ?_
      refine wm_getA (k := 2) (o := 2) (q := 16) dX8_isRising_13 ffX8_13 rfl rfl rfl ?_ -- many
      refine wp_iload_n (i := 1) (q := 17) dX8_isRising_16 rfl rfl rfl ?_
      refine wm_ialdN (q := 18) dX8_isRising_17 ⟨by decide, by decide, rfl⟩ rfl (by simp only [mlen]; omega) (by decide) rfl ?_
      rw [m3]
      refine wp_icmp_ge (t := 73) (q := 21) dX8_isRising_18 (by decide) rfl (fun hc => ?_) (fun hc => ?_)
      · refine wp_iload (q := 75) dX8_isRising_73 rfl rfl ?_
        refine wp_zret dX8_isRising_75 rfl (by first | exact Or.inl rfl | exact Or.inr rfl | exact b2_01 _ | assumption) ?_
        rw [vlF_end (by omega)]
        exact ⟨by simp [risF], rfl⟩
      · exact absurd ((nI_leI (by omega) (by omega)).mpr (by omega)) hc
    | succ n ih =>
      intro r o c hr
      refine wp_iload (q := 12) dX8_isRising_10 rfl rfl ?_
      refine wp_aload_n (i := 0) (q := 13) dX8_isRising_12 rfl rfl rfl ?_
      refine wm_getA (k := 2) (o := 2) (q := 16) dX8_isRising_13 ffX8_13 rfl rfl rfl ?_ -- many
      refine wp_iload_n (i := 1) (q := 17) dX8_isRising_16 rfl rfl rfl ?_
      refine wm_ialdN (q := 18) dX8_isRising_17 ⟨by decide, by decide, rfl⟩ rfl (by simp only [mlen]; omega) (by decide) rfl ?_
      rw [m3]
      refine wp_icmp_ge (t := 73) (q := 21) dX8_isRising_18 (by decide) rfl (fun hc => ?_) (fun hc => ?_)
      · exact absurd ((nI_leI (by omega) (by omega)).mp hc) (by omega)
      refine wp_aload_n (i := 0) (q := 22) dX8_isRising_21 rfl rfl rfl ?_
      refine wp_iload_n (i := 1) (q := 23) dX8_isRising_22 rfl rfl rfl ?_
      refine wp_iload_n (i := 2) (q := 24) dX8_isRising_23 rfl rfl rfl ?_
      refine wp_iload (q := 26) dX8_isRising_24 rfl rfl ?_
      refine wp_Vi (μ' := mX8_isOf) (ci := 8) (q := 29) (tX8_isOf (d := d - 1) (by omega) hp (by omega) hs hM) dX8_isRising_26 okX8_isOf lkX8_127 mh_obj rfl rfl rfl (Nat.le_of_ble_eq_true rfl) (by omega) rfl ?_
      refine wp_if_eq (t := 67) (q := 32) dX8_isRising_29 (by decide) rfl (fun ho => ?_) (fun ho => ?_)
      · rw [vlF_f (by omega) (b2_eq0.mp ho)]
        refine wp_iinc (v := _ + nI 1) (lv' := [_, _, _, _, _, some _, _]) (q := 70) dX8_isRising_67 rfl rfl (by decide) rfl rfl ?_
        refine wp_goto (q := 10) dX8_isRising_70 (by decide) ?_
        rw [nI_add]
        exact ih (r + 1) o c (by omega)
      rw [vlF_t (by omega) (b2_ne0.mp ho), risF]
      have K : ∀ c' : Bool, c' = (c && !decide (xA A p r i < o)) → wp l mX8_isRising [] d 0 0 (rI (b2 (c && (!decide (xA A p r i < o) && risF (xA A p r i) (vlF A p side i (r + 1))))) (sz, mh b I L A B g)) (sz, mh b I L A B g) 55 [some (.ref b), some (.int (nI p)), some (.int (nI side)), some (.int (nI i)), some (.int o), some (.int (b2 c)), some (.int (nI r))] [.int (b2 c')] := by
        intro c' he
        rw [← Bool.and_assoc, ← he]
        refine wp_istore (lv' := [_, _, _, _, some _, _, _]) (q := 57) dX8_isRising_55 (by decide) rfl rfl ?_
        refine wp_aload_n (i := 0) (q := 58) dX8_isRising_57 rfl rfl rfl ?_
        refine wp_iload_n (i := 1) (q := 59) dX8_isRising_58 rfl rfl rfl ?_
        refine wp_iload (q := 61) dX8_isRising_59 rfl rfl ?_
        refine wp_iload_n (i := 3) (q := 62) dX8_isRising_61 rfl rfl rfl ?_
        refine wp_Vi (μ' := mX8_at) (ci := 8) (q := 65) (tX8_at (d := d - 1) hp (by omega) hi) dX8_isRising_62 okX8_at lkX8_123 mh_obj rfl rfl rfl (Nat.le_of_ble_eq_true rfl) (by omega) rfl ?_
        refine wp_istore (lv' := [_, _, _, some _, _, _, _]) (q := 67) dX8_isRising_65 (by decide) rfl rfl ?_
        refine wp_iinc (v := _ + nI 1) (lv' := [_, _, _, _, _, some _, _]) (q := 70) dX8_isRising_67 rfl rfl (by decide) rfl rfl ?_
        refine wp_goto (q := 10) dX8_isRising_70 (by decide) ?_
        rw [nI_add]
        exact ih (r + 1) _ c' (by omega)
      refine wp_iload (q := 34) dX8_isRising_32 rfl rfl ?_
      refine wp_if_eq (t := 54) (q := 37) dX8_isRising_34 (by decide) rfl (fun hz => ?_) (fun hz => ?_)
      · refine wp_iconst (v := nI 0) (q := 55) dX8_isRising_54 (by decide) rfl ?_
        exact K false (by rw [b2_eq0.mp hz]; simp)
      refine wp_aload_n (i := 0) (q := 38) dX8_isRising_37 rfl rfl rfl ?_
      refine wp_iload_n (i := 1) (q := 39) dX8_isRising_38 rfl rfl rfl ?_
      refine wp_iload (q := 41) dX8_isRising_39 rfl rfl ?_
      refine wp_iload_n (i := 3) (q := 42) dX8_isRising_41 rfl rfl rfl ?_
      refine wp_Vi (μ' := mX8_at) (ci := 8) (q := 45) (tX8_at (d := d - 1) hp (by omega) hi) dX8_isRising_42 okX8_at lkX8_123 mh_obj rfl rfl rfl (Nat.le_of_ble_eq_true rfl) (by omega) rfl ?_
      refine wp_iload (q := 47) dX8_isRising_45 rfl rfl ?_
      refine wp_b2clt (q := 50) (t := 54) (y := 55) dX8_isRising_47 dX8_isRising_50 dX8_isRising_51 dX8_isRising_54 (by decide) rfl rfl (by decide) rfl ?_
      exact K _ (by rw [b2_ne0.mp hz]; simp)
  have := H (nA A p) 0 (-31) true (by omega)
  rw [Bool.true_and] at this
  exact this
theorem tX8_isOfTwo {h : aH} {x : Int32} (hd : 1 ≤ d) : mt l mX8_isOfTwo d 0 0 [.int x] h (rI (b2 (inB x (nI 5) (nI 8))) h) := by
  refine mt_in (lv := [_]) (by decide) (Nat.le_of_ble_eq_true rfl) rfl ?_
  refine wp_iload_n (i := 0) (q := 1) dX8_isOfTwo_0 rfl rfl rfl ?_
  refine wp_iconst (v := nI 5) (q := 2) dX8_isOfTwo_1 (by decide) rfl ?_
  refine wp_bipush (v := nI 8) (q := 4) dX8_isOfTwo_2 (by decide) rfl ?_
  refine wp_Si (μ' := mX8_in) (q := 7) (tX8_in (d := d - 1)) dX8_isOfTwo_4 okX8_in lkX8_115 rfl rfl (Nat.le_of_ble_eq_true rfl) (by omega) rfl ?_
  refine wp_zret dX8_isOfTwo_7 rfl (by first | exact Or.inl rfl | exact Or.inr rfl | exact b2_01 _ | assumption) ?_
  exact ⟨rfl, rfl⟩
theorem tX8_isSo {jx : Int32} (hd : 3 ≤ d) (hp : p < 6) (hs : side < 3) (hi : i < 4) (hj : 5 ≤ shape → shape ≤ 8 → jx = nI j ∧ j < 4) (hsh : shape < 10) (hM : MP A p) : mt l mX8_isSo d 0 0 [.ref b, .int (nI p), .int (nI side), .int (nI shape), .int (nI i), .int jx] (sz, mh b I L A B g) (fun rv h' => rv = some (.int (b2 (isSoB A p side shape i j))) ∧ ∃ I' A', h' = (sz, mh b I' L A' B g) ∧ SC [7] [7] I A I' A') := by
  have g4 : ∀ s : List Int32, (gth [] s).length < 2 ^ 31 := by
    have h1 : ∀ (s t : List Int32), t.length ≤ 4 → (gth t s).length ≤ 4 := by
      intro s
      induction s with
      | nil => intro t ht; exact ht
      | cons v vs ih =>
        intro t ht
        unfold gth
        split
        · next h4 => exact ih _ (by have := insL_len (v := v) (s := t); omega)
        · exact ht
    exact fun s => by have := h1 s [] (by simp); omega
  refine mt_in (lv := [_, _, _, _, _, _]) (by decide) (Nat.le_of_ble_eq_true rfl) rfl ?_
  refine wp_iload_n (i := 3) (q := 1) dX8_isSo_0 rfl rfl rfl ?_
  rcases (show shape = 0 ∨ shape = 1 ∨ shape = 2 ∨ shape = 3 ∨ shape = 4 ∨ shape = 9 ∨ shape = 5 ∨ shape = 6 ∨ shape = 7 ∨ shape = 8 by omega) with rfl | rfl | rfl | rfl | rfl | rfl | rfl | rfl | rfl | rfl
  · refine wp_tableIn (off := 55) (q := 56) dX8_isSo_1 (by decide) (by decide) (by decide) (by decide) ?_
    refine wp_aload_n (i := 0) (q := 57) dX8_isSo_56 rfl rfl rfl ?_
    refine wp_iload_n (i := 1) (q := 58) dX8_isSo_57 rfl rfl rfl ?_
    refine wp_iload_n (i := 2) (q := 59) dX8_isSo_58 rfl rfl rfl ?_
    refine wp_iload (q := 61) dX8_isSo_59 rfl rfl ?_
    refine wp_V (μ' := mX8_gather) (ci := 8) (q := 64) (tX8_gather (d := d - 1) (by omega) hp hs hi hM) dX8_isSo_61 okX8_gather lkX8_154 mh_obj rfl rfl rfl (Nat.le_of_ble_eq_true rfl) (by omega) rfl (fun rv hx hq => ?_)
    obtain ⟨rfl, f, rfl, hf⟩ := hq
    refine wp_aload_n (i := 0) (q := 65) dX8_isSo_64 rfl rfl rfl ?_
    refine wm_getI (k := 7) (q := 68) dX8_isSo_65 ffX8_141 rfl rfl ?_ -- unlike
    refine wp_iconst (v := nI 1) (q := 69) dX8_isSo_68 (by decide) rfl ?_
    rw [show upd I 7 (nI (gth [] (vl A p side i)).length) 7 = nI (gth [] (vl A p side i)).length by simp [upd]]
    refine wp_b2cne (q := 72) (t := 76) (y := 77) dX8_isSo_69 dX8_isSo_72 dX8_isSo_73 dX8_isSo_76 (by decide) rfl rfl (by decide) rfl ?_
    refine wp_zret dX8_isSo_77 rfl (by first | exact Or.inl rfl | exact Or.inr rfl | exact b2_01 _ | assumption) ?_
    exact ⟨by rw [decide_eq_decide.mpr (nI_eq (g4 _) (by decide))]; rfl, _, _, rfl, (SC.uI (by decide)).tr (SC.uR (by decide))⟩
  · refine wp_tableIn (off := 77) (q := 78) dX8_isSo_1 (by decide) (by decide) (by decide) (by decide) ?_
    refine wp_aload_n (i := 0) (q := 79) dX8_isSo_78 rfl rfl rfl ?_
    refine wp_iload_n (i := 1) (q := 80) dX8_isSo_79 rfl rfl rfl ?_
    refine wp_iload_n (i := 2) (q := 81) dX8_isSo_80 rfl rfl rfl ?_
    refine wp_iload (q := 83) dX8_isSo_81 rfl rfl ?_
    refine wp_V (μ' := mX8_gather) (ci := 8) (q := 86) (tX8_gather (d := d - 1) (by omega) hp hs hi hM) dX8_isSo_83 okX8_gather lkX8_154 mh_obj rfl rfl rfl (Nat.le_of_ble_eq_true rfl) (by omega) rfl (fun rv hx hq => ?_)
    obtain ⟨rfl, f, rfl, hf⟩ := hq
    have e7 : upd I 7 (nI (gth [] (vl A p side i)).length) 7 = nI (gth [] (vl A p side i)).length := by simp [upd]
    have hS : SC [7] [7] I A (upd I 7 (nI (gth [] (vl A p side i)).length)) (upR A 7 f) := (SC.uI (by decide)).tr (SC.uR (by decide))
    refine wp_aload_n (i := 0) (q := 87) dX8_isSo_86 rfl rfl rfl ?_
    refine wm_getI (k := 7) (q := 90) dX8_isSo_87 ffX8_141 rfl rfl ?_ -- unlike
    refine wp_iconst (v := nI 2) (q := 91) dX8_isSo_90 (by decide) rfl ?_
    rw [e7]
    refine wp_icmp_eq (t := 102) (q := 94) dX8_isSo_91 (by decide) rfl (fun h2 => ?_) (fun h2 => ?_)
    · refine wp_iconst (v := nI 1) (q := 103) dX8_isSo_102 (by decide) rfl ?_
      refine wp_goto (q := 107) dX8_isSo_103 (by decide) ?_
      refine wp_zret dX8_isSo_107 rfl (by first | exact Or.inl rfl | exact Or.inr rfl | exact b2_01 _ | assumption) ?_
      have h2 := (nI_eq (g4 _) (by decide)).mp h2
      exact ⟨by simp [isSoB, h2, b2], _, _, rfl, hS⟩
    have h2 : ¬ (gth [] (vl A p side i)).length = 2 := fun q => h2 (by rw [q])
    refine wp_aload_n (i := 0) (q := 95) dX8_isSo_94 rfl rfl rfl ?_
    refine wm_getI (k := 7) (q := 98) dX8_isSo_95 ffX8_141 rfl rfl ?_ -- unlike
    refine wp_iconst (v := nI 3) (q := 99) dX8_isSo_98 (by decide) rfl ?_
    rw [e7]
    refine wp_icmp_ne (t := 106) (q := 102) dX8_isSo_99 (by decide) rfl (fun h3 => ?_) (fun h3 => ?_)
    · refine wp_iconst (v := nI 0) (q := 107) dX8_isSo_106 (by decide) rfl ?_
      refine wp_zret dX8_isSo_107 rfl (by first | exact Or.inl rfl | exact Or.inr rfl | exact b2_01 _ | assumption) ?_
      have h3 : ¬ (gth [] (vl A p side i)).length = 3 := fun q => h3 (by rw [q])
      exact ⟨by simp [isSoB, h2, h3, b2], _, _, rfl, hS⟩
    · refine wp_iconst (v := nI 1) (q := 103) dX8_isSo_102 (by decide) rfl ?_
      refine wp_goto (q := 107) dX8_isSo_103 (by decide) ?_
      refine wp_zret dX8_isSo_107 rfl (by first | exact Or.inl rfl | exact Or.inr rfl | exact b2_01 _ | assumption) ?_
      have h3 := (nI_eq (g4 _) (by decide)).mp h3
      exact ⟨by simp [isSoB, h3, b2], _, _, rfl, hS⟩
  · refine wp_tableIn (off := 107) (q := 108) dX8_isSo_1 (by decide) (by decide) (by decide) (by decide) ?_
    refine wp_iconst (v := nI 1) (q := 109) dX8_isSo_108 (by decide) rfl ?_
    refine wp_zret dX8_isSo_109 rfl (by first | exact Or.inl rfl | exact Or.inr rfl | exact b2_01 _ | assumption) ?_
    exact ⟨rfl, _, _, rfl, SC.rf⟩
  · refine wp_tableIn (off := 107) (q := 108) dX8_isSo_1 (by decide) (by decide) (by decide) (by decide) ?_
    refine wp_iconst (v := nI 1) (q := 109) dX8_isSo_108 (by decide) rfl ?_
    refine wp_zret dX8_isSo_109 rfl (by first | exact Or.inl rfl | exact Or.inr rfl | exact b2_01 _ | assumption) ?_
    exact ⟨rfl, _, _, rfl, SC.rf⟩
  · refine wp_tableIn (off := 109) (q := 110) dX8_isSo_1 (by decide) (by decide) (by decide) (by decide) ?_
    have hb : ∀ (vs : List Int32) m, mdF vs m ≤ m := by
      intro vs m
      induction m with
      | zero => simp [mdF]
      | succ m ih =>
        cases m with
        | zero => simp [mdF]
        | succ m =>
          unfold mdF
          split
          · omega
          · omega
    refine wp_aload_n (i := 0) (q := 111) dX8_isSo_110 rfl rfl rfl ?_
    refine wp_iload_n (i := 1) (q := 112) dX8_isSo_111 rfl rfl rfl ?_
    refine wp_iload_n (i := 2) (q := 113) dX8_isSo_112 rfl rfl rfl ?_
    refine wp_iload (q := 115) dX8_isSo_113 rfl rfl ?_
    refine wp_Vi (μ' := mX8_modulus) (ci := 8) (q := 118) (tX8_modulus (d := d - 1) (by omega) hp hs hi hM) dX8_isSo_115 okX8_modulus lkX8_158 mh_obj rfl rfl rfl (Nat.le_of_ble_eq_true rfl) (by omega) rfl ?_
    refine wp_if_le (t := 125) (q := 121) dX8_isSo_118 (by decide) rfl (fun hc => ?_) (fun hc => ?_)
    · refine wp_iconst (v := nI 0) (q := 126) dX8_isSo_125 (by decide) rfl ?_
      refine wp_zret dX8_isSo_126 rfl (by first | exact Or.inl rfl | exact Or.inr rfl | exact b2_01 _ | assumption) ?_
      have : mdF (vl A p side i) 12 ≤ 0 := (nI_leI (b := 0) (by have := hb (vl A p side i) 12; omega) (by decide)).mp hc
      exact ⟨by simp [isSoB, show ¬ 0 < mdF (vl A p side i) 12 by omega, b2], _, _, rfl, SC.rf⟩
    · refine wp_iconst (v := nI 1) (q := 122) dX8_isSo_121 (by decide) rfl ?_
      refine wp_goto (q := 126) dX8_isSo_122 (by decide) ?_
      refine wp_zret dX8_isSo_126 rfl (by first | exact Or.inl rfl | exact Or.inr rfl | exact b2_01 _ | assumption) ?_
      have : ¬ mdF (vl A p side i) 12 ≤ 0 := fun q => hc ((nI_leI (b := 0) (by have := hb (vl A p side i) 12; omega) (by decide)).mpr q)
      exact ⟨by simp [isSoB, show 0 < mdF (vl A p side i) 12 by omega, b2], _, _, rfl, SC.rf⟩
  · refine wp_tableIn (off := 126) (q := 127) dX8_isSo_1 (by decide) (by decide) (by decide) (by decide) ?_
    refine wp_aload_n (i := 0) (q := 128) dX8_isSo_127 rfl rfl rfl ?_
    refine wp_iload_n (i := 1) (q := 129) dX8_isSo_128 rfl rfl rfl ?_
    refine wp_iload_n (i := 2) (q := 130) dX8_isSo_129 rfl rfl rfl ?_
    refine wp_iload (q := 132) dX8_isSo_130 rfl rfl ?_
    refine wp_Vi (μ' := mX8_isRising) (ci := 8) (q := 135) (tX8_isRising (d := d - 1) (by omega) hp hs hi hM) dX8_isSo_132 okX8_isRising lkX8_161 mh_obj rfl rfl rfl (Nat.le_of_ble_eq_true rfl) (by omega) rfl ?_
    refine wp_zret dX8_isSo_135 rfl (by first | exact Or.inl rfl | exact Or.inr rfl | exact b2_01 _ | assumption) ?_
    exact ⟨rfl, _, _, rfl, SC.rf⟩
  · refine wp_tableIn (off := 135) (q := 136) dX8_isSo_1 (by decide) (by decide) (by decide) (by decide) ?_
    obtain ⟨rfl, hj4⟩ := hj (by decide) (by decide)
    refine wp_aload_n (i := 0) (q := 137) dX8_isSo_136 rfl rfl rfl ?_
    refine wp_iload_n (i := 1) (q := 138) dX8_isSo_137 rfl rfl rfl ?_
    refine wp_iload_n (i := 2) (q := 139) dX8_isSo_138 rfl rfl rfl ?_
    refine wp_iload_n (i := 3) (q := 140) dX8_isSo_139 rfl rfl rfl ?_
    refine wp_iload (q := 142) dX8_isSo_140 rfl rfl ?_
    refine wp_iload (q := 144) dX8_isSo_142 rfl rfl ?_
    refine wp_Vi (μ' := mX8_isTwo) (ci := 8) (q := 147) (tX8_isTwo (d := d - 1) (by omega) hp hs hi hj4 (by decide) hM) dX8_isSo_144 okX8_isTwo lkX8_164 mh_obj rfl rfl rfl (Nat.le_of_ble_eq_true rfl) (by omega) rfl ?_
    refine wp_zret dX8_isSo_147 rfl (by first | exact Or.inl rfl | exact Or.inr rfl | exact b2_01 _ | assumption) ?_
    exact ⟨rfl, _, _, rfl, SC.rf⟩
  · refine wp_tableIn (off := 135) (q := 136) dX8_isSo_1 (by decide) (by decide) (by decide) (by decide) ?_
    obtain ⟨rfl, hj4⟩ := hj (by decide) (by decide)
    refine wp_aload_n (i := 0) (q := 137) dX8_isSo_136 rfl rfl rfl ?_
    refine wp_iload_n (i := 1) (q := 138) dX8_isSo_137 rfl rfl rfl ?_
    refine wp_iload_n (i := 2) (q := 139) dX8_isSo_138 rfl rfl rfl ?_
    refine wp_iload_n (i := 3) (q := 140) dX8_isSo_139 rfl rfl rfl ?_
    refine wp_iload (q := 142) dX8_isSo_140 rfl rfl ?_
    refine wp_iload (q := 144) dX8_isSo_142 rfl rfl ?_
    refine wp_Vi (μ' := mX8_isTwo) (ci := 8) (q := 147) (tX8_isTwo (d := d - 1) (by omega) hp hs hi hj4 (by decide) hM) dX8_isSo_144 okX8_isTwo lkX8_164 mh_obj rfl rfl rfl (Nat.le_of_ble_eq_true rfl) (by omega) rfl ?_
    refine wp_zret dX8_isSo_147 rfl (by first | exact Or.inl rfl | exact Or.inr rfl | exact b2_01 _ | assumption) ?_
    exact ⟨rfl, _, _, rfl, SC.rf⟩
  · refine wp_tableIn (off := 135) (q := 136) dX8_isSo_1 (by decide) (by decide) (by decide) (by decide) ?_
    obtain ⟨rfl, hj4⟩ := hj (by decide) (by decide)
    refine wp_aload_n (i := 0) (q := 137) dX8_isSo_136 rfl rfl rfl ?_
    refine wp_iload_n (i := 1) (q := 138) dX8_isSo_137 rfl rfl rfl ?_
    refine wp_iload_n (i := 2) (q := 139) dX8_isSo_138 rfl rfl rfl ?_
    refine wp_iload_n (i := 3) (q := 140) dX8_isSo_139 rfl rfl rfl ?_
    refine wp_iload (q := 142) dX8_isSo_140 rfl rfl ?_
    refine wp_iload (q := 144) dX8_isSo_142 rfl rfl ?_
    refine wp_Vi (μ' := mX8_isTwo) (ci := 8) (q := 147) (tX8_isTwo (d := d - 1) (by omega) hp hs hi hj4 (by decide) hM) dX8_isSo_144 okX8_isTwo lkX8_164 mh_obj rfl rfl rfl (Nat.le_of_ble_eq_true rfl) (by omega) rfl ?_
    refine wp_zret dX8_isSo_147 rfl (by first | exact Or.inl rfl | exact Or.inr rfl | exact b2_01 _ | assumption) ?_
    exact ⟨rfl, _, _, rfl, SC.rf⟩
  · refine wp_tableIn (off := 135) (q := 136) dX8_isSo_1 (by decide) (by decide) (by decide) (by decide) ?_
    obtain ⟨rfl, hj4⟩ := hj (by decide) (by decide)
    refine wp_aload_n (i := 0) (q := 137) dX8_isSo_136 rfl rfl rfl ?_
    refine wp_iload_n (i := 1) (q := 138) dX8_isSo_137 rfl rfl rfl ?_
    refine wp_iload_n (i := 2) (q := 139) dX8_isSo_138 rfl rfl rfl ?_
    refine wp_iload_n (i := 3) (q := 140) dX8_isSo_139 rfl rfl rfl ?_
    refine wp_iload (q := 142) dX8_isSo_140 rfl rfl ?_
    refine wp_iload (q := 144) dX8_isSo_142 rfl rfl ?_
    refine wp_Vi (μ' := mX8_isTwo) (ci := 8) (q := 147) (tX8_isTwo (d := d - 1) (by omega) hp hs hi hj4 (by decide) hM) dX8_isSo_144 okX8_isTwo lkX8_164 mh_obj rfl rfl rfl (Nat.le_of_ble_eq_true rfl) (by omega) rfl ?_
    refine wp_zret dX8_isSo_147 rfl (by first | exact Or.inl rfl | exact Or.inr rfl | exact b2_01 _ | assumption) ?_
    exact ⟨rfl, _, _, rfl, SC.rf⟩
end M4
