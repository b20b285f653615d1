/-! THE CLASS: Program -/
theorem ix_neg {n : Nat} {x : Int32} (h : x < 0) : ix n x = false := by
  unfold ix
  refine decide_eq_false (fun q => ?_)
  have := Int32.lt_iff_toInt_lt.mp h
  rw [show (0 : Int32).toInt = 0 from rfl] at this
  omega
section PR
variable {l : Launch} {d lo sz b p a : Nat} {g : Nat → Option aE} {D : DS} {I : Nat → Int32} {A : Nat → Nat → Int32} {B : Nat → Int64}
theorem tX4_pointAt (hW : DW lo sz g D) (hp : p < dNp D) : mt l mX4_pointAt d 0 0 [.ref (b + 1), .int (nI p)] (sz, ch b I A B D g) (rR (.ref (dPa D p)) (sz, ch b I A B D g)) := by
  have h6 := hW.np
  refine mt_in (lv := [_, _]) (by decide) (Nat.le_of_ble_eq_true rfl) rfl ?_
  refine wp_iload_n (i := 1) (q := 1) dX4_pointAt_0 rfl rfl rfl ?_
  refine wp_if_lt (t := 21) (q := 4) dX4_pointAt_1 (by decide) rfl (fun hc => ?_) (fun hc => ?_)
  · exact absurd hc (nI_pos (by omega))
  refine wp_iload_n (i := 1) (q := 5) dX4_pointAt_4 rfl rfl rfl ?_
  refine wp_aload_n (i := 0) (q := 6) dX4_pointAt_5 rfl rfl rfl ?_
  refine wg4_4 (q := 9) dX4_pointAt_6 ffX4_31 (by first | exact ch_prg | exact ch_pts | exact ch_acs | exact ch_4 | exact ch_pul | exact ch_obj) rfl ?_ -- pointCount
  refine wp_icmp_ge (t := 21) (q := 12) dX4_pointAt_9 (by decide) rfl (fun hc2 => ?_) (fun hc2 => ?_)
  · exact absurd ((nI_leI (by omega) (by omega)).mp hc2) (by omega)
  refine wp_aload_n (i := 0) (q := 13) dX4_pointAt_12 rfl rfl rfl ?_
  refine wg4_0 (q := 16) dX4_pointAt_13 ffX4_11 (by first | exact ch_prg | exact ch_pts | exact ch_acs | exact ch_4 | exact ch_pul | exact ch_obj) rfl ?_ -- points
  refine wp_iload_n (i := 1) (q := 17) dX4_pointAt_16 rfl rfl rfl ?_
  refine wq_aald (q := 18) dX4_pointAt_17 (by first | exact ch_prg | exact ch_pts | exact ch_acs | exact ch_4 | exact ch_pul | exact ch_obj) (by decide) rfl (by first | omega | exact ⟨by omega, by omega⟩) (by exact if_pos (by omega)) rfl ?_
  refine wp_goto (q := 22) dX4_pointAt_18 (by decide) ?_
  refine wp_aret dX4_pointAt_22 rfl (by first | exact Or.inl ⟨_, rfl⟩ | exact Or.inr ⟨_, rfl⟩) (by first | exact Or.inl rfl | exact Or.inr ⟨_, rfl⟩) ?_
  exact ⟨rfl, rfl⟩
theorem tX4_pointAtN {x : Int32} (hW : DW lo sz g D) (hx : ix (dNp D) x = false) : mt l mX4_pointAt d 0 0 [.ref (b + 1), .int x] (sz, ch b I A B D g) (rR .null (sz, ch b I A B D g)) := by
  have h6 := hW.np
  refine mt_in (lv := [_, _]) (by decide) (Nat.le_of_ble_eq_true rfl) rfl ?_
  refine wp_iload_n (i := 1) (q := 1) dX4_pointAt_0 rfl rfl rfl ?_
  refine wp_if_lt (t := 21) (q := 4) dX4_pointAt_1 (by decide) rfl (fun hc => ?_) (fun hc => ?_)
  · refine wp_null (q := 22) dX4_pointAt_21 rfl ?_
    refine wp_aret dX4_pointAt_22 rfl (by first | exact Or.inl ⟨_, rfl⟩ | exact Or.inr ⟨_, rfl⟩) (by first | exact Or.inl rfl | exact Or.inr ⟨_, rfl⟩) ?_
    exact ⟨rfl, rfl⟩
  obtain ⟨j, hj, rfl⟩ := nI_of hc
  rw [ix_nI hj] at hx
  refine wp_iload_n (i := 1) (q := 5) dX4_pointAt_4 rfl rfl rfl ?_
  refine wp_aload_n (i := 0) (q := 6) dX4_pointAt_5 rfl rfl rfl ?_
  refine wg4_4 (q := 9) dX4_pointAt_6 ffX4_31 (by first | exact ch_prg | exact ch_pts | exact ch_acs | exact ch_4 | exact ch_pul | exact ch_obj) rfl ?_ -- pointCount
  refine wp_icmp_ge (t := 21) (q := 12) dX4_pointAt_9 (by decide) rfl (fun hc2 => ?_) (fun hc2 => ?_)
  · refine wp_null (q := 22) dX4_pointAt_21 rfl ?_
    refine wp_aret dX4_pointAt_22 rfl (by first | exact Or.inl ⟨_, rfl⟩ | exact Or.inr ⟨_, rfl⟩) (by first | exact Or.inl rfl | exact Or.inr ⟨_, rfl⟩) ?_
    exact ⟨rfl, rfl⟩
  · exact absurd ((nI_leI (by omega) (by omega)).mpr (Nat.not_lt.mp (of_decide_eq_false hx))) hc2
theorem tX4_actAt (hW : DW lo sz g D) (ha : a < dNa D) : mt l mX4_actAt d 0 0 [.ref (b + 1), .int (nI a)] (sz, ch b I A B D g) (rR (.ref (dAa D a)) (sz, ch b I A B D g)) := by
  have h6 := hW.na
  refine mt_in (lv := [_, _]) (by decide) (Nat.le_of_ble_eq_true rfl) rfl ?_
  refine wp_iload_n (i := 1) (q := 1) dX4_actAt_0 rfl rfl rfl ?_
  refine wp_if_lt (t := 21) (q := 4) dX4_actAt_1 (by decide) rfl (fun hc => ?_) (fun hc => ?_)
  · exact absurd hc (nI_pos (by omega))
  refine wp_iload_n (i := 1) (q := 5) dX4_actAt_4 rfl rfl rfl ?_
  refine wp_aload_n (i := 0) (q := 6) dX4_actAt_5 rfl rfl rfl ?_
  refine wg4_5 (q := 9) dX4_actAt_6 ffX4_35 (by first | exact ch_prg | exact ch_pts | exact ch_acs | exact ch_4 | exact ch_pul | exact ch_obj) rfl ?_ -- actCount
  refine wp_icmp_ge (t := 21) (q := 12) dX4_actAt_9 (by decide) rfl (fun hc2 => ?_) (fun hc2 => ?_)
  · exact absurd ((nI_leI (by omega) (by omega)).mp hc2) (by omega)
  refine wp_aload_n (i := 0) (q := 13) dX4_actAt_12 rfl rfl rfl ?_
  refine wg4_1 (q := 16) dX4_actAt_13 ffX4_19 (by first | exact ch_prg | exact ch_pts | exact ch_acs | exact ch_4 | exact ch_pul | exact ch_obj) rfl ?_ -- acts
  refine wp_iload_n (i := 1) (q := 17) dX4_actAt_16 rfl rfl rfl ?_
  refine wq_aald (q := 18) dX4_actAt_17 (by first | exact ch_prg | exact ch_pts | exact ch_acs | exact ch_4 | exact ch_pul | exact ch_obj) (by decide) rfl (by first | omega | exact ⟨by omega, by omega⟩) (by exact if_pos (by omega)) rfl ?_
  refine wp_goto (q := 22) dX4_actAt_18 (by decide) ?_
  refine wp_aret dX4_actAt_22 rfl (by first | exact Or.inl ⟨_, rfl⟩ | exact Or.inr ⟨_, rfl⟩) (by first | exact Or.inl rfl | exact Or.inr ⟨_, rfl⟩) ?_
  exact ⟨rfl, rfl⟩
theorem tX4_actAtN {x : Int32} (hW : DW lo sz g D) (hx : ix (dNa D) x = false) : mt l mX4_actAt d 0 0 [.ref (b + 1), .int x] (sz, ch b I A B D g) (rR .null (sz, ch b I A B D g)) := by
  have h6 := hW.na
  refine mt_in (lv := [_, _]) (by decide) (Nat.le_of_ble_eq_true rfl) rfl ?_
  refine wp_iload_n (i := 1) (q := 1) dX4_actAt_0 rfl rfl rfl ?_
  refine wp_if_lt (t := 21) (q := 4) dX4_actAt_1 (by decide) rfl (fun hc => ?_) (fun hc => ?_)
  · refine wp_null (q := 22) dX4_actAt_21 rfl ?_
    refine wp_aret dX4_actAt_22 rfl (by first | exact Or.inl ⟨_, rfl⟩ | exact Or.inr ⟨_, rfl⟩) (by first | exact Or.inl rfl | exact Or.inr ⟨_, rfl⟩) ?_
    exact ⟨rfl, rfl⟩
  obtain ⟨j, hj, rfl⟩ := nI_of hc
  rw [ix_nI hj] at hx
  refine wp_iload_n (i := 1) (q := 5) dX4_actAt_4 rfl rfl rfl ?_
  refine wp_aload_n (i := 0) (q := 6) dX4_actAt_5 rfl rfl rfl ?_
  refine wg4_5 (q := 9) dX4_actAt_6 ffX4_35 (by first | exact ch_prg | exact ch_pts | exact ch_acs | exact ch_4 | exact ch_pul | exact ch_obj) rfl ?_ -- actCount
  refine wp_icmp_ge (t := 21) (q := 12) dX4_actAt_9 (by decide) rfl (fun hc2 => ?_) (fun hc2 => ?_)
  · refine wp_null (q := 22) dX4_actAt_21 rfl ?_
    refine wp_aret dX4_actAt_22 rfl (by first | exact Or.inl ⟨_, rfl⟩ | exact Or.inr ⟨_, rfl⟩) (by first | exact Or.inl rfl | exact Or.inr ⟨_, rfl⟩) ?_
    exact ⟨rfl, rfl⟩
  · exact absurd ((nI_leI (by omega) (by omega)).mpr (Nat.not_lt.mp (of_decide_eq_false hx))) hc2
theorem ch_pob (hW : DW lo sz g D) (hb : b + 33 ≤ lo) (hp : p < dNp D) : ch b I A B D g (dPa D p) = some (.inr (3, FD3 (nI (dK D p)) (dPa D p + 1) (dPa D p + 42) (nI (dP D p).1) (dP D p).2.1 (dP D p).2.2.1)) := by
  rw [dw_ph hW hb hp]
  exact ph_obj (n := (dP D p).1) (sv := (dP D p).2.1) (sb := (dP D p).2.2.1) (R := (dP D p).2.2.2.1) (S := (dP D p).2.2.2.2)
theorem ch_psd (hW : DW lo sz g D) (hb : b + 33 ≤ lo) (hp : p < dNp D) : ch b I A B D g (dPa D p + 42) = some (rA 6 3 (fun s => if s < 3 then some (fA (dPa D p) (dK D p) s) else none)) := by
  rw [dw_ph hW hb hp]
  exact ph_sds (n := (dP D p).1) (sv := (dP D p).2.1) (sb := (dP D p).2.2.1) (R := (dP D p).2.2.2.1) (S := (dP D p).2.2.2.2)
theorem ch_prd (hW : DW lo sz g D) (hb : b + 33 ≤ lo) (hp : p < dNp D) : ch b I A B D g (dPa D p + 1) = some (rA 3 40 (rfs 40 (dPa D p + 2))) := by
  rw [dw_ph hW hb hp]
  exact ph_rds (n := (dP D p).1) (sv := (dP D p).2.1) (sb := (dP D p).2.2.1) (R := (dP D p).2.2.2.1) (S := (dP D p).2.2.2.2)
theorem ch_prr {r : Nat} (hW : DW lo sz g D) (hb : b + 33 ≤ lo) (hp : p < dNp D) (hr : r < 40) : ch b I A B D g (dPa D p + 2 + r) = some (iA (dK D p) ((dP D p).2.2.2.1 r)) := by
  rw [dw_ph hW hb hp]
  exact ph_rd (n := (dP D p).1) (sv := (dP D p).2.1) (sb := (dP D p).2.2.1) (R := (dP D p).2.2.2.1) (S := (dP D p).2.2.2.2) hr
/-- the Facts of a side of a point -/
abbrev dF (D : DS) (p s : Nat) : FS := (dP D p).2.2.2.2 s
abbrev dfA (D : DS) (p s : Nat) : Nat := fA (dPa D p) (dK D p) s
def dsF (D : DS) (p s : Nat) (S : FS) : DS := dsP D p ((dP D p).1, (dP D p).2.1, (dP D p).2.2.1, (dP D p).2.2.2.1, upG (dP D p).2.2.2.2 s S)
theorem dw_fh {s : Nat} (hW : DW lo sz g D) (hb : b + 33 ≤ lo) (hp : p < dNp D) (hs : s < 3) : ch b I A B D g = fh (dfA D p s) (dK D p) (dF D p s) (ch b I A B D g) := by
  refine (ov_self (fun o ho => ?_)).symm
  have h1 := dw_ph (I := I) (A := A) (B := B) hW hb hp
  have h2 := ph_fh (q := dPa D p) (k := dK D p) (n := (dP D p).1) (sv := (dP D p).2.1) (sb := (dP D p).2.2.1) (R := (dP D p).2.2.2.1) (S := (dP D p).2.2.2.2) (G := ch b I A B D g) hs
  rw [h1]
  show ph (dPa D p) (dK D p) ((dP D p).1, (dP D p).2.1, (dP D p).2.2.1, (dP D p).2.2.2.1, (dP D p).2.2.2.2) (ch b I A B D g) (fA (dPa D p) (dK D p) s + o) = _
  rw [h2]
  exact ov_in ho
theorem dw_fh2 {s : Nat} {S' : FS} (hW : DW lo sz g D) (hb : b + 33 ≤ lo) (hp : p < dNp D) (hs : s < 3) : ∃ g', fh (dfA D p s) (dK D p) S' (ch b I A B D g) = ch b I A B (dsF D p s S') g' ∧ DW lo sz g' (dsF D p s S') ∧ ∀ x, x < lo → g' x = g x := by
  refine ⟨ph (dPa D p) (dK D p) ((dP D p).1, (dP D p).2.1, (dP D p).2.2.1, (dP D p).2.2.2.1, upG (dP D p).2.2.2.2 s S') g, ?_, dw_setP hW hp, fun x hx => dw_lowP hW hp hx⟩
  have h2 := ph_fh2 (q := dPa D p) (k := dK D p) (n := (dP D p).1) (sv := (dP D p).2.1) (sb := (dP D p).2.2.1) (R := (dP D p).2.2.2.1) (S := (dP D p).2.2.2.2) (G := ch b I A B D g) (S' := S') hs
  have h3 := dw_ph2 (I := I) (A := A) (B := B) (P := ((dP D p).1, (dP D p).2.1, (dP D p).2.2.1, (dP D p).2.2.2.1, upG (dP D p).2.2.2.2 s S')) hW hb hp
  show _ = ch b I A B (dsP D p ((dP D p).1, (dP D p).2.1, (dP D p).2.2.1, (dP D p).2.2.2.1, upG (dP D p).2.2.2.2 s S')) _
  rw [← h3, ← h2]
  have h1 := dw_ph (I := I) (A := A) (B := B) hW hb hp
  exact congrArg (fh (fA (dPa D p) (dK D p) s) (dK D p) S') h1
theorem dfA_out {s x : Nat} (hW : DW lo sz g D) (hp : p < dNp D) (hs : s < 3) (hx : x < lo) : x < dfA D p s ∨ dfA D p s + (3 * dK D p + 17) ≤ x := by
  have := hW.pl hp
  have := fA_lt (q := dPa D p) (k := dK D p) hs
  unfold dfA
  omega
theorem ch_fob {s : Nat} (hW : DW lo sz g D) (hb : b + 33 ≤ lo) (hp : p < dNp D) (hs : s < 3) : ∃ r1 r3 r4 r5 r6 r7 r8 r9 r10 r11 r12, ch b I A B D g (dfA D p s) = some (.inr (1, FD1 (nI (dK D p)) r1 (nI (dF D p s).1) r3 r4 r5 r6 r7 r8 r9 r10 r11 r12)) ∧ r1 = dfA D p s + 1 := by
  rw [dw_fh hW hb hp hs]
  exact ⟨_, _, _, _, _, _, _, _, _, _, _, fh_obj (c := (dF D p s).1) (T := (dF D p s).2.1) (V := (dF D p s).2.2), rfl⟩
theorem tX4_factsAt {s : Nat} (hd : 1 ≤ d) (hW : DW lo sz g D) (hb : b + 33 ≤ lo) (hp : p < dNp D) (hs : s < 3) : mt l mX4_factsAt d 0 0 [.ref (b + 1), .int (nI p), .int (nI s)] (sz, ch b I A B D g) (rR (.ref (dfA D p s)) (sz, ch b I A B D g)) := by
  have hob := ch_pob (I := I) (A := A) (B := B) hW hb hp
  have hsd := ch_psd (I := I) (A := A) (B := B) hW hb hp
  refine mt_in (lv := [_, _, _, _]) (by decide) (Nat.le_of_ble_eq_true rfl) rfl ?_
  refine wp_aload_n (i := 0) (q := 1) dX4_factsAt_0 rfl rfl rfl ?_
  refine wp_iload_n (i := 1) (q := 2) dX4_factsAt_1 rfl rfl rfl ?_
  refine wp_Vr (μ' := mX4_pointAt) (ci := 4) (q := 5) (tX4_pointAt (d := d - 1) hW hp) dX4_factsAt_2 okX4_pointAt lkX4_47 (by first | exact ch_prg | exact ch_pts | exact ch_acs | exact ch_4 | exact ch_pul | exact ch_obj) rfl rfl rfl (Nat.le_of_ble_eq_true rfl) (by omega) rfl ?_
  refine wp_astore_n (i := 3) (lv' := [_, _, some _, _]) (q := 6) dX4_factsAt_5 rfl (by decide) rfl rfl ?_
  refine wp_aload_n (i := 3) (q := 7) dX4_factsAt_6 rfl rfl rfl ?_
  refine wp_ifnull (q := 10) dX4_factsAt_7 rfl ?_
  refine wp_iload_n (i := 2) (q := 11) dX4_factsAt_10 rfl rfl rfl ?_
  refine wp_if_lt (t := 19) (q := 14) dX4_factsAt_11 (by decide) rfl (fun hc => ?_) (fun hc => ?_)
  · exact absurd hc (nI_pos (by omega))
  refine wp_iload_n (i := 2) (q := 15) dX4_factsAt_14 rfl rfl rfl ?_
  refine wp_iconst (v := nI 3) (q := 16) dX4_factsAt_15 (by decide) rfl ?_
  refine wp_icmp_lt (t := 23) (q := 19) dX4_factsAt_16 (by decide) rfl (fun hc2 => ?_) (fun hc2 => ?_)
  case _ =>
    refine wp_aload_n (i := 3) (q := 24) dX4_factsAt_23 rfl rfl rfl ?_
    refine wg3_2 (q := 27) dX4_factsAt_24 ffX4_51 (by first | assumption) rfl ?_ -- sides
    refine wp_iload_n (i := 2) (q := 28) dX4_factsAt_27 rfl rfl rfl ?_
    refine wq_aald (q := 29) dX4_factsAt_28 (by first | assumption) (by decide) rfl (by first | omega | exact ⟨by omega, by omega⟩) (by exact if_pos (by omega)) rfl ?_
    refine wp_aret dX4_factsAt_29 rfl (by first | exact Or.inl ⟨_, rfl⟩ | exact Or.inr ⟨_, rfl⟩) (by first | exact Or.inl rfl | exact Or.inr ⟨_, rfl⟩) ?_
    exact ⟨rfl, rfl⟩
  · exact absurd ((nI_ltI (by omega) (by omega)).mpr (by omega)) hc2
theorem tX4_factsAtN {x y : Int32} (hd : 1 ≤ d) (hW : DW lo sz g D) (hb : b + 33 ≤ lo) (hx : (ix (dNp D) x && ix 3 y) = false) : mt l mX4_factsAt d 0 0 [.ref (b + 1), .int x, .int y] (sz, ch b I A B D g) (rR .null (sz, ch b I A B D g)) := by
  have h6 := hW.np
  refine mt_in (lv := [_, _, _, _]) (by decide) (Nat.le_of_ble_eq_true rfl) rfl ?_
  refine wp_aload_n (i := 0) (q := 1) dX4_factsAt_0 rfl rfl rfl ?_
  refine wp_iload_n (i := 1) (q := 2) dX4_factsAt_1 rfl rfl rfl ?_
  by_cases w : ix (dNp D) x = true
  · obtain ⟨p, hp, rfl⟩ := ix_of w (by omega)
    rw [w, Bool.true_and] at hx
    refine wp_Vr (μ' := mX4_pointAt) (ci := 4) (q := 5) (tX4_pointAt (d := d - 1) hW hp) dX4_factsAt_2 okX4_pointAt lkX4_47 (by first | exact ch_prg | exact ch_pts | exact ch_acs | exact ch_4 | exact ch_pul | exact ch_obj) rfl rfl rfl (Nat.le_of_ble_eq_true rfl) (by omega) rfl ?_
    refine wp_astore_n (i := 3) (lv' := [_, _, some _, _]) (q := 6) dX4_factsAt_5 rfl (by decide) rfl rfl ?_
    refine wp_aload_n (i := 3) (q := 7) dX4_factsAt_6 rfl rfl rfl ?_
    refine wp_ifnull (q := 10) dX4_factsAt_7 rfl ?_
    refine wp_iload_n (i := 2) (q := 11) dX4_factsAt_10 rfl rfl rfl ?_
    refine wp_if_lt (t := 19) (q := 14) dX4_factsAt_11 (by decide) rfl (fun hc => ?_) (fun hc => ?_)
    · refine wp_null (q := 20) dX4_factsAt_19 rfl ?_
      refine wp_goto (q := 29) dX4_factsAt_20 (by decide) ?_
      refine wp_aret dX4_factsAt_29 rfl (by first | exact Or.inl ⟨_, rfl⟩ | exact Or.inr ⟨_, rfl⟩) (by first | exact Or.inl rfl | exact Or.inr ⟨_, rfl⟩) ?_
      exact ⟨rfl, rfl⟩
    obtain ⟨j, hj, rfl⟩ := nI_of hc
    rw [ix_nI hj] at hx
    refine wp_iload_n (i := 2) (q := 15) dX4_factsAt_14 rfl rfl rfl ?_
    refine wp_iconst (v := nI 3) (q := 16) dX4_factsAt_15 (by decide) rfl ?_
    refine wp_icmp_lt (t := 23) (q := 19) dX4_factsAt_16 (by decide) rfl (fun hc2 => ?_) (fun hc2 => ?_)
    · exact absurd ((nI_ltI (by omega) (by omega)).mp hc2) (of_decide_eq_false hx)
    · refine wp_null (q := 20) dX4_factsAt_19 rfl ?_
      refine wp_goto (q := 29) dX4_factsAt_20 (by decide) ?_
      refine wp_aret dX4_factsAt_29 rfl (by first | exact Or.inl ⟨_, rfl⟩ | exact Or.inr ⟨_, rfl⟩) (by first | exact Or.inl rfl | exact Or.inr ⟨_, rfl⟩) ?_
      exact ⟨rfl, rfl⟩
  · refine wp_Vr (μ' := mX4_pointAt) (ci := 4) (q := 5) (tX4_pointAtN (d := d - 1) hW (Bool.eq_false_iff.mpr w)) dX4_factsAt_2 okX4_pointAt lkX4_47 (by first | exact ch_prg | exact ch_pts | exact ch_acs | exact ch_4 | exact ch_pul | exact ch_obj) rfl rfl rfl (Nat.le_of_ble_eq_true rfl) (by omega) rfl ?_
    refine wp_astore_nN (i := 3) (lv' := [_, _, some _, _]) (q := 6) dX4_factsAt_5 rfl (by decide) rfl rfl ?_
    refine wp_aload_nN (i := 3) (q := 7) dX4_factsAt_6 rfl rfl rfl ?_
    refine wp_ifnullN (q := 19) dX4_factsAt_7 (by decide) ?_
    refine wp_null (q := 20) dX4_factsAt_19 rfl ?_
    refine wp_goto (q := 29) dX4_factsAt_20 (by decide) ?_
    refine wp_aret dX4_factsAt_29 rfl (by first | exact Or.inl ⟨_, rfl⟩ | exact Or.inr ⟨_, rfl⟩) (by first | exact Or.inl rfl | exact Or.inr ⟨_, rfl⟩) ?_
    exact ⟨rfl, rfl⟩
theorem tX4_hasStart : mt l mX4_hasStart d 0 0 [.ref (b + 1)] (sz, ch b I A B D g) (rI (b2 (!decide (I 3 < 0))) (sz, ch b I A B D g)) := by
  refine mt_in (lv := [_]) (by decide) (Nat.le_of_ble_eq_true rfl) rfl ?_
  refine wp_aload_n (i := 0) (q := 1) dX4_hasStart_0 rfl rfl rfl ?_
  refine wg4_6 (q := 4) dX4_hasStart_1 ffX4_38 (by first | exact ch_prg | exact ch_pts | exact ch_acs | exact ch_4 | exact ch_pul | exact ch_obj) rfl ?_ -- startPoint
  refine wp_if_lt (t := 11) (q := 7) dX4_hasStart_4 (by decide) rfl (fun hc => ?_) (fun hc => ?_)
  · rw [decide_eq_true hc]
    refine wp_iconst (v := nI 0) (q := 12) dX4_hasStart_11 (by decide) rfl ?_
    refine wp_zret dX4_hasStart_12 rfl (by first | exact Or.inl rfl | exact Or.inr rfl | exact b2_01 _ | assumption) ?_
    exact ⟨rfl, rfl⟩
  · rw [decide_eq_false hc]
    refine wp_iconst (v := nI 1) (q := 8) dX4_hasStart_7 (by decide) rfl ?_
    refine wp_goto (q := 12) dX4_hasStart_8 (by decide) ?_
    refine wp_zret dX4_hasStart_12 rfl (by first | exact Or.inl rfl | exact Or.inr rfl | exact b2_01 _ | assumption) ?_
    exact ⟨rfl, rfl⟩
theorem tX4_setStart {x : Int32} (hd : 1 ≤ d) : mt l mX4_setStart d 0 0 [.ref (b + 1), .int x, .ref (b + 29)] (sz, ch b I A B D g) (rV (sz, ch b (upd I 3 x) (upR A 4 (fun v => if v < 4 then A 29 v else A 4 v)) B D g)) := by
  refine mt_in (lv := [_, _, _]) (by decide) (Nat.le_of_ble_eq_true rfl) rfl ?_
  refine wp_aload_n (i := 0) (q := 1) dX4_setStart_0 rfl rfl rfl ?_
  refine wp_iload_n (i := 1) (q := 2) dX4_setStart_1 rfl rfl rfl ?_
  refine wt4_6 (q := 5) dX4_setStart_2 ffX4_38 (by first | exact ch_prg | exact ch_pts | exact ch_acs | exact ch_4 | exact ch_pul | exact ch_obj) (by first | exact ch_sI3) rfl ?_ -- startPoint
  refine wp_aload_n (i := 2) (q := 6) dX4_setStart_5 rfl rfl rfl ?_
  refine wp_aload_n (i := 0) (q := 7) dX4_setStart_6 rfl rfl rfl ?_
  refine wg4_2 (q := 10) dX4_setStart_7 ffX4_23 (by first | exact ch_prg | exact ch_pts | exact ch_acs | exact ch_4 | exact ch_pul | exact ch_obj) rfl ?_ -- startNumbers
  refine wp_SNv (μ' := mX7_copy) (q := 13) (tX7_copy (d := d - 1) (n := 4) (m := 4) ch_29 ch_4 (by omega) (by omega) (by omega)) dX4_setStart_10 okX7_copy lkX4_55 rfl rfl (Nat.le_of_ble_eq_true rfl) (by omega) rfl ?_
  rw [ch_s4]
  refine wp_vret dX4_setStart_13 rfl ?_
  exact ⟨rfl, rfl⟩
end PR
