/-! THE CLASS: RunLaws, what is asked (2) -/
section R1
variable {l : Launch} {d lo sz b p a : Nat} {g : Nat → Option aE} {D : DS} {I : Nat → Int32} {A : Nat → Nat → Int32} {B : Nat → Int64}
theorem tX7_guesses {x s : Int32} (hd : 4 ≤ d) (hW : DW lo sz g D) (hK : PK D) (hb : b + 33 ≤ lo) : mt l mX7_guesses d 0 0 [.ref b, .int x, .int s] (sz, ch b I A B D g) (fun rv h' => rv = some (.int (cGuesses D x s)) ∧ qQ lo sz b I A D g h') := by
  have h6 := hW.np
  refine mt_in (lv := [_, _, _, _]) (by decide) (Nat.le_of_ble_eq_true rfl) rfl ?_
  refine wp_aload_n (i := 0) (q := 1) dX7_guesses_0 rfl rfl rfl ?_
  refine wg7_0 (q := 4) dX7_guesses_1 ffX7_10 (by first | exact ch_obj | exact ch_prg | exact ch_pts | exact ch_acs | exact ch_4 | exact ch_pul | exact ch_sea | exact ch_27 | exact ch_28 | exact ch_29 | exact ch_30 | exact ch_31 | exact ch_32 | assumption) rfl ?_ -- program
  refine wp_iload_n (i := 1) (q := 5) dX7_guesses_4 rfl rfl rfl ?_
  refine wp_iload_n (i := 2) (q := 6) dX7_guesses_5 rfl rfl rfl ?_
  unfold cGuesses
  by_cases w : (ix (dNp D) x && ix 3 s) = true
  · rw [if_pos w]
    obtain ⟨w1, w2⟩ := Bool.and_eq_true_iff.mp w
    obtain ⟨p, hp, rfl⟩ := ix_of w1 (by omega)
    obtain ⟨s, hs, rfl⟩ := ix_of w2 (by omega)
    rw [nI_clamp (by omega), nI_clamp (by omega)]
    obtain ⟨r1, r3, r4, r5, r6, r7, r8, r9, r10, r11, r12, hob, -⟩ := ch_fob (I := I) (A := A) (B := B) hW hb hp hs
    refine wp_Vr (μ' := mX4_factsAt) (ci := 4) (q := 9) (tX4_factsAt (d := d - 1) (by omega) hW hb hp hs) dX7_guesses_6 okX4_factsAt lkX7_93 (by first | exact ch_obj | exact ch_prg | exact ch_pts | exact ch_acs | exact ch_4 | exact ch_pul | exact ch_sea | exact ch_27 | exact ch_28 | exact ch_29 | exact ch_30 | exact ch_31 | exact ch_32 | assumption) rfl rfl rfl (Nat.le_of_ble_eq_true rfl) (by omega) rfl ?_
    refine wp_astore_n (i := 3) (lv' := [_, _, some _, _]) (q := 10) dX7_guesses_9 rfl (by decide) rfl rfl ?_
    refine wp_aload_n (i := 3) (q := 11) dX7_guesses_10 rfl rfl rfl ?_
    refine wp_ifnonnull (q := 18) dX7_guesses_11 (by decide) ?_
    refine wp_aload_n (i := 3) (q := 19) dX7_guesses_18 rfl rfl rfl ?_
    refine wp_iconst (v := nI 1) (q := 20) dX7_guesses_19 (by decide) rfl ?_
    refine wp_aload_n (i := 0) (q := 21) dX7_guesses_20 rfl rfl rfl ?_
    refine wg7_4 (q := 24) dX7_guesses_21 ffX7_32 (by first | exact ch_obj | exact ch_prg | exact ch_pts | exact ch_acs | exact ch_4 | exact ch_pul | exact ch_sea | exact ch_27 | exact ch_28 | exact ch_29 | exact ch_30 | exact ch_31 | exact ch_32 | assumption) rfl ?_ -- codes
    refine wp_V (μ' := mX1_list) (ci := 1) (q := 27) (tX1_listD (d := d - 1) (tA := true) (by omega) hW hK hb hp hs) dX7_guesses_24 okX1_list lkX7_112 hob rfl rfl rfl (Nat.le_of_ble_eq_true rfl) (by omega) rfl (fun rv hx hq => ?_)
    obtain ⟨rfl, f, rfl, hf⟩ := hq
    refine wp_iret dX7_guesses_27 rfl ?_
    exact ⟨rfl, _, _, _, _, _, rfl, hW, fun _ _ => rfl, dEq.rf, aEq.up (by decide), iEq.rf⟩
  · rw [if_neg w]
    refine wp_Vr (μ' := mX4_factsAt) (ci := 4) (q := 9) (tX4_factsAtN (d := d - 1) (by omega) hW hb (Bool.eq_false_iff.mpr w)) dX7_guesses_6 okX4_factsAt lkX7_93 (by first | exact ch_obj | exact ch_prg | exact ch_pts | exact ch_acs | exact ch_4 | exact ch_pul | exact ch_sea | exact ch_27 | exact ch_28 | exact ch_29 | exact ch_30 | exact ch_31 | exact ch_32 | assumption) rfl rfl rfl (Nat.le_of_ble_eq_true rfl) (by omega) rfl ?_
    refine wp_astore_nN (i := 3) (lv' := [_, _, some _, _]) (q := 10) dX7_guesses_9 rfl (by decide) rfl rfl ?_
    refine wp_aload_nN (i := 3) (q := 11) dX7_guesses_10 rfl rfl rfl ?_
    refine wp_ifnonnullN (q := 14) dX7_guesses_11 rfl ?_
    refine wp_iconst (v := (-1)) (q := 15) dX7_guesses_14 (by decide) rfl ?_
    refine wp_goto (q := 27) dX7_guesses_15 (by decide) ?_
    refine wp_iret dX7_guesses_27 rfl ?_
    exact ⟨rfl, qQ.rf hW⟩
theorem lsF_len {c k : Nat} {V : Nat → VS} {tA : Bool} (h : k ≤ 4) : (lsF c V tA (C1 k 0)).length ≤ 60 := by
  unfold lsF
  rw [List.length_map]
  have e : ∀ s : List (Nat × Nat × Nat), (s.filter (okC c V tA)).length ≤ (s.filter isG3).length := by
    intro s
    induction s with
    | nil => exact Nat.le_refl _
    | cons q s ih =>
      rw [List.filter_cons, List.filter_cons]
      by_cases w : okC c V tA q = true
      · have w2 : isG3 q = true := by
          unfold okC at w
          exact (Bool.and_eq_true_iff.mp w).1
        rw [if_pos w, if_pos w2, List.length_cons, List.length_cons]
        omega
      · rw [if_neg w]
        split
        · rw [List.length_cons]; omega
        · exact ih
  exact Nat.le_trans (e _) (C1_len h)
theorem tX7_guess {x s k : Int32} (hd : 4 ≤ d) (hW : DW lo sz g D) (hK : PK D) (hb : b + 33 ≤ lo) : mt l mX7_guess d 0 0 [.ref b, .int x, .int s, .int k] (sz, ch b I A B D g) (fun rv h' => rv = some (.int (cGuess D x s k)) ∧ qQ lo sz b I A D g h') := by
  have h6 := hW.np
  refine mt_in (lv := [_, _, _, _, _]) (by decide) (Nat.le_of_ble_eq_true rfl) rfl ?_
  refine wp_aload_n (i := 0) (q := 1) dX7_guess_0 rfl rfl rfl ?_
  refine wg7_0 (q := 4) dX7_guess_1 ffX7_10 (by first | exact ch_obj | exact ch_prg | exact ch_pts | exact ch_acs | exact ch_4 | exact ch_pul | exact ch_sea | exact ch_27 | exact ch_28 | exact ch_29 | exact ch_30 | exact ch_31 | exact ch_32 | assumption) rfl ?_ -- program
  refine wp_iload_n (i := 1) (q := 5) dX7_guess_4 rfl rfl rfl ?_
  refine wp_iload_n (i := 2) (q := 6) dX7_guess_5 rfl rfl rfl ?_
  unfold cGuess
  by_cases w : (ix (dNp D) x && ix 3 s) = true
  · rw [if_pos w]
    obtain ⟨w1, w2⟩ := Bool.and_eq_true_iff.mp w
    obtain ⟨p, hp, rfl⟩ := ix_of w1 (by omega)
    obtain ⟨s, hs, rfl⟩ := ix_of w2 (by omega)
    rw [nI_clamp (by omega), nI_clamp (by omega)]
    have hl : (cls D p s true).length ≤ 60 := lsF_len (hW.k4 hp)
    obtain ⟨r1, r3, r4, r5, r6, r7, r8, r9, r10, r11, r12, hob, -⟩ := ch_fob (I := I) (A := A) (B := B) hW hb hp hs
    refine wp_Vr (μ' := mX4_factsAt) (ci := 4) (q := 9) (tX4_factsAt (d := d - 1) (by omega) hW hb hp hs) dX7_guess_6 okX4_factsAt lkX7_93 (by first | exact ch_obj | exact ch_prg | exact ch_pts | exact ch_acs | exact ch_4 | exact ch_pul | exact ch_sea | exact ch_27 | exact ch_28 | exact ch_29 | exact ch_30 | exact ch_31 | exact ch_32 | assumption) rfl rfl rfl (Nat.le_of_ble_eq_true rfl) (by omega) rfl ?_
    refine wp_astore (lv' := [_, _, _, some _, _]) (q := 11) dX7_guess_9 (by decide) rfl rfl ?_
    refine wp_aload (q := 13) dX7_guess_11 rfl rfl ?_
    refine wp_ifnull (q := 16) dX7_guess_13 rfl ?_
    refine wp_iload_n (i := 3) (q := 17) dX7_guess_16 rfl rfl rfl ?_
    refine wp_if_lt (t := 34) (q := 20) dX7_guess_17 (by decide) rfl (fun h0 => ?_) (fun h0 => ?_)
    · rw [ix_neg h0, if_neg (by decide)]
      refine wp_iconst (v := (-1)) (q := 35) dX7_guess_34 (by decide) rfl ?_
      refine wp_iret dX7_guess_35 rfl ?_
      exact ⟨rfl, qQ.rf hW⟩
    obtain ⟨k, hk, rfl⟩ := nI_of h0
    rw [ix_nI hk, nI_clamp hk]
    refine wp_iload_n (i := 3) (q := 21) dX7_guess_20 rfl rfl rfl ?_
    refine wp_aload (q := 23) dX7_guess_21 rfl rfl ?_
    refine wp_iconst (v := nI 1) (q := 24) dX7_guess_23 (by decide) rfl ?_
    refine wp_aload_n (i := 0) (q := 25) dX7_guess_24 rfl rfl rfl ?_
    refine wg7_4 (q := 28) dX7_guess_25 ffX7_32 (by first | exact ch_obj | exact ch_prg | exact ch_pts | exact ch_acs | exact ch_4 | exact ch_pul | exact ch_sea | exact ch_27 | exact ch_28 | exact ch_29 | exact ch_30 | exact ch_31 | exact ch_32 | assumption) rfl ?_ -- codes
    refine wp_V (μ' := mX1_list) (ci := 1) (q := 31) (tX1_listD (d := d - 1) (tA := true) (by omega) hW hK hb hp hs) dX7_guess_28 okX1_list lkX7_112 hob rfl rfl rfl (Nat.le_of_ble_eq_true rfl) (by omega) rfl (fun rv hx hq => ?_)
    obtain ⟨rfl, f, rfl, hf⟩ := hq
    show wp _ _ _ _ _ _ _ _ _ _ [.int (nI (cls D p s true).length), .int (nI k)]
    refine wp_icmp_lt (t := 36) (q := 34) dX7_guess_31 (by decide) rfl (fun hlt => ?_) (fun hlt => ?_)
    · have hlt := (nI_ltI (by omega) (by omega)).mp hlt
      rw [if_pos (decide_eq_true hlt)]
      refine wp_aload_n (i := 0) (q := 37) dX7_guess_36 rfl rfl rfl ?_
      refine wg7_4 (q := 40) dX7_guess_37 ffX7_32 (by first | exact ch_obj | exact ch_prg | exact ch_pts | exact ch_acs | exact ch_4 | exact ch_pul | exact ch_sea | exact ch_27 | exact ch_28 | exact ch_29 | exact ch_30 | exact ch_31 | exact ch_32 | assumption) rfl ?_ -- codes
      refine wp_iload_n (i := 3) (q := 41) dX7_guess_40 rfl rfl rfl ?_
      refine wq_iald (q := 42) dX7_guess_41 (by first | exact ch_obj | exact ch_prg | exact ch_pts | exact ch_acs | exact ch_4 | exact ch_pul | exact ch_sea | exact ch_27 | exact ch_28 | exact ch_29 | exact ch_30 | exact ch_31 | exact ch_32 | assumption) rfl (by first | omega | exact ⟨by omega, by omega⟩) rfl ?_
      rw [upR_at, hf k ((cls D p s true).getD k 0) (by rw [List.getD_eq_getElem?_getD, List.getElem?_eq_getElem hlt]; rfl)]
      refine wp_iret dX7_guess_42 rfl ?_
      exact ⟨rfl, _, _, _, _, _, rfl, hW, fun _ _ => rfl, dEq.rf, aEq.up (by decide), iEq.rf⟩
    · rw [if_neg (by rw [decide_eq_false (fun q => hlt ((nI_ltI (by omega) (by omega)).mpr q))]; decide)]
      refine wp_iconst (v := (-1)) (q := 35) dX7_guess_34 (by decide) rfl ?_
      refine wp_iret dX7_guess_35 rfl ?_
      exact ⟨rfl, _, _, _, _, _, rfl, hW, fun _ _ => rfl, dEq.rf, aEq.up (by decide), iEq.rf⟩
  · rw [if_neg w]
    refine wp_Vr (μ' := mX4_factsAt) (ci := 4) (q := 9) (tX4_factsAtN (d := d - 1) (by omega) hW hb (Bool.eq_false_iff.mpr w)) dX7_guess_6 okX4_factsAt lkX7_93 (by first | exact ch_obj | exact ch_prg | exact ch_pts | exact ch_acs | exact ch_4 | exact ch_pul | exact ch_sea | exact ch_27 | exact ch_28 | exact ch_29 | exact ch_30 | exact ch_31 | exact ch_32 | assumption) rfl rfl rfl (Nat.le_of_ble_eq_true rfl) (by omega) rfl ?_
    refine wp_astoreN (lv' := [_, _, _, some _, _]) (q := 11) dX7_guess_9 (by decide) rfl rfl ?_
    refine wp_aloadN (q := 13) dX7_guess_11 rfl rfl ?_
    refine wp_ifnullN (q := 34) dX7_guess_13 (by decide) ?_
    refine wp_iconst (v := (-1)) (q := 35) dX7_guess_34 (by decide) rfl ?_
    refine wp_iret dX7_guess_35 rfl ?_
    exact ⟨rfl, qQ.rf hW⟩
theorem tX7_sums {x s : Int32} (hd : 2 ≤ d) (hW : DW lo sz g D) (hK : PK D) (hb : b + 33 ≤ lo) : mt l mX7_sums d 0 0 [.ref b, .int x, .int s] (sz, ch b I A B D g) (fun rv h' => rv = some (.int (cSums D x s)) ∧ qQ lo sz b I A D g h') := by
  have h6 := hW.np
  refine mt_in (lv := [_, _, _, _]) (by decide) (Nat.le_of_ble_eq_true rfl) rfl ?_
  refine wp_aload_n (i := 0) (q := 1) dX7_sums_0 rfl rfl rfl ?_
  refine wg7_0 (q := 4) dX7_sums_1 ffX7_10 (by first | exact ch_obj | exact ch_prg | exact ch_pts | exact ch_acs | exact ch_4 | exact ch_pul | exact ch_sea | exact ch_27 | exact ch_28 | exact ch_29 | exact ch_30 | exact ch_31 | exact ch_32 | assumption) rfl ?_ -- program
  refine wp_iload_n (i := 1) (q := 5) dX7_sums_4 rfl rfl rfl ?_
  refine wp_iload_n (i := 2) (q := 6) dX7_sums_5 rfl rfl rfl ?_
  unfold cSums
  by_cases w : (ix (dNp D) x && ix 3 s) = true
  · rw [if_pos w]
    obtain ⟨w1, w2⟩ := Bool.and_eq_true_iff.mp w
    obtain ⟨p, hp, rfl⟩ := ix_of w1 (by omega)
    obtain ⟨s, hs, rfl⟩ := ix_of w2 (by omega)
    rw [nI_clamp (by omega), nI_clamp (by omega)]
    have h40 : (dF D p s).1 ≤ 40 := ((hK p hp).2 s hs).2
    obtain ⟨r1, r3, r4, r5, r6, r7, r8, r9, r10, r11, r12, hob, -⟩ := ch_fob (I := I) (A := A) (B := B) hW hb hp hs
    refine wp_Vr (μ' := mX4_factsAt) (ci := 4) (q := 9) (tX4_factsAt (d := d - 1) (by omega) hW hb hp hs) dX7_sums_6 okX4_factsAt lkX7_93 (by first | exact ch_obj | exact ch_prg | exact ch_pts | exact ch_acs | exact ch_4 | exact ch_pul | exact ch_sea | exact ch_27 | exact ch_28 | exact ch_29 | exact ch_30 | exact ch_31 | exact ch_32 | assumption) rfl rfl rfl (Nat.le_of_ble_eq_true rfl) (by omega) rfl ?_
    refine wp_astore_n (i := 3) (lv' := [_, _, some _, _]) (q := 10) dX7_sums_9 rfl (by decide) rfl rfl ?_
    refine wp_aload_n (i := 3) (q := 11) dX7_sums_10 rfl rfl rfl ?_
    refine wp_ifnonnull (q := 16) dX7_sums_11 (by decide) ?_
    refine wp_aload_n (i := 3) (q := 17) dX7_sums_16 rfl rfl rfl ?_
    refine wg1_2 (q := 20) dX7_sums_17 ffX7_68 (by first | exact ch_obj | exact ch_prg | exact ch_pts | exact ch_acs | exact ch_4 | exact ch_pul | exact ch_sea | exact ch_27 | exact ch_28 | exact ch_29 | exact ch_30 | exact ch_31 | exact ch_32 | assumption) rfl ?_ -- count
    refine wp_if_ne (t := 28) (q := 23) dX7_sums_20 (by decide) rfl (fun h0 => ?_) (fun h0 => ?_)
    · rw [if_neg (fun q => h0 (by rw [q]; rfl))]
      refine wp_aload_n (i := 3) (q := 29) dX7_sums_28 rfl rfl rfl ?_
      refine wp_Vi (μ' := mX1_basisSize) (ci := 1) (q := 32) (tX1_basisSizeD (d := d - 1) (by omega) hW hK hb hp hs) dX7_sums_29 okX1_basisSize lkX7_116 hob rfl rfl rfl (Nat.le_of_ble_eq_true rfl) (by omega) rfl ?_
      refine wp_iret dX7_sums_32 rfl ?_
      exact ⟨rfl, qQ.rf hW⟩
    · rw [if_pos ((nI_eq (b := 0) (by omega) (by omega)).mp h0)]
      refine wp_bipush (v := (-9)) (q := 25) dX7_sums_23 (by decide) rfl ?_
      refine wp_goto (q := 32) dX7_sums_25 (by decide) ?_
      refine wp_iret dX7_sums_32 rfl ?_
      exact ⟨rfl, qQ.rf hW⟩
  · rw [if_neg w]
    refine wp_Vr (μ' := mX4_factsAt) (ci := 4) (q := 9) (tX4_factsAtN (d := d - 1) (by omega) hW hb (Bool.eq_false_iff.mpr w)) dX7_sums_6 okX4_factsAt lkX7_93 (by first | exact ch_obj | exact ch_prg | exact ch_pts | exact ch_acs | exact ch_4 | exact ch_pul | exact ch_sea | exact ch_27 | exact ch_28 | exact ch_29 | exact ch_30 | exact ch_31 | exact ch_32 | assumption) rfl rfl rfl (Nat.le_of_ble_eq_true rfl) (by omega) rfl ?_
    refine wp_astore_nN (i := 3) (lv' := [_, _, some _, _]) (q := 10) dX7_sums_9 rfl (by decide) rfl rfl ?_
    refine wp_aload_nN (i := 3) (q := 11) dX7_sums_10 rfl rfl rfl ?_
    refine wp_ifnonnullN (q := 14) dX7_sums_11 rfl ?_
    refine wp_iconst (v := (-1)) (q := 15) dX7_sums_14 (by decide) rfl ?_
    refine wp_iret dX7_sums_15 rfl ?_
    exact ⟨rfl, qQ.rf hW⟩
theorem tX7_sum {x s k c : Int32} (hd : 3 ≤ d) (hW : DW lo sz g D) (hK : PK D) (hb : b + 33 ≤ lo) : mt l mX7_sum d 0 0 [.ref b, .int x, .int s, .int k, .int c] (sz, ch b I A B D g) (fun rv h' => rv = some (.long (cSum D x s k c)) ∧ qQ lo sz b I A D g h') := by
  have h6 := hW.np
  refine mt_in (lv := [_, _, _, _, _, _]) (by decide) (Nat.le_of_ble_eq_true rfl) rfl ?_
  refine wp_aload_n (i := 0) (q := 1) dX7_sum_0 rfl rfl rfl ?_
  refine wg7_0 (q := 4) dX7_sum_1 ffX7_10 (by first | exact ch_obj | exact ch_prg | exact ch_pts | exact ch_acs | exact ch_4 | exact ch_pul | exact ch_sea | exact ch_27 | exact ch_28 | exact ch_29 | exact ch_30 | exact ch_31 | exact ch_32 | assumption) rfl ?_ -- program
  refine wp_iload_n (i := 1) (q := 5) dX7_sum_4 rfl rfl rfl ?_
  refine wp_iload_n (i := 2) (q := 6) dX7_sum_5 rfl rfl rfl ?_
  unfold cSum
  by_cases w : (ix (dNp D) x && ix 3 s) = true
  · rw [w, Bool.true_and]
    obtain ⟨w1, w2⟩ := Bool.and_eq_true_iff.mp w
    obtain ⟨p, hp, rfl⟩ := ix_of w1 (by omega)
    obtain ⟨s, hs, rfl⟩ := ix_of w2 (by omega)
    rw [nI_clamp (by omega), nI_clamp (by omega)]
    have h4 := hW.k4 hp
    have hbz : bzN (dK D p) (dF D p s).1 (dF D p s).2.1 ≤ 5 := by unfold bzN; split <;> omega
    obtain ⟨r1, r3, r4, r5, r6, r7, r8, r9, r10, r11, r12, hob, rfl⟩ := ch_fob (I := I) (A := A) (B := B) hW hb hp hs
    have htb := ch_tob (I := I) (A := A) (B := B) hW hb hp hs
    refine wp_Vr (μ' := mX4_factsAt) (ci := 4) (q := 9) (tX4_factsAt (d := d - 1) (by omega) hW hb hp hs) dX7_sum_6 okX4_factsAt lkX7_93 (by first | exact ch_obj | exact ch_prg | exact ch_pts | exact ch_acs | exact ch_4 | exact ch_pul | exact ch_sea | exact ch_27 | exact ch_28 | exact ch_29 | exact ch_30 | exact ch_31 | exact ch_32 | assumption) rfl rfl rfl (Nat.le_of_ble_eq_true rfl) (by omega) rfl ?_
    refine wp_astore (lv' := [_, _, _, _, some _, _]) (q := 11) dX7_sum_9 (by decide) rfl rfl ?_
    refine wp_aload (q := 13) dX7_sum_11 rfl rfl ?_
    refine wp_ifnull (q := 16) dX7_sum_13 rfl ?_
    refine wp_iload_n (i := 3) (q := 17) dX7_sum_16 rfl rfl rfl ?_
    refine wp_if_lt (t := 44) (q := 20) dX7_sum_17 (by decide) rfl (fun h0 => ?_) (fun h0 => ?_)
    · rw [ix_neg h0, Bool.false_and, if_neg (by decide)]
      refine wp_ldc2 (v := (-9223372036854775808)) (q := 47) dX7_sum_44 ktX7_121 rfl ?_
      refine wp_lret dX7_sum_47 rfl ?_
      exact ⟨rfl, qQ.rf hW⟩
    obtain ⟨k, hk, rfl⟩ := nI_of h0
    rw [ix_nI hk, nI_clamp hk]
    refine wp_iload_n (i := 3) (q := 21) dX7_sum_20 rfl rfl rfl ?_
    refine wp_aload (q := 23) dX7_sum_21 rfl rfl ?_
    refine wp_Vi (μ' := mX1_basisSize) (ci := 1) (q := 26) (tX1_basisSizeD (d := d - 1) (by omega) hW hK hb hp hs) dX7_sum_23 okX1_basisSize lkX7_116 hob rfl rfl rfl (Nat.le_of_ble_eq_true rfl) (by omega) rfl ?_
    refine wp_icmp_ge (t := 44) (q := 29) dX7_sum_26 (by decide) rfl (fun hc => ?_) (fun hc => ?_)
    · rw [decide_eq_false (Nat.not_lt.mpr ((nI_leI (by omega) (by omega)).mp hc)), Bool.false_and, if_neg (by decide)]
      refine wp_ldc2 (v := (-9223372036854775808)) (q := 47) dX7_sum_44 ktX7_121 rfl ?_
      refine wp_lret dX7_sum_47 rfl ?_
      exact ⟨rfl, qQ.rf hW⟩
    have hc : k < bzN (dK D p) (dF D p s).1 (dF D p s).2.1 := Nat.not_le.mp (fun q => hc ((nI_leI (by omega) (by omega)).mpr q))
    rw [decide_eq_true hc, Bool.true_and]
    refine wp_iload (q := 31) dX7_sum_29 rfl rfl ?_
    refine wp_if_lt (t := 44) (q := 34) dX7_sum_31 (by decide) rfl (fun hn => ?_) (fun hn => ?_)
    · rw [ix_neg hn, if_neg (by decide)]
      refine wp_ldc2 (v := (-9223372036854775808)) (q := 47) dX7_sum_44 ktX7_121 rfl ?_
      refine wp_lret dX7_sum_47 rfl ?_
      exact ⟨rfl, qQ.rf hW⟩
    obtain ⟨c, hcc, rfl⟩ := nI_of hn
    rw [ix_nI hcc, nI_clamp hcc]
    refine wp_iload (q := 36) dX7_sum_34 rfl rfl ?_
    refine wp_aload (q := 38) dX7_sum_36 rfl rfl ?_
    refine wg1_0 (q := 41) dX7_sum_38 ffX7_120 (by first | exact ch_obj | exact ch_prg | exact ch_pts | exact ch_acs | exact ch_4 | exact ch_pul | exact ch_sea | exact ch_27 | exact ch_28 | exact ch_29 | exact ch_30 | exact ch_31 | exact ch_32 | assumption) rfl ?_ -- size
    refine wp_icmp_le (t := 48) (q := 44) dX7_sum_41 (by decide) rfl (fun hle => ?_) (fun hle => ?_)
    · have hle := (nI_leI (by omega) (by omega)).mp hle
      rw [if_pos (decide_eq_true (by omega))]
      refine wp_aload (q := 50) dX7_sum_48 rfl rfl ?_
      refine wg1_1 (q := 53) dX7_sum_50 ffX7_123 (by first | exact ch_obj | exact ch_prg | exact ch_pts | exact ch_acs | exact ch_4 | exact ch_pul | exact ch_sea | exact ch_27 | exact ch_28 | exact ch_29 | exact ch_30 | exact ch_31 | exact ch_32 | assumption) rfl ?_ -- table
      refine wp_iload_n (i := 3) (q := 54) dX7_sum_53 rfl rfl rfl ?_
      refine wp_Vr (μ' := mX6_basisRow) (ci := 6) (q := 57) (tX6_basisRowD (d := d - 1) (j := k) (by omega) (by omega) hW hK hb hp hs) dX7_sum_54 okX6_basisRow lkX7_127 htb rfl rfl rfl (Nat.le_of_ble_eq_true rfl) (by omega) rfl ?_
      generalize hSx : (((dF D p s).1, ((dF D p s).2.1.1, (dF D p s).2.1.2.1, (dF D p s).2.1.2.2.1, (dF D p s).2.1.2.2.2.1, bsW (dK D p + 1) (dF D p s).2.1.1 (dF D p s).2.1.2.1 (dF D p s).2.1.2.2.1 (dF D p s).2.1.2.2.2.2 k), (dF D p s).2.2) : FS) = Sx
      obtain ⟨g2, e2, hW2, hlo2⟩ := dw_fh2 (I := I) (A := A) (B := B) (s := s) (S' := Sx) hW hb hp hs
      have hE2 := dsF_eq (D := D) (p := p) (s := s) (S' := Sx) (by rw [← hSx]) (by rw [← hSx]) (by rw [← hSx]; exact ⟨rfl, rfl, rfl⟩)
      rw [e2]
      have hrow : Sx.2.1.2.2.2.2 c = bsV (dK D p + 1) (dF D p s).2.1 k c := by
        rw [← hSx]
        show bsW _ _ _ _ _ k c = _
        rw [bsW_V (by omega)]
      have hbr : (dF (dsF D p s Sx) p s).2.1.2.2.2.2 = Sx.2.1.2.2.2.2 := by
        show ((upG (dP D) p _ p).2.2.2.2 s).2.1.2.2.2.2 = _
        rw [upG_at]
        show (upG _ s Sx s).2.1.2.2.2.2 = _
        rw [upG_at]
      have hp2 : p < dNp (dsF D p s Sx) := hp
      have hbr2 : ch b I A B (dsF D p s Sx) g2 (dfA D p s + 1 + (dK D p + 1 + 4)) = _ := ch_brow (I := I) (A := A) (B := B) hW2 hb hp2 hs
      rw [hbr] at hbr2
      rw [show dK (dsF D p s Sx) p = dK D p from rfl] at hbr2
      refine wp_iload (q := 59) dX7_sum_57 rfl rfl ?_
      refine wq_lald (q := 60) dX7_sum_59 (by first | exact ch_obj | exact ch_prg | exact ch_pts | exact ch_acs | exact ch_4 | exact ch_pul | exact ch_sea | exact ch_27 | exact ch_28 | exact ch_29 | exact ch_30 | exact ch_31 | exact ch_32 | assumption) rfl (by first | omega | exact ⟨by omega, by omega⟩) rfl ?_
      rw [hrow]
      refine wp_lret dX7_sum_60 rfl ?_
      exact ⟨rfl, _, _, _, _, _, rfl, hW2, hlo2, hE2, aEq.rf, iEq.rf⟩
    · rw [if_neg (by rw [decide_eq_false (fun q => hle ((nI_leI (by omega) (by omega)).mpr (by omega)))]; decide)]
      refine wp_ldc2 (v := (-9223372036854775808)) (q := 47) dX7_sum_44 ktX7_121 rfl ?_
      refine wp_lret dX7_sum_47 rfl ?_
      exact ⟨rfl, qQ.rf hW⟩
  · rw [Bool.eq_false_iff.mpr w, Bool.false_and, Bool.false_and, if_neg (by decide)]
    refine wp_Vr (μ' := mX4_factsAt) (ci := 4) (q := 9) (tX4_factsAtN (d := d - 1) (by omega) hW hb (Bool.eq_false_iff.mpr w)) dX7_sum_6 okX4_factsAt lkX7_93 (by first | exact ch_obj | exact ch_prg | exact ch_pts | exact ch_acs | exact ch_4 | exact ch_pul | exact ch_sea | exact ch_27 | exact ch_28 | exact ch_29 | exact ch_30 | exact ch_31 | exact ch_32 | assumption) rfl rfl rfl (Nat.le_of_ble_eq_true rfl) (by omega) rfl ?_
    refine wp_astoreN (lv' := [_, _, _, _, some _, _]) (q := 11) dX7_sum_9 (by decide) rfl rfl ?_
    refine wp_aloadN (q := 13) dX7_sum_11 rfl rfl ?_
    refine wp_ifnullN (q := 44) dX7_sum_13 (by decide) ?_
    refine wp_ldc2 (v := (-9223372036854775808)) (q := 47) dX7_sum_44 ktX7_121 rfl ?_
    refine wp_lret dX7_sum_47 rfl ?_
    exact ⟨rfl, qQ.rf hW⟩
theorem tX7_holds {x s sh i j : Int32} (hd : 2 ≤ d) (hW : DW lo sz g D) (hK : PK D) (hb : b + 33 ≤ lo) : mt l mX7_holds d 0 0 [.ref b, .int x, .int s, .int sh, .int i, .int j] (sz, ch b I A B D g) (fun rv h' => rv = some (.int (cHolds D x s sh i j)) ∧ qQ lo sz b I A D g h') := by
  have h6 := hW.np
  refine mt_in (lv := [_, _, _, _, _, _, _, _]) (by decide) (Nat.le_of_ble_eq_true rfl) rfl ?_
  refine wp_aload_n (i := 0) (q := 1) dX7_holds_0 rfl rfl rfl ?_
  refine wg7_0 (q := 4) dX7_holds_1 ffX7_10 (by first | exact ch_obj | exact ch_prg | exact ch_pts | exact ch_acs | exact ch_4 | exact ch_pul | exact ch_sea | exact ch_27 | exact ch_28 | exact ch_29 | exact ch_30 | exact ch_31 | exact ch_32 | assumption) rfl ?_ -- program
  refine wp_iload_n (i := 1) (q := 5) dX7_holds_4 rfl rfl rfl ?_
  refine wp_iload_n (i := 2) (q := 6) dX7_holds_5 rfl rfl rfl ?_
  unfold cHolds
  by_cases w : (ix (dNp D) x && ix 3 s) = true
  · rw [w, Bool.true_and]
    obtain ⟨w1, w2⟩ := Bool.and_eq_true_iff.mp w
    obtain ⟨p, hp, rfl⟩ := ix_of w1 (by omega)
    obtain ⟨s, hs, rfl⟩ := ix_of w2 (by omega)
    rw [nI_clamp (by omega), nI_clamp (by omega)]
    have h4 := hW.k4 hp
    have h1 := hW.k1 hp
    have h40 : (dF D p s).1 ≤ 40 := ((hK p hp).2 s hs).2
    obtain ⟨r1, r3, r4, r5, r6, r7, r8, r9, r10, r11, r12, hob, -⟩ := ch_fob (I := I) (A := A) (B := B) hW hb hp hs
    refine wp_Vr (μ' := mX4_factsAt) (ci := 4) (q := 9) (tX4_factsAt (d := d - 1) (by omega) hW hb hp hs) dX7_holds_6 okX4_factsAt lkX7_93 (by first | exact ch_obj | exact ch_prg | exact ch_pts | exact ch_acs | exact ch_4 | exact ch_pul | exact ch_sea | exact ch_27 | exact ch_28 | exact ch_29 | exact ch_30 | exact ch_31 | exact ch_32 | assumption) rfl rfl rfl (Nat.le_of_ble_eq_true rfl) (by omega) rfl ?_
    refine wp_astore (lv' := [_, _, _, _, _, some _, _, _]) (q := 11) dX7_holds_9 (by decide) rfl rfl ?_
    refine wp_aload (q := 13) dX7_holds_11 rfl rfl ?_
    refine wp_ifnull (q := 16) dX7_holds_13 rfl ?_
    refine wp_aload (q := 18) dX7_holds_16 rfl rfl ?_
    refine wp_iload (q := 20) dX7_holds_18 rfl rfl ?_
    refine wp_Vi (μ' := mX1_hasVariable) (ci := 1) (q := 23) (tX1_hasVariableD (d := d - 1) hW hb hp hs) dX7_holds_20 okX1_hasVariable lkX7_97 hob rfl rfl rfl (Nat.le_of_ble_eq_true rfl) (by omega) rfl ?_
    refine wp_if_ne (t := 28) (q := 26) dX7_holds_23 (by decide) rfl (fun hv => ?_) (fun hv => ?_)
    · have hv := b2_ne0.mp hv
      rw [if_pos hv]
      obtain ⟨i, hi, rfl⟩ := ix_of hv (by omega)
      refine wp_iconst (v := nI 0) (q := 29) dX7_holds_28 (by decide) rfl ?_
      refine wp_istore (lv' := [_, _, _, _, _, _, some _, _]) (q := 31) dX7_holds_29 (by decide) rfl rfl ?_
      refine wp_iload_n (i := 3) (q := 32) dX7_holds_31 rfl rfl rfl ?_
      refine wp_Si (μ' := mX7_isOfTwo) (q := 35) (tX7_isOfTwo (d := d - 1)) dX7_holds_32 okX7_isOfTwo lkX7_98 rfl rfl (Nat.le_of_ble_eq_true rfl) (by omega) rfl ?_
      have K54 : ∀ oj : Nat, oj < dK D p → nI oj = cOth sh j → wp l mX7_holds [] d 0 0 (fun rv h' => rv = some (.int (if isG sh (nI i) (cOth sh j) = true then (if (dF D p s).1 = 0 then -9 else b2 (stN (dF D p s).1 (dF D p s).2.2 sh.toNatClampNeg (nI i).toNatClampNeg (cOth sh j).toNatClampNeg)) else -2)) ∧ qQ lo sz b I A D g h') (sz, ch b I A B D g) 54 [some (.ref b), some (.int (nI p)), some (.int (nI s)), some (.int sh), some (.int (nI i)), some (.int j), some (.ref (dfA D p s)), some (.int (nI oj))] [] := by
        intro oj hoj he
        rw [← he]
        refine wp_iload_n (i := 3) (q := 55) dX7_holds_54 rfl rfl rfl ?_
        refine wp_iload (q := 57) dX7_holds_55 rfl rfl ?_
        refine wp_iload (q := 59) dX7_holds_57 rfl rfl ?_
        refine wp_Si (μ' := mX7_isGuess) (q := 62) (tX7_isGuess (d := d - 1)) dX7_holds_59 okX7_isGuess lkX7_101 rfl rfl (Nat.le_of_ble_eq_true rfl) (by omega) rfl ?_
        refine wp_if_ne (t := 68) (q := 65) dX7_holds_62 (by decide) rfl (fun hg => ?_) (fun hg => ?_)
        · have hg := b2_ne0.mp hg
          rw [if_pos hg]
          obtain ⟨n, hn, rfl⟩ := isG_rng hg
          rw [nI_clamp (by omega), nI_clamp (by omega), nI_clamp (by omega)]
          refine wp_aload (q := 70) dX7_holds_68 rfl rfl ?_
          refine wg1_2 (q := 73) dX7_holds_70 ffX7_68 (by first | exact ch_obj | exact ch_prg | exact ch_pts | exact ch_acs | exact ch_4 | exact ch_pul | exact ch_sea | exact ch_27 | exact ch_28 | exact ch_29 | exact ch_30 | exact ch_31 | exact ch_32 | assumption) rfl ?_ -- count
          refine wp_if_ne (t := 79) (q := 76) dX7_holds_73 (by decide) rfl (fun h0 => ?_) (fun h0 => ?_)
          · rw [if_neg (fun q => h0 (by rw [q]; rfl))]
            refine wp_aload (q := 81) dX7_holds_79 rfl rfl ?_
            refine wp_iload_n (i := 3) (q := 82) dX7_holds_81 rfl rfl rfl ?_
            refine wp_iload (q := 84) dX7_holds_82 rfl rfl ?_
            refine wp_iload (q := 86) dX7_holds_84 rfl rfl ?_
            refine wp_Vi (μ' := mX1_stands) (ci := 1) (q := 89) (tX1_standsD (d := d - 1) (by omega) hW hK hb hp hs hn hi hoj) dX7_holds_86 okX1_stands lkX7_105 hob rfl rfl rfl (Nat.le_of_ble_eq_true rfl) (by omega) rfl ?_
            refine wp_if_eq (t := 96) (q := 92) dX7_holds_89 (by decide) rfl (fun hz => ?_) (fun hz => ?_)
            · rw [b2_eq0.mp hz]
              refine wp_iconst (v := nI 0) (q := 97) dX7_holds_96 (by decide) rfl ?_
              refine wp_iret dX7_holds_97 rfl ?_
              exact ⟨rfl, qQ.rf hW⟩
            · rw [b2_ne0.mp hz]
              refine wp_iconst (v := nI 1) (q := 93) dX7_holds_92 (by decide) rfl ?_
              refine wp_goto (q := 97) dX7_holds_93 (by decide) ?_
              refine wp_iret dX7_holds_97 rfl ?_
              exact ⟨rfl, qQ.rf hW⟩
          · rw [if_pos ((nI_eq (b := 0) (by omega) (by omega)).mp h0)]
            refine wp_bipush (v := (-9)) (q := 78) dX7_holds_76 (by decide) rfl ?_
            refine wp_iret dX7_holds_78 rfl ?_
            exact ⟨rfl, qQ.rf hW⟩
        · rw [if_neg (by rw [b2_eq0.mp hg]; decide)]
          refine wp_bipush (v := (-2)) (q := 67) dX7_holds_65 (by decide) rfl ?_
          refine wp_iret dX7_holds_67 rfl ?_
          exact ⟨rfl, qQ.rf hW⟩
      refine wp_if_eq (t := 54) (q := 38) dX7_holds_35 (by decide) rfl (fun h2 => ?_) (fun h2 => ?_)
      · have h2 := b2_eq0.mp h2
        rw [h2, Bool.false_and, if_neg (by decide)]
        exact K54 0 (by omega) (by unfold cOth; rw [h2, if_neg (by decide)])
      have h2 := b2_ne0.mp h2
      rw [h2, Bool.true_and]
      refine wp_aload (q := 40) dX7_holds_38 rfl rfl ?_
      refine wp_iload (q := 42) dX7_holds_40 rfl rfl ?_
      refine wp_Vi (μ' := mX1_hasVariable) (ci := 1) (q := 45) (tX1_hasVariableD (d := d - 1) hW hb hp hs) dX7_holds_42 okX1_hasVariable lkX7_97 hob rfl rfl rfl (Nat.le_of_ble_eq_true rfl) (by omega) rfl ?_
      refine wp_if_ne (t := 50) (q := 48) dX7_holds_45 (by decide) rfl (fun hv2 => ?_) (fun hv2 => ?_)
      · have hv2 := b2_ne0.mp hv2
        rw [if_neg (by rw [hv2]; decide)]
        have hj := hv2
        obtain ⟨oj, hoj, rfl⟩ := ix_of hj (by omega)
        refine wp_iload (q := 52) dX7_holds_50 rfl rfl ?_
        refine wp_istore (lv' := [_, _, _, _, _, _, some _, _]) (q := 54) dX7_holds_52 (by decide) rfl rfl ?_
        exact K54 oj hoj (by unfold cOth; rw [h2, if_pos rfl])
      · rw [if_pos (by rw [b2_eq0.mp hv2]; rfl)]
        refine wp_iconst (v := (-1)) (q := 49) dX7_holds_48 (by decide) rfl ?_
        refine wp_iret dX7_holds_49 rfl ?_
        exact ⟨rfl, qQ.rf hW⟩
    · rw [if_neg (by rw [b2_eq0.mp hv]; decide)]
      refine wp_iconst (v := (-1)) (q := 27) dX7_holds_26 (by decide) rfl ?_
      refine wp_iret dX7_holds_27 rfl ?_
      exact ⟨rfl, qQ.rf hW⟩
  · rw [Bool.eq_false_iff.mpr w, Bool.false_and, if_neg (by decide)]
    refine wp_Vr (μ' := mX4_factsAt) (ci := 4) (q := 9) (tX4_factsAtN (d := d - 1) (by omega) hW hb (Bool.eq_false_iff.mpr w)) dX7_holds_6 okX4_factsAt lkX7_93 (by first | exact ch_obj | exact ch_prg | exact ch_pts | exact ch_acs | exact ch_4 | exact ch_pul | exact ch_sea | exact ch_27 | exact ch_28 | exact ch_29 | exact ch_30 | exact ch_31 | exact ch_32 | assumption) rfl rfl rfl (Nat.le_of_ble_eq_true rfl) (by omega) rfl ?_
    refine wp_astoreN (lv' := [_, _, _, _, _, some _, _, _]) (q := 11) dX7_holds_9 (by decide) rfl rfl ?_
    refine wp_aloadN (q := 13) dX7_holds_11 rfl rfl ?_
    refine wp_ifnullN (q := 26) dX7_holds_13 (by decide) ?_
    refine wp_iconst (v := (-1)) (q := 27) dX7_holds_26 (by decide) rfl ?_
    refine wp_iret dX7_holds_27 rfl ?_
    exact ⟨rfl, qQ.rf hW⟩
theorem tX7_number {x s sh i wh : Int32} (hd : 3 ≤ d) (hW : DW lo sz g D) (hK : PK D) (hb : b + 33 ≤ lo) : mt l mX7_number d 0 0 [.ref b, .int x, .int s, .int sh, .int i, .int wh] (sz, ch b I A B D g) (fun rv h' => rv = some (.int (cNumber D x s sh i wh)) ∧ qQ lo sz b I A D g h') := by
  have h6 := hW.np
  refine mt_in (lv := [_, _, _, _, _, _, _]) (by decide) (Nat.le_of_ble_eq_true rfl) rfl ?_
  refine wp_aload_n (i := 0) (q := 1) dX7_number_0 rfl rfl rfl ?_
  refine wg7_0 (q := 4) dX7_number_1 ffX7_10 (by first | exact ch_obj | exact ch_prg | exact ch_pts | exact ch_acs | exact ch_4 | exact ch_pul | exact ch_sea | exact ch_27 | exact ch_28 | exact ch_29 | exact ch_30 | exact ch_31 | exact ch_32 | assumption) rfl ?_ -- program
  refine wp_iload_n (i := 1) (q := 5) dX7_number_4 rfl rfl rfl ?_
  refine wp_iload_n (i := 2) (q := 6) dX7_number_5 rfl rfl rfl ?_
  unfold cNumber
  by_cases w : (ix (dNp D) x && ix 3 s) = true
  · rw [w, Bool.true_and]
    obtain ⟨w1, w2⟩ := Bool.and_eq_true_iff.mp w
    obtain ⟨p, hp, rfl⟩ := ix_of w1 (by omega)
    obtain ⟨s, hs, rfl⟩ := ix_of w2 (by omega)
    rw [nI_clamp (by omega), nI_clamp (by omega)]
    have h4 := hW.k4 hp
    have h1 := hW.k1 hp
    obtain ⟨r1, r3, r4, r5, r6, r7, r8, r9, r10, r11, r12, hob, -⟩ := ch_fob (I := I) (A := A) (B := B) hW hb hp hs
    refine wp_Vr (μ' := mX4_factsAt) (ci := 4) (q := 9) (tX4_factsAt (d := d - 1) (by omega) hW hb hp hs) dX7_number_6 okX4_factsAt lkX7_93 (by first | exact ch_obj | exact ch_prg | exact ch_pts | exact ch_acs | exact ch_4 | exact ch_pul | exact ch_sea | exact ch_27 | exact ch_28 | exact ch_29 | exact ch_30 | exact ch_31 | exact ch_32 | assumption) rfl rfl rfl (Nat.le_of_ble_eq_true rfl) (by omega) rfl ?_
    refine wp_astore (lv' := [_, _, _, _, _, some _, _]) (q := 11) dX7_number_9 (by decide) rfl rfl ?_
    refine wp_aload (q := 13) dX7_number_11 rfl rfl ?_
    refine wp_ifnull (q := 16) dX7_number_13 rfl ?_
    refine wp_aload (q := 18) dX7_number_16 rfl rfl ?_
    refine wp_iload (q := 20) dX7_number_18 rfl rfl ?_
    refine wp_Vi (μ' := mX1_hasVariable) (ci := 1) (q := 23) (tX1_hasVariableD (d := d - 1) hW hb hp hs) dX7_number_20 okX1_hasVariable lkX7_97 hob rfl rfl rfl (Nat.le_of_ble_eq_true rfl) (by omega) rfl ?_
    refine wp_if_eq (t := 35) (q := 26) dX7_number_23 (by decide) rfl (fun hv => ?_) (fun hv => ?_)
    · rw [b2_eq0.mp hv, Bool.false_and, if_neg (by decide)]
      refine wp_sipush (v := (-1000)) (q := 38) dX7_number_35 (by decide) rfl ?_
      refine wp_iret dX7_number_38 rfl ?_
      exact ⟨rfl, qQ.rf hW⟩
    have hv := b2_ne0.mp hv
    rw [hv, Bool.true_and]
    obtain ⟨i, hi, rfl⟩ := ix_of hv (by omega)
    rw [nI_clamp (by omega)]
    refine wp_iload_n (i := 3) (q := 27) dX7_number_26 rfl rfl rfl ?_
    refine wp_if_lt (t := 35) (q := 30) dX7_number_27 (by decide) rfl (fun h0 => ?_) (fun h0 => ?_)
    · rw [ix_neg h0, if_neg (by decide)]
      refine wp_sipush (v := (-1000)) (q := 38) dX7_number_35 (by decide) rfl ?_
      refine wp_iret dX7_number_38 rfl ?_
      exact ⟨rfl, qQ.rf hW⟩
    obtain ⟨n, hn, rfl⟩ := nI_of h0
    rw [ix_nI hn, nI_clamp hn]
    refine wp_iload_n (i := 3) (q := 31) dX7_number_30 rfl rfl rfl ?_
    refine wp_iconst (v := nI 4) (q := 32) dX7_number_31 (by decide) rfl ?_
    refine wp_icmp_le (t := 39) (q := 35) dX7_number_32 (by decide) rfl (fun h5 => ?_) (fun h5 => ?_)
    · have h5 : n < 5 := by have := (nI_leI (by omega) (by omega)).mp h5; omega
      rw [if_pos (decide_eq_true h5)]
      refine wp_aload (q := 41) dX7_number_39 rfl rfl ?_
      refine wp_iload_n (i := 3) (q := 42) dX7_number_41 rfl rfl rfl ?_
      refine wp_iload (q := 44) dX7_number_42 rfl rfl ?_
      refine wp_iconst (v := nI 0) (q := 45) dX7_number_44 (by decide) rfl ?_
      refine wp_Vi (μ' := mX1_stands) (ci := 1) (q := 48) (tX1_standsD (d := d - 1) (j := 0) (by omega) hW hK hb hp hs (by omega) hi (by omega)) dX7_number_45 okX1_stands lkX7_105 hob rfl rfl rfl (Nat.le_of_ble_eq_true rfl) (by omega) rfl ?_
      refine wp_if_eq (t := 64) (q := 51) dX7_number_48 (by decide) rfl (fun hz => ?_) (fun hz => ?_)
      · rw [if_neg (by rw [b2_eq0.mp hz]; decide)]
        refine wp_sipush (v := (-1000)) (q := 67) dX7_number_64 (by decide) rfl ?_
        refine wp_iret dX7_number_67 rfl ?_
        exact ⟨rfl, qQ.rf hW⟩
      · rw [if_pos (b2_ne0.mp hz)]
        refine wp_aload (q := 53) dX7_number_51 rfl rfl ?_
        refine wp_iload_n (i := 3) (q := 54) dX7_number_53 rfl rfl rfl ?_
        refine wp_iload (q := 56) dX7_number_54 rfl rfl ?_
        refine wp_iload (q := 58) dX7_number_56 rfl rfl ?_
        refine wp_Vi (μ' := mX1_numberOf) (ci := 1) (q := 61) (tX1_numberOfD (d := d - 1) (by omega) hW hK hb hp hs h5 hi) dX7_number_58 okX1_numberOf lkX7_108 hob rfl rfl rfl (Nat.le_of_ble_eq_true rfl) (by omega) rfl ?_
        refine wp_goto (q := 67) dX7_number_61 (by decide) ?_
        refine wp_iret dX7_number_67 rfl ?_
        exact ⟨rfl, qQ.rf hW⟩
    · rw [if_neg (by rw [decide_eq_false (fun q => h5 ((nI_leI (by omega) (by omega)).mpr (by omega)))]; decide)]
      refine wp_sipush (v := (-1000)) (q := 38) dX7_number_35 (by decide) rfl ?_
      refine wp_iret dX7_number_38 rfl ?_
      exact ⟨rfl, qQ.rf hW⟩
  · rw [Bool.eq_false_iff.mpr w, Bool.false_and, Bool.false_and, if_neg (by decide)]
    refine wp_Vr (μ' := mX4_factsAt) (ci := 4) (q := 9) (tX4_factsAtN (d := d - 1) (by omega) hW hb (Bool.eq_false_iff.mpr w)) dX7_number_6 okX4_factsAt lkX7_93 (by first | exact ch_obj | exact ch_prg | exact ch_pts | exact ch_acs | exact ch_4 | exact ch_pul | exact ch_sea | exact ch_27 | exact ch_28 | exact ch_29 | exact ch_30 | exact ch_31 | exact ch_32 | assumption) rfl rfl rfl (Nat.le_of_ble_eq_true rfl) (by omega) rfl ?_
    refine wp_astoreN (lv' := [_, _, _, _, _, some _, _]) (q := 11) dX7_number_9 (by decide) rfl rfl ?_
    refine wp_aloadN (q := 13) dX7_number_11 rfl rfl ?_
    refine wp_ifnullN (q := 35) dX7_number_13 (by decide) ?_
    refine wp_sipush (v := (-1000)) (q := 38) dX7_number_35 (by decide) rfl ?_
    refine wp_iret dX7_number_38 rfl ?_
    exact ⟨rfl, qQ.rf hW⟩
end R1
