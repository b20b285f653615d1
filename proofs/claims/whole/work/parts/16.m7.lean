/-! THE REFERENCE: guesses, guess, number -/
def aGuesses (A : Nat → Nat → Int32) (np : Nat) (x s : Int32) : Int32 := if (ix np x && ix 3 s) = true then nI (gl A x.toNatClampNeg s.toNatClampNeg true).length else -1
def aGuess (A : Nat → Nat → Int32) (np : Nat) (x s k : Int32) : Int32 := if (ix np x && ix 3 s) = true then (if ix (gl A x.toNatClampNeg s.toNatClampNeg true).length k = true then nI ((gl A x.toNatClampNeg s.toNatClampNeg true).getD k.toNatClampNeg 0) else -1) else -1
def aNumR (A : Nat → Nat → Int32) (p side sh i what : Nat) : Int32 :=
  if sh = 1 then (if what = 0 then nI (gth [] (vl A p side i)).length else if 1 < what ∧ what - 2 < (gth [] (vl A p side i)).length then (gth [] (vl A p side i)).getD (what - 2) 0 else -1000)
  else if sh = 4 then (if what = 0 then nI (mdF (vl A p side i) 12) else if what = 1 then rst (exS false 0 false (vl A p side i)) (mdF (vl A p side i) 12) else -1000)
  else if what = 0 then exS (decide (sh = 3)) 0 false (vl A p side i) else -1000
def aNumber (A : Nat → Nat → Int32) (np : Nat) (x s sh i what : Int32) : Int32 :=
  if ((((ix np x && ix 3 s) && ix (kA A x.toNatClampNeg) i) && (ix 5 sh && ix 5 what)) && (!decide ((rs A x.toNatClampNeg s.toNatClampNeg).length = 0) && isSoB A x.toNatClampNeg s.toNatClampNeg sh.toNatClampNeg i.toNatClampNeg 0)) = true
  then aNumR A x.toNatClampNeg s.toNatClampNeg sh.toNatClampNeg i.toNatClampNeg what.toNatClampNeg else -1000
theorem mdF_le (vs : List Int32) : ∀ m, mdF vs m ≤ m := by
  intro m
  induction m with
  | zero => simp [mdF]
  | succ m ih =>
    cases m with
    | zero => simp [mdF]
    | succ m =>
      unfold mdF
      split <;> omega
theorem gth_le : ∀ (s t : List Int32), t.length ≤ 4 → (gth t s).length ≤ 4 := by
  intro s
  induction s with
  | nil => intro t ht; exact ht
  | cons v vs ih =>
    intro t ht
    unfold gth
    split
    · next h4 => exact ih _ (by have := insL_len (v := v) (s := t); omega)
    · exact ht
theorem rs_len {A : Nat → Nat → Int32} {p side : Nat} (m4 : nA A p ≤ 40) : (rs A p side).length ≤ 40 := by
  have h9 : (rs A p side).length ≤ (List.range' 0 (nA A p - 0)).length := List.length_filter_le _ _
  rw [List.length_range'] at h9
  omega
section M7
variable {l : Launch} {d sz b p side r i j m shape np : Nat} {I : Nat → Int32} {L : Int64} {A : Nat → Nat → Int32} {B : Nat → Nat → Int64} {g : Nat → Option aE}
theorem tX8_guesses {x s : Int32} (hd : 6 ≤ d) (hM : MM I A np) : mt l mX8_guesses d 0 0 [.ref b, .int x, .int s] (sz, mh b I L A B g) (fun rv h' => rv = some (.int (aGuesses A np x s)) ∧ ∃ I' A', h' = (sz, mh b I' L A' B g) ∧ SC [7, 9] [7, 8] I A I' A') := by
  obtain ⟨hn, h0, hP, -⟩ := hM
  refine mt_in (lv := [_, _, _]) (by decide) (Nat.le_of_ble_eq_true rfl) rfl ?_
  refine wp_aload_n (i := 0) (q := 1) dX8_guesses_0 rfl rfl rfl ?_
  refine wp_iload_n (i := 1) (q := 2) dX8_guesses_1 rfl rfl rfl ?_
  refine wp_iload_n (i := 2) (q := 3) dX8_guesses_2 rfl rfl rfl ?_
  refine wp_Vi (μ' := mX8_noSide) (ci := 8) (q := 6) (tX8_noSide (d := d - 1) (by omega) hn h0) dX8_guesses_3 okX8_noSide lkX8_138 mh_obj rfl rfl rfl (Nat.le_of_ble_eq_true rfl) (by omega) rfl ?_
  unfold aGuesses
  refine wp_if_eq (t := 11) (q := 9) dX8_guesses_6 (by decide) rfl (fun hc => ?_) (fun hc => ?_)
  · have hc : (ix np x && ix 3 s) = true := b2n_eq0.mp hc
    rw [if_pos hc]
    obtain ⟨h1, h2⟩ := Bool.and_eq_true_iff.mp hc
    obtain ⟨p, hp, rfl⟩ := ix_of h1 (by omega)
    obtain ⟨side, hs, rfl⟩ := ix_of h2 (by decide)
    rw [nI_clamp (by omega), nI_clamp (by omega)]
    refine wp_aload_n (i := 0) (q := 12) dX8_guesses_11 rfl rfl rfl ?_
    refine wp_iload_n (i := 1) (q := 13) dX8_guesses_12 rfl rfl rfl ?_
    refine wp_iload_n (i := 2) (q := 14) dX8_guesses_13 rfl rfl rfl ?_
    refine wp_iconst (v := nI 1) (q := 15) dX8_guesses_14 (by decide) rfl ?_
    refine wp_V (μ' := mX8_findGuesses) (ci := 8) (q := 18) (tX8_findGuesses (d := d - 1) (tA := true) (by omega) (by omega) hs (hP p (by omega))) dX8_guesses_15 okX8_findGuesses lkX8_187 mh_obj rfl rfl rfl (Nat.le_of_ble_eq_true rfl) (by omega) rfl (fun rv hx hq => ?_)
    obtain ⟨rfl, I', A', rfl, hS, h9, hf⟩ := hq
    refine wp_aload_n (i := 0) (q := 19) dX8_guesses_18 rfl rfl rfl ?_
    refine wm_getI (k := 9) (q := 22) dX8_guesses_19 ffX8_181 rfl rfl ?_ -- told
    rw [h9]
    refine wp_iret dX8_guesses_22 rfl ?_
    exact ⟨rfl, I', A', rfl, hS⟩
  · rw [if_neg (by rw [b2n_ne0.mp hc]; decide)]
    refine wp_iconst (v := (-1)) (q := 10) dX8_guesses_9 (by decide) rfl ?_
    refine wp_iret dX8_guesses_10 rfl ?_
    exact ⟨rfl, _, _, rfl, SC.rf⟩
theorem tX8_guess {x s k : Int32} (hd : 6 ≤ d) (hM : MM I A np) : mt l mX8_guess d 0 0 [.ref b, .int x, .int s, .int k] (sz, mh b I L A B g) (fun rv h' => rv = some (.int (aGuess A np x s k)) ∧ ∃ I' A', h' = (sz, mh b I' L A' B g) ∧ SC [7, 9] [7, 8] I A I' A') := by
  obtain ⟨hn, h0, hP, -⟩ := hM
  refine mt_in (lv := [_, _, _, _]) (by decide) (Nat.le_of_ble_eq_true rfl) rfl ?_
  refine wp_aload_n (i := 0) (q := 1) dX8_guess_0 rfl rfl rfl ?_
  refine wp_iload_n (i := 1) (q := 2) dX8_guess_1 rfl rfl rfl ?_
  refine wp_iload_n (i := 2) (q := 3) dX8_guess_2 rfl rfl rfl ?_
  refine wp_Vi (μ' := mX8_noSide) (ci := 8) (q := 6) (tX8_noSide (d := d - 1) (by omega) hn h0) dX8_guess_3 okX8_noSide lkX8_138 mh_obj rfl rfl rfl (Nat.le_of_ble_eq_true rfl) (by omega) rfl ?_
  unfold aGuess
  refine wp_if_eq (t := 11) (q := 9) dX8_guess_6 (by decide) rfl (fun hc => ?_) (fun hc => ?_)
  · have hc : (ix np x && ix 3 s) = true := b2n_eq0.mp hc
    rw [if_pos hc]
    obtain ⟨h1, h2⟩ := Bool.and_eq_true_iff.mp hc
    obtain ⟨p, hp, rfl⟩ := ix_of h1 (by omega)
    obtain ⟨side, hs, rfl⟩ := ix_of h2 (by decide)
    rw [nI_clamp (by omega), nI_clamp (by omega)]
    have hgl := gl_len (A := A) (p := p) (side := side) (tA := true) (hP p (by omega)).2.1
    refine wp_aload_n (i := 0) (q := 12) dX8_guess_11 rfl rfl rfl ?_
    refine wp_iload_n (i := 1) (q := 13) dX8_guess_12 rfl rfl rfl ?_
    refine wp_iload_n (i := 2) (q := 14) dX8_guess_13 rfl rfl rfl ?_
    refine wp_iconst (v := nI 1) (q := 15) dX8_guess_14 (by decide) rfl ?_
    refine wp_V (μ' := mX8_findGuesses) (ci := 8) (q := 18) (tX8_findGuesses (d := d - 1) (tA := true) (by omega) (by omega) hs (hP p (by omega))) dX8_guess_15 okX8_findGuesses lkX8_187 mh_obj rfl rfl rfl (Nat.le_of_ble_eq_true rfl) (by omega) rfl (fun rv hx hq => ?_)
    obtain ⟨rfl, I', A', rfl, hS, h9, hf⟩ := hq
    refine wp_iload_n (i := 3) (q := 19) dX8_guess_18 rfl rfl rfl ?_
    refine wp_iconst (v := nI 0) (q := 20) dX8_guess_19 (by decide) rfl ?_
    refine wp_aload_n (i := 0) (q := 21) dX8_guess_20 rfl rfl rfl ?_
    refine wm_getI (k := 9) (q := 24) dX8_guess_21 ffX8_181 rfl rfl ?_ -- told
    refine wp_iconst (v := nI 1) (q := 25) dX8_guess_24 (by decide) rfl ?_
    refine wp_isub (q := 26) dX8_guess_25 rfl ?_
    refine wp_Si (μ' := mX8_in) (q := 29) (tX8_in (d := d - 1)) dX8_guess_26 okX8_in lkX8_115 rfl rfl (Nat.le_of_ble_eq_true rfl) (by omega) rfl ?_
    rw [h9, inB_pt (by omega)]
    refine wp_if_eq (t := 41) (q := 32) dX8_guess_29 (by decide) rfl (fun hk => ?_) (fun hk => ?_)
    · rw [if_neg (by rw [b2_eq0.mp hk]; decide)]
      refine wp_iconst (v := (-1)) (q := 42) dX8_guess_41 (by decide) rfl ?_
      refine wp_iret dX8_guess_42 rfl ?_
      exact ⟨rfl, I', A', rfl, hS⟩
    · have hk := b2_ne0.mp hk
      rw [if_pos hk]
      obtain ⟨k, hk2, rfl⟩ := ix_of hk (by omega)
      rw [nI_clamp (by omega)]
      refine wp_aload_n (i := 0) (q := 33) dX8_guess_32 rfl rfl rfl ?_
      refine wm_getA (k := 10) (o := 8) (q := 36) dX8_guess_33 ffX8_32 rfl rfl rfl ?_ -- code
      refine wp_iload_n (i := 3) (q := 37) dX8_guess_36 rfl rfl rfl ?_
      refine wm_ialdN (q := 38) dX8_guess_37 ⟨by decide, by decide, rfl⟩ rfl (by simp only [mlen]; omega) (by decide) rfl ?_
      refine wp_goto (q := 42) dX8_guess_38 (by decide) ?_
      refine wp_iret dX8_guess_42 rfl ?_
      exact ⟨by rw [hf k _ (List.getElem?_eq_getElem hk2), List.getD_eq_getElem?_getD, List.getElem?_eq_getElem hk2]; rfl, I', A', rfl, hS⟩
  · rw [if_neg (by rw [b2n_ne0.mp hc]; decide)]
    refine wp_iconst (v := (-1)) (q := 10) dX8_guess_9 (by decide) rfl ?_
    refine wp_iret dX8_guess_10 rfl ?_
    exact ⟨rfl, _, _, rfl, SC.rf⟩
theorem tX8_number {x s sh i what : Int32} (hd : 4 ≤ d) (hM : MM I A np) : mt l mX8_number d 0 0 [.ref b, .int x, .int s, .int sh, .int i, .int what] (sz, mh b I L A B g) (fun rv h' => rv = some (.int (aNumber A np x s sh i what)) ∧ ∃ I' A', h' = (sz, mh b I' L A' B g) ∧ SC [7] [7] I A I' A') := by
  obtain ⟨hn, h0, hP, -⟩ := hM
  have bad : ∀ (I1 : Nat → Int32) (A1 : Nat → Nat → Int32), SC [7] [7] I A I1 A1 → aNumber A np x s sh i what = -1000 → wp l mX8_number [] d 0 0 (fun rv h' => rv = some (.int (aNumber A np x s sh i what)) ∧ ∃ I' A', h' = (sz, mh b I' L A' B g) ∧ SC [7] [7] I A I' A') (sz, mh b I1 L A1 B g) 60 [some (.ref b), some (.int x), some (.int s), some (.int sh), some (.int i), some (.int what), none] [] := by
    intro I1 A1 hS e
    rw [e]
    refine wp_sipush (v := (-1000)) (q := 63) dX8_number_60 (by decide) rfl ?_
    refine wp_iret dX8_number_63 rfl ?_
    exact ⟨rfl, _, _, rfl, hS⟩
  refine mt_in (lv := [_, _, _, _, _, _, _]) (by decide) (Nat.le_of_ble_eq_true rfl) rfl ?_
  refine wp_aload_n (i := 0) (q := 1) dX8_number_0 rfl rfl rfl ?_
  refine wp_iload_n (i := 1) (q := 2) dX8_number_1 rfl rfl rfl ?_
  refine wp_iload_n (i := 2) (q := 3) dX8_number_2 rfl rfl rfl ?_
  refine wp_Vi (μ' := mX8_noSide) (ci := 8) (q := 6) (tX8_noSide (d := d - 1) (by omega) hn h0) dX8_number_3 okX8_noSide lkX8_138 mh_obj rfl rfl rfl (Nat.le_of_ble_eq_true rfl) (by omega) rfl ?_
  refine wp_if_ne (t := 60) (q := 9) dX8_number_6 (by decide) rfl (fun hc => ?_) (fun hc => ?_)
  · exact bad _ _ SC.rf (by unfold aNumber; rw [show (ix np x && ix 3 s) = false from b2n_ne0.mp hc]; rfl)
  have hxs := b2n_eq0.mp hc
  obtain ⟨h1, h2⟩ := Bool.and_eq_true_iff.mp hxs
  refine wp_aload_n (i := 0) (q := 10) dX8_number_9 rfl rfl rfl ?_
  refine wp_iload_n (i := 1) (q := 11) dX8_number_10 rfl rfl rfl ?_
  refine wp_iload (q := 13) dX8_number_11 rfl rfl ?_
  refine wp_Vi (μ' := mX8_noVariable) (ci := 8) (q := 16) (tX8_noVariable (d := d - 1) (by omega) hn h0 hP) dX8_number_13 okX8_noVariable lkX8_130 mh_obj rfl rfl rfl (Nat.le_of_ble_eq_true rfl) (by omega) rfl ?_
  rw [h1, Bool.true_and]
  refine wp_if_ne (t := 60) (q := 19) dX8_number_16 (by decide) rfl (fun hc => ?_) (fun hc => ?_)
  · exact bad _ _ SC.rf (by unfold aNumber; rw [show ix (kA A x.toNatClampNeg) i = false from b2n_ne0.mp hc, Bool.and_false]; rfl)
  have hi := b2n_eq0.mp hc
  refine wp_iload_n (i := 3) (q := 20) dX8_number_19 rfl rfl rfl ?_
  refine wp_iconst (v := nI 0) (q := 21) dX8_number_20 (by decide) rfl ?_
  refine wp_iconst (v := nI 4) (q := 22) dX8_number_21 (by decide) rfl ?_
  refine wp_Si (μ' := mX8_in) (q := 25) (tX8_in (d := d - 1)) dX8_number_22 okX8_in lkX8_115 rfl rfl (Nat.le_of_ble_eq_true rfl) (by omega) rfl ?_
  rw [inB_le (by decide)]
  refine wp_if_eq (t := 60) (q := 28) dX8_number_25 (by decide) rfl (fun hc => ?_) (fun hc => ?_)
  · exact bad _ _ SC.rf (by unfold aNumber; rw [show ix 5 sh = false from b2_eq0.mp hc, Bool.false_and, Bool.and_false]; rfl)
  have hsh := b2_ne0.mp hc
  refine wp_iload (q := 30) dX8_number_28 rfl rfl ?_
  refine wp_iconst (v := nI 0) (q := 31) dX8_number_30 (by decide) rfl ?_
  refine wp_iconst (v := nI 4) (q := 32) dX8_number_31 (by decide) rfl ?_
  refine wp_Si (μ' := mX8_in) (q := 35) (tX8_in (d := d - 1)) dX8_number_32 okX8_in lkX8_115 rfl rfl (Nat.le_of_ble_eq_true rfl) (by omega) rfl ?_
  rw [inB_le (by decide)]
  refine wp_if_eq (t := 60) (q := 38) dX8_number_35 (by decide) rfl (fun hc => ?_) (fun hc => ?_)
  · exact bad _ _ SC.rf (by unfold aNumber; rw [show ix 5 what = false from b2_eq0.mp hc, Bool.and_false, Bool.and_false]; rfl)
  have hwh := b2_ne0.mp hc
  have E : aNumber A np x s sh i what = if (!decide ((rs A x.toNatClampNeg s.toNatClampNeg).length = 0) && isSoB A x.toNatClampNeg s.toNatClampNeg sh.toNatClampNeg i.toNatClampNeg 0) = true then aNumR A x.toNatClampNeg s.toNatClampNeg sh.toNatClampNeg i.toNatClampNeg what.toNatClampNeg else -1000 := by
    unfold aNumber
    rw [hxs, hi, show ix 5 sh = true from hsh, show ix 5 what = true from hwh, Bool.true_and, Bool.true_and, Bool.true_and]
  obtain ⟨p, hp, rfl⟩ := ix_of h1 (by omega)
  obtain ⟨side, hs, rfl⟩ := ix_of h2 (by decide)
  obtain ⟨shape, hsh9, rfl⟩ := ix_of hsh (by decide)
  obtain ⟨wh, hwh9, rfl⟩ := ix_of hwh (by decide)
  rw [nI_clamp (by omega)] at hi E
  have hMp := hP p (by omega)
  obtain ⟨m1, m2, m3, m4, -⟩ := hP p (by omega)
  obtain ⟨i, hi, rfl⟩ := ix_of hi (by omega)
  rw [nI_clamp (by omega), nI_clamp (by omega), nI_clamp (by omega), nI_clamp (by omega)] at E
  have hlen := rs_len (A := A) (p := p) (side := side) m4
  refine wp_aload_n (i := 0) (q := 39) dX8_number_38 rfl rfl rfl ?_
  refine wp_iload_n (i := 1) (q := 40) dX8_number_39 rfl rfl rfl ?_
  refine wp_iload_n (i := 2) (q := 41) dX8_number_40 rfl rfl rfl ?_
  refine wp_Vi (μ' := mX8_triedOf) (ci := 8) (q := 44) (tX8_triedOf (d := d - 1) (by omega) (by omega) hs hMp) dX8_number_41 okX8_triedOf lkX8_134 mh_obj rfl rfl rfl (Nat.le_of_ble_eq_true rfl) (by omega) rfl ?_
  refine wp_if_eq (t := 60) (q := 47) dX8_number_44 (by decide) rfl (fun ht => ?_) (fun ht => ?_)
  · exact bad _ _ SC.rf (by rw [E, decide_eq_true ((nI_eq (by omega) (by decide)).mp ht)]; rfl)
  have ht : ¬ (rs A p side).length = 0 := fun q => ht (by rw [q]; rfl)
  rw [decide_eq_false ht, Bool.not_false, Bool.true_and] at E
  refine wp_aload_n (i := 0) (q := 48) dX8_number_47 rfl rfl rfl ?_
  refine wp_iload_n (i := 1) (q := 49) dX8_number_48 rfl rfl rfl ?_
  refine wp_iload_n (i := 2) (q := 50) dX8_number_49 rfl rfl rfl ?_
  refine wp_iload_n (i := 3) (q := 51) dX8_number_50 rfl rfl rfl ?_
  refine wp_iload (q := 53) dX8_number_51 rfl rfl ?_
  refine wp_iconst (v := nI 0) (q := 54) dX8_number_53 (by decide) rfl ?_
  refine wp_V (μ' := mX8_isSo) (ci := 8) (q := 57) (tX8_isSo (d := d - 1) (j := 0) (by omega) (by omega) hs (by omega) (by omega) (by omega) hMp) dX8_number_54 okX8_isSo lkX8_174 mh_obj rfl rfl rfl (Nat.le_of_ble_eq_true rfl) (by omega) rfl (fun rv hx hq => ?_)
  obtain ⟨rfl, I1, A1, rfl, hS⟩ := hq
  show wp _ _ _ _ _ _ _ _ _ _ [.int (b2 (isSoB A p side shape i 0))]
  have hag := ag_of hS (by decide)
  have hM1 := MP_ag hag hMp
  refine wp_if_ne (t := 64) (q := 60) dX8_number_57 (by decide) rfl (fun hc => ?_) (fun hc => ?_)
  · have hso := b2_ne0.mp hc
    rw [if_pos hso] at E
    rw [E]
    unfold aNumR
    refine wp_iload_n (i := 3) (q := 65) dX8_number_64 rfl rfl rfl ?_
    refine wp_iconst (v := nI 1) (q := 66) dX8_number_65 (by decide) rfl ?_
    refine wp_icmp_ne (t := 122) (q := 69) dX8_number_66 (by decide) rfl (fun h1 => ?_) (fun h1 => ?_)
    · have h1 : ¬ shape = 1 := fun q => h1 (by rw [q])
      rw [if_neg h1]
      refine wp_iload_n (i := 3) (q := 123) dX8_number_122 rfl rfl rfl ?_
      refine wp_iconst (v := nI 4) (q := 124) dX8_number_123 (by decide) rfl ?_
      refine wp_icmp_ne (t := 174) (q := 127) dX8_number_124 (by decide) rfl (fun h4 => ?_) (fun h4 => ?_)
      · have h4 : ¬ shape = 4 := fun q => h4 (by rw [q])
        rw [if_neg h4]
        refine wp_iload (q := 176) dX8_number_174 rfl rfl ?_
        refine wp_if_ne (t := 200) (q := 179) dX8_number_176 (by decide) rfl (fun hw => ?_) (fun hw => ?_)
        · rw [if_neg (fun q => hw (by rw [q]; rfl))]
          refine wp_sipush (v := (-1000)) (q := 203) dX8_number_200 (by decide) rfl ?_
          refine wp_iret dX8_number_203 rfl ?_
          exact ⟨rfl, _, _, rfl, hS⟩
        · rw [if_pos ((nI_eq (by omega) (by decide)).mp hw)]
          refine wp_aload_n (i := 0) (q := 180) dX8_number_179 rfl rfl rfl ?_
          refine wp_iload_n (i := 1) (q := 181) dX8_number_180 rfl rfl rfl ?_
          refine wp_iload_n (i := 2) (q := 182) dX8_number_181 rfl rfl rfl ?_
          refine wp_iload (q := 184) dX8_number_182 rfl rfl ?_
          refine wp_iload_n (i := 3) (q := 185) dX8_number_184 rfl rfl rfl ?_
          refine wp_iconst (v := nI 3) (q := 186) dX8_number_185 (by decide) rfl ?_
          refine wp_b2cne (q := 189) (t := 193) (y := 194) dX8_number_186 dX8_number_189 dX8_number_190 dX8_number_193 (by decide) rfl rfl (by decide) rfl ?_
          refine wp_Vi (μ' := mX8_extreme) (ci := 8) (q := 197) (tX8_extreme (d := d - 1) (by omega) (by omega) hs (by omega) hM1) dX8_number_194 okX8_extreme lkX8_177 mh_obj rfl rfl rfl (Nat.le_of_ble_eq_true rfl) (by omega) rfl ?_
          refine wp_goto (q := 203) dX8_number_197 (by decide) ?_
          refine wp_iret dX8_number_203 rfl ?_
          exact ⟨by rw [decide_eq_decide.mpr (nI_eq (show shape < 2 ^ 31 by omega) (show 3 < 2 ^ 31 by decide)), show vl A1 p side i = vl A p side i by unfold vl; rw [vlF_ag hag]], _, _, rfl, hS⟩
      · rw [if_pos ((nI_eq (by omega) (by decide)).mp h4)]
        have hmd := mdF_le (vl A p side i) 12
        have hpos : 0 < mdF (vl A p side i) 12 := by
          have : shape = 4 := (nI_eq (by omega) (by decide)).mp h4
          subst this
          simpa [isSoB] using hso
        refine wp_aload_n (i := 0) (q := 128) dX8_number_127 rfl rfl rfl ?_
        refine wp_iload_n (i := 1) (q := 129) dX8_number_128 rfl rfl rfl ?_
        refine wp_iload_n (i := 2) (q := 130) dX8_number_129 rfl rfl rfl ?_
        refine wp_iload (q := 132) dX8_number_130 rfl rfl ?_
        refine wp_Vi (μ' := mX8_modulus) (ci := 8) (q := 135) (tX8_modulus (d := d - 1) (by omega) (by omega) hs (by omega) hM1) dX8_number_132 okX8_modulus lkX8_158 mh_obj rfl rfl rfl (Nat.le_of_ble_eq_true rfl) (by omega) rfl ?_
        rw [show vl A1 p side i = vl A p side i by unfold vl; rw [vlF_ag hag]]
        refine wp_istore (lv' := [_, _, _, _, _, some _, _]) (q := 137) dX8_number_135 (by decide) rfl rfl ?_
        refine wp_iload (q := 139) dX8_number_137 rfl rfl ?_
        refine wp_if_ne (t := 147) (q := 142) dX8_number_139 (by decide) rfl (fun hw => ?_) (fun hw => ?_)
        · have hw0 : ¬ wh = 0 := fun q => hw (by rw [q]; rfl)
          rw [if_neg hw0]
          refine wp_iload (q := 149) dX8_number_147 rfl rfl ?_
          refine wp_iconst (v := nI 1) (q := 150) dX8_number_149 (by decide) rfl ?_
          refine wp_icmp_ne (t := 170) (q := 153) dX8_number_150 (by decide) rfl (fun hw1 => ?_) (fun hw1 => ?_)
          · rw [if_neg (fun q => hw1 (by rw [q]))]
            refine wp_sipush (v := (-1000)) (q := 173) dX8_number_170 (by decide) rfl ?_
            refine wp_iret dX8_number_173 rfl ?_
            exact ⟨rfl, _, _, rfl, hS⟩
          · rw [if_pos ((nI_eq (by omega) (by decide)).mp hw1)]
            refine wp_aload_n (i := 0) (q := 154) dX8_number_153 rfl rfl rfl ?_
            refine wp_iload_n (i := 1) (q := 155) dX8_number_154 rfl rfl rfl ?_
            refine wp_iload_n (i := 2) (q := 156) dX8_number_155 rfl rfl rfl ?_
            refine wp_iload (q := 158) dX8_number_156 rfl rfl ?_
            refine wp_iconst (v := nI 0) (q := 159) dX8_number_158 (by decide) rfl ?_
            refine wp_Vi (μ' := mX8_extreme) (ci := 8) (q := 162) (tX8_extreme (gr := false) (d := d - 1) (by omega) (by omega) hs (by omega) hM1) dX8_number_159 okX8_extreme lkX8_177 mh_obj rfl rfl rfl (Nat.le_of_ble_eq_true rfl) (by omega) rfl ?_
            refine wp_iload (q := 164) dX8_number_162 rfl rfl ?_
            refine wp_Si (μ' := mX8_restOf) (q := 167) (tX8_restOf (d := d - 1) hpos (by omega)) dX8_number_164 okX8_restOf lkX8_148 rfl rfl (Nat.le_of_ble_eq_true rfl) (by omega) rfl ?_
            refine wp_goto (q := 173) dX8_number_167 (by decide) ?_
            refine wp_iret dX8_number_173 rfl ?_
            exact ⟨by rw [show vl A1 p side i = vl A p side i by unfold vl; rw [vlF_ag hag]], _, _, rfl, hS⟩
        · rw [if_pos ((nI_eq (by omega) (by decide)).mp hw)]
          refine wp_iload (q := 144) dX8_number_142 rfl rfl ?_
          refine wp_goto (q := 173) dX8_number_144 (by decide) ?_
          refine wp_iret dX8_number_173 rfl ?_
          exact ⟨rfl, _, _, rfl, hS⟩
    · rw [if_pos ((nI_eq (by omega) (by decide)).mp h1)]
      have hg4 := gth_le (vl A p side i) [] (by simp)
      refine wp_aload_n (i := 0) (q := 70) dX8_number_69 rfl rfl rfl ?_
      refine wp_iload_n (i := 1) (q := 71) dX8_number_70 rfl rfl rfl ?_
      refine wp_iload_n (i := 2) (q := 72) dX8_number_71 rfl rfl rfl ?_
      refine wp_iload (q := 74) dX8_number_72 rfl rfl ?_
      refine wp_V (μ' := mX8_gather) (ci := 8) (q := 77) (tX8_gather (d := d - 1) (by omega) (by omega) hs (by omega) hM1) dX8_number_74 okX8_gather lkX8_154 mh_obj rfl rfl rfl (Nat.le_of_ble_eq_true rfl) (by omega) rfl (fun rv hx hq => ?_)
      obtain ⟨rfl, f, rfl, hf⟩ := hq
      rw [show vl A1 p side i = vl A p side i by unfold vl; rw [vlF_ag hag]] at hf ⊢
      have hS2 : SC [7] [7] I A (upd I1 7 (nI (gth [] (vl A p side i)).length)) (upR A1 7 f) := hS.tr ((SC.uI (by decide)).tr (SC.uR (by decide)))
      have e7 : upd I1 7 (nI (gth [] (vl A p side i)).length) 7 = nI (gth [] (vl A p side i)).length := by simp [upd]
      refine wp_iload (q := 79) dX8_number_77 rfl rfl ?_
      refine wp_if_ne (t := 89) (q := 82) dX8_number_79 (by decide) rfl (fun hw => ?_) (fun hw => ?_)
      · have hw0 : ¬ wh = 0 := fun q => hw (by rw [q]; rfl)
        rw [if_neg hw0]
        refine wp_iload (q := 91) dX8_number_89 rfl rfl ?_
        refine wp_iconst (v := nI 1) (q := 92) dX8_number_91 (by decide) rfl ?_
        refine wp_icmp_le (t := 118) (q := 95) dX8_number_92 (by decide) rfl (fun hw1 => ?_) (fun hw1 => ?_)
        · have := (nI_leI (by omega) (by omega)).mp hw1
          rw [if_neg (by omega)]
          refine wp_sipush (v := (-1000)) (q := 121) dX8_number_118 (by decide) rfl ?_
          refine wp_iret dX8_number_121 rfl ?_
          exact ⟨rfl, _, _, rfl, hS2⟩
        have hw1 : 1 < wh := by
          rcases Nat.lt_or_ge 1 wh with q | q
          · exact q
          · exact absurd ((nI_leI (by omega) (by omega)).mpr q) hw1
        refine wp_iload (q := 97) dX8_number_95 rfl rfl ?_
        refine wp_iconst (v := nI 2) (q := 98) dX8_number_97 (by decide) rfl ?_
        refine wp_isub (q := 99) dX8_number_98 rfl ?_
        refine wp_aload_n (i := 0) (q := 100) dX8_number_99 rfl rfl rfl ?_
        refine wm_getI (k := 7) (q := 103) dX8_number_100 ffX8_141 rfl rfl ?_ -- unlike
        rw [e7, pk_sub (by omega)]
        refine wp_icmp_ge (t := 118) (q := 106) dX8_number_103 (by decide) rfl (fun hw2 => ?_) (fun hw2 => ?_)
        · have := (nI_leI (by omega) (by omega)).mp hw2
          rw [if_neg (by omega)]
          refine wp_sipush (v := (-1000)) (q := 121) dX8_number_118 (by decide) rfl ?_
          refine wp_iret dX8_number_121 rfl ?_
          exact ⟨rfl, _, _, rfl, hS2⟩
        · have hw3 : wh - 2 < (gth [] (vl A p side i)).length := by
            rcases Nat.lt_or_ge (wh - 2) (gth [] (vl A p side i)).length with q | q
            · exact q
            · exact absurd ((nI_leI (by omega) (by omega)).mpr q) hw2
          rw [if_pos ⟨hw1, hw3⟩]
          refine wp_aload_n (i := 0) (q := 107) dX8_number_106 rfl rfl rfl ?_
          refine wm_getA (k := 8) (o := 7) (q := 110) dX8_number_107 ffX8_29 rfl rfl rfl ?_ -- few
          refine wp_iload (q := 112) dX8_number_110 rfl rfl ?_
          refine wp_iconst (v := nI 2) (q := 113) dX8_number_112 (by decide) rfl ?_
          refine wp_isub (q := 114) dX8_number_113 rfl ?_
          rw [pk_sub (by omega)]
          refine wm_ialdN (q := 115) dX8_number_114 ⟨by decide, by decide, rfl⟩ rfl (by simp only [mlen]; omega) (by decide) rfl ?_
          refine wp_goto (q := 121) dX8_number_115 (by decide) ?_
          refine wp_iret dX8_number_121 rfl ?_
          exact ⟨by rw [upR_at, hf (wh - 2) _ (List.getElem?_eq_getElem hw3), List.getD_eq_getElem?_getD, List.getElem?_eq_getElem hw3]; rfl, _, _, rfl, hS2⟩
      · rw [if_pos ((nI_eq (by omega) (by decide)).mp hw)]
        refine wp_aload_n (i := 0) (q := 83) dX8_number_82 rfl rfl rfl ?_
        refine wm_getI (k := 7) (q := 86) dX8_number_83 ffX8_141 rfl rfl ?_ -- unlike
        refine wp_goto (q := 121) dX8_number_86 (by decide) ?_
        rw [e7]
        refine wp_iret dX8_number_121 rfl ?_
        exact ⟨rfl, _, _, rfl, hS2⟩
  · rw [show isSoB A p side shape i 0 = false from b2_eq0.mp hc] at E
    exact bad _ _ hS (by rw [E]; rfl)
end M7
