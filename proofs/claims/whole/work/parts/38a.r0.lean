/-! THE CLASS: RunLaws, what is asked -/
theorem mt_post {l : Launch} {μ : Mu} {d kc ks : Nat} {av : List Value} {h : aH} {Q Q' : Option Value → aH → Prop} (M : mt l μ d kc ks av h Q) (f : ∀ rv h', Q rv h' → Q' rv h') : mt l μ d kc ks av h Q' :=
  fun D cT => MetFree.mono (M D cT) (fun _ _ h => h) (fun _ _ _ _ _ h => h) (fun a s o s' _ hh => by
    obtain ⟨⟨⟨rv, h', e, q, r⟩, F⟩, fr⟩ := hh
    exact ⟨⟨⟨rv, h', e, f rv h' q, r⟩, F⟩, fr⟩)
def aEq (A A' : Nat → Nat → Int32) : Prop := A' 4 = A 4 ∧ A' 27 = A 27 ∧ A' 28 = A 28 ∧ A' 32 = A 32
def iEq (I I' : Nat → Int32) : Prop := I' 0 = I 0 ∧ I' 3 = I 3 ∧ I' 5 = I 5 ∧ I' 6 = I 6 ∧ I' 7 = I 7 ∧ I' 8 = I 8
theorem aEq.rf {A : Nat → Nat → Int32} : aEq A A := ⟨rfl, rfl, rfl, rfl⟩
theorem iEq.rf {I : Nat → Int32} : iEq I I := ⟨rfl, rfl, rfl, rfl, rfl, rfl⟩
theorem aEq.tr {A A1 A2 : Nat → Nat → Int32} (h : aEq A A1) (h' : aEq A1 A2) : aEq A A2 := ⟨h'.1.trans h.1, h'.2.1.trans h.2.1, h'.2.2.1.trans h.2.2.1, h'.2.2.2.trans h.2.2.2⟩
theorem aEq.up {A : Nat → Nat → Int32} {o : Nat} {f : Nat → Int32} (h : o ≠ 4 ∧ o ≠ 27 ∧ o ≠ 28 ∧ o ≠ 32) : aEq A (upR A o f) := ⟨upR_ne (fun e => h.1 e.symm), upR_ne (fun e => h.2.1 e.symm), upR_ne (fun e => h.2.2.1 e.symm), upR_ne (fun e => h.2.2.2 e.symm)⟩
/-- what a call leaves that only asks -/
def qQ (lo sz b : Nat) (I : Nat → Int32) (A : Nat → Nat → Int32) (D : DS) (g : Nat → Option aE) (h' : aH) : Prop := ∃ I' A' B' D' g', h' = (sz, ch b I' A' B' D' g') ∧ DW lo sz g' D' ∧ (∀ x, x < lo → g' x = g x) ∧ dEq D D' ∧ aEq A A' ∧ iEq I I'
def cVariables (D : DS) (x : Int32) : Int32 := if ix (dNp D) x = true then nI (dK D x.toNatClampNeg) else -1
def cTried (D : DS) (x s : Int32) : Int32 := if (ix (dNp D) x && ix 3 s) = true then nI (dF D x.toNatClampNeg s.toNatClampNeg).1 else -1
def cReading (D : DS) (x r v : Int32) : Int32 := if (ix (dNp D) x && ix (dP D x.toNatClampNeg).1 r && ix (dK D x.toNatClampNeg) v) = true then (dP D x.toNatClampNeg).2.2.2.1 r.toNatClampNeg v.toNatClampNeg else -9
def cDied (I : Nat → Int32) (A : Nat → Nat → Int32) (i : Int32) : Int32 := if ix (I 0).toNatClampNeg i = true then A 32 i.toNatClampNeg else -1
def cTold (I : Nat → Int32) (D : DS) (w : Int32) : Int32 := if w = nI 0 then nI (dNp D) else if w = nI 1 then nI (dNa D) else if w = nI 2 then b2 (!decide (I 3 < 0)) else if w = nI 3 then I 0 else -2
def cMade (D : DS) (k v c : Int32) : Int32 := if (ix (dNa D) k && ix (dK D (dTo D k.toNatClampNeg)) v) = true then (if ix 5 c = true then dM D k.toNatClampNeg v.toNatClampNeg c.toNatClampNeg else -2) else -1
def cOth (sh j : Int32) : Int32 := if o2B sh = true then j else nI 0
def cHolds (D : DS) (x s sh i j : Int32) : Int32 := if (ix (dNp D) x && ix 3 s && ix (dK D x.toNatClampNeg) i) = true then (if (o2B sh && !ix (dK D x.toNatClampNeg) j) = true then -1 else if isG sh i (cOth sh j) = true then (if (dF D x.toNatClampNeg s.toNatClampNeg).1 = 0 then -9 else b2 (stN (dF D x.toNatClampNeg s.toNatClampNeg).1 (dF D x.toNatClampNeg s.toNatClampNeg).2.2 sh.toNatClampNeg i.toNatClampNeg (cOth sh j).toNatClampNeg)) else -2) else -1
def cNumber (D : DS) (x s sh i w : Int32) : Int32 := if (ix (dNp D) x && ix 3 s && ix (dK D x.toNatClampNeg) i && ix 5 sh) = true then (if stN (dF D x.toNatClampNeg s.toNatClampNeg).1 (dF D x.toNatClampNeg s.toNatClampNeg).2.2 sh.toNatClampNeg i.toNatClampNeg 0 = true then nbN (dF D x.toNatClampNeg s.toNatClampNeg).2.2 sh.toNatClampNeg i.toNatClampNeg w else -1000) else -1000
/-- the codes of the guesses of a side of a point -/
def cls (D : DS) (p s : Nat) (tA : Bool) : List Nat := lsF (dF D p s).1 (dF D p s).2.2 tA (C1 (dK D p) 0)
def cGuesses (D : DS) (x s : Int32) : Int32 := if (ix (dNp D) x && ix 3 s) = true then nI (cls D x.toNatClampNeg s.toNatClampNeg true).length else -1
def cGuess (D : DS) (x s k : Int32) : Int32 := if (ix (dNp D) x && ix 3 s) = true then (if ix (cls D x.toNatClampNeg s.toNatClampNeg true).length k = true then nI ((cls D x.toNatClampNeg s.toNatClampNeg true).getD k.toNatClampNeg 0) else -1) else -1
def cSums (D : DS) (x s : Int32) : Int32 := if (ix (dNp D) x && ix 3 s) = true then (if (dF D x.toNatClampNeg s.toNatClampNeg).1 = 0 then -9 else nI (bzN (dK D x.toNatClampNeg) (dF D x.toNatClampNeg s.toNatClampNeg).1 (dF D x.toNatClampNeg s.toNatClampNeg).2.1)) else -1
def cSum (D : DS) (x s k c : Int32) : Int64 := if (ix (dNp D) x && ix 3 s && ix (bzN (dK D x.toNatClampNeg) (dF D x.toNatClampNeg s.toNatClampNeg).1 (dF D x.toNatClampNeg s.toNatClampNeg).2.1) k && ix (dK D x.toNatClampNeg + 1) c) = true then bsV (dK D x.toNatClampNeg + 1) (dF D x.toNatClampNeg s.toNatClampNeg).2.1 k.toNatClampNeg c.toNatClampNeg else -9223372036854775808
theorem isG_rng {s i j : Int32} (h : isG s i j = true) : ∃ n, n < 10 ∧ s = nI n := by
  by_cases h0 : s < 0
  · exfalso
    unfold isG at h
    have e : ∀ n : Nat, n < 10 → ¬ s = nI n := fun n hn e => by rw [e] at h0; exact absurd h0 (nI_pos (by omega))
    rw [if_neg (fun q => q.elim (e 5 (by omega)) (e 8 (by omega))), if_neg (fun q => q.elim (e 6 (by omega)) (e 7 (by omega))), decide_eq_false (fun q => q h0)] at h
    cases h
  · obtain ⟨n, hn, rfl⟩ := nI_of h0
    refine ⟨n, ?_, rfl⟩
    rcases Nat.lt_or_ge n 10 with w | w
    · exact w
    · exfalso
      unfold isG at h
      have e : ∀ m : Nat, m < 10 → ¬ nI n = nI m := fun m hm e => by have := (nI_eq hn (by omega)).mp e; omega
      rw [if_neg (fun q => q.elim (e 5 (by omega)) (e 8 (by omega))), if_neg (fun q => q.elim (e 6 (by omega)) (e 7 (by omega))), decide_eq_false (p := ¬ nI 9 < nI n) (fun q => q ((nI_ltI (by omega) hn).mpr (by omega))), Bool.false_and, Bool.and_false] at h
      cases h
section R0
variable {l : Launch} {d lo sz b p a : Nat} {g : Nat → Option aE} {D : DS} {I : Nat → Int32} {A : Nat → Nat → Int32} {B : Nat → Int64}
theorem qQ.rf (hW : DW lo sz g D) : qQ lo sz b I A D g (sz, ch b I A B D g) := ⟨I, A, B, D, g, rfl, hW, fun _ _ => rfl, dEq.rf, aEq.rf, iEq.rf⟩
theorem tX1_hasVariableD {s : Nat} {x : Int32} (hW : DW lo sz g D) (hb : b + 33 ≤ lo) (hp : p < dNp D) (hs : s < 3) : mt l mX1_hasVariable d 0 0 [.ref (dfA D p s), .int x] (sz, ch b I A B D g) (rI (b2 (ix (dK D p) x)) (sz, ch b I A B D g)) := by
  have h4 := hW.k4 hp
  have M := tX1_hasVariable (l := l) (d := d) (sz := sz) (q := dfA D p s) (k := dK D p) (c := (dF D p s).1) (T := (dF D p s).2.1) (V := (dF D p s).2.2) (G := ch b I A B D g) (x := x) (by omega)
  rw [show ((dF D p s).1, (dF D p s).2.1, (dF D p s).2.2) = dF D p s from rfl, ← dw_fh hW hb hp hs] at M
  exact M
theorem tX1_standsD {s sh i j : Nat} (hd : 1 ≤ d) (hW : DW lo sz g D) (hK : PK D) (hb : b + 33 ≤ lo) (hp : p < dNp D) (hs : s < 3) (hsh : sh < 10) (hi : i < dK D p) (hj : j < dK D p) : mt l mX1_stands d 0 0 [.ref (dfA D p s), .int (nI sh), .int (nI i), .int (nI j)] (sz, ch b I A B D g) (rI (b2 (stN (dF D p s).1 (dF D p s).2.2 sh i j)) (sz, ch b I A B D g)) := by
  have h4 := hW.k4 hp
  have hk := (hK p hp).2 s hs
  have hu := hk.1.2 i hi
  have M := tX1_stands (l := l) (d := d) (sz := sz) (q := dfA D p s) (k := dK D p) (c := (dF D p s).1) (T := (dF D p s).2.1) (V := (dF D p s).2.2) (G := ch b I A B D g) hd hsh hi hj (by omega) (Nat.lt_of_le_of_lt hk.2 (by decide)) (Nat.lt_of_le_of_lt hu.1 (by decide)) (Nat.lt_of_le_of_lt hu.2 (by decide))
  rw [show ((dF D p s).1, (dF D p s).2.1, (dF D p s).2.2) = dF D p s from rfl, ← dw_fh hW hb hp hs] at M
  exact M
theorem tX1_numberOfD {s sh i : Nat} {w : Int32} (hd : 2 ≤ d) (hW : DW lo sz g D) (hK : PK D) (hb : b + 33 ≤ lo) (hp : p < dNp D) (hs : s < 3) (hsh : sh < 5) (hi : i < dK D p) : mt l mX1_numberOf d 0 0 [.ref (dfA D p s), .int (nI sh), .int (nI i), .int w] (sz, ch b I A B D g) (rI (nbN (dF D p s).2.2 sh i w) (sz, ch b I A B D g)) := by
  have h4 := hW.k4 hp
  have hk := (hK p hp).2 s hs
  have hu := hk.1.2 i hi
  have M := tX1_numberOf (l := l) (d := d) (sz := sz) (q := dfA D p s) (k := dK D p) (c := (dF D p s).1) (T := (dF D p s).2.1) (V := (dF D p s).2.2) (G := ch b I A B D g) (w := w) hd hsh hi (by omega) (Nat.lt_of_le_of_lt hu.1 (by decide)) (Nat.lt_of_le_of_lt hu.2 (by decide))
  rw [show ((dF D p s).1, (dF D p s).2.1, (dF D p s).2.2) = dF D p s from rfl, ← dw_fh hW hb hp hs] at M
  exact M
theorem gset_ch31 {f : Nat → Int32} : gset (ch b I A B D g) (b + 31) (iA 60 f) = ch b I (upR A 31 f) B D g := congrArg Prod.snd (ch_s31 (sz := 0) (b := b) (I := I) (A := A) (B := B) (D := D) (g := g) (f := f))
theorem gset_cht {f : Nat → Int32} {p : Nat} (hp : p < 6) : gset (ch b I A B D g) (b + 11 + p) (iA 60 f) = ch b I (upR A (11 + p) f) B D g := congrArg Prod.snd (ch_st (sz := 0) (b := b) (I := I) (A := A) (B := B) (D := D) (g := g) (f := f) hp)
theorem tX1_listD {s : Nat} {tA : Bool} (hd : 3 ≤ d) (hW : DW lo sz g D) (hK : PK D) (hb : b + 33 ≤ lo) (hp : p < dNp D) (hs : s < 3) : mt l mX1_list d 0 0 [.ref (dfA D p s), .int (b2 tA), .ref (b + 31)] (sz, ch b I A B D g) (fun rv h' => rv = some (.int (nI (cls D p s tA).length)) ∧ ∃ f, h' = (sz, ch b I (upR A 31 f) B D g) ∧ fwc f (cls D p s tA)) := by
  have h4 := hW.k4 hp
  have hk := (hK p hp).2 s hs
  have M := tX1_list (l := l) (d := d) (sz := sz) (q := dfA D p s) (k := dK D p) (c := (dF D p s).1) (T := (dF D p s).2.1) (V := (dF D p s).2.2) (G := ch b I A B D g) (w := b + 31) (mm := 60) (f0 := A 31) (tA := tA) hd (hW.k1 hp) h4 (Nat.lt_of_le_of_lt hk.2 (by decide)) (fun i hi => ⟨Nat.lt_of_le_of_lt (hk.1.2 i hi).1 (by decide), Nat.lt_of_le_of_lt (hk.1.2 i hi).2 (by decide)⟩) ch_31 (dfA_out hW hp hs (by omega)) (by omega) (by omega)
  rw [show ((dF D p s).1, (dF D p s).2.1, (dF D p s).2.2) = dF D p s from rfl, ← dw_fh hW hb hp hs] at M
  refine mt_post M (fun rv h' q => ⟨q.1, ?_⟩)
  obtain ⟨f, e, hf⟩ := q.2
  rw [gset_ch31, ← dw_fh hW hb hp hs] at e
  exact ⟨f, e, hf⟩
theorem tX1_listT {p' : Nat} (hd : 3 ≤ d) (hW : DW lo sz g D) (hK : PK D) (hb : b + 33 ≤ lo) (hp : p < dNp D) (hp' : p' < 6) : mt l mX1_list d 0 0 [.ref (dfA D p 0), .int (nI 1), .ref (b + 11 + p')] (sz, ch b I A B D g) (fun rv h' => rv = some (.int (nI (cls D p 0 true).length)) ∧ ∃ f, h' = (sz, ch b I (upR A (11 + p') f) B D g) ∧ fwc f (cls D p 0 true)) := by
  have h4 := hW.k4 hp
  have hs : (0 : Nat) < 3 := by omega
  have hk := (hK p hp).2 0 hs
  have M := tX1_list (l := l) (d := d) (sz := sz) (q := dfA D p 0) (k := dK D p) (c := (dF D p 0).1) (T := (dF D p 0).2.1) (V := (dF D p 0).2.2) (G := ch b I A B D g) (w := b + 11 + p') (mm := 60) (f0 := A (11 + p')) (tA := true) hd (hW.k1 hp) h4 (Nat.lt_of_le_of_lt hk.2 (by decide)) (fun i hi => ⟨Nat.lt_of_le_of_lt (hk.1.2 i hi).1 (by decide), Nat.lt_of_le_of_lt (hk.1.2 i hi).2 (by decide)⟩) (ch_t hp') (dfA_out hW hp hs (by omega)) (by omega) (by omega)
  rw [show ((dF D p 0).1, (dF D p 0).2.1, (dF D p 0).2.2) = dF D p 0 from rfl, ← dw_fh hW hb hp hs] at M
  refine mt_post M (fun rv h' q => ⟨q.1, ?_⟩)
  obtain ⟨f, e, hf⟩ := q.2
  rw [gset_cht hp', ← dw_fh hW hb hp hs] at e
  exact ⟨f, e, hf⟩
theorem tX3_hasVariableD {x : Int32} (hW : DW lo sz g D) (hb : b + 33 ≤ lo) (hp : p < dNp D) : mt l mX3_hasVariable d 0 0 [.ref (dPa D p), .int x] (sz, ch b I A B D g) (rI (b2 (ix (dK D p) x)) (sz, ch b I A B D g)) := by
  have h4 := hW.k4 hp
  have M := tX3_hasVariable (l := l) (d := d) (sz := sz) (q := dPa D p) (k := dK D p) (n := (dP D p).1) (sv := (dP D p).2.1) (sb := (dP D p).2.2.1) (R := (dP D p).2.2.2.1) (S := (dP D p).2.2.2.2) (G := ch b I A B D g) (x := x) (by omega)
  rw [show ((dP D p).1, (dP D p).2.1, (dP D p).2.2.1, (dP D p).2.2.2.1, (dP D p).2.2.2.2) = dP D p from rfl, ← dw_ph hW hb hp] at M
  exact M
theorem tX0_hasVariableD {x : Int32} (hW : DW lo sz g D) (hb : b + 33 ≤ lo) (ha : a < dNa D) : mt l mX0_hasVariable d 0 0 [.ref (dAa D a), .int x] (sz, ch b I A B D g) (rI (b2 (ix (dK D (dTo D a)) x)) (sz, ch b I A B D g)) := by
  have h4 := hW.k4 (hW.to ha)
  have M := tX0_hasVariable (l := l) (d := d) (sz := sz) (q := dAa D a) (f := dFr D a) (t := dTo D a) (m := dK D (dFr D a)) (n := dK D (dTo D a)) (M := dM D a) (G := ch b I A B D g) (x := x) (by omega)
  rw [← dw_ah hW hb ha] at M
  exact M
theorem tX7_variables {x : Int32} (hd : 1 ≤ d) (hW : DW lo sz g D) (hb : b + 33 ≤ lo) : mt l mX7_variables d 0 0 [.ref b, .int x] (sz, ch b I A B D g) (fun rv h' => rv = some (.int (cVariables D x)) ∧ qQ lo sz b I A D g h') := by
  have h6 := hW.np
  refine mt_in (lv := [_, _, _]) (by decide) (Nat.le_of_ble_eq_true rfl) rfl ?_
  refine wp_aload_n (i := 0) (q := 1) dX7_variables_0 rfl rfl rfl ?_
  refine wg7_0 (q := 4) dX7_variables_1 ffX7_10 (by first | exact ch_obj | exact ch_prg | exact ch_pts | exact ch_acs | exact ch_4 | exact ch_pul | exact ch_sea | exact ch_27 | exact ch_28 | exact ch_29 | exact ch_30 | exact ch_31 | exact ch_32 | assumption) rfl ?_ -- program
  refine wp_iload_n (i := 1) (q := 5) dX7_variables_4 rfl rfl rfl ?_
  unfold cVariables
  by_cases w : ix (dNp D) x = true
  · rw [if_pos w]
    obtain ⟨p, hp, rfl⟩ := ix_of w (by omega)
    rw [nI_clamp (by omega)]
    have hob := ch_pob (I := I) (A := A) (B := B) hW hb hp
    refine wp_Vr (μ' := mX4_pointAt) (ci := 4) (q := 8) (tX4_pointAt (d := d - 1) hW hp) dX7_variables_5 okX4_pointAt lkX7_46 (by first | exact ch_obj | exact ch_prg | exact ch_pts | exact ch_acs | exact ch_4 | exact ch_pul | exact ch_sea | exact ch_27 | exact ch_28 | exact ch_29 | exact ch_30 | exact ch_31 | exact ch_32 | assumption) rfl rfl rfl (Nat.le_of_ble_eq_true rfl) (by omega) rfl ?_
    refine wp_astore_n (i := 2) (lv' := [_, some _, _]) (q := 9) dX7_variables_8 rfl (by decide) rfl rfl ?_
    refine wp_aload_n (i := 2) (q := 10) dX7_variables_9 rfl rfl rfl ?_
    refine wp_ifnonnull (q := 17) dX7_variables_10 (by decide) ?_
    refine wp_aload_n (i := 2) (q := 18) dX7_variables_17 rfl rfl rfl ?_
    refine wg3_0 (q := 21) dX7_variables_18 ffX7_77 (by first | exact ch_obj | exact ch_prg | exact ch_pts | exact ch_acs | exact ch_4 | exact ch_pul | exact ch_sea | exact ch_27 | exact ch_28 | exact ch_29 | exact ch_30 | exact ch_31 | exact ch_32 | assumption) rfl ?_ -- size
    refine wp_iret dX7_variables_21 rfl ?_
    exact ⟨rfl, qQ.rf hW⟩
  · rw [if_neg w]
    refine wp_Vr (μ' := mX4_pointAt) (ci := 4) (q := 8) (tX4_pointAtN (d := d - 1) hW (Bool.eq_false_iff.mpr w)) dX7_variables_5 okX4_pointAt lkX7_46 (by first | exact ch_obj | exact ch_prg | exact ch_pts | exact ch_acs | exact ch_4 | exact ch_pul | exact ch_sea | exact ch_27 | exact ch_28 | exact ch_29 | exact ch_30 | exact ch_31 | exact ch_32 | assumption) rfl rfl rfl (Nat.le_of_ble_eq_true rfl) (by omega) rfl ?_
    refine wp_astore_nN (i := 2) (lv' := [_, some _, _]) (q := 9) dX7_variables_8 rfl (by decide) rfl rfl ?_
    refine wp_aload_nN (i := 2) (q := 10) dX7_variables_9 rfl rfl rfl ?_
    refine wp_ifnonnullN (q := 13) dX7_variables_10 rfl ?_
    refine wp_iconst (v := (-1)) (q := 14) dX7_variables_13 (by decide) rfl ?_
    refine wp_goto (q := 21) dX7_variables_14 (by decide) ?_
    refine wp_iret dX7_variables_21 rfl ?_
    exact ⟨rfl, qQ.rf hW⟩
theorem tX7_tried {x s : Int32} (hd : 2 ≤ d) (hW : DW lo sz g D) (hb : b + 33 ≤ lo) : mt l mX7_tried d 0 0 [.ref b, .int x, .int s] (sz, ch b I A B D g) (fun rv h' => rv = some (.int (cTried D x s)) ∧ qQ lo sz b I A D g h') := by
  have h6 := hW.np
  refine mt_in (lv := [_, _, _, _]) (by decide) (Nat.le_of_ble_eq_true rfl) rfl ?_
  refine wp_aload_n (i := 0) (q := 1) dX7_tried_0 rfl rfl rfl ?_
  refine wg7_0 (q := 4) dX7_tried_1 ffX7_10 (by first | exact ch_obj | exact ch_prg | exact ch_pts | exact ch_acs | exact ch_4 | exact ch_pul | exact ch_sea | exact ch_27 | exact ch_28 | exact ch_29 | exact ch_30 | exact ch_31 | exact ch_32 | assumption) rfl ?_ -- program
  refine wp_iload_n (i := 1) (q := 5) dX7_tried_4 rfl rfl rfl ?_
  refine wp_iload_n (i := 2) (q := 6) dX7_tried_5 rfl rfl rfl ?_
  unfold cTried
  by_cases w : (ix (dNp D) x && ix 3 s) = true
  · rw [if_pos w]
    obtain ⟨w1, w2⟩ := Bool.and_eq_true_iff.mp w
    obtain ⟨p, hp, rfl⟩ := ix_of w1 (by omega)
    obtain ⟨s, hs, rfl⟩ := ix_of w2 (by omega)
    rw [nI_clamp (by omega), nI_clamp (by omega)]
    obtain ⟨r1, r3, r4, r5, r6, r7, r8, r9, r10, r11, r12, hob, -⟩ := ch_fob (I := I) (A := A) (B := B) hW hb hp hs
    refine wp_Vr (μ' := mX4_factsAt) (ci := 4) (q := 9) (tX4_factsAt (d := d - 1) (by omega) hW hb hp hs) dX7_tried_6 okX4_factsAt lkX7_93 (by first | exact ch_obj | exact ch_prg | exact ch_pts | exact ch_acs | exact ch_4 | exact ch_pul | exact ch_sea | exact ch_27 | exact ch_28 | exact ch_29 | exact ch_30 | exact ch_31 | exact ch_32 | assumption) rfl rfl rfl (Nat.le_of_ble_eq_true rfl) (by omega) rfl ?_
    refine wp_astore_n (i := 3) (lv' := [_, _, some _, _]) (q := 10) dX7_tried_9 rfl (by decide) rfl rfl ?_
    refine wp_aload_n (i := 3) (q := 11) dX7_tried_10 rfl rfl rfl ?_
    refine wp_ifnonnull (q := 18) dX7_tried_11 (by decide) ?_
    refine wp_aload_n (i := 3) (q := 19) dX7_tried_18 rfl rfl rfl ?_
    refine wg1_2 (q := 22) dX7_tried_19 ffX7_68 (by first | exact ch_obj | exact ch_prg | exact ch_pts | exact ch_acs | exact ch_4 | exact ch_pul | exact ch_sea | exact ch_27 | exact ch_28 | exact ch_29 | exact ch_30 | exact ch_31 | exact ch_32 | assumption) rfl ?_ -- count
    refine wp_iret dX7_tried_22 rfl ?_
    exact ⟨rfl, qQ.rf hW⟩
  · rw [if_neg w]
    refine wp_Vr (μ' := mX4_factsAt) (ci := 4) (q := 9) (tX4_factsAtN (d := d - 1) (by omega) hW hb (Bool.eq_false_iff.mpr w)) dX7_tried_6 okX4_factsAt lkX7_93 (by first | exact ch_obj | exact ch_prg | exact ch_pts | exact ch_acs | exact ch_4 | exact ch_pul | exact ch_sea | exact ch_27 | exact ch_28 | exact ch_29 | exact ch_30 | exact ch_31 | exact ch_32 | assumption) rfl rfl rfl (Nat.le_of_ble_eq_true rfl) (by omega) rfl ?_
    refine wp_astore_nN (i := 3) (lv' := [_, _, some _, _]) (q := 10) dX7_tried_9 rfl (by decide) rfl rfl ?_
    refine wp_aload_nN (i := 3) (q := 11) dX7_tried_10 rfl rfl rfl ?_
    refine wp_ifnonnullN (q := 14) dX7_tried_11 rfl ?_
    refine wp_iconst (v := (-1)) (q := 15) dX7_tried_14 (by decide) rfl ?_
    refine wp_goto (q := 22) dX7_tried_15 (by decide) ?_
    refine wp_iret dX7_tried_22 rfl ?_
    exact ⟨rfl, qQ.rf hW⟩
theorem tX7_reading {x r v : Int32} (hd : 1 ≤ d) (hW : DW lo sz g D) (hK : PK D) (hb : b + 33 ≤ lo) : mt l mX7_reading d 0 0 [.ref b, .int x, .int r, .int v] (sz, ch b I A B D g) (fun rv h' => rv = some (.int (cReading D x r v)) ∧ qQ lo sz b I A D g h') := by
  have h6 := hW.np
  refine mt_in (lv := [_, _, _, _, _]) (by decide) (Nat.le_of_ble_eq_true rfl) rfl ?_
  refine wp_aload_n (i := 0) (q := 1) dX7_reading_0 rfl rfl rfl ?_
  refine wg7_0 (q := 4) dX7_reading_1 ffX7_10 (by first | exact ch_obj | exact ch_prg | exact ch_pts | exact ch_acs | exact ch_4 | exact ch_pul | exact ch_sea | exact ch_27 | exact ch_28 | exact ch_29 | exact ch_30 | exact ch_31 | exact ch_32 | assumption) rfl ?_ -- program
  refine wp_iload_n (i := 1) (q := 5) dX7_reading_4 rfl rfl rfl ?_
  unfold cReading
  by_cases w : ix (dNp D) x = true
  · rw [w, Bool.true_and]
    obtain ⟨p, hp, rfl⟩ := ix_of w (by omega)
    rw [nI_clamp (by omega)]
    have hob := ch_pob (I := I) (A := A) (B := B) hW hb hp
    have hrd := ch_prd (I := I) (A := A) (B := B) hW hb hp
    have h40 := (hK p hp).1
    have h4 := hW.k4 hp
    refine wp_Vr (μ' := mX4_pointAt) (ci := 4) (q := 8) (tX4_pointAt (d := d - 1) hW hp) dX7_reading_5 okX4_pointAt lkX7_46 (by first | exact ch_obj | exact ch_prg | exact ch_pts | exact ch_acs | exact ch_4 | exact ch_pul | exact ch_sea | exact ch_27 | exact ch_28 | exact ch_29 | exact ch_30 | exact ch_31 | exact ch_32 | assumption) rfl rfl rfl (Nat.le_of_ble_eq_true rfl) (by omega) rfl ?_
    refine wp_astore (lv' := [_, _, _, some _, _]) (q := 10) dX7_reading_8 (by decide) rfl rfl ?_
    refine wp_aload (q := 12) dX7_reading_10 rfl rfl ?_
    refine wp_ifnull (q := 15) dX7_reading_12 rfl ?_
    refine wp_iload_n (i := 2) (q := 16) dX7_reading_15 rfl rfl rfl ?_
    refine wp_if_lt (t := 37) (q := 19) dX7_reading_16 (by decide) rfl (fun hr => ?_) (fun hr => ?_)
    · rw [ix_neg hr, Bool.false_and, if_neg (by decide)]
      refine wp_bipush (v := (-9)) (q := 39) dX7_reading_37 (by decide) rfl ?_
      refine wp_iret dX7_reading_39 rfl ?_
      exact ⟨rfl, qQ.rf hW⟩
    obtain ⟨r, hr2, rfl⟩ := nI_of hr
    refine wp_iload_n (i := 2) (q := 20) dX7_reading_19 rfl rfl rfl ?_
    refine wp_aload (q := 22) dX7_reading_20 rfl rfl ?_
    refine wg3_3 (q := 25) dX7_reading_22 ffX7_88 (by first | exact ch_obj | exact ch_prg | exact ch_pts | exact ch_acs | exact ch_4 | exact ch_pul | exact ch_sea | exact ch_27 | exact ch_28 | exact ch_29 | exact ch_30 | exact ch_31 | exact ch_32 | assumption) rfl ?_ -- count
    refine wp_icmp_ge (t := 37) (q := 28) dX7_reading_25 (by decide) rfl (fun hc => ?_) (fun hc => ?_)
    · rw [ix_nI hr2, decide_eq_false (Nat.not_lt.mpr ((nI_leI (by omega) (by omega)).mp hc)), Bool.false_and, if_neg (by decide)]
      refine wp_bipush (v := (-9)) (q := 39) dX7_reading_37 (by decide) rfl ?_
      refine wp_iret dX7_reading_39 rfl ?_
      exact ⟨rfl, qQ.rf hW⟩
    have hc : r < (dP D p).1 := Nat.not_le.mp (fun q => hc ((nI_leI (by omega) (by omega)).mpr q))
    rw [ix_nI hr2, decide_eq_true hc, Bool.true_and, nI_clamp hr2]
    have hrr := ch_prr (I := I) (A := A) (B := B) hW hb hp (r := r) (by omega)
    refine wp_aload (q := 30) dX7_reading_28 rfl rfl ?_
    refine wp_iload_n (i := 3) (q := 31) dX7_reading_30 rfl rfl rfl ?_
    refine wp_Vi (μ' := mX3_hasVariable) (ci := 3) (q := 34) (tX3_hasVariableD (d := d - 1) hW hb hp) dX7_reading_31 okX3_hasVariable lkX7_50 hob rfl rfl rfl (Nat.le_of_ble_eq_true rfl) (by omega) rfl ?_
    refine wp_if_ne (t := 40) (q := 37) dX7_reading_34 (by decide) rfl (fun hv => ?_) (fun hv => ?_)
    · have hv := b2_ne0.mp hv
      rw [if_pos hv]
      obtain ⟨v, hv2, rfl⟩ := ix_of hv (by omega)
      rw [nI_clamp (by omega)]
      refine wp_aload (q := 42) dX7_reading_40 rfl rfl ?_
      refine wg3_1 (q := 45) dX7_reading_42 ffX7_89 (by first | exact ch_obj | exact ch_prg | exact ch_pts | exact ch_acs | exact ch_4 | exact ch_pul | exact ch_sea | exact ch_27 | exact ch_28 | exact ch_29 | exact ch_30 | exact ch_31 | exact ch_32 | assumption) rfl ?_ -- readings
      refine wp_iload_n (i := 2) (q := 46) dX7_reading_45 rfl rfl rfl ?_
      refine wq_aald (q := 47) dX7_reading_46 (by first | exact ch_obj | exact ch_prg | exact ch_pts | exact ch_acs | exact ch_4 | exact ch_pul | exact ch_sea | exact ch_27 | exact ch_28 | exact ch_29 | exact ch_30 | exact ch_31 | exact ch_32 | assumption) (by decide) rfl (by first | omega | exact ⟨by omega, by omega⟩) (by exact if_pos (by omega)) rfl ?_
      refine wp_iload_n (i := 3) (q := 48) dX7_reading_47 rfl rfl rfl ?_
      refine wq_iald (q := 49) dX7_reading_48 (by first | exact ch_obj | exact ch_prg | exact ch_pts | exact ch_acs | exact ch_4 | exact ch_pul | exact ch_sea | exact ch_27 | exact ch_28 | exact ch_29 | exact ch_30 | exact ch_31 | exact ch_32 | assumption) rfl (by first | omega | exact ⟨by omega, by omega⟩) rfl ?_
      refine wp_iret dX7_reading_49 rfl ?_
      exact ⟨rfl, qQ.rf hW⟩
    · rw [if_neg (by rw [b2_eq0.mp hv]; decide)]
      refine wp_bipush (v := (-9)) (q := 39) dX7_reading_37 (by decide) rfl ?_
      refine wp_iret dX7_reading_39 rfl ?_
      exact ⟨rfl, qQ.rf hW⟩
  · rw [Bool.eq_false_iff.mpr w, Bool.false_and, Bool.false_and, if_neg (by decide)]
    refine wp_Vr (μ' := mX4_pointAt) (ci := 4) (q := 8) (tX4_pointAtN (d := d - 1) hW (Bool.eq_false_iff.mpr w)) dX7_reading_5 okX4_pointAt lkX7_46 (by first | exact ch_obj | exact ch_prg | exact ch_pts | exact ch_acs | exact ch_4 | exact ch_pul | exact ch_sea | exact ch_27 | exact ch_28 | exact ch_29 | exact ch_30 | exact ch_31 | exact ch_32 | assumption) rfl rfl rfl (Nat.le_of_ble_eq_true rfl) (by omega) rfl ?_
    refine wp_astoreN (lv' := [_, _, _, some _, _]) (q := 10) dX7_reading_8 (by decide) rfl rfl ?_
    refine wp_aloadN (q := 12) dX7_reading_10 rfl rfl ?_
    refine wp_ifnullN (q := 37) dX7_reading_12 (by decide) ?_
    refine wp_bipush (v := (-9)) (q := 39) dX7_reading_37 (by decide) rfl ?_
    refine wp_iret dX7_reading_39 rfl ?_
    exact ⟨rfl, qQ.rf hW⟩
theorem tX7_died {x : Int32} (hW : DW lo sz g D) (h0 : I 0 = nI (I 0).toNatClampNeg) (h180 : (I 0).toNatClampNeg ≤ 180) : mt l mX7_died d 0 0 [.ref b, .int x] (sz, ch b I A B D g) (fun rv h' => rv = some (.int (cDied I A x)) ∧ qQ lo sz b I A D g h') := by
  refine mt_in (lv := [_, _]) (by decide) (Nat.le_of_ble_eq_true rfl) rfl ?_
  refine wp_iload_n (i := 1) (q := 1) dX7_died_0 rfl rfl rfl ?_
  unfold cDied
  refine wp_if_lt (t := 21) (q := 4) dX7_died_1 (by decide) rfl (fun hr => ?_) (fun hr => ?_)
  · rw [ix_neg hr, if_neg (by decide)]
    refine wp_iconst (v := (-1)) (q := 22) dX7_died_21 (by decide) rfl ?_
    refine wp_iret dX7_died_22 rfl ?_
    exact ⟨rfl, qQ.rf hW⟩
  obtain ⟨r, hr2, rfl⟩ := nI_of hr
  rw [ix_nI hr2, nI_clamp hr2]
  refine wp_iload_n (i := 1) (q := 5) dX7_died_4 rfl rfl rfl ?_
  refine wp_aload_n (i := 0) (q := 6) dX7_died_5 rfl rfl rfl ?_
  refine wg7_6 (q := 9) dX7_died_6 ffX7_38 (by first | exact ch_obj | exact ch_prg | exact ch_pts | exact ch_acs | exact ch_4 | exact ch_pul | exact ch_sea | exact ch_27 | exact ch_28 | exact ch_29 | exact ch_30 | exact ch_31 | exact ch_32 | assumption) rfl ?_ -- deadCount
  rw [h0, nI_clamp (by omega)]
  refine wp_icmp_ge (t := 21) (q := 12) dX7_died_9 (by decide) rfl (fun hc => ?_) (fun hc => ?_)
  · rw [if_neg (by rw [decide_eq_false (Nat.not_lt.mpr ((nI_leI (by omega) (by omega)).mp hc))]; decide)]
    refine wp_iconst (v := (-1)) (q := 22) dX7_died_21 (by decide) rfl ?_
    refine wp_iret dX7_died_22 rfl ?_
    exact ⟨rfl, qQ.rf hW⟩
  · have hc : r < (I 0).toNatClampNeg := Nat.not_le.mp (fun q => hc ((nI_leI (by omega) (by omega)).mpr q))
    rw [if_pos (decide_eq_true hc)]
    refine wp_aload_n (i := 0) (q := 13) dX7_died_12 rfl rfl rfl ?_
    refine wg7_5 (q := 16) dX7_died_13 ffX7_35 (by first | exact ch_obj | exact ch_prg | exact ch_pts | exact ch_acs | exact ch_4 | exact ch_pul | exact ch_sea | exact ch_27 | exact ch_28 | exact ch_29 | exact ch_30 | exact ch_31 | exact ch_32 | assumption) rfl ?_ -- dead
    refine wp_iload_n (i := 1) (q := 17) dX7_died_16 rfl rfl rfl ?_
    refine wq_iald (q := 18) dX7_died_17 (by first | exact ch_obj | exact ch_prg | exact ch_pts | exact ch_acs | exact ch_4 | exact ch_pul | exact ch_sea | exact ch_27 | exact ch_28 | exact ch_29 | exact ch_30 | exact ch_31 | exact ch_32 | assumption) rfl (by first | omega | exact ⟨by omega, by omega⟩) rfl ?_
    refine wp_goto (q := 22) dX7_died_18 (by decide) ?_
    refine wp_iret dX7_died_22 rfl ?_
    exact ⟨rfl, qQ.rf hW⟩
theorem sw_out4 {s : Int32} (h0 : ¬ s = nI 0) (h1 : ¬ s = nI 1) (h2 : ¬ s = nI 2) (h3 : ¬ s = nI 3) : s.toInt < 0 ∨ 3 < s.toInt := by
  rcases Int.lt_or_le s.toInt 0 with h | h
  · exact Or.inl h
  · rcases Int.lt_or_le 3 s.toInt with h' | h'
    · exact Or.inr h'
    · exfalso
      have e0 : ¬ s.toInt = 0 := fun q => h0 (Int32.toInt_inj.mp q)
      have e1 : ¬ s.toInt = 1 := fun q => h1 (Int32.toInt_inj.mp q)
      have e2 : ¬ s.toInt = 2 := fun q => h2 (Int32.toInt_inj.mp q)
      have e3 : ¬ s.toInt = 3 := fun q => h3 (Int32.toInt_inj.mp q)
      omega
theorem tX7_told {x : Int32} (hd : 1 ≤ d) (hW : DW lo sz g D) : mt l mX7_told d 0 0 [.ref b, .int x] (sz, ch b I A B D g) (fun rv h' => rv = some (.int (cTold I D x)) ∧ qQ lo sz b I A D g h') := by
  refine mt_in (lv := [_, _]) (by decide) (Nat.le_of_ble_eq_true rfl) rfl ?_
  refine wp_iload_n (i := 1) (q := 1) dX7_told_0 rfl rfl rfl ?_
  unfold cTold
  by_cases w0 : x = nI 0
  · subst w0
    rw [if_pos rfl]
    refine wp_tableIn (off := 31) (q := 32) dX7_told_1 (by decide) (by decide) (by decide) (by decide) ?_
    refine wp_aload_n (i := 0) (q := 33) dX7_told_32 rfl rfl rfl ?_
    refine wg7_0 (q := 36) dX7_told_33 ffX7_10 (by first | exact ch_obj | exact ch_prg | exact ch_pts | exact ch_acs | exact ch_4 | exact ch_pul | exact ch_sea | exact ch_27 | exact ch_28 | exact ch_29 | exact ch_30 | exact ch_31 | exact ch_32 | assumption) rfl ?_ -- program
    refine wg4_4 (q := 39) dX7_told_36 ffX7_202 (by first | exact ch_obj | exact ch_prg | exact ch_pts | exact ch_acs | exact ch_4 | exact ch_pul | exact ch_sea | exact ch_27 | exact ch_28 | exact ch_29 | exact ch_30 | exact ch_31 | exact ch_32 | assumption) rfl ?_ -- pointCount
    refine wp_iret dX7_told_39 rfl ?_
    exact ⟨rfl, qQ.rf hW⟩
  rw [if_neg w0]
  by_cases w1 : x = nI 1
  · subst w1
    rw [if_pos rfl]
    refine wp_tableIn (off := 39) (q := 40) dX7_told_1 (by decide) (by decide) (by decide) (by decide) ?_
    refine wp_aload_n (i := 0) (q := 41) dX7_told_40 rfl rfl rfl ?_
    refine wg7_0 (q := 44) dX7_told_41 ffX7_10 (by first | exact ch_obj | exact ch_prg | exact ch_pts | exact ch_acs | exact ch_4 | exact ch_pul | exact ch_sea | exact ch_27 | exact ch_28 | exact ch_29 | exact ch_30 | exact ch_31 | exact ch_32 | assumption) rfl ?_ -- program
    refine wg4_5 (q := 47) dX7_told_44 ffX7_165 (by first | exact ch_obj | exact ch_prg | exact ch_pts | exact ch_acs | exact ch_4 | exact ch_pul | exact ch_sea | exact ch_27 | exact ch_28 | exact ch_29 | exact ch_30 | exact ch_31 | exact ch_32 | assumption) rfl ?_ -- actCount
    refine wp_iret dX7_told_47 rfl ?_
    exact ⟨rfl, qQ.rf hW⟩
  rw [if_neg w1]
  by_cases w2 : x = nI 2
  · subst w2
    rw [if_pos rfl]
    refine wp_tableIn (off := 47) (q := 48) dX7_told_1 (by decide) (by decide) (by decide) (by decide) ?_
    refine wp_aload_n (i := 0) (q := 49) dX7_told_48 rfl rfl rfl ?_
    refine wg7_0 (q := 52) dX7_told_49 ffX7_10 (by first | exact ch_obj | exact ch_prg | exact ch_pts | exact ch_acs | exact ch_4 | exact ch_pul | exact ch_sea | exact ch_27 | exact ch_28 | exact ch_29 | exact ch_30 | exact ch_31 | exact ch_32 | assumption) rfl ?_ -- program
    refine wp_Vi (μ' := mX4_hasStart) (ci := 4) (q := 55) (tX4_hasStart (d := d - 1)) dX7_told_52 okX4_hasStart lkX7_158 (by first | exact ch_obj | exact ch_prg | exact ch_pts | exact ch_acs | exact ch_4 | exact ch_pul | exact ch_sea | exact ch_27 | exact ch_28 | exact ch_29 | exact ch_30 | exact ch_31 | exact ch_32 | assumption) rfl rfl rfl (Nat.le_of_ble_eq_true rfl) (by omega) rfl ?_
    refine wp_if_eq (t := 62) (q := 58) dX7_told_55 (by decide) rfl (fun hz => ?_) (fun hz => ?_)
    · rw [b2_eq0.mp hz]
      refine wp_iconst (v := nI 0) (q := 63) dX7_told_62 (by decide) rfl ?_
      refine wp_iret dX7_told_63 rfl ?_
      exact ⟨rfl, qQ.rf hW⟩
    · rw [b2_ne0.mp hz]
      refine wp_iconst (v := nI 1) (q := 59) dX7_told_58 (by decide) rfl ?_
      refine wp_goto (q := 63) dX7_told_59 (by decide) ?_
      refine wp_iret dX7_told_63 rfl ?_
      exact ⟨rfl, qQ.rf hW⟩
  rw [if_neg w2]
  by_cases w3 : x = nI 3
  · subst w3
    rw [if_pos rfl]
    refine wp_tableIn (off := 63) (q := 64) dX7_told_1 (by decide) (by decide) (by decide) (by decide) ?_
    refine wp_aload_n (i := 0) (q := 65) dX7_told_64 rfl rfl rfl ?_
    refine wg7_6 (q := 68) dX7_told_65 ffX7_38 (by first | exact ch_obj | exact ch_prg | exact ch_pts | exact ch_acs | exact ch_4 | exact ch_pul | exact ch_sea | exact ch_27 | exact ch_28 | exact ch_29 | exact ch_30 | exact ch_31 | exact ch_32 | assumption) rfl ?_ -- deadCount
    refine wp_iret dX7_told_68 rfl ?_
    exact ⟨rfl, qQ.rf hW⟩
  rw [if_neg w3]
  refine wp_tableOut (q := 69) dX7_told_1 (sw_out4 w0 w1 w2 w3) (by decide) ?_
  refine wp_bipush (v := (-2)) (q := 71) dX7_told_69 (by decide) rfl ?_
  refine wp_iret dX7_told_71 rfl ?_
  exact ⟨rfl, qQ.rf hW⟩
theorem tX7_made {k v c : Int32} (hd : 1 ≤ d) (hW : DW lo sz g D) (hb : b + 33 ≤ lo) : mt l mX7_made d 0 0 [.ref b, .int k, .int v, .int c] (sz, ch b I A B D g) (fun rv h' => rv = some (.int (cMade D k v c)) ∧ qQ lo sz b I A D g h') := by
  have h10 := hW.na
  refine mt_in (lv := [_, _, _, _, _]) (by decide) (Nat.le_of_ble_eq_true rfl) rfl ?_
  refine wp_aload_n (i := 0) (q := 1) dX7_made_0 rfl rfl rfl ?_
  refine wg7_0 (q := 4) dX7_made_1 ffX7_10 (by first | exact ch_obj | exact ch_prg | exact ch_pts | exact ch_acs | exact ch_4 | exact ch_pul | exact ch_sea | exact ch_27 | exact ch_28 | exact ch_29 | exact ch_30 | exact ch_31 | exact ch_32 | assumption) rfl ?_ -- program
  refine wp_iload_n (i := 1) (q := 5) dX7_made_4 rfl rfl rfl ?_
  unfold cMade
  by_cases w : ix (dNa D) k = true
  · rw [w, Bool.true_and]
    obtain ⟨a, ha, rfl⟩ := ix_of w (by omega)
    rw [nI_clamp (by omega)]
    have hao := ch_aob (I := I) (A := A) (B := B) hW hb ha
    have h4 := hW.k4 (hW.to ha)
    refine wp_Vr (μ' := mX4_actAt) (ci := 4) (q := 8) (tX4_actAt (d := d - 1) hW ha) dX7_made_5 okX4_actAt lkX7_141 (by first | exact ch_obj | exact ch_prg | exact ch_pts | exact ch_acs | exact ch_4 | exact ch_pul | exact ch_sea | exact ch_27 | exact ch_28 | exact ch_29 | exact ch_30 | exact ch_31 | exact ch_32 | assumption) rfl rfl rfl (Nat.le_of_ble_eq_true rfl) (by omega) rfl ?_
    refine wp_astore (lv' := [_, _, _, some _, _]) (q := 10) dX7_made_8 (by decide) rfl rfl ?_
    refine wp_aload (q := 12) dX7_made_10 rfl rfl ?_
    refine wp_ifnull (q := 15) dX7_made_12 rfl ?_
    refine wp_aload (q := 17) dX7_made_15 rfl rfl ?_
    refine wp_iload_n (i := 2) (q := 18) dX7_made_17 rfl rfl rfl ?_
    refine wp_Vi (μ' := mX0_hasVariable) (ci := 0) (q := 21) (tX0_hasVariableD (d := d - 1) hW hb ha) dX7_made_18 okX0_hasVariable lkX7_145 hao rfl rfl rfl (Nat.le_of_ble_eq_true rfl) (by omega) rfl ?_
    refine wp_if_ne (t := 26) (q := 24) dX7_made_21 (by decide) rfl (fun hv => ?_) (fun hv => ?_)
    · have hv := b2_ne0.mp hv
      rw [if_pos hv]
      obtain ⟨v, hv2, rfl⟩ := ix_of hv (by omega)
      rw [nI_clamp (by omega)]
      have hpts : ch b I A B D g (dAa D a + 1) = some (rA 3 (dK D (dTo D a)) (rfs (dK D (dTo D a)) (dAa D a + 2))) := by rw [dw_ah hW hb ha]; exact ah_pts
      have hpt : ch b I A B D g (dAa D a + 2 + v) = some (iA 5 (dM D a v)) := by rw [dw_ah hW hb ha]; exact ah_pt hv2
      refine wp_iload_n (i := 3) (q := 27) dX7_made_26 rfl rfl rfl ?_
      refine wp_if_lt (t := 47) (q := 30) dX7_made_27 (by decide) rfl (fun hc => ?_) (fun hc => ?_)
      · rw [ix_neg hc, if_neg (by decide)]
        refine wp_bipush (v := (-2)) (q := 49) dX7_made_47 (by decide) rfl ?_
        refine wp_iret dX7_made_49 rfl ?_
        exact ⟨rfl, qQ.rf hW⟩
      obtain ⟨c, hc2, rfl⟩ := nI_of hc
      rw [ix_nI hc2, nI_clamp hc2]
      refine wp_iload_n (i := 3) (q := 31) dX7_made_30 rfl rfl rfl ?_
      refine wp_iconst (v := nI 4) (q := 32) dX7_made_31 (by decide) rfl ?_
      refine wp_icmp_gt (t := 47) (q := 35) dX7_made_32 (by decide) rfl (fun h5 => ?_) (fun h5 => ?_)
      · rw [if_neg (by rw [decide_eq_false (by have := (nI_ltI (by omega) (by omega)).mp h5; omega)]; decide)]
        refine wp_bipush (v := (-2)) (q := 49) dX7_made_47 (by decide) rfl ?_
        refine wp_iret dX7_made_49 rfl ?_
        exact ⟨rfl, qQ.rf hW⟩
      · have h5 : c < 5 := by
          rcases Nat.lt_or_ge c 5 with q | q
          · exact q
          · exact absurd ((nI_ltI (by omega) (by omega)).mpr q) h5
        rw [if_pos (decide_eq_true h5)]
        refine wp_aload (q := 37) dX7_made_35 rfl rfl ?_
        refine wg0_4 (q := 40) dX7_made_37 ffX7_155 (by first | exact ch_obj | exact ch_prg | exact ch_pts | exact ch_acs | exact ch_4 | exact ch_pul | exact ch_sea | exact ch_27 | exact ch_28 | exact ch_29 | exact ch_30 | exact ch_31 | exact ch_32 | assumption) rfl ?_ -- parts
        refine wp_iload_n (i := 2) (q := 41) dX7_made_40 rfl rfl rfl ?_
        refine wq_aald (q := 42) dX7_made_41 (by first | exact ch_obj | exact ch_prg | exact ch_pts | exact ch_acs | exact ch_4 | exact ch_pul | exact ch_sea | exact ch_27 | exact ch_28 | exact ch_29 | exact ch_30 | exact ch_31 | exact ch_32 | assumption) (by decide) rfl (by first | omega | exact ⟨by omega, by omega⟩) (by exact if_pos (by omega)) rfl ?_
        refine wp_iload_n (i := 3) (q := 43) dX7_made_42 rfl rfl rfl ?_
        refine wq_iald (q := 44) dX7_made_43 (by first | exact ch_obj | exact ch_prg | exact ch_pts | exact ch_acs | exact ch_4 | exact ch_pul | exact ch_sea | exact ch_27 | exact ch_28 | exact ch_29 | exact ch_30 | exact ch_31 | exact ch_32 | assumption) rfl (by first | omega | exact ⟨by omega, by omega⟩) rfl ?_
        refine wp_goto (q := 49) dX7_made_44 (by decide) ?_
        refine wp_iret dX7_made_49 rfl ?_
        exact ⟨rfl, qQ.rf hW⟩
    · rw [if_neg (by rw [b2_eq0.mp hv]; decide)]
      refine wp_iconst (v := (-1)) (q := 25) dX7_made_24 (by decide) rfl ?_
      refine wp_iret dX7_made_25 rfl ?_
      exact ⟨rfl, qQ.rf hW⟩
  · rw [Bool.eq_false_iff.mpr w, Bool.false_and, if_neg (by decide)]
    refine wp_Vr (μ' := mX4_actAt) (ci := 4) (q := 8) (tX4_actAtN (d := d - 1) hW (Bool.eq_false_iff.mpr w)) dX7_made_5 okX4_actAt lkX7_141 (by first | exact ch_obj | exact ch_prg | exact ch_pts | exact ch_acs | exact ch_4 | exact ch_pul | exact ch_sea | exact ch_27 | exact ch_28 | exact ch_29 | exact ch_30 | exact ch_31 | exact ch_32 | assumption) rfl rfl rfl (Nat.le_of_ble_eq_true rfl) (by omega) rfl ?_
    refine wp_astoreN (lv' := [_, _, _, some _, _]) (q := 10) dX7_made_8 (by decide) rfl rfl ?_
    refine wp_aloadN (q := 12) dX7_made_10 rfl rfl ?_
    refine wp_ifnullN (q := 24) dX7_made_12 (by decide) ?_
    refine wp_iconst (v := (-1)) (q := 25) dX7_made_24 (by decide) rfl ?_
    refine wp_iret dX7_made_25 rfl ?_
    exact ⟨rfl, qQ.rf hW⟩
end R0
