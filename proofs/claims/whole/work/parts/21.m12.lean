/-! THE REFERENCE: guesses told ahead of a search, and what breaks them -/
def nmA (A : Nat → Nat → Int32) (np p c w : Nat) : Int32 := aNumber A np (nI p) (nI 0) (nI (c / 100)) (nI (c / 10 % 10)) (nI w)
def tdA (A : Nat → Nat → Int32) (np p c : Nat) : Int32 := if c / 100 = 1 then nmA A np p c 2 else nmA A np p c 0
def tdB (A : Nat → Nat → Int32) (np p c : Nat) : Int32 := if c / 100 = 1 then nmA A np p c 3 else if c / 100 = 4 then nmA A np p c 1 else nI 0
def tdC (A : Nat → Nat → Int32) (np p c : Nat) : Int32 := if c / 100 = 1 then nmA A np p c 4 else nI 0
def TD (A : Nat → Nat → Int32) (np p : Nat) (A1 : Nat → Nat → Int32) (e c : Nat) : Prop := A1 26 e = nI c ∧ (c / 100 ≤ 4 → A1 27 e = tdA A np p c ∧ A1 28 e = tdB A np p c ∧ A1 29 e = tdC A np p c)
theorem TD_of {A A1 A2 : Nat → Nat → Int32} {np p e c : Nat} (h : TD A np p A1 e c) (h6 : A2 26 e = A1 26 e) (h7 : A2 27 e = A1 27 e) (h8 : A2 28 e = A1 28 e) (h9 : A2 29 e = A1 29 e) : TD A np p A2 e c := by
  unfold TD at h ⊢
  rw [h6, h7, h8, h9]
  exact h
theorem aNumR_ag {A A' : Nat → Nat → Int32} (h : ag A A') : aNumR A' = aNumR A := by
  funext p side sh i w
  unfold aNumR vl
  rw [vlF_ag h]
theorem aNumber_ag {A A' : Nat → Nat → Int32} {np : Nat} (h : ag A A') : aNumber A' np = aNumber A np := by
  funext x s sh i w
  unfold aNumber rs
  rw [aNumR_ag h, rsF_ag h, isSoB_ag h, kA_ag h]
theorem MM_SC {ks os : List Nat} {I I' : Nat → Int32} {A A' : Nat → Nat → Int32} {np : Nat} (h : SC ks os I A I' A') (h1 : 0 ∉ ks) (h2 : os.all (fun o => decide (6 < o)) = true) (hM : MM I A np) : MM I' A' np := by
  have hag := ag_of h h2
  exact ⟨hM.1, (h.1 0 h1).trans hM.2.1, fun p hp => MP_ag hag (hM.2.2.1 p hp), fun p hp => by rw [kA_ag hag]; exact hM.2.2.2 p hp⟩
def bkV (c : Nat) (a1 a2 a3 x y : Int32) : Bool :=
  if c / 100 = 0 then !decide (x = a1) else if c / 100 = 1 then !decide (x = a1) && (!decide (x = a2) && !decide (x = a3)) else if c / 100 = 2 then decide (x < a1) else if c / 100 = 3 then decide (a1 < x)
  else if c / 100 = 4 then !decide (rst x a1.toNatClampNeg = a2) else if c / 100 = 9 then false else !goesB (c / 100) x y
theorem bkV_two {c : Nat} {a1 a2 a3 b1 b2 b3 x y : Int32} (h : ¬ c / 100 ≤ 4) : bkV c a1 a2 a3 x y = bkV c b1 b2 b3 x y := by
  simp only [bkV, show ¬ c / 100 = 0 by omega, show ¬ c / 100 = 1 by omega, show ¬ c / 100 = 2 by omega, show ¬ c / 100 = 3 by omega, show ¬ c / 100 = 4 by omega, if_false]
/-- the first told guess that a state breaks -/
def brkF (A : Nat → Nat → Int32) (np pt : Nat) (xs : List Int32) : Option Nat := (gl A pt 0 true).find? (fun c => bkV c (tdA A np pt c) (tdB A np pt c) (tdC A np pt c) (gt_ xs (c / 10 % 10)) (gt_ xs (c % 10)))
def oI (o : Option Nat) : Int32 := match o with
  | none => -1
  | some c => nI c
/-- the told guesses of all points, as the search keeps them -/
def TT (A : Nat → Nat → Int32) (np : Nat) (A1 : Nat → Nat → Int32) : Prop := ∀ p, p < np → A1 25 p = nI (gl A p 0 true).length ∧ ∀ k c, (gl A p 0 true)[k]? = some c → TD A np p A1 (100 * p + k) c
def NT (A : Nat → Nat → Int32) (np : Nat) (I : Nat → Int32) (p k : Nat) (I3 : Nat → Int32) (A3 : Nat → Nat → Int32) : Prop := SC [7, 9] [7, 8, 25, 26, 27, 28, 29] I A I3 A3 ∧ I3 9 = nI (gl A p 0 true).length ∧ fwc (A3 8) (gl A p 0 true) ∧ A3 25 p = nI (gl A p 0 true).length ∧ (∀ q, q < p → A3 25 q = nI (gl A q 0 true).length ∧ ∀ k c, (gl A q 0 true)[k]? = some c → TD A np q A3 (100 * q + k) c) ∧ ∀ k' c, k' < k → (gl A p 0 true)[k']? = some c → TD A np p A3 (100 * p + k') c
theorem NT.sc {A A3 A4 : Nat → Nat → Int32} {np p k : Nat} {I I3 I4 : Nat → Int32} (h : NT A np I p k I3 A3) (hS : SC [7] [7] I3 A3 I4 A4) : NT A np I p k I4 A4 := by
  obtain ⟨h1, h2, h3, h4, h5, h6⟩ := h
  refine ⟨h1.tr (hS.mo (by decide) (by decide)), (hS.1 9 (by decide)).trans h2, by rw [hS.2 8 (by decide)]; exact h3, by rw [hS.2 25 (by decide)]; exact h4, fun q hq => ⟨by rw [hS.2 25 (by decide)]; exact (h5 q hq).1, fun k c hk => TD_of ((h5 q hq).2 k c hk) (by rw [hS.2 26 (by decide)]) (by rw [hS.2 27 (by decide)]) (by rw [hS.2 28 (by decide)]) (by rw [hS.2 29 (by decide)])⟩, fun k' c hk hc => TD_of (h6 k' c hk hc) (by rw [hS.2 26 (by decide)]) (by rw [hS.2 27 (by decide)]) (by rw [hS.2 28 (by decide)]) (by rw [hS.2 29 (by decide)])⟩
theorem NT.up {A A3 : Nat → Nat → Int32} {np p k o : Nat} {I I3 : Nat → Int32} {z : Int32} (h : NT A np I p k I3 A3) (ho : o = 26 ∨ o = 27 ∨ o = 28 ∨ o = 29) (hk4 : ∀ q, q ≤ p → kA A q ≤ 4) : NT A np I p k I3 (up2 A3 o (100 * p + k) z) := by
  obtain ⟨h1, h2, h3, h4, h5, h6⟩ := h
  have keep : ∀ (o' e : Nat), e ≠ 100 * p + k → up2 A3 o (100 * p + k) z o' e = A3 o' e := fun o' e he => by simp [up2, he]
  refine ⟨h1.tr (SC.u2 (by rcases ho with rfl | rfl | rfl | rfl <;> decide)), h2, by rw [up2_ne (by omega)]; exact h3, by rw [up2_ne (by omega)]; exact h4, fun q hq => ⟨by rw [up2_ne (by omega)]; exact (h5 q hq).1, fun k' c hk => ?_⟩, fun k' c hk hc => ?_⟩
  · have hl := gl_len (A := A) (p := q) (side := 0) (tA := true) (hk4 q (by omega))
    have : k' < (gl A q 0 true).length := (List.getElem?_eq_some_iff.mp hk).1
    exact TD_of ((h5 q hq).2 k' c hk) (keep _ _ (by omega)) (keep _ _ (by omega)) (keep _ _ (by omega)) (keep _ _ (by omega))
  · exact TD_of (h6 k' c hk hc) (keep _ _ (by omega)) (keep _ _ (by omega)) (keep _ _ (by omega)) (keep _ _ (by omega))
section M12
variable {l : Launch} {d sz b p side r i j m shape np na : Nat} {I : Nat → Int32} {L : Int64} {A : Nat → Nat → Int32} {B : Nat → Nat → Int64} {g : Nat → Option aE}
theorem tX8_noteTold (hd : 6 ≤ d) (hM : MM I A np) : mt l mX8_noteTold d 0 0 [.ref b] (sz, mh b I L A B g) (fun rv h' => rv = none ∧ ∃ I' A', h' = (sz, mh b I' L A' B g) ∧ SC [7, 9] [7, 8, 25, 26, 27, 28, 29] I A I' A' ∧ TT A np A') := by
  have hM0 := hM
  obtain ⟨hn, h0, hP, -⟩ := hM
  refine mt_in (lv := [_, _, _, _, _, _, _]) (by decide) (Nat.le_of_ble_eq_true rfl) rfl ?_
  refine wp_iconst (v := nI 0) (q := 1) dX8_noteTold_0 (by decide) rfl ?_
  refine wp_istore_n (i := 1) (lv' := [some _, _, _, _, _, _, _]) (q := 2) dX8_noteTold_1 rfl (by decide) rfl rfl ?_
  have hk4 : ∀ q, q < np → kA A q ≤ 4 := fun q hq => (hP q (by omega)).2.1
  have H : ∀ n p, p + n = np → ∀ (I1 : Nat → Int32) (A1 : Nat → Nat → Int32) (j2 j3 j4 j5 j6 : Option Value), SC [7, 9] [7, 8, 25, 26, 27, 28, 29] I A I1 A1 → (∀ q, q < p → A1 25 q = nI (gl A q 0 true).length ∧ ∀ k c, (gl A q 0 true)[k]? = some c → TD A np q A1 (100 * q + k) c) → wp l mX8_noteTold [] d 0 0 (fun rv h' => rv = none ∧ ∃ I' A', h' = (sz, mh b I' L A' B g) ∧ SC [7, 9] [7, 8, 25, 26, 27, 28, 29] I A I' A' ∧ TT A np A') (sz, mh b I1 L A1 B g) 2 [some (.ref b), some (.int (nI p)), j2, j3, j4, j5, j6] [] := by
    intro n
    induction n with
    | zero =>
      intro p hp I1 A1 j2 j3 j4 j5 j6 hS hT
      refine wp_iload_n (i := 1) (q := 3) dX8_noteTold_2 rfl rfl rfl ?_
      refine wp_aload_n (i := 0) (q := 4) dX8_noteTold_3 rfl rfl rfl ?_
      refine wm_getI (k := 0) (q := 7) dX8_noteTold_4 ffX8_105 rfl rfl ?_ -- points
      rw [hS.1 0 (by decide), h0]
      refine wp_icmp_ge (t := 209) (q := 10) dX8_noteTold_7 (by decide) rfl (fun hc => ?_) (fun hc => ?_)
      · refine wp_vret dX8_noteTold_209 rfl ?_
        exact ⟨rfl, I1, A1, rfl, hS, fun q hq => hT q (by omega)⟩
      · exact absurd ((nI_leI (by omega) (by omega)).mpr (by omega)) hc
    | succ n ih =>
      intro p hp I1 A1 j2 j3 j4 j5 j6 hS hT
      have hag := ag_of hS (by decide)
      have hgl := gl_len (A := A) (p := p) (side := 0) (tA := true) (hk4 p (by omega))
      refine wp_iload_n (i := 1) (q := 3) dX8_noteTold_2 rfl rfl rfl ?_
      refine wp_aload_n (i := 0) (q := 4) dX8_noteTold_3 rfl rfl rfl ?_
      refine wm_getI (k := 0) (q := 7) dX8_noteTold_4 ffX8_105 rfl rfl ?_ -- points
      rw [hS.1 0 (by decide), h0]
      refine wp_icmp_ge (t := 209) (q := 10) dX8_noteTold_7 (by decide) rfl (fun hc => ?_) (fun hc => ?_)
      · exact absurd ((nI_leI (by omega) (by omega)).mp hc) (by omega)
      refine wp_aload_n (i := 0) (q := 11) dX8_noteTold_10 rfl rfl rfl ?_
      refine wp_iload_n (i := 1) (q := 12) dX8_noteTold_11 rfl rfl rfl ?_
      refine wp_iconst (v := nI 0) (q := 13) dX8_noteTold_12 (by decide) rfl ?_
      refine wp_iconst (v := nI 1) (q := 14) dX8_noteTold_13 (by decide) rfl ?_
      refine wp_V (μ' := mX8_findGuesses) (ci := 8) (q := 17) (tX8_findGuesses (d := d - 1) (tA := true) (by omega) (by omega) (by decide) (MP_ag hag (hP p (by omega)))) dX8_noteTold_14 okX8_findGuesses lkX8_187 mh_obj rfl rfl rfl (Nat.le_of_ble_eq_true rfl) (by omega) rfl (fun rv hx hq => ?_)
      obtain ⟨rfl, I2, A2, rfl, hS2, h9, h8⟩ := hq
      rw [gl_ag hag] at h9 h8
      have hS3 : SC [7, 9] [7, 8, 25, 26, 27, 28, 29] I A I2 A2 := hS.tr (hS2.mo (by decide) (by decide))
      refine wp_aload_n (i := 0) (q := 18) dX8_noteTold_17 rfl rfl rfl ?_
      refine wm_getA (k := 36) (o := 25) (q := 21) dX8_noteTold_18 ffX8_84 rfl rfl rfl ?_ -- toldMany
      refine wp_iload_n (i := 1) (q := 22) dX8_noteTold_21 rfl rfl rfl ?_
      refine wp_aload_n (i := 0) (q := 23) dX8_noteTold_22 rfl rfl rfl ?_
      refine wm_getI (k := 9) (q := 26) dX8_noteTold_23 ffX8_181 rfl rfl ?_ -- told
      refine wm_iastN (q := 27) dX8_noteTold_26 ⟨by decide, by decide, rfl⟩ rfl (by simp only [mlen]; omega) (by decide) rfl ?_
      refine wp_iconst (v := nI 0) (q := 28) dX8_noteTold_27 (by decide) rfl ?_
      refine wp_istore_n (i := 2) (lv' := [_, some _, _, _, _, _, _]) (q := 29) dX8_noteTold_28 rfl (by decide) rfl rfl ?_
      rw [h9]
      have loop : ∀ m k, k + m = (gl A p 0 true).length → ∀ (I3 : Nat → Int32) (A3 : Nat → Nat → Int32) (j3 j4 j5 j6 : Option Value), NT A np I p k I3 A3 → wp l mX8_noteTold [] d 0 0 (fun rv h' => rv = none ∧ ∃ I' A', h' = (sz, mh b I' L A' B g) ∧ SC [7, 9] [7, 8, 25, 26, 27, 28, 29] I A I' A' ∧ TT A np A') (sz, mh b I3 L A3 B g) 29 [some (.ref b), some (.int (nI p)), some (.int (nI k)), j3, j4, j5, j6] [] := by
        intro m
        induction m with
        | zero =>
          intro k hk I3 A3 j3 j4 j5 j6 hN
          obtain ⟨n1, n2, n3, n4, n5, n6⟩ := hN
          refine wp_iload_n (i := 2) (q := 30) dX8_noteTold_29 rfl rfl rfl ?_
          refine wp_aload_n (i := 0) (q := 31) dX8_noteTold_30 rfl rfl rfl ?_
          refine wm_getI (k := 9) (q := 34) dX8_noteTold_31 ffX8_181 rfl rfl ?_ -- told
          rw [n2]
          refine wp_icmp_ge (t := 203) (q := 37) dX8_noteTold_34 (by decide) rfl (fun hc => ?_) (fun hc => ?_)
          · refine wp_iinc (v := _ + nI 1) (lv' := [some _, _, _, _, _, _, _]) (q := 206) dX8_noteTold_203 rfl rfl (by decide) rfl rfl ?_
            refine wp_goto (q := 2) dX8_noteTold_206 (by decide) ?_
            rw [nI_add]
            refine ih (p + 1) (by omega) I3 A3 _ _ _ _ _ n1 (fun q hq => ?_)
            by_cases e : q = p
            · subst e
              exact ⟨n4, fun k' c hk' => n6 k' c (by have := (List.getElem?_eq_some_iff.mp hk').1; omega) hk'⟩
            · exact n5 q (by omega)
          · exact absurd ((nI_leI (by omega) (by omega)).mpr (by omega)) hc
        | succ m ihm =>
          intro k hk I3 A3 j3 j4 j5 j6 hN
          have hkl : k < (gl A p 0 true).length := by omega
          have hcm : (gl A p 0 true)[k] ∈ gl A p 0 true := List.getElem_mem hkl
          have h8k := hN.2.2.1 k _ (List.getElem?_eq_getElem hkl)
          have hget := List.getElem?_eq_getElem hkl
          generalize (gl A p 0 true)[k] = c at hcm h8k hget
          obtain ⟨sh, i, j, hce, c1, c2, c3, c5⟩ := gl_mem (hk4 p (by omega)) hcm
          have hj4 := jlG_le (sh := sh) (hk4 p (by omega))
          have hkp := hk4 p (by omega)
          have hc1000 : c < 1000 := by omega
          have n2 := hN.2.1
          have hk4' : ∀ q, q ≤ p → kA A q ≤ 4 := fun q hq => hk4 q (by omega)
          refine wp_iload_n (i := 2) (q := 30) dX8_noteTold_29 rfl rfl rfl ?_
          refine wp_aload_n (i := 0) (q := 31) dX8_noteTold_30 rfl rfl rfl ?_
          refine wm_getI (k := 9) (q := 34) dX8_noteTold_31 ffX8_181 rfl rfl ?_ -- told
          rw [n2]
          refine wp_icmp_ge (t := 203) (q := 37) dX8_noteTold_34 (by decide) rfl (fun hc => ?_) (fun hc => ?_)
          · exact absurd ((nI_leI (by omega) (by omega)).mp hc) (by omega)
          refine wp_aload_n (i := 0) (q := 38) dX8_noteTold_37 rfl rfl rfl ?_
          refine wm_getA (k := 10) (o := 8) (q := 41) dX8_noteTold_38 ffX8_32 rfl rfl rfl ?_ -- code
          refine wp_iload_n (i := 2) (q := 42) dX8_noteTold_41 rfl rfl rfl ?_
          refine wm_ialdN (q := 43) dX8_noteTold_42 ⟨by decide, by decide, rfl⟩ rfl (by simp only [mlen]; omega) (by decide) rfl ?_
          rw [h8k]
          refine wp_istore_n (i := 3) (lv' := [_, _, some _, _, _, _, _]) (q := 44) dX8_noteTold_43 rfl (by decide) rfl rfl ?_
          refine wp_bipush (v := nI 100) (q := 46) dX8_noteTold_44 (by decide) rfl ?_
          refine wp_iload_n (i := 1) (q := 47) dX8_noteTold_46 rfl rfl rfl ?_
          refine wp_imul (q := 48) dX8_noteTold_47 rfl ?_
          refine wp_iload_n (i := 2) (q := 49) dX8_noteTold_48 rfl rfl rfl ?_
          refine wp_iadd (q := 50) dX8_noteTold_49 rfl ?_
          rw [pk_mul, nI_add]
          refine wp_istore (lv' := [_, _, _, some _, _, _, _]) (q := 52) dX8_noteTold_50 (by decide) rfl rfl ?_
          refine wp_aload_n (i := 0) (q := 53) dX8_noteTold_52 rfl rfl rfl ?_
          refine wm_getA (k := 37) (o := 26) (q := 56) dX8_noteTold_53 ffX8_87 rfl rfl rfl ?_ -- toldCode
          refine wp_iload (q := 58) dX8_noteTold_56 rfl rfl ?_
          refine wp_iload_n (i := 3) (q := 59) dX8_noteTold_58 rfl rfl rfl ?_
          refine wm_iastN (q := 60) dX8_noteTold_59 ⟨by decide, by decide, rfl⟩ rfl (by simp only [mlen]; omega) (by decide) rfl ?_
          refine wp_iload_n (i := 3) (q := 61) dX8_noteTold_60 rfl rfl rfl ?_
          refine wp_bipush (v := nI 100) (q := 63) dX8_noteTold_61 (by decide) rfl ?_
          refine wp_idiv (q := 64) dX8_noteTold_63 (by exact nI_ne0 (by decide) (by decide)) rfl ?_
          refine wp_iconst (v := nI 4) (q := 65) dX8_noteTold_64 (by decide) rfl ?_
          rw [pk_div (a := c) (d := 100) (by omega) (by decide) (by decide)]
          have hN1 : NT A np I p k I3 (up2 A3 26 (100 * p + k) (nI c)) := hN.up (Or.inl rfl) hk4'
          have K197 : ∀ (I4 : Nat → Int32) (A4 : Nat → Nat → Int32) (j5 j6 : Option Value), NT A np I p k I4 A4 → TD A np p A4 (100 * p + k) c → wp l mX8_noteTold [] d 0 0 (fun rv h' => rv = none ∧ ∃ I' A', h' = (sz, mh b I' L A' B g) ∧ SC [7, 9] [7, 8, 25, 26, 27, 28, 29] I A I' A' ∧ TT A np A') (sz, mh b I4 L A4 B g) 197 [some (.ref b), some (.int (nI p)), some (.int (nI k)), some (.int (nI c)), some (.int (nI (100 * p + k))), j5, j6] [] := by
            intro I4 A4 j5 j6 hN4 hT4
            refine wp_iinc (v := _ + nI 1) (lv' := [_, some _, _, _, _, _, _]) (q := 200) dX8_noteTold_197 rfl rfl (by decide) rfl rfl ?_
            refine wp_goto (q := 29) dX8_noteTold_200 (by decide) ?_
            rw [nI_add]
            refine ihm (k + 1) (by omega) I4 A4 _ _ _ _ ⟨hN4.1, hN4.2.1, hN4.2.2.1, hN4.2.2.2.1, hN4.2.2.2.2.1, fun k' c' hk' hc' => ?_⟩
            by_cases e : k' = k
            · subst e
              rw [hget] at hc'
              cases hc'
              exact hT4
            · exact hN4.2.2.2.2.2 k' c' (by omega) hc'
          refine wp_icmp_gt (t := 197) (q := 68) dX8_noteTold_65 (by decide) rfl (fun hgt => ?_) (fun hgt => ?_)
          · have hgt : 4 < c / 100 := (nI_ltI (by omega) (by omega)).mp hgt
            exact K197 I3 _ _ _ hN1 ⟨by simp [up2], fun q => by omega⟩
          have hgt : c / 100 ≤ 4 := by
            rcases Nat.lt_or_ge 4 (c / 100) with q | q
            · exact absurd ((nI_ltI (by omega) (by omega)).mpr q) hgt
            · exact q
          refine wp_iload_n (i := 3) (q := 69) dX8_noteTold_68 rfl rfl rfl ?_
          refine wp_bipush (v := nI 100) (q := 71) dX8_noteTold_69 (by decide) rfl ?_
          refine wp_idiv (q := 72) dX8_noteTold_71 (by exact nI_ne0 (by decide) (by decide)) rfl ?_
          rw [pk_div (a := c) (d := 100) (by omega) (by decide) (by decide)]
          refine wp_istore (lv' := [_, _, _, _, some _, _, _]) (q := 74) dX8_noteTold_72 (by decide) rfl rfl ?_
          refine wp_iload_n (i := 3) (q := 75) dX8_noteTold_74 rfl rfl rfl ?_
          refine wp_bipush (v := nI 10) (q := 77) dX8_noteTold_75 (by decide) rfl ?_
          refine wp_idiv (q := 78) dX8_noteTold_77 (by exact nI_ne0 (by decide) (by decide)) rfl ?_
          refine wp_bipush (v := nI 10) (q := 80) dX8_noteTold_78 (by decide) rfl ?_
          refine wp_irem (q := 81) dX8_noteTold_80 (by exact nI_ne0 (by decide) (by decide)) rfl ?_
          rw [pk_div (a := c) (d := 10) (by omega) (by decide) (by decide), pk_rem (a := c / 10) (d := 10) (by omega) (by decide) (by decide)]
          refine wp_istore (lv' := [_, _, _, _, _, some _, _]) (q := 83) dX8_noteTold_81 (by decide) rfl rfl ?_
          refine wp_aload_n (i := 0) (q := 84) dX8_noteTold_83 rfl rfl rfl ?_
          refine wm_getA (k := 38) (o := 27) (q := 87) dX8_noteTold_84 ffX8_90 rfl rfl rfl ?_ -- toldA
          refine wp_iload (q := 89) dX8_noteTold_87 rfl rfl ?_
          refine wp_iload (q := 91) dX8_noteTold_89 rfl rfl ?_
          refine wp_iconst (v := nI 1) (q := 92) dX8_noteTold_91 (by decide) rfl ?_
          have num : ∀ (I4 : Nat → Int32) (A4 : Nat → Nat → Int32), NT A np I p k I4 A4 → MM I4 A4 np ∧ ag A A4 := fun I4 A4 hN4 => ⟨MM_SC hN4.1 (by decide) (by decide) hM0, ag_of hN4.1 (by decide)⟩
          have K196 : ∀ (I4 : Nat → Int32) (A4 : Nat → Nat → Int32) (z : Int32), NT A np I p k I4 A4 → A4 26 (100 * p + k) = nI c → A4 27 (100 * p + k) = tdA A np p c → A4 28 (100 * p + k) = tdB A np p c → z = tdC A np p c → wp l mX8_noteTold [] d 0 0 (fun rv h' => rv = none ∧ ∃ I' A', h' = (sz, mh b I' L A' B g) ∧ SC [7, 9] [7, 8, 25, 26, 27, 28, 29] I A I' A' ∧ TT A np A') (sz, mh b I4 L A4 B g) 196 [some (.ref b), some (.int (nI p)), some (.int (nI k)), some (.int (nI c)), some (.int (nI (100 * p + k))), some (.int (nI (c / 100))), some (.int (nI (c / 10 % 10)))] [.int z, .int (nI (100 * p + k)), .ref (b + 29)] := by
            intro I4 A4 z hN4 q6 q7 q8 hz
            refine wm_iastN (q := 197) dX8_noteTold_196 ⟨by decide, by decide, rfl⟩ rfl (by simp only [mlen]; omega) (by decide) rfl ?_
            exact K197 _ _ _ _ (hN4.up (Or.inr (Or.inr (Or.inr rfl))) hk4') ⟨by rw [up2_ne (by decide)]; exact q6, fun _ => ⟨by rw [up2_ne (by decide)]; exact q7, by rw [up2_ne (by decide)]; exact q8, by simp [up2, hz]⟩⟩
          have K168 : ∀ (I4 : Nat → Int32) (A4 : Nat → Nat → Int32) (z : Int32), NT A np I p k I4 A4 → A4 26 (100 * p + k) = nI c → A4 27 (100 * p + k) = tdA A np p c → z = tdB A np p c → wp l mX8_noteTold [] d 0 0 (fun rv h' => rv = none ∧ ∃ I' A', h' = (sz, mh b I' L A' B g) ∧ SC [7, 9] [7, 8, 25, 26, 27, 28, 29] I A I' A' ∧ TT A np A') (sz, mh b I4 L A4 B g) 168 [some (.ref b), some (.int (nI p)), some (.int (nI k)), some (.int (nI c)), some (.int (nI (100 * p + k))), some (.int (nI (c / 100))), some (.int (nI (c / 10 % 10)))] [.int z, .int (nI (100 * p + k)), .ref (b + 28)] := by
            intro I4 A4 z hN4 q6 q7 hz
            have hN5 : NT A np I p k I4 (up2 A4 28 (100 * p + k) z) := hN4.up (Or.inr (Or.inr (Or.inl rfl))) hk4'
            have r6 : up2 A4 28 (100 * p + k) z 26 (100 * p + k) = nI c := by rw [up2_ne (by decide)]; exact q6
            have r7 : up2 A4 28 (100 * p + k) z 27 (100 * p + k) = tdA A np p c := by rw [up2_ne (by decide)]; exact q7
            have r8 : up2 A4 28 (100 * p + k) z 28 (100 * p + k) = tdB A np p c := by simp [up2, hz]
            refine wm_iastN (q := 169) dX8_noteTold_168 ⟨by decide, by decide, rfl⟩ rfl (by simp only [mlen]; omega) (by decide) rfl ?_
            refine wp_aload_n (i := 0) (q := 170) dX8_noteTold_169 rfl rfl rfl ?_
            refine wm_getA (k := 40) (o := 29) (q := 173) dX8_noteTold_170 ffX8_96 rfl rfl rfl ?_ -- toldC
            refine wp_iload (q := 175) dX8_noteTold_173 rfl rfl ?_
            refine wp_iload (q := 177) dX8_noteTold_175 rfl rfl ?_
            refine wp_iconst (v := nI 1) (q := 178) dX8_noteTold_177 (by decide) rfl ?_
            refine wp_icmp_ne (t := 195) (q := 181) dX8_noteTold_178 (by decide) rfl (fun h1 => ?_) (fun h1 => ?_)
            · refine wp_iconst (v := nI 0) (q := 196) dX8_noteTold_195 (by decide) rfl ?_
              exact K196 _ _ _ hN5 r6 r7 r8 (by unfold tdC; rw [if_neg (fun q => h1 (by rw [q]))])
            · have h1 : c / 100 = 1 := (nI_eq (by omega) (by decide)).mp h1
              refine wp_aload_n (i := 0) (q := 182) dX8_noteTold_181 rfl rfl rfl ?_
              refine wp_iload_n (i := 1) (q := 183) dX8_noteTold_182 rfl rfl rfl ?_
              refine wp_iconst (v := nI 0) (q := 184) dX8_noteTold_183 (by decide) rfl ?_
              refine wp_iload (q := 186) dX8_noteTold_184 rfl rfl ?_
              refine wp_iload (q := 188) dX8_noteTold_186 rfl rfl ?_
              refine wp_iconst (v := nI 4) (q := 189) dX8_noteTold_188 (by decide) rfl ?_
              refine wp_V (μ' := mX8_number) (ci := 8) (q := 192) (tX8_number (d := d - 1) (by omega) (num _ _ hN5).1) dX8_noteTold_189 okX8_number lkX8_253 mh_obj rfl rfl rfl (Nat.le_of_ble_eq_true rfl) (by omega) rfl (fun rv hx hq => ?_)
              obtain ⟨rfl, I6, A6, rfl, hS6⟩ := hq
              rw [aNumber_ag (num _ _ hN5).2]
              show wp _ _ _ _ _ _ _ _ _ _ [.int (nmA A np p c 4), .int (nI (100 * p + k)), .ref (b + 29)]
              refine wp_goto (q := 196) dX8_noteTold_192 (by decide) ?_
              exact K196 _ _ _ (hN5.sc hS6) (by rw [hS6.2 26 (by decide)]; exact r6) (by rw [hS6.2 27 (by decide)]; exact r7) (by rw [hS6.2 28 (by decide)]; exact r8) (by unfold tdC; rw [if_pos h1])
          have K120 : ∀ (I4 : Nat → Int32) (A4 : Nat → Nat → Int32) (z : Int32), NT A np I p k I4 A4 → A4 26 (100 * p + k) = nI c → z = tdA A np p c → wp l mX8_noteTold [] d 0 0 (fun rv h' => rv = none ∧ ∃ I' A', h' = (sz, mh b I' L A' B g) ∧ SC [7, 9] [7, 8, 25, 26, 27, 28, 29] I A I' A' ∧ TT A np A') (sz, mh b I4 L A4 B g) 120 [some (.ref b), some (.int (nI p)), some (.int (nI k)), some (.int (nI c)), some (.int (nI (100 * p + k))), some (.int (nI (c / 100))), some (.int (nI (c / 10 % 10)))] [.int z, .int (nI (100 * p + k)), .ref (b + 27)] := by
            intro I4 A4 z hN4 q6 hz
            have hN5 : NT A np I p k I4 (up2 A4 27 (100 * p + k) z) := hN4.up (Or.inr (Or.inl rfl)) hk4'
            have r6 : up2 A4 27 (100 * p + k) z 26 (100 * p + k) = nI c := by rw [up2_ne (by decide)]; exact q6
            have r7 : up2 A4 27 (100 * p + k) z 27 (100 * p + k) = tdA A np p c := by simp [up2, hz]
            refine wm_iastN (q := 121) dX8_noteTold_120 ⟨by decide, by decide, rfl⟩ rfl (by simp only [mlen]; omega) (by decide) rfl ?_
            refine wp_aload_n (i := 0) (q := 122) dX8_noteTold_121 rfl rfl rfl ?_
            refine wm_getA (k := 39) (o := 28) (q := 125) dX8_noteTold_122 ffX8_93 rfl rfl rfl ?_ -- toldB
            refine wp_iload (q := 127) dX8_noteTold_125 rfl rfl ?_
            refine wp_iload (q := 129) dX8_noteTold_127 rfl rfl ?_
            refine wp_iconst (v := nI 1) (q := 130) dX8_noteTold_129 (by decide) rfl ?_
            refine wp_icmp_ne (t := 147) (q := 133) dX8_noteTold_130 (by decide) rfl (fun h1 => ?_) (fun h1 => ?_)
            · have h1 : ¬ c / 100 = 1 := fun q => h1 (by rw [q])
              refine wp_iload (q := 149) dX8_noteTold_147 rfl rfl ?_
              refine wp_iconst (v := nI 4) (q := 150) dX8_noteTold_149 (by decide) rfl ?_
              refine wp_icmp_ne (t := 167) (q := 153) dX8_noteTold_150 (by decide) rfl (fun h4 => ?_) (fun h4 => ?_)
              · refine wp_iconst (v := nI 0) (q := 168) dX8_noteTold_167 (by decide) rfl ?_
                exact K168 _ _ _ hN5 r6 r7 (by unfold tdB; rw [if_neg h1, if_neg (fun q => h4 (by rw [q]))])
              · have h4 : c / 100 = 4 := (nI_eq (by omega) (by decide)).mp h4
                refine wp_aload_n (i := 0) (q := 154) dX8_noteTold_153 rfl rfl rfl ?_
                refine wp_iload_n (i := 1) (q := 155) dX8_noteTold_154 rfl rfl rfl ?_
                refine wp_iconst (v := nI 0) (q := 156) dX8_noteTold_155 (by decide) rfl ?_
                refine wp_iload (q := 158) dX8_noteTold_156 rfl rfl ?_
                refine wp_iload (q := 160) dX8_noteTold_158 rfl rfl ?_
                refine wp_iconst (v := nI 1) (q := 161) dX8_noteTold_160 (by decide) rfl ?_
                refine wp_V (μ' := mX8_number) (ci := 8) (q := 164) (tX8_number (d := d - 1) (by omega) (num _ _ hN5).1) dX8_noteTold_161 okX8_number lkX8_253 mh_obj rfl rfl rfl (Nat.le_of_ble_eq_true rfl) (by omega) rfl (fun rv hx hq => ?_)
                obtain ⟨rfl, I6, A6, rfl, hS6⟩ := hq
                rw [aNumber_ag (num _ _ hN5).2]
                show wp _ _ _ _ _ _ _ _ _ _ [.int (nmA A np p c 1), .int (nI (100 * p + k)), .ref (b + 28)]
                refine wp_goto (q := 168) dX8_noteTold_164 (by decide) ?_
                exact K168 _ _ _ (hN5.sc hS6) (by rw [hS6.2 26 (by decide)]; exact r6) (by rw [hS6.2 27 (by decide)]; exact r7) (by unfold tdB; rw [if_neg h1, if_pos h4])
            · have h1 : c / 100 = 1 := (nI_eq (by omega) (by decide)).mp h1
              refine wp_aload_n (i := 0) (q := 134) dX8_noteTold_133 rfl rfl rfl ?_
              refine wp_iload_n (i := 1) (q := 135) dX8_noteTold_134 rfl rfl rfl ?_
              refine wp_iconst (v := nI 0) (q := 136) dX8_noteTold_135 (by decide) rfl ?_
              refine wp_iload (q := 138) dX8_noteTold_136 rfl rfl ?_
              refine wp_iload (q := 140) dX8_noteTold_138 rfl rfl ?_
              refine wp_iconst (v := nI 3) (q := 141) dX8_noteTold_140 (by decide) rfl ?_
              refine wp_V (μ' := mX8_number) (ci := 8) (q := 144) (tX8_number (d := d - 1) (by omega) (num _ _ hN5).1) dX8_noteTold_141 okX8_number lkX8_253 mh_obj rfl rfl rfl (Nat.le_of_ble_eq_true rfl) (by omega) rfl (fun rv hx hq => ?_)
              obtain ⟨rfl, I6, A6, rfl, hS6⟩ := hq
              rw [aNumber_ag (num _ _ hN5).2]
              show wp _ _ _ _ _ _ _ _ _ _ [.int (nmA A np p c 3), .int (nI (100 * p + k)), .ref (b + 28)]
              refine wp_goto (q := 168) dX8_noteTold_144 (by decide) ?_
              exact K168 _ _ _ (hN5.sc hS6) (by rw [hS6.2 26 (by decide)]; exact r6) (by rw [hS6.2 27 (by decide)]; exact r7) (by unfold tdB; rw [if_pos h1])
          have r26 : up2 A3 26 (100 * p + k) (nI c) 26 (100 * p + k) = nI c := by simp [up2]
          refine wp_icmp_ne (t := 109) (q := 95) dX8_noteTold_92 (by decide) rfl (fun h1 => ?_) (fun h1 => ?_)
          · refine wp_aload_n (i := 0) (q := 110) dX8_noteTold_109 rfl rfl rfl ?_
            refine wp_iload_n (i := 1) (q := 111) dX8_noteTold_110 rfl rfl rfl ?_
            refine wp_iconst (v := nI 0) (q := 112) dX8_noteTold_111 (by decide) rfl ?_
            refine wp_iload (q := 114) dX8_noteTold_112 rfl rfl ?_
            refine wp_iload (q := 116) dX8_noteTold_114 rfl rfl ?_
            refine wp_iconst (v := nI 0) (q := 117) dX8_noteTold_116 (by decide) rfl ?_
            refine wp_V (μ' := mX8_number) (ci := 8) (q := 120) (tX8_number (d := d - 1) (by omega) (num _ _ hN1).1) dX8_noteTold_117 okX8_number lkX8_253 mh_obj rfl rfl rfl (Nat.le_of_ble_eq_true rfl) (by omega) rfl (fun rv hx hq => ?_)
            obtain ⟨rfl, I6, A6, rfl, hS6⟩ := hq
            rw [aNumber_ag (num _ _ hN1).2]
            show wp _ _ _ _ _ _ _ _ _ _ [.int (nmA A np p c 0), .int (nI (100 * p + k)), .ref (b + 27)]
            exact K120 _ _ _ (hN1.sc hS6) (by rw [hS6.2 26 (by decide)]; exact r26) (by unfold tdA; rw [if_neg (fun q => h1 (by rw [q]))])
          · have h1 : c / 100 = 1 := (nI_eq (by omega) (by decide)).mp h1
            refine wp_aload_n (i := 0) (q := 96) dX8_noteTold_95 rfl rfl rfl ?_
            refine wp_iload_n (i := 1) (q := 97) dX8_noteTold_96 rfl rfl rfl ?_
            refine wp_iconst (v := nI 0) (q := 98) dX8_noteTold_97 (by decide) rfl ?_
            refine wp_iload (q := 100) dX8_noteTold_98 rfl rfl ?_
            refine wp_iload (q := 102) dX8_noteTold_100 rfl rfl ?_
            refine wp_iconst (v := nI 2) (q := 103) dX8_noteTold_102 (by decide) rfl ?_
            refine wp_V (μ' := mX8_number) (ci := 8) (q := 106) (tX8_number (d := d - 1) (by omega) (num _ _ hN1).1) dX8_noteTold_103 okX8_number lkX8_253 mh_obj rfl rfl rfl (Nat.le_of_ble_eq_true rfl) (by omega) rfl (fun rv hx hq => ?_)
            obtain ⟨rfl, I6, A6, rfl, hS6⟩ := hq
            rw [aNumber_ag (num _ _ hN1).2]
            show wp _ _ _ _ _ _ _ _ _ _ [.int (nmA A np p c 2), .int (nI (100 * p + k)), .ref (b + 27)]
            refine wp_goto (q := 120) dX8_noteTold_106 (by decide) ?_
            exact K120 _ _ _ (hN1.sc hS6) (by rw [hS6.2 26 (by decide)]; exact r26) (by unfold tdA; rw [if_pos h1])
      refine loop _ 0 (Nat.zero_add _) _ _ _ _ _ _ ⟨hS3.tr (SC.u2 (by decide)), h9, by rw [up2_ne (by decide)]; exact h8, by simp [up2], fun q hq => ⟨?_, fun k c hk => ?_⟩, fun k' c hk => by omega⟩
      · rw [up2_row]
        simp only [show ¬ q = p by omega, if_false]
        rw [hS2.2 25 (by decide)]
        exact (hT q hq).1
      · exact TD_of ((hT q hq).2 k c hk) (by rw [up2_ne (by decide), hS2.2 26 (by decide)]) (by rw [up2_ne (by decide), hS2.2 27 (by decide)]) (by rw [up2_ne (by decide), hS2.2 28 (by decide)]) (by rw [up2_ne (by decide), hS2.2 29 (by decide)])
  exact H np 0 (by omega) I A _ _ _ _ _ SC.rf (fun q hq => by omega)
theorem tX8_isBroken {e c w : Nat} (hd : 1 ≤ d) (he : e < 600) (hw : w < 10) (h26 : A 26 e = nI c) (hc : c < 1000) (hi : c / 10 % 10 < 4) (hj : c % 10 < 4) (h4 : c / 100 = 4 → ∃ m, 0 < m ∧ m < 2 ^ 31 ∧ A 27 e = nI m) : mt l mX8_isBroken d 0 0 [.ref b, .int (nI e), .int (nI w)] (sz, mh b I L A B g) (rI (b2 (bkV c (A 27 e) (A 28 e) (A 29 e) (A 23 (4 * w + c / 10 % 10)) (A 23 (4 * w + c % 10)))) (sz, mh b I L A B g)) := by
  refine mt_in (lv := [_, _, _, _, _, _]) (by decide) (Nat.le_of_ble_eq_true rfl) rfl ?_
  refine wp_aload_n (i := 0) (q := 1) dX8_isBroken_0 rfl rfl rfl ?_
  refine wm_getA (k := 37) (o := 26) (q := 4) dX8_isBroken_1 ffX8_87 rfl rfl rfl ?_ -- toldCode
  refine wp_iload_n (i := 1) (q := 5) dX8_isBroken_4 rfl rfl rfl ?_
  refine wm_ialdN (q := 6) dX8_isBroken_5 ⟨by decide, by decide, rfl⟩ rfl (by simp only [mlen]; omega) (by decide) rfl ?_
  refine wp_bipush (v := nI 100) (q := 8) dX8_isBroken_6 (by decide) rfl ?_
  rw [h26]
  refine wp_idiv (q := 9) dX8_isBroken_8 (by exact nI_ne0 (by decide) (by decide)) rfl ?_
  rw [pk_div (a := c) (d := 100) (by omega) (by decide) (by decide)]
  refine wp_istore_n (i := 3) (lv' := [_, _, some _, _, _, _]) (q := 10) dX8_isBroken_9 rfl (by decide) rfl rfl ?_
  refine wp_aload_n (i := 0) (q := 11) dX8_isBroken_10 rfl rfl rfl ?_
  refine wm_getA (k := 34) (o := 23) (q := 14) dX8_isBroken_11 ffX8_78 rfl rfl rfl ?_ -- wayNumber
  refine wp_iconst (v := nI 4) (q := 15) dX8_isBroken_14 (by decide) rfl ?_
  refine wp_iload_n (i := 2) (q := 16) dX8_isBroken_15 rfl rfl rfl ?_
  refine wp_imul (q := 17) dX8_isBroken_16 rfl ?_
  refine wp_aload_n (i := 0) (q := 18) dX8_isBroken_17 rfl rfl rfl ?_
  refine wm_getA (k := 37) (o := 26) (q := 21) dX8_isBroken_18 ffX8_87 rfl rfl rfl ?_ -- toldCode
  refine wp_iload_n (i := 1) (q := 22) dX8_isBroken_21 rfl rfl rfl ?_
  refine wm_ialdN (q := 23) dX8_isBroken_22 ⟨by decide, by decide, rfl⟩ rfl (by simp only [mlen]; omega) (by decide) rfl ?_
  refine wp_bipush (v := nI 10) (q := 25) dX8_isBroken_23 (by decide) rfl ?_
  rw [h26, pk_mul]
  refine wp_idiv (q := 26) dX8_isBroken_25 (by exact nI_ne0 (by decide) (by decide)) rfl ?_
  refine wp_bipush (v := nI 10) (q := 28) dX8_isBroken_26 (by decide) rfl ?_
  refine wp_irem (q := 29) dX8_isBroken_28 (by exact nI_ne0 (by decide) (by decide)) rfl ?_
  rw [pk_div (a := c) (d := 10) (by omega) (by decide) (by decide), pk_rem (a := c / 10) (d := 10) (by omega) (by decide) (by decide)]
  refine wp_iadd (q := 30) dX8_isBroken_29 rfl ?_
  rw [nI_add]
  refine wm_ialdN (q := 31) dX8_isBroken_30 ⟨by decide, by decide, rfl⟩ rfl (by simp only [mlen]; omega) (by decide) rfl ?_
  refine wp_istore (lv' := [_, _, _, some _, _, _]) (q := 33) dX8_isBroken_31 (by decide) rfl rfl ?_
  refine wp_aload_n (i := 0) (q := 34) dX8_isBroken_33 rfl rfl rfl ?_
  refine wm_getA (k := 34) (o := 23) (q := 37) dX8_isBroken_34 ffX8_78 rfl rfl rfl ?_ -- wayNumber
  refine wp_iconst (v := nI 4) (q := 38) dX8_isBroken_37 (by decide) rfl ?_
  refine wp_iload_n (i := 2) (q := 39) dX8_isBroken_38 rfl rfl rfl ?_
  refine wp_imul (q := 40) dX8_isBroken_39 rfl ?_
  refine wp_aload_n (i := 0) (q := 41) dX8_isBroken_40 rfl rfl rfl ?_
  refine wm_getA (k := 37) (o := 26) (q := 44) dX8_isBroken_41 ffX8_87 rfl rfl rfl ?_ -- toldCode
  refine wp_iload_n (i := 1) (q := 45) dX8_isBroken_44 rfl rfl rfl ?_
  refine wm_ialdN (q := 46) dX8_isBroken_45 ⟨by decide, by decide, rfl⟩ rfl (by simp only [mlen]; omega) (by decide) rfl ?_
  refine wp_bipush (v := nI 10) (q := 48) dX8_isBroken_46 (by decide) rfl ?_
  rw [h26, pk_mul]
  refine wp_irem (q := 49) dX8_isBroken_48 (by exact nI_ne0 (by decide) (by decide)) rfl ?_
  rw [pk_rem (a := c) (d := 10) (by omega) (by decide) (by decide)]
  refine wp_iadd (q := 50) dX8_isBroken_49 rfl ?_
  rw [nI_add]
  refine wm_ialdN (q := 51) dX8_isBroken_50 ⟨by decide, by decide, rfl⟩ rfl (by simp only [mlen]; omega) (by decide) rfl ?_
  refine wp_istore (lv' := [_, _, _, _, some _, _]) (q := 53) dX8_isBroken_51 (by decide) rfl rfl ?_
  refine wp_iload_n (i := 3) (q := 54) dX8_isBroken_53 rfl rfl rfl ?_
  generalize A 23 (4 * w + c / 10 % 10) = x
  generalize A 23 (4 * w + c % 10) = y
  have hsh : c / 100 < 10 := by omega
  unfold bkV
  generalize c / 100 = sh at hsh h4 ⊢
  rcases (show sh = 0 ∨ sh = 1 ∨ sh = 2 ∨ sh = 3 ∨ sh = 4 ∨ sh = 9 ∨ sh = 5 ∨ sh = 6 ∨ sh = 7 ∨ sh = 8 by omega) with rfl | rfl | rfl | rfl | rfl | rfl | rfl | rfl | rfl | rfl
  · refine wp_tableIn (off := 54) (q := 108) dX8_isBroken_54 (by decide) (by decide) (by decide) (by decide) ?_
    refine wp_iload (q := 110) dX8_isBroken_108 rfl rfl ?_
    refine wp_aload_n (i := 0) (q := 111) dX8_isBroken_110 rfl rfl rfl ?_
    refine wm_getA (k := 38) (o := 27) (q := 114) dX8_isBroken_111 ffX8_90 rfl rfl rfl ?_ -- toldA
    refine wp_iload_n (i := 1) (q := 115) dX8_isBroken_114 rfl rfl rfl ?_
    refine wm_ialdN (q := 116) dX8_isBroken_115 ⟨by decide, by decide, rfl⟩ rfl (by simp only [mlen]; omega) (by decide) rfl ?_
    refine wp_b2ceq (q := 119) (t := 123) (y := 124) dX8_isBroken_116 dX8_isBroken_119 dX8_isBroken_120 dX8_isBroken_123 (by decide) rfl rfl (by decide) rfl ?_
    refine wp_zret dX8_isBroken_124 rfl (by first | exact Or.inl rfl | exact Or.inr rfl | exact b2_01 _ | assumption) ?_
    exact ⟨rfl, rfl⟩
  · refine wp_tableIn (off := 71) (q := 125) dX8_isBroken_54 (by decide) (by decide) (by decide) (by decide) ?_
    refine wp_iload (q := 127) dX8_isBroken_125 rfl rfl ?_
    refine wp_aload_n (i := 0) (q := 128) dX8_isBroken_127 rfl rfl rfl ?_
    refine wm_getA (k := 38) (o := 27) (q := 131) dX8_isBroken_128 ffX8_90 rfl rfl rfl ?_ -- toldA
    refine wp_iload_n (i := 1) (q := 132) dX8_isBroken_131 rfl rfl rfl ?_
    refine wm_ialdN (q := 133) dX8_isBroken_132 ⟨by decide, by decide, rfl⟩ rfl (by simp only [mlen]; omega) (by decide) rfl ?_
    refine wp_icmp_eq (t := 162) (q := 136) dX8_isBroken_133 (by decide) rfl (fun q1 => ?_) (fun q1 => ?_)
    · refine wp_iconst (v := nI 0) (q := 163) dX8_isBroken_162 (by decide) rfl ?_
      refine wp_zret dX8_isBroken_163 rfl (by first | exact Or.inl rfl | exact Or.inr rfl | exact b2_01 _ | assumption) ?_
      exact ⟨by simp [q1, b2], rfl⟩
    refine wp_iload (q := 138) dX8_isBroken_136 rfl rfl ?_
    refine wp_aload_n (i := 0) (q := 139) dX8_isBroken_138 rfl rfl rfl ?_
    refine wm_getA (k := 39) (o := 28) (q := 142) dX8_isBroken_139 ffX8_93 rfl rfl rfl ?_ -- toldB
    refine wp_iload_n (i := 1) (q := 143) dX8_isBroken_142 rfl rfl rfl ?_
    refine wm_ialdN (q := 144) dX8_isBroken_143 ⟨by decide, by decide, rfl⟩ rfl (by simp only [mlen]; omega) (by decide) rfl ?_
    refine wp_icmp_eq (t := 162) (q := 147) dX8_isBroken_144 (by decide) rfl (fun q2 => ?_) (fun q2 => ?_)
    · refine wp_iconst (v := nI 0) (q := 163) dX8_isBroken_162 (by decide) rfl ?_
      refine wp_zret dX8_isBroken_163 rfl (by first | exact Or.inl rfl | exact Or.inr rfl | exact b2_01 _ | assumption) ?_
      exact ⟨by simp [q2, b2], rfl⟩
    refine wp_iload (q := 149) dX8_isBroken_147 rfl rfl ?_
    refine wp_aload_n (i := 0) (q := 150) dX8_isBroken_149 rfl rfl rfl ?_
    refine wm_getA (k := 40) (o := 29) (q := 153) dX8_isBroken_150 ffX8_96 rfl rfl rfl ?_ -- toldC
    refine wp_iload_n (i := 1) (q := 154) dX8_isBroken_153 rfl rfl rfl ?_
    refine wm_ialdN (q := 155) dX8_isBroken_154 ⟨by decide, by decide, rfl⟩ rfl (by simp only [mlen]; omega) (by decide) rfl ?_
    refine wp_b2ceq (q := 158) (t := 162) (y := 163) dX8_isBroken_155 dX8_isBroken_158 dX8_isBroken_159 dX8_isBroken_162 (by decide) rfl rfl (by decide) rfl ?_
    refine wp_zret dX8_isBroken_163 rfl (by first | exact Or.inl rfl | exact Or.inr rfl | exact b2_01 _ | assumption) ?_
    exact ⟨by simp [q1, q2], rfl⟩
  · refine wp_tableIn (off := 110) (q := 164) dX8_isBroken_54 (by decide) (by decide) (by decide) (by decide) ?_
    refine wp_iload (q := 166) dX8_isBroken_164 rfl rfl ?_
    refine wp_aload_n (i := 0) (q := 167) dX8_isBroken_166 rfl rfl rfl ?_
    refine wm_getA (k := 38) (o := 27) (q := 170) dX8_isBroken_167 ffX8_90 rfl rfl rfl ?_ -- toldA
    refine wp_iload_n (i := 1) (q := 171) dX8_isBroken_170 rfl rfl rfl ?_
    refine wm_ialdN (q := 172) dX8_isBroken_171 ⟨by decide, by decide, rfl⟩ rfl (by simp only [mlen]; omega) (by decide) rfl ?_
    refine wp_b2cge (q := 175) (t := 179) (y := 180) dX8_isBroken_172 dX8_isBroken_175 dX8_isBroken_176 dX8_isBroken_179 (by decide) rfl rfl (by decide) rfl ?_
    refine wp_zret dX8_isBroken_180 rfl (by first | exact Or.inl rfl | exact Or.inr rfl | exact b2_01 _ | assumption) ?_
    exact ⟨rfl, rfl⟩
  · refine wp_tableIn (off := 127) (q := 181) dX8_isBroken_54 (by decide) (by decide) (by decide) (by decide) ?_
    refine wp_iload (q := 183) dX8_isBroken_181 rfl rfl ?_
    refine wp_aload_n (i := 0) (q := 184) dX8_isBroken_183 rfl rfl rfl ?_
    refine wm_getA (k := 38) (o := 27) (q := 187) dX8_isBroken_184 ffX8_90 rfl rfl rfl ?_ -- toldA
    refine wp_iload_n (i := 1) (q := 188) dX8_isBroken_187 rfl rfl rfl ?_
    refine wm_ialdN (q := 189) dX8_isBroken_188 ⟨by decide, by decide, rfl⟩ rfl (by simp only [mlen]; omega) (by decide) rfl ?_
    refine wp_icmp_le (t := 196) (q := 192) dX8_isBroken_189 (by decide) rfl (fun q1 => ?_) (fun q1 => ?_)
    · refine wp_iconst (v := nI 0) (q := 197) dX8_isBroken_196 (by decide) rfl ?_
      refine wp_zret dX8_isBroken_197 rfl (by first | exact Or.inl rfl | exact Or.inr rfl | exact b2_01 _ | assumption) ?_
      exact ⟨by simp [Int32.not_lt.mpr q1, b2], rfl⟩
    · refine wp_iconst (v := nI 1) (q := 193) dX8_isBroken_192 (by decide) rfl ?_
      refine wp_goto (q := 197) dX8_isBroken_193 (by decide) ?_
      refine wp_zret dX8_isBroken_197 rfl (by first | exact Or.inl rfl | exact Or.inr rfl | exact b2_01 _ | assumption) ?_
      exact ⟨by simp [Int32.not_le.mp q1, b2], rfl⟩
  · refine wp_tableIn (off := 144) (q := 198) dX8_isBroken_54 (by decide) (by decide) (by decide) (by decide) ?_
    obtain ⟨m, hm0, hm1, h27⟩ := h4 rfl
    refine wp_iload (q := 200) dX8_isBroken_198 rfl rfl ?_
    refine wp_aload_n (i := 0) (q := 201) dX8_isBroken_200 rfl rfl rfl ?_
    refine wm_getA (k := 38) (o := 27) (q := 204) dX8_isBroken_201 ffX8_90 rfl rfl rfl ?_ -- toldA
    refine wp_iload_n (i := 1) (q := 205) dX8_isBroken_204 rfl rfl rfl ?_
    refine wm_ialdN (q := 206) dX8_isBroken_205 ⟨by decide, by decide, rfl⟩ rfl (by simp only [mlen]; omega) (by decide) rfl ?_
    rw [h27, nI_clamp hm1]
    refine wp_Si (μ' := mX8_restOf) (q := 209) (tX8_restOf (d := d - 1) hm0 hm1) dX8_isBroken_206 okX8_restOf lkX8_148 rfl rfl (Nat.le_of_ble_eq_true rfl) (by omega) rfl ?_
    refine wp_aload_n (i := 0) (q := 210) dX8_isBroken_209 rfl rfl rfl ?_
    refine wm_getA (k := 39) (o := 28) (q := 213) dX8_isBroken_210 ffX8_93 rfl rfl rfl ?_ -- toldB
    refine wp_iload_n (i := 1) (q := 214) dX8_isBroken_213 rfl rfl rfl ?_
    refine wm_ialdN (q := 215) dX8_isBroken_214 ⟨by decide, by decide, rfl⟩ rfl (by simp only [mlen]; omega) (by decide) rfl ?_
    refine wp_b2ceq (q := 218) (t := 222) (y := 223) dX8_isBroken_215 dX8_isBroken_218 dX8_isBroken_219 dX8_isBroken_222 (by decide) rfl rfl (by decide) rfl ?_
    refine wp_zret dX8_isBroken_223 rfl (by first | exact Or.inl rfl | exact Or.inr rfl | exact b2_01 _ | assumption) ?_
    exact ⟨rfl, rfl⟩
  · refine wp_tableIn (off := 170) (q := 224) dX8_isBroken_54 (by decide) (by decide) (by decide) (by decide) ?_
    refine wp_iconst (v := nI 0) (q := 225) dX8_isBroken_224 (by decide) rfl ?_
    refine wp_zret dX8_isBroken_225 rfl (by first | exact Or.inl rfl | exact Or.inr rfl | exact b2_01 _ | assumption) ?_
    exact ⟨rfl, rfl⟩
  · refine wp_tableIn (off := 172) (q := 226) dX8_isBroken_54 (by decide) (by decide) (by decide) (by decide) ?_
    refine wp_iload_n (i := 3) (q := 227) dX8_isBroken_226 rfl rfl rfl ?_
    refine wp_iload (q := 229) dX8_isBroken_227 rfl rfl ?_
    refine wp_iload (q := 231) dX8_isBroken_229 rfl rfl ?_
    refine wp_Si (μ' := mX8_goes) (q := 234) (tX8_goes (d := d - 1) (by decide)) dX8_isBroken_231 okX8_goes lkX8_151 rfl rfl (Nat.le_of_ble_eq_true rfl) (by omega) rfl ?_
    refine wp_b2ne (q := 237) (t := 241) (y := 242) dX8_isBroken_234 dX8_isBroken_237 dX8_isBroken_238 dX8_isBroken_241 (by decide) rfl rfl (by decide) rfl ?_
    refine wp_zret dX8_isBroken_242 rfl (by first | exact Or.inl rfl | exact Or.inr rfl | exact b2_01 _ | assumption) ?_
    exact ⟨rfl, rfl⟩
  · refine wp_tableIn (off := 172) (q := 226) dX8_isBroken_54 (by decide) (by decide) (by decide) (by decide) ?_
    refine wp_iload_n (i := 3) (q := 227) dX8_isBroken_226 rfl rfl rfl ?_
    refine wp_iload (q := 229) dX8_isBroken_227 rfl rfl ?_
    refine wp_iload (q := 231) dX8_isBroken_229 rfl rfl ?_
    refine wp_Si (μ' := mX8_goes) (q := 234) (tX8_goes (d := d - 1) (by decide)) dX8_isBroken_231 okX8_goes lkX8_151 rfl rfl (Nat.le_of_ble_eq_true rfl) (by omega) rfl ?_
    refine wp_b2ne (q := 237) (t := 241) (y := 242) dX8_isBroken_234 dX8_isBroken_237 dX8_isBroken_238 dX8_isBroken_241 (by decide) rfl rfl (by decide) rfl ?_
    refine wp_zret dX8_isBroken_242 rfl (by first | exact Or.inl rfl | exact Or.inr rfl | exact b2_01 _ | assumption) ?_
    exact ⟨rfl, rfl⟩
  · refine wp_tableIn (off := 172) (q := 226) dX8_isBroken_54 (by decide) (by decide) (by decide) (by decide) ?_
    refine wp_iload_n (i := 3) (q := 227) dX8_isBroken_226 rfl rfl rfl ?_
    refine wp_iload (q := 229) dX8_isBroken_227 rfl rfl ?_
    refine wp_iload (q := 231) dX8_isBroken_229 rfl rfl ?_
    refine wp_Si (μ' := mX8_goes) (q := 234) (tX8_goes (d := d - 1) (by decide)) dX8_isBroken_231 okX8_goes lkX8_151 rfl rfl (Nat.le_of_ble_eq_true rfl) (by omega) rfl ?_
    refine wp_b2ne (q := 237) (t := 241) (y := 242) dX8_isBroken_234 dX8_isBroken_237 dX8_isBroken_238 dX8_isBroken_241 (by decide) rfl rfl (by decide) rfl ?_
    refine wp_zret dX8_isBroken_242 rfl (by first | exact Or.inl rfl | exact Or.inr rfl | exact b2_01 _ | assumption) ?_
    exact ⟨rfl, rfl⟩
  · refine wp_tableIn (off := 172) (q := 226) dX8_isBroken_54 (by decide) (by decide) (by decide) (by decide) ?_
    refine wp_iload_n (i := 3) (q := 227) dX8_isBroken_226 rfl rfl rfl ?_
    refine wp_iload (q := 229) dX8_isBroken_227 rfl rfl ?_
    refine wp_iload (q := 231) dX8_isBroken_229 rfl rfl ?_
    refine wp_Si (μ' := mX8_goes) (q := 234) (tX8_goes (d := d - 1) (by decide)) dX8_isBroken_231 okX8_goes lkX8_151 rfl rfl (Nat.le_of_ble_eq_true rfl) (by omega) rfl ?_
    refine wp_b2ne (q := 237) (t := 241) (y := 242) dX8_isBroken_234 dX8_isBroken_237 dX8_isBroken_238 dX8_isBroken_241 (by decide) rfl rfl (by decide) rfl ?_
    refine wp_zret dX8_isBroken_242 rfl (by first | exact Or.inl rfl | exact Or.inr rfl | exact b2_01 _ | assumption) ?_
    exact ⟨rfl, rfl⟩
theorem nmA_4 {c : Nat} (hp : p < np) (hM : MM I A np) (hc : c ∈ gl A p 0 true) (h4 : c / 100 = 4) : nmA A np p c 0 = nI (mdF (vl A p 0 (c / 10 % 10)) 12) ∧ 0 < mdF (vl A p 0 (c / 10 % 10)) 12 := by
  have k4 := (hM.2.2.1 p (by have := hM.1; omega)).2.1
  obtain ⟨sh, i, j, rfl, h1, h2, h3, h5⟩ := gl_mem k4 hc
  have hj := jlG_le (sh := sh) k4
  have e1 : (100 * sh + 10 * i + j) / 100 = sh := by omega
  have e2 : (100 * sh + 10 * i + j) / 10 % 10 = i := by omega
  rw [e1] at h4
  subst h4
  rw [e2]
  unfold okG at h5
  dsimp only at h5
  have hso : isSoB A p 0 4 i j = true := by
    rw [Bool.and_eq_true, Bool.and_eq_true] at h5
    exact h5.1.2
  have hpos : 0 < mdF (vl A p 0 i) 12 := by simpa [isSoB] using hso
  refine ⟨?_, hpos⟩
  have hrs : ¬ (rs A p 0).length = 0 := by
    intro q
    unfold gl at hc
    rw [if_pos q] at hc
    simp at hc
  have hso0 : isSoB A p 0 4 i 0 = true := by simpa [isSoB] using hpos
  unfold nmA aNumber
  rw [e1, e2, nI_clamp (by have := hM.1; omega), nI_clamp (by decide), nI_clamp (by decide), nI_clamp (by omega), ix_nI (by have := hM.1; omega), ix_nI (by decide), ix_nI (by omega), ix_nI (by decide), ix_nI (by decide), decide_eq_true hp, decide_eq_true h2, decide_eq_false hrs, hso0]
  rfl
theorem tX8_broken {w pt : Nat} {A0 : Nat → Nat → Int32} (hd : 2 ≤ d) (hw : w < 10) (hM : MM I A0 np) (h22 : A 22 w = nI pt) (hpt : pt < np) (hT : TT A0 np A) : mt l mX8_broken d 0 0 [.ref b, .int (nI w)] (sz, mh b I L A B g) (rI (oI (brkF A0 np pt (stL (fun u => A 23 (4 * w + u)) (kA A0 pt)))) (sz, mh b I L A B g)) := by
  have hn := hM.1
  have k4 := (hM.2.2.1 pt (by omega)).2.1
  have k1 := hM.2.2.2 pt hpt
  obtain ⟨t1, t2⟩ := hT pt hpt
  have hgl := gl_len (A := A0) (p := pt) (side := 0) (tA := true) k4
  refine mt_in (lv := [_, _, _, _]) (by decide) (Nat.le_of_ble_eq_true rfl) rfl ?_
  refine wp_aload_n (i := 0) (q := 1) dX8_broken_0 rfl rfl rfl ?_
  refine wm_getA (k := 33) (o := 22) (q := 4) dX8_broken_1 ffX8_75 rfl rfl rfl ?_ -- wayPoint
  refine wp_iload_n (i := 1) (q := 5) dX8_broken_4 rfl rfl rfl ?_
  refine wm_ialdN (q := 6) dX8_broken_5 ⟨by decide, by decide, rfl⟩ rfl (by simp only [mlen]; omega) (by decide) rfl ?_
  rw [h22]
  refine wp_istore_n (i := 2) (lv' := [_, some _, _, _]) (q := 7) dX8_broken_6 rfl (by decide) rfl rfl ?_
  refine wp_iconst (v := nI 0) (q := 8) dX8_broken_7 (by decide) rfl ?_
  refine wp_istore_n (i := 3) (lv' := [_, _, some _, _]) (q := 9) dX8_broken_8 rfl (by decide) rfl rfl ?_
  unfold brkF
  have H : ∀ n k, k + n = (gl A0 pt 0 true).length → wp l mX8_broken [] d 0 0 (rI (oI (((gl A0 pt 0 true).drop k).find? (fun c => bkV c (tdA A0 np pt c) (tdB A0 np pt c) (tdC A0 np pt c) (gt_ (stL (fun u => A 23 (4 * w + u)) (kA A0 pt)) (c / 10 % 10)) (gt_ (stL (fun u => A 23 (4 * w + u)) (kA A0 pt)) (c % 10))))) (sz, mh b I L A B g)) (sz, mh b I L A B g) 9 [some (.ref b), some (.int (nI w)), some (.int (nI pt)), some (.int (nI k))] [] := by
    intro n
    induction n with
    | zero =>
      intro k hk
      refine wp_iload_n (i := 3) (q := 10) dX8_broken_9 rfl rfl rfl ?_
      refine wp_aload_n (i := 0) (q := 11) dX8_broken_10 rfl rfl rfl ?_
      refine wm_getA (k := 36) (o := 25) (q := 14) dX8_broken_11 ffX8_84 rfl rfl rfl ?_ -- toldMany
      refine wp_iload_n (i := 2) (q := 15) dX8_broken_14 rfl rfl rfl ?_
      refine wm_ialdN (q := 16) dX8_broken_15 ⟨by decide, by decide, rfl⟩ rfl (by simp only [mlen]; omega) (by decide) rfl ?_
      rw [t1]
      refine wp_icmp_ge (t := 51) (q := 19) dX8_broken_16 (by decide) rfl (fun hc => ?_) (fun hc => ?_)
      · refine wp_iconst (v := (-1)) (q := 52) dX8_broken_51 (by decide) rfl ?_
        refine wp_iret dX8_broken_52 rfl ?_
        rw [List.drop_of_length_le (by omega)]
        exact ⟨rfl, rfl⟩
      · exact absurd ((nI_leI (by omega) (by omega)).mpr (by omega)) hc
    | succ n ih =>
      intro k hk
      have hkl : k < (gl A0 pt 0 true).length := by omega
      have hT := t2 k _ (List.getElem?_eq_getElem hkl)
      rw [List.drop_eq_getElem_cons hkl, List.find?_cons]
      have hcm : (gl A0 pt 0 true)[k] ∈ gl A0 pt 0 true := List.getElem_mem hkl
      generalize (gl A0 pt 0 true)[k] = c at hT hcm ⊢
      obtain ⟨sh, i, j, hce, h1, h2, h3, h5⟩ := gl_mem k4 hcm
      have hj4 := jlG_le (sh := sh) k4
      have hjk : jlG (kA A0 pt) sh ≤ kA A0 pt := by unfold jlG; split <;> omega
      have x1 : c / 10 % 10 = i := by omega
      have x2 : c % 10 = j := by omega
      refine wp_iload_n (i := 3) (q := 10) dX8_broken_9 rfl rfl rfl ?_
      refine wp_aload_n (i := 0) (q := 11) dX8_broken_10 rfl rfl rfl ?_
      refine wm_getA (k := 36) (o := 25) (q := 14) dX8_broken_11 ffX8_84 rfl rfl rfl ?_ -- toldMany
      refine wp_iload_n (i := 2) (q := 15) dX8_broken_14 rfl rfl rfl ?_
      refine wm_ialdN (q := 16) dX8_broken_15 ⟨by decide, by decide, rfl⟩ rfl (by simp only [mlen]; omega) (by decide) rfl ?_
      rw [t1]
      refine wp_icmp_ge (t := 51) (q := 19) dX8_broken_16 (by decide) rfl (fun hc => ?_) (fun hc => ?_)
      · exact absurd ((nI_leI (by omega) (by omega)).mp hc) (by omega)
      refine wp_aload_n (i := 0) (q := 20) dX8_broken_19 rfl rfl rfl ?_
      refine wp_bipush (v := nI 100) (q := 22) dX8_broken_20 (by decide) rfl ?_
      refine wp_iload_n (i := 2) (q := 23) dX8_broken_22 rfl rfl rfl ?_
      refine wp_imul (q := 24) dX8_broken_23 rfl ?_
      refine wp_iload_n (i := 3) (q := 25) dX8_broken_24 rfl rfl rfl ?_
      refine wp_iadd (q := 26) dX8_broken_25 rfl ?_
      refine wp_iload_n (i := 1) (q := 27) dX8_broken_26 rfl rfl rfl ?_
      rw [pk_mul, nI_add]
      refine wp_Vi (μ' := mX8_isBroken) (ci := 8) (q := 30) (tX8_isBroken (c := c) (d := d - 1) (by omega) (by omega) hw hT.1 (by omega) (by omega) (by omega) (fun h4 => ⟨_, (nmA_4 hpt hM hcm h4).2, by have := mdF_le (vl A0 pt 0 (c / 10 % 10)) 12; omega, by rw [(hT.2 (by omega)).1, tdA, if_neg (by omega)]; exact (nmA_4 hpt hM hcm h4).1⟩)) dX8_broken_27 okX8_isBroken lkX8_256 mh_obj rfl rfl rfl (Nat.le_of_ble_eq_true rfl) (by omega) rfl ?_
      have eb : bkV c (A 27 (100 * pt + k)) (A 28 (100 * pt + k)) (A 29 (100 * pt + k)) (A 23 (4 * w + c / 10 % 10)) (A 23 (4 * w + c % 10)) = bkV c (tdA A0 np pt c) (tdB A0 np pt c) (tdC A0 np pt c) (gt_ (stL (fun u => A 23 (4 * w + u)) (kA A0 pt)) (c / 10 % 10)) (gt_ (stL (fun u => A 23 (4 * w + u)) (kA A0 pt)) (c % 10)) := by
        rw [gt_stL (by omega), gt_stL (by omega)]
        by_cases h4 : c / 100 ≤ 4
        · obtain ⟨q1, q2, q3⟩ := hT.2 h4
          rw [q1, q2, q3]
        · exact bkV_two h4
      rw [eb]
      refine wp_if_eq (t := 45) (q := 33) dX8_broken_30 (by decide) rfl (fun hb => ?_) (fun hb => ?_)
      · rw [b2_eq0.mp hb]
        refine wp_iinc (v := _ + nI 1) (lv' := [_, _, some _, _]) (q := 48) dX8_broken_45 rfl rfl (by decide) rfl rfl ?_
        refine wp_goto (q := 9) dX8_broken_48 (by decide) ?_
        rw [nI_add]
        exact ih (k + 1) (by omega)
      · rw [b2_ne0.mp hb]
        refine wp_aload_n (i := 0) (q := 34) dX8_broken_33 rfl rfl rfl ?_
        refine wm_getA (k := 37) (o := 26) (q := 37) dX8_broken_34 ffX8_87 rfl rfl rfl ?_ -- toldCode
        refine wp_bipush (v := nI 100) (q := 39) dX8_broken_37 (by decide) rfl ?_
        refine wp_iload_n (i := 2) (q := 40) dX8_broken_39 rfl rfl rfl ?_
        refine wp_imul (q := 41) dX8_broken_40 rfl ?_
        refine wp_iload_n (i := 3) (q := 42) dX8_broken_41 rfl rfl rfl ?_
        refine wp_iadd (q := 43) dX8_broken_42 rfl ?_
        rw [pk_mul, nI_add]
        refine wm_ialdN (q := 44) dX8_broken_43 ⟨by decide, by decide, rfl⟩ rfl (by simp only [mlen]; omega) (by decide) rfl ?_
        rw [hT.1]
        refine wp_iret dX8_broken_44 rfl ?_
        exact ⟨rfl, rfl⟩
  exact H _ 0 (Nat.zero_add _)
theorem tX8_note {c len pt : Nat} (hl : len < 6) (h22 : A 22 len = nI pt) : mt l mX8_note d 0 0 [.ref b, .int (nI c), .int (nI len)] (sz, mh b I L A B g) (fun rv h' => rv = none ∧ ∃ I' A', h' = (sz, mh b I' L A' B g) ∧ SC [41, 42, 43] [30, 31] I A I' A' ∧ I' 41 = nI c ∧ I' 42 = nI pt ∧ I' 43 = nI len ∧ (∀ v, v < 4 → A' 30 v = A 23 (4 * len + v)) ∧ ∀ k, k < len → A' 31 k = A 24 k) := by
  refine mt_in (lv := [_, _, _, _]) (by decide) (Nat.le_of_ble_eq_true rfl) rfl ?_
  refine wp_aload_n (i := 0) (q := 1) dX8_note_0 rfl rfl rfl ?_
  refine wp_iload_n (i := 1) (q := 2) dX8_note_1 rfl rfl rfl ?_
  refine wm_putI (k := 41) (q := 5) dX8_note_2 ffX8_112 rfl rfl ?_ -- breaks
  refine wp_aload_n (i := 0) (q := 6) dX8_note_5 rfl rfl rfl ?_
  refine wp_aload_n (i := 0) (q := 7) dX8_note_6 rfl rfl rfl ?_
  refine wm_getA (k := 33) (o := 22) (q := 10) dX8_note_7 ffX8_75 rfl rfl rfl ?_ -- wayPoint
  refine wp_iload_n (i := 2) (q := 11) dX8_note_10 rfl rfl rfl ?_
  refine wm_ialdN (q := 12) dX8_note_11 ⟨by decide, by decide, rfl⟩ rfl (by simp only [mlen]; omega) (by decide) rfl ?_
  rw [h22]
  refine wm_putI (k := 42) (q := 15) dX8_note_12 ffX8_259 rfl rfl ?_ -- breakPoint
  refine wp_aload_n (i := 0) (q := 16) dX8_note_15 rfl rfl rfl ?_
  refine wp_iload_n (i := 2) (q := 17) dX8_note_16 rfl rfl rfl ?_
  refine wm_putI (k := 43) (q := 20) dX8_note_17 ffX8_262 rfl rfl ?_ -- breakLength
  refine wp_iconst (v := nI 0) (q := 21) dX8_note_20 (by decide) rfl ?_
  refine wp_istore_n (i := 3) (lv' := [_, _, some _, _]) (q := 22) dX8_note_21 rfl (by decide) rfl rfl ?_
  have H2 : ∀ n k, k + n = len → ∀ A1 : Nat → Nat → Int32, SC [] [30, 31] I A I A1 → (∀ v, v < 4 → A1 30 v = A 23 (4 * len + v)) → (∀ j, j < k → A1 31 j = A 24 j) → wp l mX8_note [] d 0 0 (fun rv h' => rv = none ∧ ∃ I' A', h' = (sz, mh b I' L A' B g) ∧ SC [41, 42, 43] [30, 31] I A I' A' ∧ I' 41 = nI c ∧ I' 42 = nI pt ∧ I' 43 = nI len ∧ (∀ v, v < 4 → A' 30 v = A 23 (4 * len + v)) ∧ ∀ k, k < len → A' 31 k = A 24 k) (sz, mh b (upd (upd (upd I 41 (nI c)) 42 (nI pt)) 43 (nI len)) L A1 B g) 51 [some (.ref b), some (.int (nI c)), some (.int (nI len)), some (.int (nI k))] [] := by
    intro n
    induction n with
    | zero =>
      intro k hk A1 hS h30 h31
      refine wp_iload_n (i := 3) (q := 52) dX8_note_51 rfl rfl rfl ?_
      refine wp_iload_n (i := 2) (q := 53) dX8_note_52 rfl rfl rfl ?_
      refine wp_icmp_ge (t := 74) (q := 56) dX8_note_53 (by decide) rfl (fun hc => ?_) (fun hc => ?_)
      · refine wp_vret dX8_note_74 rfl ?_
        refine ⟨rfl, _, A1, rfl, ⟨fun j hj => ?_, hS.2⟩, by simp [upd], by simp [upd], by simp [upd], h30, fun j hj => h31 j (by omega)⟩
        simp at hj
        simp [upd, hj]
      · exact absurd ((nI_leI (by omega) (by omega)).mpr (by omega)) hc
    | succ n ih =>
      intro k hk A1 hS h30 h31
      refine wp_iload_n (i := 3) (q := 52) dX8_note_51 rfl rfl rfl ?_
      refine wp_iload_n (i := 2) (q := 53) dX8_note_52 rfl rfl rfl ?_
      refine wp_icmp_ge (t := 74) (q := 56) dX8_note_53 (by decide) rfl (fun hc => ?_) (fun hc => ?_)
      · exact absurd ((nI_leI (by omega) (by omega)).mp hc) (by omega)
      refine wp_aload_n (i := 0) (q := 57) dX8_note_56 rfl rfl rfl ?_
      refine wm_getA (k := 45) (o := 31) (q := 60) dX8_note_57 ffX8_102 rfl rfl rfl ?_ -- breakAct
      refine wp_iload_n (i := 3) (q := 61) dX8_note_60 rfl rfl rfl ?_
      refine wp_aload_n (i := 0) (q := 62) dX8_note_61 rfl rfl rfl ?_
      refine wm_getA (k := 35) (o := 24) (q := 65) dX8_note_62 ffX8_81 rfl rfl rfl ?_ -- wayAct
      refine wp_iload_n (i := 3) (q := 66) dX8_note_65 rfl rfl rfl ?_
      refine wm_ialdN (q := 67) dX8_note_66 ⟨by decide, by decide, rfl⟩ rfl (by simp only [mlen]; omega) (by decide) rfl ?_
      refine wm_iastN (q := 68) dX8_note_67 ⟨by decide, by decide, rfl⟩ rfl (by simp only [mlen]; omega) (by decide) rfl ?_
      refine wp_iinc (v := _ + nI 1) (lv' := [_, _, some _, _]) (q := 71) dX8_note_68 rfl rfl (by decide) rfl rfl ?_
      refine wp_goto (q := 51) dX8_note_71 (by decide) ?_
      rw [nI_add]
      refine ih (k + 1) (by omega) _ (hS.tr (SC.u2 (by decide))) (fun v hv => by rw [up2_ne (by decide)]; exact h30 v hv) (fun j hj => ?_)
      rw [up2_row]
      by_cases e : j = k
      · simp only [e, if_true]
        rw [hS.2 24 (by decide)]
      · simp only [e, if_false]
        exact h31 j (by omega)
  have H1 : ∀ n v, v + n = 4 → ∀ A1 : Nat → Nat → Int32, SC [] [30, 31] I A I A1 → (∀ u, u < v → A1 30 u = A 23 (4 * len + u)) → wp l mX8_note [] d 0 0 (fun rv h' => rv = none ∧ ∃ I' A', h' = (sz, mh b I' L A' B g) ∧ SC [41, 42, 43] [30, 31] I A I' A' ∧ I' 41 = nI c ∧ I' 42 = nI pt ∧ I' 43 = nI len ∧ (∀ v, v < 4 → A' 30 v = A 23 (4 * len + v)) ∧ ∀ k, k < len → A' 31 k = A 24 k) (sz, mh b (upd (upd (upd I 41 (nI c)) 42 (nI pt)) 43 (nI len)) L A1 B g) 22 [some (.ref b), some (.int (nI c)), some (.int (nI len)), some (.int (nI v))] [] := by
    intro n
    induction n with
    | zero =>
      intro v hv A1 hS h30
      refine wp_iload_n (i := 3) (q := 23) dX8_note_22 rfl rfl rfl ?_
      refine wp_iconst (v := nI 4) (q := 24) dX8_note_23 (by decide) rfl ?_
      refine wp_icmp_ge (t := 49) (q := 27) dX8_note_24 (by decide) rfl (fun hc => ?_) (fun hc => ?_)
      · refine wp_iconst (v := nI 0) (q := 50) dX8_note_49 (by decide) rfl ?_
        refine wp_istore_n (i := 3) (lv' := [_, _, some _, _]) (q := 51) dX8_note_50 rfl (by decide) rfl rfl ?_
        exact H2 len 0 (by omega) A1 hS (fun u hu => h30 u (by omega)) (fun j hj => by omega)
      · exact absurd ((nI_leI (by omega) (by omega)).mpr (by omega)) hc
    | succ n ih =>
      intro v hv A1 hS h30
      refine wp_iload_n (i := 3) (q := 23) dX8_note_22 rfl rfl rfl ?_
      refine wp_iconst (v := nI 4) (q := 24) dX8_note_23 (by decide) rfl ?_
      refine wp_icmp_ge (t := 49) (q := 27) dX8_note_24 (by decide) rfl (fun hc => ?_) (fun hc => ?_)
      · exact absurd ((nI_leI (by omega) (by omega)).mp hc) (by omega)
      refine wp_aload_n (i := 0) (q := 28) dX8_note_27 rfl rfl rfl ?_
      refine wm_getA (k := 44) (o := 30) (q := 31) dX8_note_28 ffX8_99 rfl rfl rfl ?_ -- breakNumber
      refine wp_iload_n (i := 3) (q := 32) dX8_note_31 rfl rfl rfl ?_
      refine wp_aload_n (i := 0) (q := 33) dX8_note_32 rfl rfl rfl ?_
      refine wm_getA (k := 34) (o := 23) (q := 36) dX8_note_33 ffX8_78 rfl rfl rfl ?_ -- wayNumber
      refine wp_iconst (v := nI 4) (q := 37) dX8_note_36 (by decide) rfl ?_
      refine wp_iload_n (i := 2) (q := 38) dX8_note_37 rfl rfl rfl ?_
      refine wp_imul (q := 39) dX8_note_38 rfl ?_
      refine wp_iload_n (i := 3) (q := 40) dX8_note_39 rfl rfl rfl ?_
      refine wp_iadd (q := 41) dX8_note_40 rfl ?_
      rw [pk_mul, nI_add]
      refine wm_ialdN (q := 42) dX8_note_41 ⟨by decide, by decide, rfl⟩ rfl (by simp only [mlen]; omega) (by decide) rfl ?_
      refine wm_iastN (q := 43) dX8_note_42 ⟨by decide, by decide, rfl⟩ rfl (by simp only [mlen]; omega) (by decide) rfl ?_
      refine wp_iinc (v := _ + nI 1) (lv' := [_, _, some _, _]) (q := 46) dX8_note_43 rfl rfl (by decide) rfl rfl ?_
      refine wp_goto (q := 22) dX8_note_46 (by decide) ?_
      rw [nI_add]
      refine ih (v + 1) (by omega) _ (hS.tr (SC.u2 (by decide))) (fun u hu => ?_)
      rw [up2_row]
      by_cases e : u = v
      · simp only [e, if_true]
        rw [hS.2 23 (by decide)]
      · simp only [e, if_false]
        exact h30 u (by omega)
  exact H1 4 0 (by omega) A SC.rf (fun u hu => by omega)
end M12
