/-! THE REFERENCE: guesses that are told -/
def cdG (q : Nat × Nat × Nat) : Nat := 100 * q.1 + 10 * q.2.1 + q.2.2
def jlG (k sh : Nat) : Nat := if twB sh = true then k else 1
def L3 (k sh i j : Nat) : List (Nat × Nat × Nat) := (List.range' j (jlG k sh - j)).map (fun j => (sh, i, j))
def L2 (k sh i : Nat) : List (Nat × Nat × Nat) := (List.range' i (k - i)).flatMap (fun i => L3 k sh i 0)
def L1 (k sh : Nat) : List (Nat × Nat × Nat) := (List.range' sh (10 - sh)).flatMap (fun sh => L2 k sh 0)
theorem L3_end {k sh i j : Nat} (h : jlG k sh ≤ j) : L3 k sh i j = [] := by
  unfold L3
  rw [show jlG k sh - j = 0 by omega]
  rfl
theorem L3_step {k sh i j : Nat} (h : j < jlG k sh) : L3 k sh i j = (sh, i, j) :: L3 k sh i (j + 1) := by
  unfold L3
  rw [show jlG k sh - j = (jlG k sh - (j + 1)) + 1 by omega, List.range'_succ]
  rfl
theorem L2_end {k sh i : Nat} (h : k ≤ i) : L2 k sh i = [] := by
  unfold L2
  rw [show k - i = 0 by omega]
  rfl
theorem L2_step {k sh i : Nat} (h : i < k) : L2 k sh i = L3 k sh i 0 ++ L2 k sh (i + 1) := by
  unfold L2
  rw [show k - i = (k - (i + 1)) + 1 by omega, List.range'_succ, List.flatMap_cons]
theorem L1_end {k sh : Nat} (h : 10 ≤ sh) : L1 k sh = [] := by
  unfold L1
  rw [show 10 - sh = 0 by omega]
  rfl
theorem L1_step {k sh : Nat} (h : sh < 10) : L1 k sh = L2 k sh 0 ++ L1 k (sh + 1) := by
  unfold L1
  rw [show 10 - sh = (10 - (sh + 1)) + 1 by omega, List.range'_succ, List.flatMap_cons]
theorem L1_len {k : Nat} (h : k ≤ 4) : (L1 k 0).length ≤ 88 := by
  rcases (show k = 0 ∨ k = 1 ∨ k = 2 ∨ k = 3 ∨ k = 4 by omega) with rfl | rfl | rfl | rfl | rfl <;> decide
def okG (A : Nat → Nat → Int32) (p side : Nat) (tA : Bool) (q : Nat × Nat × Nat) : Bool := hsN q.1 q.2.1 q.2.2 && isSoB A p side q.1 q.2.1 q.2.2 && !(tA && sdB A p side q.1 q.2.1 q.2.2)
def gF (A : Nat → Nat → Int32) (p side : Nat) (tA : Bool) (s : List (Nat × Nat × Nat)) : List Nat := (s.filter (okG A p side tA)).map cdG
/-- the codes of the guesses that hold, or are told -/
def gl (A : Nat → Nat → Int32) (p side : Nat) (tA : Bool) : List Nat := if (rs A p side).length = 0 then [] else gF A p side tA (L1 (kA A p) 0)
theorem gF_app {A : Nat → Nat → Int32} {p side : Nat} {tA : Bool} {s t : List (Nat × Nat × Nat)} : gF A p side tA (s ++ t) = gF A p side tA s ++ gF A p side tA t := by
  unfold gF
  rw [List.filter_append, List.map_append]
theorem gF_len {A : Nat → Nat → Int32} {p side : Nat} {tA : Bool} {s : List (Nat × Nat × Nat)} : (gF A p side tA s).length ≤ s.length := by
  unfold gF
  rw [List.length_map]
  exact List.length_filter_le _ _
theorem gl_len {A : Nat → Nat → Int32} {p side : Nat} {tA : Bool} (h : kA A p ≤ 4) : (gl A p side tA).length ≤ 88 := by
  unfold gl
  split
  · simp
  · exact Nat.le_trans gF_len (L1_len h)
theorem sdB_ag {A A' : Nat → Nat → Int32} (h : ag A A') : sdB A' = sdB A := by
  funext p side sh i j
  unfold sdB tw rs
  rw [isSoB_ag h, rsF_ag h, xA_ag h]
theorem okG_ag {A A' : Nat → Nat → Int32} (h : ag A A') : okG A' = okG A := by
  funext p side tA q
  unfold okG
  rw [isSoB_ag h, sdB_ag h]
theorem gl_ag {A A' : Nat → Nat → Int32} (h : ag A A') : gl A' = gl A := by
  funext p side tA
  unfold gl gF rs
  rw [okG_ag h, rsF_ag h, kA_ag h]
def fwc (f : Nat → Int32) (s : List Nat) : Prop := ∀ (j c : Nat), s[j]? = some c → f j = nI c
theorem fwc_app {f : Nat → Int32} {s : List Nat} {c : Nat} (h : fwc f s) : fwc (fun k => if k = s.length then nI c else f k) (s ++ [c]) := by
  intro j x hj
  by_cases e : j < s.length
  · rw [List.getElem?_append_left e] at hj
    show (if j = s.length then _ else _) = _
    rw [if_neg (by omega)]
    exact h j x hj
  · rw [List.getElem?_append_right (by omega)] at hj
    have h0 : j - s.length < 1 := (List.getElem?_eq_some_iff.mp hj).1
    rw [show j - s.length = 0 by omega] at hj
    simp at hj
    show (if j = s.length then _ else _) = _
    rw [if_pos (by omega), hj]
section M6
variable {l : Launch} {d sz b p side r i j m shape np : Nat} {I : Nat → Int32} {L : Int64} {A : Nat → Nat → Int32} {B : Nat → Nat → Int64} {g : Nat → Option aE}
theorem tX8_isSaid (hd : 4 ≤ d) (hp : p < 6) (hs : side < 3) (hi : i < 4) (hj : j < 4) (hsh : shape < 10) (hM : MP A p) : mt l mX8_isSaid d 0 0 [.ref b, .int (nI p), .int (nI side), .int (nI shape), .int (nI i), .int (nI j)] (sz, mh b I L A B g) (fun rv h' => rv = some (.int (b2 (sdB A p side shape i j))) ∧ ∃ I' A', h' = (sz, mh b I' L A' B g) ∧ SC [7] [7] I A I' A') := by
  refine mt_in (lv := [_, _, _, _, _, _, _]) (by decide) (Nat.le_of_ble_eq_true rfl) rfl ?_
  refine wp_iload_n (i := 3) (q := 1) dX8_isSaid_0 rfl rfl rfl ?_
  refine wp_if_ne (t := 6) (q := 4) dX8_isSaid_1 (by decide) rfl (fun h0 => ?_) (fun h0 => ?_)
  · have h0 : ¬ shape = 0 := fun q => h0 (by rw [q]; rfl)
    refine wp_iload_n (i := 3) (q := 7) dX8_isSaid_6 rfl rfl rfl ?_
    refine wp_Si (μ' := mX8_isOfTwo) (q := 10) (tX8_isOfTwo (d := d - 1) (by omega)) dX8_isSaid_7 okX8_isOfTwo lkX8_168 rfl rfl (Nat.le_of_ble_eq_true rfl) (by omega) rfl ?_
    rw [inB_nI (by decide) (by decide) (by omega)]
    refine wp_if_ne (t := 24) (q := 13) dX8_isSaid_10 (by decide) rfl (fun h2 => ?_) (fun h2 => ?_)
    · have h2 : twB shape = true := b2_ne0.mp h2
      have E : sdB A p side shape i j = if (isSoB A p side 0 i 0 && isSoB A p side 0 j 0) = true then true else if shape = 7 then tw A p side 6 i j || tw A p side 5 i j else decide (shape = 8) && (tw A p side 6 i j || tw A p side 6 j i) := by
        unfold sdB
        rw [if_neg h0, if_neg (by rw [h2]; decide)]
      have K : ∀ (I1 : Nat → Int32) (A1 : Nat → Nat → Int32), SC [7] [7] I A I1 A1 → ¬ (isSoB A p side 0 i 0 && isSoB A p side 0 j 0) = true → wp l mX8_isSaid [] d 0 0 (fun rv h' => rv = some (.int (b2 (sdB A p side shape i j))) ∧ ∃ I' A', h' = (sz, mh b I' L A' B g) ∧ SC [7] [7] I A I' A') (sz, mh b I1 L A1 B g) 52 [some (.ref b), some (.int (nI p)), some (.int (nI side)), some (.int (nI shape)), some (.int (nI i)), some (.int (nI j)), none] [] := by
        intro I1 A1 hS hn
        have hag := ag_of hS (by decide)
        have hM1 := MP_ag hag hM
        rw [E, if_neg hn]
        refine wp_aload_n (i := 0) (q := 53) dX8_isSaid_52 rfl rfl rfl ?_
        refine wp_iload_n (i := 1) (q := 54) dX8_isSaid_53 rfl rfl rfl ?_
        refine wp_iload_n (i := 2) (q := 55) dX8_isSaid_54 rfl rfl rfl ?_
        refine wp_bipush (v := nI 6) (q := 57) dX8_isSaid_55 (by decide) rfl ?_
        refine wp_iload (q := 59) dX8_isSaid_57 rfl rfl ?_
        refine wp_iload (q := 61) dX8_isSaid_59 rfl rfl ?_
        refine wp_Vi (μ' := mX8_isTwo) (ci := 8) (q := 64) (tX8_isTwo (d := d - 1) (by omega) hp hs hi hj (by decide) hM1) dX8_isSaid_61 okX8_isTwo lkX8_164 mh_obj rfl rfl rfl (Nat.le_of_ble_eq_true rfl) (by omega) rfl ?_
        rw [show (rs A1 p side).all (fun r => goesB 6 (xA A1 p r i) (xA A1 p r j)) = tw A p side 6 i j by unfold tw rs; rw [rsF_ag hag, xA_ag hag]]
        refine wp_istore (lv' := [_, _, _, _, _, some _, _]) (q := 66) dX8_isSaid_64 (by decide) rfl rfl ?_
        refine wp_iload_n (i := 3) (q := 67) dX8_isSaid_66 rfl rfl rfl ?_
        refine wp_bipush (v := nI 7) (q := 69) dX8_isSaid_67 (by decide) rfl ?_
        refine wp_icmp_ne (t := 99) (q := 72) dX8_isSaid_69 (by decide) rfl (fun h7 => ?_) (fun h7 => ?_)
        · have h7 : ¬ shape = 7 := fun q => h7 (by rw [q])
          rw [if_neg h7]
          refine wp_iload_n (i := 3) (q := 100) dX8_isSaid_99 rfl rfl rfl ?_
          refine wp_bipush (v := nI 8) (q := 102) dX8_isSaid_100 (by decide) rfl ?_
          refine wp_icmp_ne (t := 129) (q := 105) dX8_isSaid_102 (by decide) rfl (fun h8 => ?_) (fun h8 => ?_)
          · have h8 : ¬ shape = 8 := fun q => h8 (by rw [q])
            refine wp_iconst (v := nI 0) (q := 130) dX8_isSaid_129 (by decide) rfl ?_
            refine wp_zret dX8_isSaid_130 rfl (by first | exact Or.inl rfl | exact Or.inr rfl | exact b2_01 _ | assumption) ?_
            exact ⟨by rw [decide_eq_false h8]; rfl, _, _, rfl, hS⟩
          have h8 : shape = 8 := (nI_eq (by omega) (by decide)).mp h8
          rw [decide_eq_true h8, Bool.true_and]
          refine wp_iload (q := 107) dX8_isSaid_105 rfl rfl ?_
          refine wp_if_ne (t := 125) (q := 110) dX8_isSaid_107 (by decide) rfl (fun hb => ?_) (fun hb => ?_)
          · refine wp_iconst (v := nI 1) (q := 126) dX8_isSaid_125 (by decide) rfl ?_
            refine wp_goto (q := 130) dX8_isSaid_126 (by decide) ?_
            refine wp_zret dX8_isSaid_130 rfl (by first | exact Or.inl rfl | exact Or.inr rfl | exact b2_01 _ | assumption) ?_
            exact ⟨by rw [b2_ne0.mp hb]; rfl, _, _, rfl, hS⟩
          rw [b2_eq0.mp hb, Bool.false_or]
          refine wp_aload_n (i := 0) (q := 111) dX8_isSaid_110 rfl rfl rfl ?_
          refine wp_iload_n (i := 1) (q := 112) dX8_isSaid_111 rfl rfl rfl ?_
          refine wp_iload_n (i := 2) (q := 113) dX8_isSaid_112 rfl rfl rfl ?_
          refine wp_bipush (v := nI 6) (q := 115) dX8_isSaid_113 (by decide) rfl ?_
          refine wp_iload (q := 117) dX8_isSaid_115 rfl rfl ?_
          refine wp_iload (q := 119) dX8_isSaid_117 rfl rfl ?_
          refine wp_Vi (μ' := mX8_isTwo) (ci := 8) (q := 122) (tX8_isTwo (d := d - 1) (by omega) hp hs hj hi (by decide) hM1) dX8_isSaid_119 okX8_isTwo lkX8_164 mh_obj rfl rfl rfl (Nat.le_of_ble_eq_true rfl) (by omega) rfl ?_
          rw [show (rs A1 p side).all (fun r => goesB 6 (xA A1 p r j) (xA A1 p r i)) = tw A p side 6 j i by unfold tw rs; rw [rsF_ag hag, xA_ag hag]]
          refine wp_b2eq (q := 125) (t := 129) (y := 130) dX8_isSaid_122 dX8_isSaid_125 dX8_isSaid_126 dX8_isSaid_129 (by decide) rfl rfl (by decide) rfl ?_
          refine wp_zret dX8_isSaid_130 rfl (by first | exact Or.inl rfl | exact Or.inr rfl | exact b2_01 _ | assumption) ?_
          exact ⟨rfl, _, _, rfl, hS⟩
        · have h7 : shape = 7 := (nI_eq (by omega) (by decide)).mp h7
          rw [if_pos h7]
          refine wp_iload (q := 74) dX8_isSaid_72 rfl rfl ?_
          refine wp_if_ne (t := 91) (q := 77) dX8_isSaid_74 (by decide) rfl (fun hb => ?_) (fun hb => ?_)
          · refine wp_iconst (v := nI 1) (q := 92) dX8_isSaid_91 (by decide) rfl ?_
            refine wp_goto (q := 130) dX8_isSaid_92 (by decide) ?_
            refine wp_zret dX8_isSaid_130 rfl (by first | exact Or.inl rfl | exact Or.inr rfl | exact b2_01 _ | assumption) ?_
            exact ⟨by rw [b2_ne0.mp hb]; rfl, _, _, rfl, hS⟩
          rw [b2_eq0.mp hb, Bool.false_or]
          refine wp_aload_n (i := 0) (q := 78) dX8_isSaid_77 rfl rfl rfl ?_
          refine wp_iload_n (i := 1) (q := 79) dX8_isSaid_78 rfl rfl rfl ?_
          refine wp_iload_n (i := 2) (q := 80) dX8_isSaid_79 rfl rfl rfl ?_
          refine wp_iconst (v := nI 5) (q := 81) dX8_isSaid_80 (by decide) rfl ?_
          refine wp_iload (q := 83) dX8_isSaid_81 rfl rfl ?_
          refine wp_iload (q := 85) dX8_isSaid_83 rfl rfl ?_
          refine wp_Vi (μ' := mX8_isTwo) (ci := 8) (q := 88) (tX8_isTwo (d := d - 1) (by omega) hp hs hi hj (by decide) hM1) dX8_isSaid_85 okX8_isTwo lkX8_164 mh_obj rfl rfl rfl (Nat.le_of_ble_eq_true rfl) (by omega) rfl ?_
          rw [show (rs A1 p side).all (fun r => goesB 5 (xA A1 p r i) (xA A1 p r j)) = tw A p side 5 i j by unfold tw rs; rw [rsF_ag hag, xA_ag hag]]
          refine wp_if_eq (t := 95) (q := 91) dX8_isSaid_88 (by decide) rfl (fun hb => ?_) (fun hb => ?_)
          · refine wp_iconst (v := nI 0) (q := 96) dX8_isSaid_95 (by decide) rfl ?_
            refine wp_goto (q := 130) dX8_isSaid_96 (by decide) ?_
            refine wp_zret dX8_isSaid_130 rfl (by first | exact Or.inl rfl | exact Or.inr rfl | exact b2_01 _ | assumption) ?_
            exact ⟨by rw [b2_eq0.mp hb]; rfl, _, _, rfl, hS⟩
          · refine wp_iconst (v := nI 1) (q := 92) dX8_isSaid_91 (by decide) rfl ?_
            refine wp_goto (q := 130) dX8_isSaid_92 (by decide) ?_
            refine wp_zret dX8_isSaid_130 rfl (by first | exact Or.inl rfl | exact Or.inr rfl | exact b2_01 _ | assumption) ?_
            exact ⟨by rw [b2_ne0.mp hb]; rfl, _, _, rfl, hS⟩
      refine wp_aload_n (i := 0) (q := 25) dX8_isSaid_24 rfl rfl rfl ?_
      refine wp_iload_n (i := 1) (q := 26) dX8_isSaid_25 rfl rfl rfl ?_
      refine wp_iload_n (i := 2) (q := 27) dX8_isSaid_26 rfl rfl rfl ?_
      refine wp_iconst (v := nI 0) (q := 28) dX8_isSaid_27 (by decide) rfl ?_
      refine wp_iload (q := 30) dX8_isSaid_28 rfl rfl ?_
      refine wp_iconst (v := nI 0) (q := 31) dX8_isSaid_30 (by decide) rfl ?_
      refine wp_V (μ' := mX8_isSo) (ci := 8) (q := 34) (tX8_isSo (d := d - 1) (j := 0) (by omega) hp hs hi (by omega) (by decide) hM) dX8_isSaid_31 okX8_isSo lkX8_174 mh_obj rfl rfl rfl (Nat.le_of_ble_eq_true rfl) (by omega) rfl (fun rv hx hq => ?_)
      obtain ⟨rfl, I1, A1, rfl, hS⟩ := hq
      show wp _ _ _ _ _ _ _ _ _ _ [.int (b2 (isSoB A p side 0 i 0))]
      refine wp_if_eq (t := 52) (q := 37) dX8_isSaid_34 (by decide) rfl (fun hc => ?_) (fun hc => ?_)
      · exact K I1 A1 hS (by rw [b2_eq0.mp hc, Bool.false_and]; decide)
      have hc := b2_ne0.mp hc
      have hag := ag_of hS (by decide)
      refine wp_aload_n (i := 0) (q := 38) dX8_isSaid_37 rfl rfl rfl ?_
      refine wp_iload_n (i := 1) (q := 39) dX8_isSaid_38 rfl rfl rfl ?_
      refine wp_iload_n (i := 2) (q := 40) dX8_isSaid_39 rfl rfl rfl ?_
      refine wp_iconst (v := nI 0) (q := 41) dX8_isSaid_40 (by decide) rfl ?_
      refine wp_iload (q := 43) dX8_isSaid_41 rfl rfl ?_
      refine wp_iconst (v := nI 0) (q := 44) dX8_isSaid_43 (by decide) rfl ?_
      refine wp_V (μ' := mX8_isSo) (ci := 8) (q := 47) (tX8_isSo (d := d - 1) (j := 0) (by omega) hp hs hj (by omega) (by decide) (MP_ag hag hM)) dX8_isSaid_44 okX8_isSo lkX8_174 mh_obj rfl rfl rfl (Nat.le_of_ble_eq_true rfl) (by omega) rfl (fun rv hx hq => ?_)
      obtain ⟨rfl, I2, A2, rfl, hS2⟩ := hq
      rw [isSoB_ag hag]
      show wp _ _ _ _ _ _ _ _ _ _ [.int (b2 (isSoB A p side 0 j 0))]
      refine wp_if_eq (t := 52) (q := 50) dX8_isSaid_47 (by decide) rfl (fun hc2 => ?_) (fun hc2 => ?_)
      · exact K I2 A2 (hS.tr hS2) (by rw [b2_eq0.mp hc2, Bool.and_false]; decide)
      · refine wp_iconst (v := nI 1) (q := 51) dX8_isSaid_50 (by decide) rfl ?_
        refine wp_zret dX8_isSaid_51 rfl (by first | exact Or.inl rfl | exact Or.inr rfl | exact b2_01 _ | assumption) ?_
        exact ⟨by rw [E, hc, b2_ne0.mp hc2, if_pos (by rfl)]; rfl, _, _, rfl, hS.tr hS2⟩
    · have h2 : twB shape = false := b2_eq0.mp h2
      refine wp_aload_n (i := 0) (q := 14) dX8_isSaid_13 rfl rfl rfl ?_
      refine wp_iload_n (i := 1) (q := 15) dX8_isSaid_14 rfl rfl rfl ?_
      refine wp_iload_n (i := 2) (q := 16) dX8_isSaid_15 rfl rfl rfl ?_
      refine wp_iconst (v := nI 0) (q := 17) dX8_isSaid_16 (by decide) rfl ?_
      refine wp_iload (q := 19) dX8_isSaid_17 rfl rfl ?_
      refine wp_iconst (v := nI 0) (q := 20) dX8_isSaid_19 (by decide) rfl ?_
      refine wp_V (μ' := mX8_isSo) (ci := 8) (q := 23) (tX8_isSo (d := d - 1) (j := 0) (by omega) hp hs hi (by omega) (by decide) hM) dX8_isSaid_20 okX8_isSo lkX8_174 mh_obj rfl rfl rfl (Nat.le_of_ble_eq_true rfl) (by omega) rfl (fun rv hx hq => ?_)
      obtain ⟨rfl, I1, A1, rfl, hS⟩ := hq
      show wp _ _ _ _ _ _ _ _ _ _ [.int (b2 (isSoB A p side 0 i 0))]
      refine wp_zret dX8_isSaid_23 rfl (by first | exact Or.inl rfl | exact Or.inr rfl | exact b2_01 _ | assumption) ?_
      exact ⟨by unfold sdB; rw [if_neg h0, if_pos h2], _, _, rfl, hS⟩
  · have h0 : shape = 0 := (nI_eq (by omega) (by decide)).mp h0
    refine wp_iconst (v := nI 0) (q := 5) dX8_isSaid_4 (by decide) rfl ?_
    refine wp_zret dX8_isSaid_5 rfl (by first | exact Or.inl rfl | exact Or.inr rfl | exact b2_01 _ | assumption) ?_
    exact ⟨by unfold sdB; rw [if_pos h0]; rfl, _, _, rfl, SC.rf⟩
theorem tX8_findGuesses {tA : Bool} (hd : 5 ≤ d) (hp : p < 6) (hs : side < 3) (hM : MP A p) : mt l mX8_findGuesses d 0 0 [.ref b, .int (nI p), .int (nI side), .int (b2 tA)] (sz, mh b I L A B g) (fun rv h' => rv = none ∧ ∃ I' A', h' = (sz, mh b I' L A' B g) ∧ SC [7, 9] [7, 8] I A I' A' ∧ I' 9 = nI (gl A p side tA).length ∧ fwc (A' 8) (gl A p side tA)) := by
  have hM2 := hM
  obtain ⟨m1, m2, m3, m4, m5, m6⟩ := hM2
  have hlen : (rs A p side).length ≤ 40 := by
    have h9 : (rs A p side).length ≤ (List.range' 0 (nA A p - 0)).length := List.length_filter_le _ _
    rw [List.length_range'] at h9
    omega
  refine mt_in (lv := [_, _, _, _, _, _, _]) (by decide) (Nat.le_of_ble_eq_true rfl) rfl ?_
  refine wp_aload_n (i := 0) (q := 1) dX8_findGuesses_0 rfl rfl rfl ?_
  refine wp_iconst (v := nI 0) (q := 2) dX8_findGuesses_1 (by decide) rfl ?_
  refine wm_putI (k := 9) (q := 5) dX8_findGuesses_2 ffX8_181 rfl rfl ?_ -- told
  refine wp_aload_n (i := 0) (q := 6) dX8_findGuesses_5 rfl rfl rfl ?_
  refine wp_iload_n (i := 1) (q := 7) dX8_findGuesses_6 rfl rfl rfl ?_
  refine wp_iload_n (i := 2) (q := 8) dX8_findGuesses_7 rfl rfl rfl ?_
  have hM0 : MP A p := hM
  refine wp_Vi (μ' := mX8_triedOf) (ci := 8) (q := 11) (tX8_triedOf (d := d - 1) (by omega) hp hs hM) dX8_findGuesses_8 okX8_triedOf lkX8_134 mh_obj rfl rfl rfl (Nat.le_of_ble_eq_true rfl) (by omega) rfl ?_
  refine wp_if_ne (t := 15) (q := 14) dX8_findGuesses_11 (by decide) rfl (fun ht => ?_) (fun ht => ?_)
  · have ht : ¬ (rs A p side).length = 0 := fun q => ht (by rw [q]; rfl)
    have hgl : gl A p side tA = gF A p side tA (L1 (kA A p) 0) := by unfold gl; rw [if_neg ht]
    rw [hgl]
    have hjl : ∀ sh, jlG (kA A p) sh ≤ 4 := by intro sh; unfold jlG; split <;> omega
    have P18 : ∀ n sh, sh + n = 10 → ∀ (I1 : Nat → Int32) (A1 : Nat → Nat → Int32) (acc : List Nat) (j5 j6 : Option Value), SC [7, 9] [7, 8] I A I1 A1 → I1 9 = nI acc.length → fwc (A1 8) acc → acc.length + (L1 (kA A p) sh).length ≤ 88 → acc ++ gF A p side tA (L1 (kA A p) sh) = gF A p side tA (L1 (kA A p) 0) → wp l mX8_findGuesses [] d 0 0 (fun rv h' => rv = none ∧ ∃ I' A', h' = (sz, mh b I' L A' B g) ∧ SC [7, 9] [7, 8] I A I' A' ∧ I' 9 = nI (gF A p side tA (L1 (kA A p) 0)).length ∧ fwc (A' 8) (gF A p side tA (L1 (kA A p) 0))) (sz, mh b I1 L A1 B g) 18 [some (.ref b), some (.int (nI p)), some (.int (nI side)), some (.int (b2 tA)), some (.int (nI sh)), j5, j6] [] := by
      intro n
      induction n with
      | zero =>
        intro sh hn I1 A1 acc j5 j6 hS h9 hf hl he
        refine wp_iload (q := 20) dX8_findGuesses_18 rfl rfl ?_
        refine wp_bipush (v := nI 10) (q := 22) dX8_findGuesses_20 (by decide) rfl ?_
        refine wp_icmp_ge (t := 162) (q := 25) dX8_findGuesses_22 (by decide) rfl (fun hc => ?_) (fun hc => ?_)
        · refine wp_vret dX8_findGuesses_162 rfl ?_
          rw [L1_end (by omega)] at he
          have : acc = gF A p side tA (L1 (kA A p) 0) := by rw [← he]; simp [gF]
          subst this
          exact ⟨rfl, I1, A1, rfl, hS, h9, hf⟩
        · exact absurd ((nI_leI (by omega) (by omega)).mpr (by omega)) hc
      | succ n ih18 =>
        intro sh hn I1 A1 acc j5 j6 hS h9 hf hl he
        refine wp_iload (q := 20) dX8_findGuesses_18 rfl rfl ?_
        refine wp_bipush (v := nI 10) (q := 22) dX8_findGuesses_20 (by decide) rfl ?_
        refine wp_icmp_ge (t := 162) (q := 25) dX8_findGuesses_22 (by decide) rfl (fun hc => ?_) (fun hc => ?_)
        · exact absurd ((nI_leI (by omega) (by omega)).mp hc) (by omega)
        have P28 : ∀ n i, i + n = kA A p → ∀ (I1 : Nat → Int32) (A1 : Nat → Nat → Int32) (acc : List Nat) (j6 : Option Value), SC [7, 9] [7, 8] I A I1 A1 → I1 9 = nI acc.length → fwc (A1 8) acc → acc.length + (L2 (kA A p) sh i ++ L1 (kA A p) (sh + 1)).length ≤ 88 → acc ++ gF A p side tA (L2 (kA A p) sh i ++ L1 (kA A p) (sh + 1)) = gF A p side tA (L1 (kA A p) 0) → wp l mX8_findGuesses [] d 0 0 (fun rv h' => rv = none ∧ ∃ I' A', h' = (sz, mh b I' L A' B g) ∧ SC [7, 9] [7, 8] I A I' A' ∧ I' 9 = nI (gF A p side tA (L1 (kA A p) 0)).length ∧ fwc (A' 8) (gF A p side tA (L1 (kA A p) 0))) (sz, mh b I1 L A1 B g) 28 [some (.ref b), some (.int (nI p)), some (.int (nI side)), some (.int (b2 tA)), some (.int (nI sh)), some (.int (nI i)), j6] [] := by
          intro n
          induction n with
          | zero =>
            intro i hi I1 A1 acc j6 hS h9 hf hl he
            have hag := ag_of hS (by decide)
            refine wp_iload (q := 30) dX8_findGuesses_28 rfl rfl ?_
            refine wp_aload_n (i := 0) (q := 31) dX8_findGuesses_30 rfl rfl rfl ?_
            refine wm_getA (k := 1) (o := 1) (q := 34) dX8_findGuesses_31 ffX8_7 rfl rfl rfl ?_ -- size
            refine wp_iload_n (i := 1) (q := 35) dX8_findGuesses_34 rfl rfl rfl ?_
            refine wm_ialdN (q := 36) dX8_findGuesses_35 ⟨by decide, by decide, rfl⟩ rfl (by simp only [mlen]; omega) (by decide) rfl ?_
            rw [hag.1, m1]
            refine wp_icmp_ge (t := 156) (q := 39) dX8_findGuesses_36 (by decide) rfl (fun hc => ?_) (fun hc => ?_)
            · refine wp_iinc (v := _ + nI 1) (lv' := [_, _, _, some _, _, _, _]) (q := 159) dX8_findGuesses_156 rfl rfl (by decide) rfl rfl ?_
              refine wp_goto (q := 18) dX8_findGuesses_159 (by decide) ?_
              rw [nI_add]
              rw [L2_end (by omega), List.nil_append] at hl he
              exact ih18 (sh + 1) (by omega) I1 A1 acc _ _ hS h9 hf hl he
            · exact absurd ((nI_leI (by omega) (by omega)).mpr (by omega)) hc
          | succ n ih28 =>
            intro i hi I1 A1 acc j6 hS h9 hf hl he
            have hag := ag_of hS (by decide)
            refine wp_iload (q := 30) dX8_findGuesses_28 rfl rfl ?_
            refine wp_aload_n (i := 0) (q := 31) dX8_findGuesses_30 rfl rfl rfl ?_
            refine wm_getA (k := 1) (o := 1) (q := 34) dX8_findGuesses_31 ffX8_7 rfl rfl rfl ?_ -- size
            refine wp_iload_n (i := 1) (q := 35) dX8_findGuesses_34 rfl rfl rfl ?_
            refine wm_ialdN (q := 36) dX8_findGuesses_35 ⟨by decide, by decide, rfl⟩ rfl (by simp only [mlen]; omega) (by decide) rfl ?_
            rw [hag.1, m1]
            refine wp_icmp_ge (t := 156) (q := 39) dX8_findGuesses_36 (by decide) rfl (fun hc => ?_) (fun hc => ?_)
            · exact absurd ((nI_leI (by omega) (by omega)).mp hc) (by omega)
            have P42 : ∀ n j, j + n = jlG (kA A p) sh → ∀ (I1 : Nat → Int32) (A1 : Nat → Nat → Int32) (acc : List Nat), SC [7, 9] [7, 8] I A I1 A1 → I1 9 = nI acc.length → fwc (A1 8) acc → acc.length + (L3 (kA A p) sh i j ++ (L2 (kA A p) sh (i + 1) ++ L1 (kA A p) (sh + 1))).length ≤ 88 → acc ++ gF A p side tA (L3 (kA A p) sh i j ++ (L2 (kA A p) sh (i + 1) ++ L1 (kA A p) (sh + 1))) = gF A p side tA (L1 (kA A p) 0) → wp l mX8_findGuesses [] d 0 0 (fun rv h' => rv = none ∧ ∃ I' A', h' = (sz, mh b I' L A' B g) ∧ SC [7, 9] [7, 8] I A I' A' ∧ I' 9 = nI (gF A p side tA (L1 (kA A p) 0)).length ∧ fwc (A' 8) (gF A p side tA (L1 (kA A p) 0))) (sz, mh b I1 L A1 B g) 42 [some (.ref b), some (.int (nI p)), some (.int (nI side)), some (.int (b2 tA)), some (.int (nI sh)), some (.int (nI i)), some (.int (nI j))] [] := by
              intro n
              induction n with
              | zero =>
                intro j hj I1 A1 acc hS h9 hf hl he
                have hag := ag_of hS (by decide)
                have Q62 : wp l mX8_findGuesses [] d 0 0 (fun rv h' => rv = none ∧ ∃ I' A', h' = (sz, mh b I' L A' B g) ∧ SC [7, 9] [7, 8] I A I' A' ∧ I' 9 = nI (gF A p side tA (L1 (kA A p) 0)).length ∧ fwc (A' 8) (gF A p side tA (L1 (kA A p) 0))) (sz, mh b I1 L A1 B g) 62 [some (.ref b), some (.int (nI p)), some (.int (nI side)), some (.int (b2 tA)), some (.int (nI sh)), some (.int (nI i)), some (.int (nI j))] [.int (nI (jlG (kA A p) sh)), .int (nI j)] := by
                  have := hjl sh
                  refine wp_icmp_ge (t := 150) (q := 65) dX8_findGuesses_62 (by decide) rfl (fun hc => ?_) (fun hc => ?_)
                  · refine wp_iinc (v := _ + nI 1) (lv' := [_, _, _, _, some _, _, _]) (q := 153) dX8_findGuesses_150 rfl rfl (by decide) rfl rfl ?_
                    refine wp_goto (q := 28) dX8_findGuesses_153 (by decide) ?_
                    rw [nI_add]
                    rw [L3_end (by omega), List.nil_append] at hl he
                    exact ih28 (i + 1) (by omega) I1 A1 acc _ hS h9 hf hl he
                  · exact absurd ((nI_leI (by omega) (by omega)).mpr (by omega)) hc
                refine wp_iload (q := 44) dX8_findGuesses_42 rfl rfl ?_
                refine wp_iload (q := 46) dX8_findGuesses_44 rfl rfl ?_
                refine wp_Si (μ' := mX8_isOfTwo) (q := 49) (tX8_isOfTwo (d := d - 1) (by omega)) dX8_findGuesses_46 okX8_isOfTwo lkX8_168 rfl rfl (Nat.le_of_ble_eq_true rfl) (by omega) rfl ?_
                rw [inB_nI (by decide) (by decide) (by omega)]
                refine wp_if_eq (t := 61) (q := 52) dX8_findGuesses_49 (by decide) rfl (fun h2 => ?_) (fun h2 => ?_)
                · rw [show jlG (kA A p) sh = 1 by unfold jlG; rw [if_neg (by rw [show twB sh = false from b2_eq0.mp h2]; decide)]] at Q62
                  refine wp_iconst (v := nI 1) (q := 62) dX8_findGuesses_61 (by decide) rfl ?_
                  exact Q62
                · rw [show jlG (kA A p) sh = kA A p by unfold jlG; rw [if_pos (show twB sh = true from b2_ne0.mp h2)]] at Q62
                  refine wp_aload_n (i := 0) (q := 53) dX8_findGuesses_52 rfl rfl rfl ?_
                  refine wm_getA (k := 1) (o := 1) (q := 56) dX8_findGuesses_53 ffX8_7 rfl rfl rfl ?_ -- size
                  refine wp_iload_n (i := 1) (q := 57) dX8_findGuesses_56 rfl rfl rfl ?_
                  refine wm_ialdN (q := 58) dX8_findGuesses_57 ⟨by decide, by decide, rfl⟩ rfl (by simp only [mlen]; omega) (by decide) rfl ?_
                  refine wp_goto (q := 62) dX8_findGuesses_58 (by decide) ?_
                  rw [hag.1, m1]
                  exact Q62
              | succ n ih42 =>
                intro j hj I1 A1 acc hS h9 hf hl he
                have hag := ag_of hS (by decide)
                have hM1 := MP_ag hag hM
                have h4 := hjl sh
                rw [L3_step (by omega), List.cons_append] at hl he
                have nxt : ∀ (I1 : Nat → Int32) (A1 : Nat → Nat → Int32), SC [7, 9] [7, 8] I A I1 A1 → I1 9 = nI acc.length → fwc (A1 8) acc → okG A p side tA (sh, i, j) = false → wp l mX8_findGuesses [] d 0 0 (fun rv h' => rv = none ∧ ∃ I' A', h' = (sz, mh b I' L A' B g) ∧ SC [7, 9] [7, 8] I A I' A' ∧ I' 9 = nI (gF A p side tA (L1 (kA A p) 0)).length ∧ fwc (A' 8) (gF A p side tA (L1 (kA A p) 0))) (sz, mh b I1 L A1 B g) 144 [some (.ref b), some (.int (nI p)), some (.int (nI side)), some (.int (b2 tA)), some (.int (nI sh)), some (.int (nI i)), some (.int (nI j))] [] := by
                  intro I1 A1 hS h9 hf hk
                  refine wp_iinc (v := _ + nI 1) (lv' := [_, _, _, _, _, some _, _]) (q := 147) dX8_findGuesses_144 rfl rfl (by decide) rfl rfl ?_
                  refine wp_goto (q := 42) dX8_findGuesses_147 (by decide) ?_
                  rw [nI_add]
                  refine ih42 (j + 1) (by omega) I1 A1 acc hS h9 hf (by simp at hl ⊢; omega) ?_
                  rw [← he]
                  unfold gF
                  rw [List.filter_cons, if_neg (by rw [hk]; decide)]
                have Q62 : wp l mX8_findGuesses [] d 0 0 (fun rv h' => rv = none ∧ ∃ I' A', h' = (sz, mh b I' L A' B g) ∧ SC [7, 9] [7, 8] I A I' A' ∧ I' 9 = nI (gF A p side tA (L1 (kA A p) 0)).length ∧ fwc (A' 8) (gF A p side tA (L1 (kA A p) 0))) (sz, mh b I1 L A1 B g) 62 [some (.ref b), some (.int (nI p)), some (.int (nI side)), some (.int (b2 tA)), some (.int (nI sh)), some (.int (nI i)), some (.int (nI j))] [.int (nI (jlG (kA A p) sh)), .int (nI j)] := by
                  refine wp_icmp_ge (t := 150) (q := 65) dX8_findGuesses_62 (by decide) rfl (fun hc => ?_) (fun hc => ?_)
                  · exact absurd ((nI_leI (by omega) (by omega)).mp hc) (by omega)
                  refine wp_iload (q := 67) dX8_findGuesses_65 rfl rfl ?_
                  refine wp_iload (q := 69) dX8_findGuesses_67 rfl rfl ?_
                  refine wp_iload (q := 71) dX8_findGuesses_69 rfl rfl ?_
                  refine wp_Si (μ' := mX8_hasSuch) (q := 74) (tX8_hasSuch (d := d - 1) (by omega)) dX8_findGuesses_71 okX8_hasSuch lkX8_171 rfl rfl (Nat.le_of_ble_eq_true rfl) (by omega) rfl ?_
                  rw [hsB_nI (by omega) (by omega) (by omega)]
                  refine wp_if_eq (t := 144) (q := 77) dX8_findGuesses_74 (by decide) rfl (fun hh => ?_) (fun hh => ?_)
                  · exact nxt I1 A1 hS h9 hf (by unfold okG; rw [show hsN sh i j = false from b2_eq0.mp hh]; rfl)
                  have hh := b2_ne0.mp hh
                  refine wp_aload_n (i := 0) (q := 78) dX8_findGuesses_77 rfl rfl rfl ?_
                  refine wp_iload_n (i := 1) (q := 79) dX8_findGuesses_78 rfl rfl rfl ?_
                  refine wp_iload_n (i := 2) (q := 80) dX8_findGuesses_79 rfl rfl rfl ?_
                  refine wp_iload (q := 82) dX8_findGuesses_80 rfl rfl ?_
                  refine wp_iload (q := 84) dX8_findGuesses_82 rfl rfl ?_
                  refine wp_iload (q := 86) dX8_findGuesses_84 rfl rfl ?_
                  refine wp_V (μ' := mX8_isSo) (ci := 8) (q := 89) (tX8_isSo (d := d - 1) (j := j) (by omega) hp hs (by omega) (fun _ _ => ⟨rfl, by omega⟩) (by omega) hM1) dX8_findGuesses_86 okX8_isSo lkX8_174 mh_obj rfl rfl rfl (Nat.le_of_ble_eq_true rfl) (by omega) rfl (fun rv hx hq => ?_)
                  obtain ⟨rfl, I2, A2, rfl, hS2⟩ := hq
                  rw [isSoB_ag hag]
                  have h92 : I2 9 = nI acc.length := (hS2.1 9 (by decide)).trans h9
                  have hf2 : fwc (A2 8) acc := by rw [hS2.2 8 (by decide)]; exact hf
                  have hS2 : SC [7, 9] [7, 8] I A I2 A2 := hS.tr (hS2.mo (by decide) (by decide))
                  show wp _ _ _ _ _ _ _ _ _ _ [.int (b2 (isSoB A p side sh i j))]
                  refine wp_if_eq (t := 144) (q := 92) dX8_findGuesses_89 (by decide) rfl (fun hso => ?_) (fun hso => ?_)
                  · exact nxt I2 A2 hS2 h92 hf2 (by unfold okG; rw [show isSoB A p side sh i j = false from b2_eq0.mp hso, Bool.and_false]; rfl)
                  have hso := b2_ne0.mp hso
                  have K111 : ∀ (I3 : Nat → Int32) (A3 : Nat → Nat → Int32), SC [7, 9] [7, 8] I A I3 A3 → I3 9 = nI acc.length → fwc (A3 8) acc → okG A p side tA (sh, i, j) = true → wp l mX8_findGuesses [] d 0 0 (fun rv h' => rv = none ∧ ∃ I' A', h' = (sz, mh b I' L A' B g) ∧ SC [7, 9] [7, 8] I A I' A' ∧ I' 9 = nI (gF A p side tA (L1 (kA A p) 0)).length ∧ fwc (A' 8) (gF A p side tA (L1 (kA A p) 0))) (sz, mh b I3 L A3 B g) 111 [some (.ref b), some (.int (nI p)), some (.int (nI side)), some (.int (b2 tA)), some (.int (nI sh)), some (.int (nI i)), some (.int (nI j))] [] := by
                    intro I3 A3 hS3 h93 hf3 hk
                    have hacc : acc.length < 88 := by simp at hl; omega
                    refine wp_aload_n (i := 0) (q := 112) dX8_findGuesses_111 rfl rfl rfl ?_
                    refine wm_getA (k := 10) (o := 8) (q := 115) dX8_findGuesses_112 ffX8_32 rfl rfl rfl ?_ -- code
                    refine wp_aload_n (i := 0) (q := 116) dX8_findGuesses_115 rfl rfl rfl ?_
                    refine wm_getI (k := 9) (q := 119) dX8_findGuesses_116 ffX8_181 rfl rfl ?_ -- told
                    refine wp_bipush (v := nI 100) (q := 121) dX8_findGuesses_119 (by decide) rfl ?_
                    refine wp_iload (q := 123) dX8_findGuesses_121 rfl rfl ?_
                    refine wp_imul (q := 124) dX8_findGuesses_123 rfl ?_
                    refine wp_bipush (v := nI 10) (q := 126) dX8_findGuesses_124 (by decide) rfl ?_
                    refine wp_iload (q := 128) dX8_findGuesses_126 rfl rfl ?_
                    refine wp_imul (q := 129) dX8_findGuesses_128 rfl ?_
                    refine wp_iadd (q := 130) dX8_findGuesses_129 rfl ?_
                    refine wp_iload (q := 132) dX8_findGuesses_130 rfl rfl ?_
                    refine wp_iadd (q := 133) dX8_findGuesses_132 rfl ?_
                    rw [h93, pk_mul, pk_mul, nI_add, nI_add]
                    refine wm_iastN (q := 134) dX8_findGuesses_133 ⟨by decide, by decide, rfl⟩ rfl (by simp only [mlen]; omega) (by decide) rfl ?_
                    refine wp_aload_n (i := 0) (q := 135) dX8_findGuesses_134 rfl rfl rfl ?_
                    refine wp_dup (q := 136) dX8_findGuesses_135 rfl rfl ?_
                    refine wm_getI (k := 9) (q := 139) dX8_findGuesses_136 ffX8_181 rfl rfl ?_ -- told
                    refine wp_iconst (v := nI 1) (q := 140) dX8_findGuesses_139 (by decide) rfl ?_
                    refine wp_iadd (q := 141) dX8_findGuesses_140 rfl ?_
                    refine wm_putI (k := 9) (q := 144) dX8_findGuesses_141 ffX8_181 rfl rfl ?_ -- told
                    refine wp_iinc (v := _ + nI 1) (lv' := [_, _, _, _, _, some _, _]) (q := 147) dX8_findGuesses_144 rfl rfl (by decide) rfl rfl ?_
                    refine wp_goto (q := 42) dX8_findGuesses_147 (by decide) ?_
                    rw [h93, nI_add, nI_add]
                    refine ih42 (j + 1) (by omega) _ _ (acc ++ [100 * sh + 10 * i + j]) (hS3.tr ((SC.u2 (by decide)).tr (SC.uI (by decide)))) (by simp [upd]) ?_ (by simp at hl ⊢; omega) ?_
                    · rw [up2_row]
                      exact fwc_app hf3
                    · rw [← he]
                      unfold gF
                      rw [List.filter_cons, if_pos hk, List.map_cons, List.append_assoc]
                      rfl
                  refine wp_iload_n (i := 3) (q := 93) dX8_findGuesses_92 rfl rfl rfl ?_
                  refine wp_if_eq (t := 111) (q := 96) dX8_findGuesses_93 (by decide) rfl (fun hta => ?_) (fun hta => ?_)
                  · exact K111 I2 A2 hS2 h92 hf2 (by unfold okG; rw [hh, hso, b2_eq0.mp hta]; rfl)
                  have hta := b2_ne0.mp hta
                  refine wp_aload_n (i := 0) (q := 97) dX8_findGuesses_96 rfl rfl rfl ?_
                  refine wp_iload_n (i := 1) (q := 98) dX8_findGuesses_97 rfl rfl rfl ?_
                  refine wp_iload_n (i := 2) (q := 99) dX8_findGuesses_98 rfl rfl rfl ?_
                  refine wp_iload (q := 101) dX8_findGuesses_99 rfl rfl ?_
                  refine wp_iload (q := 103) dX8_findGuesses_101 rfl rfl ?_
                  refine wp_iload (q := 105) dX8_findGuesses_103 rfl rfl ?_
                  have hag2 := ag_of hS2 (by decide)
                  refine wp_V (μ' := mX8_isSaid) (ci := 8) (q := 108) (tX8_isSaid (d := d - 1) (by omega) hp hs (by omega) (by omega) (by omega) (MP_ag hag2 hM)) dX8_findGuesses_105 okX8_isSaid lkX8_184 mh_obj rfl rfl rfl (Nat.le_of_ble_eq_true rfl) (by omega) rfl (fun rv hx hq => ?_)
                  obtain ⟨rfl, I3, A3, rfl, hS3⟩ := hq
                  rw [sdB_ag hag2]
                  show wp _ _ _ _ _ _ _ _ _ _ [.int (b2 (sdB A p side sh i j))]
                  have h93 : I3 9 = nI acc.length := (hS3.1 9 (by decide)).trans h92
                  have hf3 : fwc (A3 8) acc := by rw [hS3.2 8 (by decide)]; exact hf2
                  have hS3 : SC [7, 9] [7, 8] I A I3 A3 := hS2.tr (hS3.mo (by decide) (by decide))
                  refine wp_if_ne (t := 144) (q := 111) dX8_findGuesses_108 (by decide) rfl (fun hsd => ?_) (fun hsd => ?_)
                  · exact nxt I3 A3 hS3 h93 hf3 (by unfold okG; rw [hta, show sdB A p side sh i j = true from b2_ne0.mp hsd, Bool.true_and, Bool.not_true, Bool.and_false])
                  · exact K111 I3 A3 hS3 h93 hf3 (by unfold okG; rw [hh, hso, show sdB A p side sh i j = false from b2_eq0.mp hsd, Bool.and_false]; rfl)
                refine wp_iload (q := 44) dX8_findGuesses_42 rfl rfl ?_
                refine wp_iload (q := 46) dX8_findGuesses_44 rfl rfl ?_
                refine wp_Si (μ' := mX8_isOfTwo) (q := 49) (tX8_isOfTwo (d := d - 1) (by omega)) dX8_findGuesses_46 okX8_isOfTwo lkX8_168 rfl rfl (Nat.le_of_ble_eq_true rfl) (by omega) rfl ?_
                rw [inB_nI (by decide) (by decide) (by omega)]
                refine wp_if_eq (t := 61) (q := 52) dX8_findGuesses_49 (by decide) rfl (fun h2 => ?_) (fun h2 => ?_)
                · rw [show jlG (kA A p) sh = 1 by unfold jlG; rw [if_neg (by rw [show twB sh = false from b2_eq0.mp h2]; decide)]] at Q62
                  refine wp_iconst (v := nI 1) (q := 62) dX8_findGuesses_61 (by decide) rfl ?_
                  exact Q62
                · rw [show jlG (kA A p) sh = kA A p by unfold jlG; rw [if_pos (show twB sh = true from b2_ne0.mp h2)]] at Q62
                  refine wp_aload_n (i := 0) (q := 53) dX8_findGuesses_52 rfl rfl rfl ?_
                  refine wm_getA (k := 1) (o := 1) (q := 56) dX8_findGuesses_53 ffX8_7 rfl rfl rfl ?_ -- size
                  refine wp_iload_n (i := 1) (q := 57) dX8_findGuesses_56 rfl rfl rfl ?_
                  refine wm_ialdN (q := 58) dX8_findGuesses_57 ⟨by decide, by decide, rfl⟩ rfl (by simp only [mlen]; omega) (by decide) rfl ?_
                  refine wp_goto (q := 62) dX8_findGuesses_58 (by decide) ?_
                  rw [hag.1, m1]
                  exact Q62
            refine wp_iconst (v := nI 0) (q := 40) dX8_findGuesses_39 (by decide) rfl ?_
            refine wp_istore (lv' := [_, _, _, _, _, some _, _]) (q := 42) dX8_findGuesses_40 (by decide) rfl rfl ?_
            rw [L2_step (by omega), List.append_assoc] at hl he
            exact P42 _ 0 (Nat.zero_add _) I1 A1 acc hS h9 hf hl he
        refine wp_iconst (v := nI 0) (q := 26) dX8_findGuesses_25 (by decide) rfl ?_
        refine wp_istore (lv' := [_, _, _, _, some _, _, _]) (q := 28) dX8_findGuesses_26 (by decide) rfl rfl ?_
        rw [L1_step (by omega)] at hl he
        exact P28 _ 0 (Nat.zero_add _) I1 A1 acc _ hS h9 hf hl he
    refine wp_iconst (v := nI 0) (q := 16) dX8_findGuesses_15 (by decide) rfl ?_
    refine wp_istore (lv' := [_, _, _, some _, _, _, _]) (q := 18) dX8_findGuesses_16 (by decide) rfl rfl ?_
    exact P18 10 0 (by omega) _ _ [] _ _ (SC.uI (by decide)) (by simp [upd]) (fun j c h => by simp at h) (by have := L1_len m2; simp; omega) (by simp)
  · have ht : (rs A p side).length = 0 := (nI_eq (by omega) (by decide)).mp ht
    refine wp_vret dX8_findGuesses_14 rfl ?_
    have hgl : gl A p side tA = [] := by unfold gl; rw [if_pos ht]
    rw [hgl]
    exact ⟨rfl, _, _, rfl, SC.uI (by decide), by simp [upd], fun j c h => by simp at h⟩
end M6
