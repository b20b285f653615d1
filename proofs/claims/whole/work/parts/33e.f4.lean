/-! THE CLASS: Facts, the list of guesses -/
def gset (G : Nat → Option aE) (w : Nat) (e : aE) : Nat → Option aE := fun a => if a = w then some e else G a
theorem gset_at {G : Nat → Option aE} {w : Nat} {e : aE} : gset G w e w = some e := if_pos rfl
theorem gset_ne {G : Nat → Option aE} {w a : Nat} {e : aE} (h : a ≠ w) : gset G w e a = G a := if_neg h
theorem gset_gset {G : Nat → Option aE} {w : Nat} {e e' : aE} : gset (gset G w e) w e' = gset G w e' := by
  funext a
  unfold gset
  by_cases h : a = w
  · rw [if_pos h, if_pos h]
  · rw [if_neg h, if_neg h, if_neg h]
theorem gset_self {G : Nat → Option aE} {w : Nat} {e : aE} (h : G w = some e) : gset G w e = G := by
  funext a
  unfold gset
  by_cases e1 : a = w
  · rw [if_pos e1, e1, h]
  · rw [if_neg e1]
theorem ov_g {q n sz w : Nat} {c : Nat → aE} {G : Nat → Option aE} {e : aE} (h : w < q ∨ q + n ≤ w) : hset (sz, ov q n c G) w e = (sz, ov q n c (gset G w e)) := by
  unfold hset gset
  congr 1
  funext a
  unfold ov
  by_cases e1 : a = w
  · rw [if_pos e1, if_neg (by omega)]
    exact (if_pos e1).symm
  · rw [if_neg e1]
    show (if q ≤ a ∧ a < q + n then some (c (a - q)) else G a) = _
    by_cases e2 : q ≤ a ∧ a < q + n
    · rw [if_pos e2, if_pos e2]
    · rw [if_neg e2, if_neg e2]
      exact (if_neg e1).symm
def C3 (k s i j : Nat) : List (Nat × Nat × Nat) := (List.range' j (k - j)).map (fun j => (s, i, j))
def C2 (k s i : Nat) : List (Nat × Nat × Nat) := (List.range' i (k - i)).flatMap (fun i => C3 k s i 0)
def C1 (k s : Nat) : List (Nat × Nat × Nat) := (List.range' s (10 - s)).flatMap (fun s => C2 k s 0)
theorem C3_end {k s i j : Nat} (h : k ≤ j) : C3 k s i j = [] := by
  unfold C3
  rw [show k - j = 0 by omega]
  rfl
theorem C3_step {k s i j : Nat} (h : j < k) : C3 k s i j = (s, i, j) :: C3 k s i (j + 1) := by
  unfold C3
  rw [show k - j = (k - (j + 1)) + 1 by omega, List.range'_succ]
  rfl
theorem C2_end {k s i : Nat} (h : k ≤ i) : C2 k s i = [] := by
  unfold C2
  rw [show k - i = 0 by omega]
  rfl
theorem C2_step {k s i : Nat} (h : i < k) : C2 k s i = C3 k s i 0 ++ C2 k s (i + 1) := by
  unfold C2
  rw [show k - i = (k - (i + 1)) + 1 by omega, List.range'_succ, List.flatMap_cons]
theorem C1_end {k s : Nat} (h : 10 ≤ s) : C1 k s = [] := by
  unfold C1
  rw [show 10 - s = 0 by omega]
  rfl
theorem C1_step {k s : Nat} (h : s < 10) : C1 k s = C2 k s 0 ++ C1 k (s + 1) := by
  unfold C1
  rw [show 10 - s = (10 - (s + 1)) + 1 by omega, List.range'_succ, List.flatMap_cons]
def isGN (s i j : Nat) : Bool := if s = 5 ∨ s = 8 then decide (i < j) else if s = 6 ∨ s = 7 then !decide (i = j) else decide (j = 0)
abbrev isG3 (q : Nat × Nat × Nat) : Bool := isGN q.1 q.2.1 q.2.2
theorem isG_nI {s i j : Nat} (hs : s < 10) (hi : i < 2 ^ 20) (hj : j < 2 ^ 20) : isG (nI s) (nI i) (nI j) = isGN s i j := by
  unfold isG isGN
  have e1 : (nI s = nI 5 ∨ nI s = nI 8) ↔ (s = 5 ∨ s = 8) := by rw [nI_eq (by omega) (by omega), nI_eq (by omega) (by omega)]
  have e2 : (nI s = nI 6 ∨ nI s = nI 7) ↔ (s = 6 ∨ s = 7) := by rw [nI_eq (by omega) (by omega), nI_eq (by omega) (by omega)]
  by_cases h1 : s = 5 ∨ s = 8
  · rw [if_pos (e1.mpr h1), if_pos h1, decide_eq_decide]
    exact nI_ltI (by omega) (by omega)
  · rw [if_neg (fun q => h1 (e1.mp q)), if_neg h1]
    by_cases h2 : s = 6 ∨ s = 7
    · rw [if_pos (e2.mpr h2), if_pos h2, ← decide_not, decide_eq_decide]
      exact not_congr (nI_eq (by omega) (by omega))
    · rw [if_neg (fun q => h2 (e2.mp q)), if_neg h2]
      have a1 : ¬ nI s < 0 := nI_pos (by omega)
      have a2 : ¬ nI 9 < nI s := fun q => absurd ((nI_ltI (by omega) (by omega)).mp q) (by omega)
      rw [decide_eq_true a1, decide_eq_true a2, Bool.true_and, Bool.true_and, decide_eq_decide]
      exact nI_eq (b := 0) (by omega) (by omega)
theorem C1_len {k : Nat} (h : k ≤ 4) : ((C1 k 0).filter isG3).length ≤ 60 := by
  rcases (show k = 0 ∨ k = 1 ∨ k = 2 ∨ k = 3 ∨ k = 4 by omega) with rfl | rfl | rfl | rfl | rfl <;> decide
def okC (c : Nat) (V : Nat → VS) (tA : Bool) (q : Nat × Nat × Nat) : Bool := isG3 q && (if tA = true then tlN c V q.1 q.2.1 q.2.2 else stN c V q.1 q.2.1 q.2.2)
def lsF (c : Nat) (V : Nat → VS) (tA : Bool) (s : List (Nat × Nat × Nat)) : List Nat := (s.filter (okC c V tA)).map cdG
section F4
variable {l : Launch} {d sz q k c : Nat} {T : TS} {V : Nat → VS} {G : Nat → Option aE} {h : aH}
theorem fh_g {w : Nat} {e : aE} (h : w < q ∨ q + (3 * k + 17) ≤ w) : hset (sz, fh q k (c, T, V) G) w e = (sz, fh q k (c, T, V) (gset G w e)) := ov_g h
theorem tX1_list {w mm : Nat} {f0 : Nat → Int32} {tA : Bool} (hd : 3 ≤ d) (hk1 : 1 ≤ k) (hk : k ≤ 4) (hc : c < 2 ^ 20) (hu : ∀ i, i < k → vUn (V i) < 2 ^ 20 ∧ vMo (V i) < 2 ^ 20) (hw : G w = some (iA mm f0)) (hwo : w < q ∨ q + (3 * k + 17) ≤ w) (hm : 60 ≤ mm) (hm2 : mm < 2 ^ 30) : mt l mX1_list d 0 0 [.ref q, .int (b2 tA), .ref w] (sz, fh q k (c, T, V) G) (fun rv h' => rv = some (.int (nI (lsF c V tA (C1 k 0)).length)) ∧ ∃ f, h' = (sz, fh q k (c, T, V) (gset G w (iA mm f))) ∧ fwc f (lsF c V tA (C1 k 0))) := by
  have P5 : ∀ n s, s + n = 10 → ∀ (f : Nat → Int32) (acc : List Nat) (j5 j6 : Option Value), fwc f acc → acc.length + ((C1 k s).filter isG3).length ≤ 60 → acc ++ lsF c V tA (C1 k s) = lsF c V tA (C1 k 0) → wp l mX1_list [] d 0 0 (fun rv h' => rv = some (.int (nI (lsF c V tA (C1 k 0)).length)) ∧ ∃ f, h' = (sz, fh q k (c, T, V) (gset G w (iA mm f))) ∧ fwc f (lsF c V tA (C1 k 0))) (sz, fh q k (c, T, V) (gset G w (iA mm f))) 5 [some (.ref q), some (.int (b2 tA)), some (.ref w), some (.int (nI acc.length)), some (.int (nI s)), j5, j6] [] := by
    intro n
    induction n with
    | zero =>
      intro s hn f acc j5 j6 hf hl he
      refine wp_iload (q := 7) dX1_list_5 rfl rfl ?_
      refine wp_bipush (v := nI 9) (q := 9) dX1_list_7 (by decide) rfl ?_
      refine wp_icmp_gt (t := 120) (q := 12) dX1_list_9 (by decide) rfl (fun hc1 => ?_) (fun hc1 => ?_)
      · rw [C1_end (by omega)] at he
        have : acc = lsF c V tA (C1 k 0) := by rw [← he]; simp [lsF]
        subst this
        refine wp_iload_n (i := 3) (q := 121) dX1_list_120 rfl rfl rfl ?_
        refine wp_iret dX1_list_121 rfl ?_
        exact ⟨rfl, f, rfl, hf⟩
      · exact absurd ((nI_ltI (by omega) (by omega)).mpr (by omega)) hc1
    | succ n ih5 =>
      intro s hn f acc j5 j6 hf hl he
      refine wp_iload (q := 7) dX1_list_5 rfl rfl ?_
      refine wp_bipush (v := nI 9) (q := 9) dX1_list_7 (by decide) rfl ?_
      refine wp_icmp_gt (t := 120) (q := 12) dX1_list_9 (by decide) rfl (fun hc1 => ?_) (fun hc1 => ?_)
      · exact absurd ((nI_ltI (by omega) (by omega)).mp hc1) (by omega)
      have P15 : ∀ n i, i + n = k → ∀ (f : Nat → Int32) (acc : List Nat) (j6 : Option Value), fwc f acc → acc.length + ((C2 k s i ++ C1 k (s + 1)).filter isG3).length ≤ 60 → acc ++ lsF c V tA (C2 k s i ++ C1 k (s + 1)) = lsF c V tA (C1 k 0) → wp l mX1_list [] d 0 0 (fun rv h' => rv = some (.int (nI (lsF c V tA (C1 k 0)).length)) ∧ ∃ f, h' = (sz, fh q k (c, T, V) (gset G w (iA mm f))) ∧ fwc f (lsF c V tA (C1 k 0))) (sz, fh q k (c, T, V) (gset G w (iA mm f))) 15 [some (.ref q), some (.int (b2 tA)), some (.ref w), some (.int (nI acc.length)), some (.int (nI s)), some (.int (nI i)), j6] [] := by
        intro n
        induction n with
        | zero =>
          intro i hi f acc j6 hf hl he
          refine wp_iload (q := 17) dX1_list_15 rfl rfl ?_
          refine wp_aload_n (i := 0) (q := 18) dX1_list_17 rfl rfl rfl ?_
          refine wg1_0 (q := 21) dX1_list_18 ffX1_9 (by first | exact fh_obj | exact (fh_out (by omega)).trans gset_at | assumption) rfl ?_ -- size
          refine wp_icmp_ge (t := 114) (q := 24) dX1_list_21 (by decide) rfl (fun hc2 => ?_) (fun hc2 => ?_)
          · refine wp_iinc (v := _ + nI 1) (lv' := [_, _, _, some _, _, _, _]) (q := 117) dX1_list_114 rfl rfl (by decide) rfl rfl ?_
            refine wp_goto (q := 5) dX1_list_117 (by decide) ?_
            rw [nI_add]
            rw [C2_end (by omega), List.nil_append] at hl he
            exact ih5 (s + 1) (by omega) f acc _ _ hf hl he
          · exact absurd ((nI_leI (by omega) (by omega)).mpr (by omega)) hc2
        | succ n ih15 =>
          intro i hi f acc j6 hf hl he
          refine wp_iload (q := 17) dX1_list_15 rfl rfl ?_
          refine wp_aload_n (i := 0) (q := 18) dX1_list_17 rfl rfl rfl ?_
          refine wg1_0 (q := 21) dX1_list_18 ffX1_9 (by first | exact fh_obj | exact (fh_out (by omega)).trans gset_at | assumption) rfl ?_ -- size
          refine wp_icmp_ge (t := 114) (q := 24) dX1_list_21 (by decide) rfl (fun hc2 => ?_) (fun hc2 => ?_)
          · exact absurd ((nI_leI (by omega) (by omega)).mp hc2) (by omega)
          have P27 : ∀ n j, j + n = k → ∀ (f : Nat → Int32) (acc : List Nat), fwc f acc → acc.length + ((C3 k s i j ++ (C2 k s (i + 1) ++ C1 k (s + 1))).filter isG3).length ≤ 60 → acc ++ lsF c V tA (C3 k s i j ++ (C2 k s (i + 1) ++ C1 k (s + 1))) = lsF c V tA (C1 k 0) → wp l mX1_list [] d 0 0 (fun rv h' => rv = some (.int (nI (lsF c V tA (C1 k 0)).length)) ∧ ∃ f, h' = (sz, fh q k (c, T, V) (gset G w (iA mm f))) ∧ fwc f (lsF c V tA (C1 k 0))) (sz, fh q k (c, T, V) (gset G w (iA mm f))) 27 [some (.ref q), some (.int (b2 tA)), some (.ref w), some (.int (nI acc.length)), some (.int (nI s)), some (.int (nI i)), some (.int (nI j))] [] := by
            intro n
            induction n with
            | zero =>
              intro j hj f acc hf hl he
              refine wp_iload (q := 29) dX1_list_27 rfl rfl ?_
              refine wp_aload_n (i := 0) (q := 30) dX1_list_29 rfl rfl rfl ?_
              refine wg1_0 (q := 33) dX1_list_30 ffX1_9 (by first | exact fh_obj | exact (fh_out (by omega)).trans gset_at | assumption) rfl ?_ -- size
              refine wp_icmp_ge (t := 108) (q := 36) dX1_list_33 (by decide) rfl (fun hc3 => ?_) (fun hc3 => ?_)
              · refine wp_iinc (v := _ + nI 1) (lv' := [_, _, _, _, some _, _, _]) (q := 111) dX1_list_108 rfl rfl (by decide) rfl rfl ?_
                refine wp_goto (q := 15) dX1_list_111 (by decide) ?_
                rw [nI_add]
                rw [C3_end (by omega), List.nil_append] at hl he
                exact ih15 (i + 1) (by omega) f acc _ hf hl he
              · exact absurd ((nI_leI (by omega) (by omega)).mpr (by omega)) hc3
            | succ n ih27 =>
              intro j hj f acc hf hl he
              rw [C3_step (by omega), List.cons_append] at hl he
              have nxt : okC c V tA (s, i, j) = false → wp l mX1_list [] d 0 0 (fun rv h' => rv = some (.int (nI (lsF c V tA (C1 k 0)).length)) ∧ ∃ f, h' = (sz, fh q k (c, T, V) (gset G w (iA mm f))) ∧ fwc f (lsF c V tA (C1 k 0))) (sz, fh q k (c, T, V) (gset G w (iA mm f))) 102 [some (.ref q), some (.int (b2 tA)), some (.ref w), some (.int (nI acc.length)), some (.int (nI s)), some (.int (nI i)), some (.int (nI j))] [] := by
                intro hno
                refine wp_iinc (v := _ + nI 1) (lv' := [_, _, _, _, _, some _, _]) (q := 105) dX1_list_102 rfl rfl (by decide) rfl rfl ?_
                refine wp_goto (q := 27) dX1_list_105 (by decide) ?_
                rw [nI_add]
                refine ih27 (j + 1) (by omega) f acc hf ?_ ?_
                · rw [List.filter_cons] at hl
                  split at hl
                  · simp only [List.length_cons] at hl; omega
                  · exact hl
                · rw [← he]
                  unfold lsF
                  rw [List.filter_cons, if_neg (by rw [hno]; decide)]
              refine wp_iload (q := 29) dX1_list_27 rfl rfl ?_
              refine wp_aload_n (i := 0) (q := 30) dX1_list_29 rfl rfl rfl ?_
              refine wg1_0 (q := 33) dX1_list_30 ffX1_9 (by first | exact fh_obj | exact (fh_out (by omega)).trans gset_at | assumption) rfl ?_ -- size
              refine wp_icmp_ge (t := 108) (q := 36) dX1_list_33 (by decide) rfl (fun hc3 => ?_) (fun hc3 => ?_)
              · exact absurd ((nI_leI (by omega) (by omega)).mp hc3) (by omega)
              refine wp_iload (q := 38) dX1_list_36 rfl rfl ?_
              refine wp_iload (q := 40) dX1_list_38 rfl rfl ?_
              refine wp_iload (q := 42) dX1_list_40 rfl rfl ?_
              refine wp_SNi (μ' := mX7_isGuess) (q := 45) (tX7_isGuess (d := d - 1)) dX1_list_42 okX7_isGuess lkX1_116 rfl rfl (Nat.le_of_ble_eq_true rfl) (by omega) rfl ?_
              rw [isG_nI (by omega) (by omega) (by omega)]
              refine wp_if_eq (t := 102) (q := 48) dX1_list_45 (by decide) rfl (fun hg => ?_) (fun hg => ?_)
              · exact nxt (by unfold okC; rw [show isG3 (s, i, j) = false from b2_eq0.mp hg, Bool.false_and])
              have hg : isG3 (s, i, j) = true := b2_ne0.mp hg
              rw [List.filter_cons, if_pos hg, List.length_cons] at hl
              refine wp_iload_n (i := 3) (q := 49) dX1_list_48 rfl rfl rfl ?_
              refine wp_aload_n (i := 2) (q := 50) dX1_list_49 rfl rfl rfl ?_
              refine wq_alen (q := 51) dX1_list_50 (by first | exact fh_obj | exact (fh_out (by omega)).trans gset_at | assumption) (by decide) rfl ?_
              refine wp_icmp_ge (t := 102) (q := 54) dX1_list_51 (by decide) rfl (fun hfu => ?_) (fun hfu => ?_)
              · exact absurd ((nI_leI (by omega) (by omega)).mp hfu) (by omega)
              have K87 : okC c V tA (s, i, j) = true → wp l mX1_list [] d 0 0 (fun rv h' => rv = some (.int (nI (lsF c V tA (C1 k 0)).length)) ∧ ∃ f, h' = (sz, fh q k (c, T, V) (gset G w (iA mm f))) ∧ fwc f (lsF c V tA (C1 k 0))) (sz, fh q k (c, T, V) (gset G w (iA mm f))) 87 [some (.ref q), some (.int (b2 tA)), some (.ref w), some (.int (nI acc.length)), some (.int (nI s)), some (.int (nI i)), some (.int (nI j))] [] := by
                intro hok
                refine wp_aload_n (i := 2) (q := 88) dX1_list_87 rfl rfl rfl ?_
                refine wp_iload_n (i := 3) (q := 89) dX1_list_88 rfl rfl rfl ?_
                refine wp_iload (q := 91) dX1_list_89 rfl rfl ?_
                refine wp_iload (q := 93) dX1_list_91 rfl rfl ?_
                refine wp_iload (q := 95) dX1_list_93 rfl rfl ?_
                refine wp_SNi (μ' := mX7_codeOf) (q := 98) (tX7_codeOf (d := d - 1)) dX1_list_95 okX7_codeOf lkX1_126 rfl rfl (Nat.le_of_ble_eq_true rfl) (by omega) rfl ?_
                rw [pk_mul, pk_mul, nI_add, nI_add]
                refine wq_iast (q := 99) dX1_list_98 (by first | exact fh_obj | exact (fh_out (by omega)).trans gset_at | assumption) rfl (by first | omega | exact ⟨by omega, by omega⟩) (by exact fh_g (by omega)) rfl ?_
                refine wp_iinc (v := _ + nI 1) (lv' := [_, _, some _, _, _, _, _]) (q := 102) dX1_list_99 rfl rfl (by decide) rfl rfl ?_
                rw [nI_add, gset_gset]
                refine wp_iinc (v := _ + nI 1) (lv' := [_, _, _, _, _, some _, _]) (q := 105) dX1_list_102 rfl rfl (by decide) rfl rfl ?_
                refine wp_goto (q := 27) dX1_list_105 (by decide) ?_
                rw [nI_add]
                have := ih27 (j + 1) (by omega) (upd f acc.length (nI (100 * s + 10 * i + j))) (acc ++ [100 * s + 10 * i + j]) (fwc_app hf) (by simp only [List.length_append, List.length_singleton]; omega) (by
                  rw [← he]
                  unfold lsF
                  rw [List.filter_cons, if_pos hok, List.map_cons, List.append_assoc]
                  rfl)
                rw [List.length_append, List.length_singleton] at this
                exact this
              refine wp_iload_n (i := 1) (q := 55) dX1_list_54 rfl rfl rfl ?_
              refine wp_if_eq (t := 74) (q := 58) dX1_list_55 (by decide) rfl (fun hta => ?_) (fun hta => ?_)
              · have hta := b2_eq0.mp hta
                refine wp_aload_n (i := 0) (q := 75) dX1_list_74 rfl rfl rfl ?_
                refine wp_iload (q := 77) dX1_list_75 rfl rfl ?_
                refine wp_iload (q := 79) dX1_list_77 rfl rfl ?_
                refine wp_iload (q := 81) dX1_list_79 rfl rfl ?_
                refine wp_Vi (μ' := mX1_stands) (ci := 1) (q := 84) (tX1_stands (d := d - 1) (by omega) (by omega) (by omega) (by omega) (by omega) hc (hu i (by omega)).1 (hu i (by omega)).2) dX1_list_81 okX1_stands lkX1_123 (by first | exact fh_obj | exact (fh_out (by omega)).trans gset_at | assumption) rfl rfl rfl (Nat.le_of_ble_eq_true rfl) (by omega) rfl ?_
                refine wp_if_eq (t := 102) (q := 87) dX1_list_84 (by decide) rfl (fun hso => ?_) (fun hso => ?_)
                · exact nxt (by unfold okC; rw [hta, if_neg (by decide), show stN c V s i j = false from b2_eq0.mp hso, Bool.and_false])
                · exact K87 (by unfold okC; rw [hta, if_neg (by decide), show stN c V s i j = true from b2_ne0.mp hso, hg]; rfl)
              · have hta := b2_ne0.mp hta
                refine wp_aload_n (i := 0) (q := 59) dX1_list_58 rfl rfl rfl ?_
                refine wp_iload (q := 61) dX1_list_59 rfl rfl ?_
                refine wp_iload (q := 63) dX1_list_61 rfl rfl ?_
                refine wp_iload (q := 65) dX1_list_63 rfl rfl ?_
                refine wp_Vi (μ' := mX1_isTold) (ci := 1) (q := 68) (tX1_isTold (d := d - 1) (by omega) (by omega) (by omega) (by omega) (by omega) hc hu) dX1_list_65 okX1_isTold lkX1_120 (by first | exact fh_obj | exact (fh_out (by omega)).trans gset_at | assumption) rfl rfl rfl (Nat.le_of_ble_eq_true rfl) (by omega) rfl ?_
                refine wp_if_eq (t := 102) (q := 71) dX1_list_68 (by decide) rfl (fun hso => ?_) (fun hso => ?_)
                · exact nxt (by unfold okC; rw [hta, if_pos rfl, show tlN c V s i j = false from b2_eq0.mp hso, Bool.and_false])
                · refine wp_goto (q := 87) dX1_list_71 (by decide) ?_
                  exact K87 (by unfold okC; rw [hta, if_pos rfl, show tlN c V s i j = true from b2_ne0.mp hso, hg]; rfl)
          refine wp_iconst (v := nI 0) (q := 25) dX1_list_24 (by decide) rfl ?_
          refine wp_istore (lv' := [_, _, _, _, _, some _, _]) (q := 27) dX1_list_25 (by decide) rfl rfl ?_
          rw [C2_step (by omega), List.append_assoc] at hl he
          exact P27 k 0 (by omega) f acc hf hl he
      refine wp_iconst (v := nI 0) (q := 13) dX1_list_12 (by decide) rfl ?_
      refine wp_istore (lv' := [_, _, _, _, some _, _, _]) (q := 15) dX1_list_13 (by decide) rfl rfl ?_
      rw [C1_step (by omega)] at hl he
      exact P15 k 0 (by omega) f acc _ hf hl he
  refine mt_in (lv := [_, _, _, _, _, _, _]) (by decide) (Nat.le_of_ble_eq_true rfl) rfl ?_
  refine wp_iconst (v := nI 0) (q := 1) dX1_list_0 (by decide) rfl ?_
  refine wp_istore_n (i := 3) (lv' := [_, _, some _, _, _, _, _]) (q := 2) dX1_list_1 rfl (by decide) rfl rfl ?_
  refine wp_iconst (v := nI 0) (q := 3) dX1_list_2 (by decide) rfl ?_
  refine wp_istore (lv' := [_, _, _, some _, _, _, _]) (q := 5) dX1_list_3 (by decide) rfl rfl ?_
  have := P5 10 0 (by omega) f0 [] none none (fun j c h => by simp at h) (by have := C1_len hk; simpa using this) (by simp)
  rw [gset_self hw] at this
  exact this
end F4
