/-! THE CLASS: functions of the class itself, and of Math -/
def wiB (x r : Int32) : Bool := decide (¬ x < -r) && decide (¬ r < x)
def o2B (s : Int32) : Bool := decide (¬ s < nI 5) && decide (¬ nI 8 < s)
def isG (s i j : Int32) : Bool := if s = nI 5 ∨ s = nI 8 then decide (i < j) else if s = nI 6 ∨ s = nI 7 then decide (¬ i = j) else decide (¬ s < 0) && (decide (¬ nI 9 < s) && decide (j = 0))
def ordO (x y : Int32) : Int32 := if x = y then nI 2 else if x < y then nI 1 else nI 4
def fitO (s o : Int32) : Bool := if s = nI 5 then decide (o = nI 2) else if s = nI 6 then decide (o = nI 1) else if s = nI 7 then decide (o &&& nI 4 = 0) else if s = nI 8 then decide (o &&& nI 2 = 0) else false
def mn2 (x y : Int32) : Int32 := if y < x then y else x
def mx2 (x y : Int32) : Int32 := if x < y then y else x
theorem sw_out {s : Int32} (h5 : ¬ s = nI 5) (h6 : ¬ s = nI 6) (h7 : ¬ s = nI 7) (h8 : ¬ s = nI 8) : s.toInt < 5 ∨ 8 < s.toInt := by
  rcases Int.lt_or_le s.toInt 5 with h | h
  · exact Or.inl h
  · rcases Int.lt_or_le 8 s.toInt with h' | h'
    · exact Or.inr h'
    · exfalso
      have e5 : ¬ s.toInt = 5 := fun q => h5 (Int32.toInt_inj.mp q)
      have e6 : ¬ s.toInt = 6 := fun q => h6 (Int32.toInt_inj.mp q)
      have e7 : ¬ s.toInt = 7 := fun q => h7 (Int32.toInt_inj.mp q)
      have e8 : ¬ s.toInt = 8 := fun q => h8 (Int32.toInt_inj.mp q)
      omega
theorem mt_inF {l : Launch} {μ : Mu} {d kc ks : Nat} {av : List Value} {h : aH} {Q : Option Value → aH → Prop} {lv : List (Option Value)} (hy : plainFor μ.1 = true) (hn : (lg_sl av).length ≤ μ.2.2.1) (hl : ent av μ.2.2.1 = lv) (k : wp l μ [] d kc ks Q h 0 lv []) : mt l μ d kc ks av h Q := mt_ofF hy hn (hl ▸ k)
section C1
variable {l : Launch} {d sz : Nat} {G : Nat → Option aE} {h : aH}
theorem tX7_isWithin {x r : Int32} : mt l mX7_isWithin d 0 0 [.int x, .int r] h (rI (b2 (wiB x r)) h) := by
  refine mt_in (lv := [_, _]) (by decide) (Nat.le_of_ble_eq_true rfl) rfl ?_
  refine wp_iload_n (i := 0) (q := 1) dX7_isWithin_0 rfl rfl rfl ?_
  refine wp_iload_n (i := 1) (q := 2) dX7_isWithin_1 rfl rfl rfl ?_
  refine wp_ineg (q := 3) dX7_isWithin_2 rfl ?_
  unfold wiB
  refine wp_icmp_lt (t := 15) (q := 6) dX7_isWithin_3 (by decide) rfl (fun hc => ?_) (fun hc => ?_)
  · rw [decide_eq_false (fun q => q hc), Bool.false_and]
    refine wp_iconst (v := nI 0) (q := 16) dX7_isWithin_15 (by decide) rfl ?_
    refine wp_zret dX7_isWithin_16 rfl (by first | exact Or.inl rfl | exact Or.inr rfl | exact b2_01 _ | assumption) ?_
    exact ⟨rfl, rfl⟩
  refine wp_iload_n (i := 0) (q := 7) dX7_isWithin_6 rfl rfl rfl ?_
  refine wp_iload_n (i := 1) (q := 8) dX7_isWithin_7 rfl rfl rfl ?_
  refine wp_icmp_gt (t := 15) (q := 11) dX7_isWithin_8 (by decide) rfl (fun hc2 => ?_) (fun hc2 => ?_)
  · rw [decide_eq_true hc, decide_eq_false (fun q => q hc2)]
    refine wp_iconst (v := nI 0) (q := 16) dX7_isWithin_15 (by decide) rfl ?_
    refine wp_zret dX7_isWithin_16 rfl (by first | exact Or.inl rfl | exact Or.inr rfl | exact b2_01 _ | assumption) ?_
    exact ⟨rfl, rfl⟩
  rw [decide_eq_true hc, decide_eq_true hc2]
  refine wp_iconst (v := nI 1) (q := 12) dX7_isWithin_11 (by decide) rfl ?_
  refine wp_goto (q := 16) dX7_isWithin_12 (by decide) ?_
  refine wp_zret dX7_isWithin_16 rfl (by first | exact Or.inl rfl | exact Or.inr rfl | exact b2_01 _ | assumption) ?_
  exact ⟨rfl, rfl⟩
theorem tX7_isOfTwo {x : Int32} : mt l mX7_isOfTwo d 0 0 [.int x] h (rI (b2 (o2B x)) h) := by
  refine mt_in (lv := [_]) (by decide) (Nat.le_of_ble_eq_true rfl) rfl ?_
  refine wp_iload_n (i := 0) (q := 1) dX7_isOfTwo_0 rfl rfl rfl ?_
  refine wp_iconst (v := nI 5) (q := 2) dX7_isOfTwo_1 (by decide) rfl ?_
  unfold o2B
  refine wp_icmp_lt (t := 15) (q := 5) dX7_isOfTwo_2 (by decide) rfl (fun hc => ?_) (fun hc => ?_)
  · rw [decide_eq_false (fun q => q hc), Bool.false_and]
    refine wp_iconst (v := nI 0) (q := 16) dX7_isOfTwo_15 (by decide) rfl ?_
    refine wp_zret dX7_isOfTwo_16 rfl (by first | exact Or.inl rfl | exact Or.inr rfl | exact b2_01 _ | assumption) ?_
    exact ⟨rfl, rfl⟩
  refine wp_iload_n (i := 0) (q := 6) dX7_isOfTwo_5 rfl rfl rfl ?_
  refine wp_bipush (v := nI 8) (q := 8) dX7_isOfTwo_6 (by decide) rfl ?_
  refine wp_icmp_gt (t := 15) (q := 11) dX7_isOfTwo_8 (by decide) rfl (fun hc2 => ?_) (fun hc2 => ?_)
  · rw [decide_eq_true hc, decide_eq_false (fun q => q hc2)]
    refine wp_iconst (v := nI 0) (q := 16) dX7_isOfTwo_15 (by decide) rfl ?_
    refine wp_zret dX7_isOfTwo_16 rfl (by first | exact Or.inl rfl | exact Or.inr rfl | exact b2_01 _ | assumption) ?_
    exact ⟨rfl, rfl⟩
  rw [decide_eq_true hc, decide_eq_true hc2]
  refine wp_iconst (v := nI 1) (q := 12) dX7_isOfTwo_11 (by decide) rfl ?_
  refine wp_goto (q := 16) dX7_isOfTwo_12 (by decide) ?_
  refine wp_zret dX7_isOfTwo_16 rfl (by first | exact Or.inl rfl | exact Or.inr rfl | exact b2_01 _ | assumption) ?_
  exact ⟨rfl, rfl⟩
theorem tX7_isGuess {s i j : Int32} : mt l mX7_isGuess d 0 0 [.int s, .int i, .int j] h (rI (b2 (isG s i j)) h) := by
  refine mt_in (lv := [_, _, _]) (by decide) (Nat.le_of_ble_eq_true rfl) rfl ?_
  refine wp_iload_n (i := 0) (q := 1) dX7_isGuess_0 rfl rfl rfl ?_
  have K32 : (s = nI 5 ∨ s = nI 8) → wp l mX7_isGuess [] d 0 0 (rI (b2 (isG s i j)) h) h 32 [some (.int s), some (.int i), some (.int j)] [] := by
    intro hs
    unfold isG
    rw [if_pos hs]
    refine wp_iload_n (i := 1) (q := 33) dX7_isGuess_32 rfl rfl rfl ?_
    refine wp_iload_n (i := 2) (q := 34) dX7_isGuess_33 rfl rfl rfl ?_
    refine wp_icmp_ge (t := 41) (q := 37) dX7_isGuess_34 (by decide) rfl (fun hc => ?_) (fun hc => ?_)
    · rw [decide_eq_false (Int32.not_lt.mpr hc)]
      refine wp_iconst (v := nI 0) (q := 42) dX7_isGuess_41 (by decide) rfl ?_
      refine wp_zret dX7_isGuess_42 rfl (by first | exact Or.inl rfl | exact Or.inr rfl | exact b2_01 _ | assumption) ?_
      exact ⟨rfl, rfl⟩
    · rw [decide_eq_true (Int32.not_le.mp hc)]
      refine wp_iconst (v := nI 1) (q := 38) dX7_isGuess_37 (by decide) rfl ?_
      refine wp_goto (q := 42) dX7_isGuess_38 (by decide) ?_
      refine wp_zret dX7_isGuess_42 rfl (by first | exact Or.inl rfl | exact Or.inr rfl | exact b2_01 _ | assumption) ?_
      exact ⟨rfl, rfl⟩
  have K43 : ¬ (s = nI 5 ∨ s = nI 8) → (s = nI 6 ∨ s = nI 7) → wp l mX7_isGuess [] d 0 0 (rI (b2 (isG s i j)) h) h 43 [some (.int s), some (.int i), some (.int j)] [] := by
    intro hn hs
    unfold isG
    rw [if_neg hn, if_pos hs]
    refine wp_iload_n (i := 1) (q := 44) dX7_isGuess_43 rfl rfl rfl ?_
    refine wp_iload_n (i := 2) (q := 45) dX7_isGuess_44 rfl rfl rfl ?_
    refine wp_icmp_eq (t := 52) (q := 48) dX7_isGuess_45 (by decide) rfl (fun hc => ?_) (fun hc => ?_)
    · rw [decide_eq_false (fun q => q hc)]
      refine wp_iconst (v := nI 0) (q := 53) dX7_isGuess_52 (by decide) rfl ?_
      refine wp_zret dX7_isGuess_53 rfl (by first | exact Or.inl rfl | exact Or.inr rfl | exact b2_01 _ | assumption) ?_
      exact ⟨rfl, rfl⟩
    · rw [decide_eq_true hc]
      refine wp_iconst (v := nI 1) (q := 49) dX7_isGuess_48 (by decide) rfl ?_
      refine wp_goto (q := 53) dX7_isGuess_49 (by decide) ?_
      refine wp_zret dX7_isGuess_53 rfl (by first | exact Or.inl rfl | exact Or.inr rfl | exact b2_01 _ | assumption) ?_
      exact ⟨rfl, rfl⟩
  by_cases h5 : s = nI 5
  · have k := K32 (Or.inl h5)
    subst h5
    refine wp_tableIn (off := 31) (q := 32) dX7_isGuess_1 (by decide) (by decide) (by decide) (by decide) ?_
    exact k
  by_cases h8 : s = nI 8
  · have k := K32 (Or.inr h8)
    subst h8
    refine wp_tableIn (off := 31) (q := 32) dX7_isGuess_1 (by decide) (by decide) (by decide) (by decide) ?_
    exact k
  have hn : ¬ (s = nI 5 ∨ s = nI 8) := fun q => q.elim h5 h8
  by_cases h6 : s = nI 6
  · have k := K43 hn (Or.inl h6)
    subst h6
    refine wp_tableIn (off := 42) (q := 43) dX7_isGuess_1 (by decide) (by decide) (by decide) (by decide) ?_
    exact k
  by_cases h7 : s = nI 7
  · have k := K43 hn (Or.inr h7)
    subst h7
    refine wp_tableIn (off := 42) (q := 43) dX7_isGuess_1 (by decide) (by decide) (by decide) (by decide) ?_
    exact k
  refine wp_tableOut (q := 54) dX7_isGuess_1 (sw_out h5 h6 h7 h8) (by decide) ?_
  unfold isG
  rw [if_neg hn, if_neg (fun q => q.elim h6 h7)]
  refine wp_iload_n (i := 0) (q := 55) dX7_isGuess_54 rfl rfl rfl ?_
  refine wp_if_lt (t := 72) (q := 58) dX7_isGuess_55 (by decide) rfl (fun hc => ?_) (fun hc => ?_)
  · rw [decide_eq_false (fun q => q hc), Bool.false_and]
    refine wp_iconst (v := nI 0) (q := 73) dX7_isGuess_72 (by decide) rfl ?_
    refine wp_zret dX7_isGuess_73 rfl (by first | exact Or.inl rfl | exact Or.inr rfl | exact b2_01 _ | assumption) ?_
    exact ⟨rfl, rfl⟩
  rw [decide_eq_true hc, Bool.true_and]
  refine wp_iload_n (i := 0) (q := 59) dX7_isGuess_58 rfl rfl rfl ?_
  refine wp_bipush (v := nI 9) (q := 61) dX7_isGuess_59 (by decide) rfl ?_
  refine wp_icmp_gt (t := 72) (q := 64) dX7_isGuess_61 (by decide) rfl (fun hc => ?_) (fun hc => ?_)
  · rw [decide_eq_false (fun q => q hc), Bool.false_and]
    refine wp_iconst (v := nI 0) (q := 73) dX7_isGuess_72 (by decide) rfl ?_
    refine wp_zret dX7_isGuess_73 rfl (by first | exact Or.inl rfl | exact Or.inr rfl | exact b2_01 _ | assumption) ?_
    exact ⟨rfl, rfl⟩
  rw [decide_eq_true hc, Bool.true_and]
  refine wp_iload_n (i := 2) (q := 65) dX7_isGuess_64 rfl rfl rfl ?_
  refine wp_if_ne (t := 72) (q := 68) dX7_isGuess_65 (by decide) rfl (fun hc => ?_) (fun hc => ?_)
  · rw [decide_eq_false hc]
    refine wp_iconst (v := nI 0) (q := 73) dX7_isGuess_72 (by decide) rfl ?_
    refine wp_zret dX7_isGuess_73 rfl (by first | exact Or.inl rfl | exact Or.inr rfl | exact b2_01 _ | assumption) ?_
    exact ⟨rfl, rfl⟩
  rw [decide_eq_true hc]
  refine wp_iconst (v := nI 1) (q := 69) dX7_isGuess_68 (by decide) rfl ?_
  refine wp_goto (q := 73) dX7_isGuess_69 (by decide) ?_
  refine wp_zret dX7_isGuess_73 rfl (by first | exact Or.inl rfl | exact Or.inr rfl | exact b2_01 _ | assumption) ?_
  exact ⟨rfl, rfl⟩
theorem tX7_orderOf {x y : Int32} : mt l mX7_orderOf d 0 0 [.int x, .int y] h (rI (ordO x y) h) := by
  refine mt_in (lv := [_, _]) (by decide) (Nat.le_of_ble_eq_true rfl) rfl ?_
  refine wp_iload_n (i := 0) (q := 1) dX7_orderOf_0 rfl rfl rfl ?_
  refine wp_iload_n (i := 1) (q := 2) dX7_orderOf_1 rfl rfl rfl ?_
  unfold ordO
  refine wp_icmp_ne (t := 7) (q := 5) dX7_orderOf_2 (by decide) rfl (fun hc => ?_) (fun hc => ?_)
  · rw [if_neg hc]
    refine wp_iload_n (i := 0) (q := 8) dX7_orderOf_7 rfl rfl rfl ?_
    refine wp_iload_n (i := 1) (q := 9) dX7_orderOf_8 rfl rfl rfl ?_
    refine wp_icmp_ge (t := 16) (q := 12) dX7_orderOf_9 (by decide) rfl (fun hc2 => ?_) (fun hc2 => ?_)
    · rw [if_neg (Int32.not_lt.mpr hc2)]
      refine wp_iconst (v := nI 4) (q := 17) dX7_orderOf_16 (by decide) rfl ?_
      refine wp_iret dX7_orderOf_17 rfl ?_
      exact ⟨rfl, rfl⟩
    · rw [if_pos (Int32.not_le.mp hc2)]
      refine wp_iconst (v := nI 1) (q := 13) dX7_orderOf_12 (by decide) rfl ?_
      refine wp_goto (q := 17) dX7_orderOf_13 (by decide) ?_
      refine wp_iret dX7_orderOf_17 rfl ?_
      exact ⟨rfl, rfl⟩
  · rw [if_pos hc]
    refine wp_iconst (v := nI 2) (q := 6) dX7_orderOf_5 (by decide) rfl ?_
    refine wp_iret dX7_orderOf_6 rfl ?_
    exact ⟨rfl, rfl⟩
theorem tX7_fitsOrders {s o : Int32} : mt l mX7_fitsOrders d 0 0 [.int s, .int o] h (rI (b2 (fitO s o)) h) := by
  refine mt_in (lv := [_, _]) (by decide) (Nat.le_of_ble_eq_true rfl) rfl ?_
  refine wp_iload_n (i := 0) (q := 1) dX7_fitsOrders_0 rfl rfl rfl ?_
  unfold fitO
  by_cases h5 : s = nI 5
  · subst h5
    rw [if_pos rfl]
    refine wp_tableIn (off := 31) (q := 32) dX7_fitsOrders_1 (by decide) (by decide) (by decide) (by decide) ?_
    refine wp_iload_n (i := 1) (q := 33) dX7_fitsOrders_32 rfl rfl rfl ?_
    refine wp_iconst (v := nI 2) (q := 34) dX7_fitsOrders_33 (by decide) rfl ?_
    refine wp_icmp_ne (t := 41) (q := 37) dX7_fitsOrders_34 (by decide) rfl (fun hc => ?_) (fun hc => ?_)
    · rw [decide_eq_false hc]
      refine wp_iconst (v := nI 0) (q := 42) dX7_fitsOrders_41 (by decide) rfl ?_
      refine wp_zret dX7_fitsOrders_42 rfl (by first | exact Or.inl rfl | exact Or.inr rfl | exact b2_01 _ | assumption) ?_
      exact ⟨rfl, rfl⟩
    · rw [decide_eq_true hc]
      refine wp_iconst (v := nI 1) (q := 38) dX7_fitsOrders_37 (by decide) rfl ?_
      refine wp_goto (q := 42) dX7_fitsOrders_38 (by decide) ?_
      refine wp_zret dX7_fitsOrders_42 rfl (by first | exact Or.inl rfl | exact Or.inr rfl | exact b2_01 _ | assumption) ?_
      exact ⟨rfl, rfl⟩
  rw [if_neg h5]
  by_cases h6 : s = nI 6
  · subst h6
    rw [if_pos rfl]
    refine wp_tableIn (off := 42) (q := 43) dX7_fitsOrders_1 (by decide) (by decide) (by decide) (by decide) ?_
    refine wp_iload_n (i := 1) (q := 44) dX7_fitsOrders_43 rfl rfl rfl ?_
    refine wp_iconst (v := nI 1) (q := 45) dX7_fitsOrders_44 (by decide) rfl ?_
    refine wp_icmp_ne (t := 52) (q := 48) dX7_fitsOrders_45 (by decide) rfl (fun hc => ?_) (fun hc => ?_)
    · rw [decide_eq_false hc]
      refine wp_iconst (v := nI 0) (q := 53) dX7_fitsOrders_52 (by decide) rfl ?_
      refine wp_zret dX7_fitsOrders_53 rfl (by first | exact Or.inl rfl | exact Or.inr rfl | exact b2_01 _ | assumption) ?_
      exact ⟨rfl, rfl⟩
    · rw [decide_eq_true hc]
      refine wp_iconst (v := nI 1) (q := 49) dX7_fitsOrders_48 (by decide) rfl ?_
      refine wp_goto (q := 53) dX7_fitsOrders_49 (by decide) ?_
      refine wp_zret dX7_fitsOrders_53 rfl (by first | exact Or.inl rfl | exact Or.inr rfl | exact b2_01 _ | assumption) ?_
      exact ⟨rfl, rfl⟩
  rw [if_neg h6]
  by_cases h7 : s = nI 7
  · subst h7
    rw [if_pos rfl]
    refine wp_tableIn (off := 53) (q := 54) dX7_fitsOrders_1 (by decide) (by decide) (by decide) (by decide) ?_
    refine wp_iload_n (i := 1) (q := 55) dX7_fitsOrders_54 rfl rfl rfl ?_
    refine wp_iconst (v := nI 4) (q := 56) dX7_fitsOrders_55 (by decide) rfl ?_
    refine wp_iand (q := 57) dX7_fitsOrders_56 rfl ?_
    refine wp_if_ne (t := 64) (q := 60) dX7_fitsOrders_57 (by decide) rfl (fun hc => ?_) (fun hc => ?_)
    · rw [decide_eq_false hc]
      refine wp_iconst (v := nI 0) (q := 65) dX7_fitsOrders_64 (by decide) rfl ?_
      refine wp_zret dX7_fitsOrders_65 rfl (by first | exact Or.inl rfl | exact Or.inr rfl | exact b2_01 _ | assumption) ?_
      exact ⟨rfl, rfl⟩
    · rw [decide_eq_true hc]
      refine wp_iconst (v := nI 1) (q := 61) dX7_fitsOrders_60 (by decide) rfl ?_
      refine wp_goto (q := 65) dX7_fitsOrders_61 (by decide) ?_
      refine wp_zret dX7_fitsOrders_65 rfl (by first | exact Or.inl rfl | exact Or.inr rfl | exact b2_01 _ | assumption) ?_
      exact ⟨rfl, rfl⟩
  rw [if_neg h7]
  by_cases h8 : s = nI 8
  · subst h8
    rw [if_pos rfl]
    refine wp_tableIn (off := 65) (q := 66) dX7_fitsOrders_1 (by decide) (by decide) (by decide) (by decide) ?_
    refine wp_iload_n (i := 1) (q := 67) dX7_fitsOrders_66 rfl rfl rfl ?_
    refine wp_iconst (v := nI 2) (q := 68) dX7_fitsOrders_67 (by decide) rfl ?_
    refine wp_iand (q := 69) dX7_fitsOrders_68 rfl ?_
    refine wp_if_ne (t := 76) (q := 72) dX7_fitsOrders_69 (by decide) rfl (fun hc => ?_) (fun hc => ?_)
    · rw [decide_eq_false hc]
      refine wp_iconst (v := nI 0) (q := 77) dX7_fitsOrders_76 (by decide) rfl ?_
      refine wp_zret dX7_fitsOrders_77 rfl (by first | exact Or.inl rfl | exact Or.inr rfl | exact b2_01 _ | assumption) ?_
      exact ⟨rfl, rfl⟩
    · rw [decide_eq_true hc]
      refine wp_iconst (v := nI 1) (q := 73) dX7_fitsOrders_72 (by decide) rfl ?_
      refine wp_goto (q := 77) dX7_fitsOrders_73 (by decide) ?_
      refine wp_zret dX7_fitsOrders_77 rfl (by first | exact Or.inl rfl | exact Or.inr rfl | exact b2_01 _ | assumption) ?_
      exact ⟨rfl, rfl⟩
  rw [if_neg h8]
  refine wp_tableOut (q := 78) dX7_fitsOrders_1 (sw_out h5 h6 h7 h8) (by decide) ?_
  refine wp_iconst (v := nI 0) (q := 79) dX7_fitsOrders_78 (by decide) rfl ?_
  refine wp_zret dX7_fitsOrders_79 rfl (by first | exact Or.inl rfl | exact Or.inr rfl | exact b2_01 _ | assumption) ?_
  exact ⟨rfl, rfl⟩
theorem tJ9_min {x y : Int32} : mt l mJ9_min_7cf53 d 0 0 [.int x, .int y] h (rI (mn2 x y) h) := by
  refine mt_inF (lv := [_, _]) (by decide +kernel) (Nat.le_of_ble_eq_true rfl) rfl ?_
  refine wp_iload_n (i := 0) (q := 1) dJ9_min_7cf53_0 rfl rfl rfl ?_
  refine wp_iload_n (i := 1) (q := 2) dJ9_min_7cf53_1 rfl rfl rfl ?_
  unfold mn2
  refine wp_icmp_gt (t := 9) (q := 5) dJ9_min_7cf53_2 (by decide) rfl (fun hc => ?_) (fun hc => ?_)
  · rw [if_pos hc]
    refine wp_iload_n (i := 1) (q := 10) dJ9_min_7cf53_9 rfl rfl rfl ?_
    refine wp_iret dJ9_min_7cf53_10 rfl ?_
    exact ⟨rfl, rfl⟩
  · rw [if_neg hc]
    refine wp_iload_n (i := 0) (q := 6) dJ9_min_7cf53_5 rfl rfl rfl ?_
    refine wp_goto (q := 10) dJ9_min_7cf53_6 (by decide) ?_
    refine wp_iret dJ9_min_7cf53_10 rfl ?_
    exact ⟨rfl, rfl⟩
theorem tJ9_max {x y : Int32} : mt l mJ9_max_7cf53 d 0 0 [.int x, .int y] h (rI (mx2 x y) h) := by
  refine mt_inF (lv := [_, _]) (by decide +kernel) (Nat.le_of_ble_eq_true rfl) rfl ?_
  refine wp_iload_n (i := 0) (q := 1) dJ9_max_7cf53_0 rfl rfl rfl ?_
  refine wp_iload_n (i := 1) (q := 2) dJ9_max_7cf53_1 rfl rfl rfl ?_
  unfold mx2
  refine wp_icmp_lt (t := 9) (q := 5) dJ9_max_7cf53_2 (by decide) rfl (fun hc => ?_) (fun hc => ?_)
  · rw [if_pos hc]
    refine wp_iload_n (i := 1) (q := 10) dJ9_max_7cf53_9 rfl rfl rfl ?_
    refine wp_iret dJ9_max_7cf53_10 rfl ?_
    exact ⟨rfl, rfl⟩
  · rw [if_neg hc]
    refine wp_iload_n (i := 0) (q := 6) dJ9_max_7cf53_5 rfl rfl rfl ?_
    refine wp_goto (q := 10) dJ9_max_7cf53_6 (by decide) ?_
    refine wp_iret dJ9_max_7cf53_10 rfl ?_
    exact ⟨rfl, rfl⟩
def flM (x y : Int32) : Int32 := if 0 ≤ x ^^^ y then x - x / y * y else if x - x / y * y = 0 then x - x / y * y else x - x / y * y + y
theorem tJ9_floorMod {x y : Int32} (hy : ¬ y = 0) : mt l mJ9_floorMod_7cf53 d 0 0 [.int x, .int y] h (rI (flM x y) h) := by
  refine mt_inF (lv := [_, _, _]) (by decide +kernel) (Nat.le_of_ble_eq_true rfl) rfl ?_
  refine wp_iload_n (i := 0) (q := 1) dJ9_floorMod_7cf53_0 rfl rfl rfl ?_
  refine wp_iload_n (i := 1) (q := 2) dJ9_floorMod_7cf53_1 rfl rfl rfl ?_
  refine wp_irem (q := 3) dJ9_floorMod_7cf53_2 (by first | assumption | decide) rfl ?_
  refine wp_istore_n (i := 2) (lv' := [_, some _, _]) (q := 4) dJ9_floorMod_7cf53_3 rfl (by decide) rfl rfl ?_
  refine wp_iload_n (i := 0) (q := 5) dJ9_floorMod_7cf53_4 rfl rfl rfl ?_
  refine wp_iload_n (i := 1) (q := 6) dJ9_floorMod_7cf53_5 rfl rfl rfl ?_
  refine wp_ixor (q := 7) dJ9_floorMod_7cf53_6 rfl ?_
  unfold flM
  refine wp_if_ge (t := 18) (q := 10) dJ9_floorMod_7cf53_7 (by decide) rfl (fun hc => ?_) (fun hc => ?_)
  · rw [if_pos hc]
    refine wp_iload_n (i := 2) (q := 19) dJ9_floorMod_7cf53_18 rfl rfl rfl ?_
    refine wp_iret dJ9_floorMod_7cf53_19 rfl ?_
    exact ⟨rfl, rfl⟩
  rw [if_neg hc]
  refine wp_iload_n (i := 2) (q := 11) dJ9_floorMod_7cf53_10 rfl rfl rfl ?_
  refine wp_if_eq (t := 18) (q := 14) dJ9_floorMod_7cf53_11 (by decide) rfl (fun hc2 => ?_) (fun hc2 => ?_)
  · rw [if_pos hc2]
    refine wp_iload_n (i := 2) (q := 19) dJ9_floorMod_7cf53_18 rfl rfl rfl ?_
    refine wp_iret dJ9_floorMod_7cf53_19 rfl ?_
    exact ⟨rfl, rfl⟩
  · rw [if_neg hc2]
    refine wp_iload_n (i := 2) (q := 15) dJ9_floorMod_7cf53_14 rfl rfl rfl ?_
    refine wp_iload_n (i := 1) (q := 16) dJ9_floorMod_7cf53_15 rfl rfl rfl ?_
    refine wp_iadd (q := 17) dJ9_floorMod_7cf53_16 rfl ?_
    refine wp_iret dJ9_floorMod_7cf53_17 rfl ?_
    exact ⟨rfl, rfl⟩
theorem tX7_codeOf {s i j : Int32} : mt l mX7_codeOf d 0 0 [.int s, .int i, .int j] h (rI (nI 100 * s + nI 10 * i + j) h) := by
  refine mt_in (lv := [_, _, _]) (by decide) (Nat.le_of_ble_eq_true rfl) rfl ?_
  refine wp_bipush (v := nI 100) (q := 2) dX7_codeOf_0 (by decide) rfl ?_
  refine wp_iload_n (i := 0) (q := 3) dX7_codeOf_2 rfl rfl rfl ?_
  refine wp_imul (q := 4) dX7_codeOf_3 rfl ?_
  refine wp_bipush (v := nI 10) (q := 6) dX7_codeOf_4 (by decide) rfl ?_
  refine wp_iload_n (i := 1) (q := 7) dX7_codeOf_6 rfl rfl rfl ?_
  refine wp_imul (q := 8) dX7_codeOf_7 rfl ?_
  refine wp_iadd (q := 9) dX7_codeOf_8 rfl ?_
  refine wp_iload_n (i := 2) (q := 10) dX7_codeOf_9 rfl rfl rfl ?_
  refine wp_iadd (q := 11) dX7_codeOf_10 rfl ?_
  refine wp_iret dX7_codeOf_11 rfl ?_
  exact ⟨rfl, rfl⟩
theorem i32_div {a b : Nat} (ha : a < 2 ^ 31) (hb : b < 2 ^ 31) : nI a / nI b = nI (a / b) := by
  refine Int32.toInt_inj.mp ?_
  rw [Int32.toInt_div, nI_toInt ha, nI_toInt hb, nI_toInt (Nat.lt_of_le_of_lt (Nat.div_le_self a b) ha)]
  have h1 : (a : Int).tdiv (b : Int) = ((a / b : Nat) : Int) := by
    rw [Int.tdiv_eq_ediv_of_nonneg (by omega)]; rfl
  rw [h1]
  have h2 := Nat.div_le_self a b
  generalize a / b = z at h2
  exact Int.bmod_eq_of_le (by omega) (by omega)
theorem i32_rem {a b : Nat} (ha : a < 2 ^ 31) (hb : b < 2 ^ 31) : nI a - nI a / nI b * nI b = nI (a % b) := by
  rw [i32_div ha hb, pk_mul, pk_sub (by rw [Nat.mul_comm]; exact Nat.mul_div_le a b)]
  congr 1
  have := Nat.div_add_mod a b
  rw [Nat.mul_comm (a / b) b]
  omega
theorem tX7_shapeOf {c : Nat} (hc : c < 2 ^ 31) : mt l mX7_shapeOf d 0 0 [.int (nI c)] h (rI (nI (c / 100)) h) := by
  refine mt_in (lv := [_]) (by decide) (Nat.le_of_ble_eq_true rfl) rfl ?_
  refine wp_iload_n (i := 0) (q := 1) dX7_shapeOf_0 rfl rfl rfl ?_
  refine wp_bipush (v := nI 100) (q := 3) dX7_shapeOf_1 (by decide) rfl ?_
  refine wp_idiv (q := 4) dX7_shapeOf_3 (by first | assumption | decide) rfl ?_
  rw [i32_div hc (by decide)]
  refine wp_iret dX7_shapeOf_4 rfl ?_
  exact ⟨rfl, rfl⟩
theorem tX7_firstOf {c : Nat} (hc : c < 2 ^ 31) : mt l mX7_firstOf d 0 0 [.int (nI c)] h (rI (nI (c / 10 % 10)) h) := by
  refine mt_in (lv := [_]) (by decide) (Nat.le_of_ble_eq_true rfl) rfl ?_
  refine wp_iload_n (i := 0) (q := 1) dX7_firstOf_0 rfl rfl rfl ?_
  refine wp_bipush (v := nI 10) (q := 3) dX7_firstOf_1 (by decide) rfl ?_
  refine wp_idiv (q := 4) dX7_firstOf_3 (by first | assumption | decide) rfl ?_
  refine wp_bipush (v := nI 10) (q := 6) dX7_firstOf_4 (by decide) rfl ?_
  refine wp_irem (q := 7) dX7_firstOf_6 (by first | assumption | decide) rfl ?_
  rw [i32_div hc (by decide), i32_rem (by have := Nat.div_le_self c 10; omega) (by decide)]
  refine wp_iret dX7_firstOf_7 rfl ?_
  exact ⟨rfl, rfl⟩
theorem tX7_secondOf {c : Nat} (hc : c < 2 ^ 31) : mt l mX7_secondOf d 0 0 [.int (nI c)] h (rI (nI (c % 10)) h) := by
  refine mt_in (lv := [_]) (by decide) (Nat.le_of_ble_eq_true rfl) rfl ?_
  refine wp_iload_n (i := 0) (q := 1) dX7_secondOf_0 rfl rfl rfl ?_
  refine wp_bipush (v := nI 10) (q := 3) dX7_secondOf_1 (by decide) rfl ?_
  refine wp_irem (q := 4) dX7_secondOf_3 (by first | assumption | decide) rfl ?_
  rw [i32_rem hc (by decide)]
  refine wp_iret dX7_secondOf_4 rfl ?_
  exact ⟨rfl, rfl⟩
theorem tX7_areWithin {a n k : Nat} {f : Nat → Int32} {r : Int32} (hd : 1 ≤ d) (ha : h.2 a = some (.inl (0, n, .inl f))) (hk : k ≤ n) (hn : n < 2 ^ 31) : mt l mX7_areWithin d 0 0 [.ref a, .int (nI k), .int r] h (rI (b2 ((List.range' 0 k).all (fun v => wiB (f v) r))) h) := by
  refine mt_in (lv := [_, _, _, _]) (by decide) (Nat.le_of_ble_eq_true rfl) rfl ?_
  refine wp_iconst (v := nI 0) (q := 1) dX7_areWithin_0 (by decide) rfl ?_
  refine wp_istore_n (i := 3) (lv' := [_, _, some _, _]) (q := 2) dX7_areWithin_1 rfl (by decide) rfl rfl ?_
  have P : ∀ m v, v + m = k → (List.range' v (k - v)).all (fun v => wiB (f v) r) = (List.range' 0 k).all (fun v => wiB (f v) r) → wp l mX7_areWithin [] d 0 0 (rI (b2 ((List.range' 0 k).all (fun v => wiB (f v) r))) h) h 2 [some (.ref a), some (.int (nI k)), some (.int r), some (.int (nI v))] [] := by
    intro m
    induction m with
    | zero =>
      intro v hv he
      refine wp_iload_n (i := 3) (q := 3) dX7_areWithin_2 rfl rfl rfl ?_
      refine wp_iload_n (i := 1) (q := 4) dX7_areWithin_3 rfl rfl rfl ?_
      refine wp_icmp_ge (t := 25) (q := 7) dX7_areWithin_4 (by decide) rfl (fun hc => ?_) (fun hc => ?_)
      · rw [← he, all_end (by omega)]
        refine wp_iconst (v := nI 1) (q := 26) dX7_areWithin_25 (by decide) rfl ?_
        refine wp_zret dX7_areWithin_26 rfl (by first | exact Or.inl rfl | exact Or.inr rfl | exact b2_01 _ | assumption) ?_
        exact ⟨rfl, rfl⟩
      · exact absurd ((nI_leI (by omega) (by omega)).mpr (by omega)) hc
    | succ m ih =>
      intro v hv he
      rw [all_step (by omega)] at he
      refine wp_iload_n (i := 3) (q := 3) dX7_areWithin_2 rfl rfl rfl ?_
      refine wp_iload_n (i := 1) (q := 4) dX7_areWithin_3 rfl rfl rfl ?_
      refine wp_icmp_ge (t := 25) (q := 7) dX7_areWithin_4 (by decide) rfl (fun hc => ?_) (fun hc => ?_)
      · exact absurd ((nI_leI (by omega) (by omega)).mp hc) (by omega)
      refine wp_aload_n (i := 0) (q := 8) dX7_areWithin_7 rfl rfl rfl ?_
      refine wp_iload_n (i := 3) (q := 9) dX7_areWithin_8 rfl rfl rfl ?_
      refine wq_iald (q := 10) dX7_areWithin_9 (by first | assumption | exact hset_at | exact (hset_ne (by omega)).trans (by assumption)) rfl (by first | omega | exact ⟨by omega, by omega⟩) rfl ?_
      refine wp_iload_n (i := 2) (q := 11) dX7_areWithin_10 rfl rfl rfl ?_
      refine wp_Si (μ' := mX7_isWithin) (q := 14) (tX7_isWithin (d := d - 1)) dX7_areWithin_11 okX7_isWithin lkX7_56 rfl rfl (Nat.le_of_ble_eq_true rfl) (by omega) rfl ?_
      refine wp_if_ne (t := 19) (q := 17) dX7_areWithin_14 (by decide) rfl (fun hw => ?_) (fun hw => ?_)
      · rw [b2_ne0.mp hw, Bool.true_and] at he
        refine wp_iinc (v := _ + nI 1) (lv' := [_, _, some _, _]) (q := 22) dX7_areWithin_19 rfl rfl (by decide) rfl rfl ?_
        refine wp_goto (q := 2) dX7_areWithin_22 (by decide) ?_
        rw [nI_add]
        exact ih (v + 1) (by omega) he
      · rw [b2_eq0.mp hw, Bool.false_and] at he
        rw [← he]
        refine wp_iconst (v := nI 0) (q := 18) dX7_areWithin_17 (by decide) rfl ?_
        refine wp_zret dX7_areWithin_18 rfl (by first | exact Or.inl rfl | exact Or.inr rfl | exact b2_01 _ | assumption) ?_
        exact ⟨rfl, rfl⟩
  exact P k 0 (by omega) rfl
def fill4 (f : Nat → Int32) (a b c e : Int32) : Nat → Int32 := upd (upd (upd (upd f 0 a) 1 b) 2 c) 3 e
theorem tX7_fill {x n : Nat} {f : Nat → Int32} {a b c e : Int32} (ha : h.2 x = some (.inl (0, n, .inl f))) (hn : 4 ≤ n) (hn2 : n < 2 ^ 31) : mt l mX7_fill d 0 0 [.ref x, .int a, .int b, .int c, .int e] h (rV (hset h x (.inl (0, n, .inl (fill4 f a b c e))))) := by
  refine mt_in (lv := [_, _, _, _, _]) (by decide) (Nat.le_of_ble_eq_true rfl) rfl ?_
  refine wp_aload_n (i := 0) (q := 1) dX7_fill_0 rfl rfl rfl ?_
  refine wp_iconst (v := nI 0) (q := 2) dX7_fill_1 (by decide) rfl ?_
  refine wp_iload_n (i := 1) (q := 3) dX7_fill_2 rfl rfl rfl ?_
  refine wq_iast (q := 4) dX7_fill_3 (by first | assumption | exact hset_at | exact (hset_ne (by omega)).trans (by assumption)) rfl (by first | omega | exact ⟨by omega, by omega⟩) (by exact rfl) rfl ?_
  refine wp_aload_n (i := 0) (q := 5) dX7_fill_4 rfl rfl rfl ?_
  refine wp_iconst (v := nI 1) (q := 6) dX7_fill_5 (by decide) rfl ?_
  refine wp_iload_n (i := 2) (q := 7) dX7_fill_6 rfl rfl rfl ?_
  refine wq_iast (q := 8) dX7_fill_7 (by first | assumption | exact hset_at | exact (hset_ne (by omega)).trans (by assumption)) rfl (by first | omega | exact ⟨by omega, by omega⟩) (by exact rfl) rfl ?_
  refine wp_aload_n (i := 0) (q := 9) dX7_fill_8 rfl rfl rfl ?_
  refine wp_iconst (v := nI 2) (q := 10) dX7_fill_9 (by decide) rfl ?_
  refine wp_iload_n (i := 3) (q := 11) dX7_fill_10 rfl rfl rfl ?_
  refine wq_iast (q := 12) dX7_fill_11 (by first | assumption | exact hset_at | exact (hset_ne (by omega)).trans (by assumption)) rfl (by first | omega | exact ⟨by omega, by omega⟩) (by exact rfl) rfl ?_
  refine wp_aload_n (i := 0) (q := 13) dX7_fill_12 rfl rfl rfl ?_
  refine wp_iconst (v := nI 3) (q := 14) dX7_fill_13 (by decide) rfl ?_
  refine wp_iload (q := 16) dX7_fill_14 rfl rfl ?_
  refine wq_iast (q := 17) dX7_fill_16 (by first | assumption | exact hset_at | exact (hset_ne (by omega)).trans (by assumption)) rfl (by first | omega | exact ⟨by omega, by omega⟩) (by exact rfl) rfl ?_
  rw [hset_hset, hset_hset, hset_hset]
  refine wp_vret dX7_fill_17 rfl ?_
  exact ⟨rfl, rfl⟩
theorem tX7_copy {x y n m : Nat} {f g : Nat → Int32} (hx : h.2 x = some (.inl (0, n, .inl f))) (hy : h.2 y = some (.inl (0, m, .inl g))) (hxy : x ≠ y) (hn : n < 2 ^ 31) (hm : m < 2 ^ 31) : mt l mX7_copy d 0 0 [.ref x, .ref y] h (rV (hset h y (.inl (0, m, .inl (fun v => if v < min n m then f v else g v))))) := by
  refine mt_in (lv := [_, _, _]) (by decide) (Nat.le_of_ble_eq_true rfl) rfl ?_
  refine wp_iconst (v := nI 0) (q := 1) dX7_copy_0 (by decide) rfl ?_
  refine wp_istore_n (i := 2) (lv' := [_, some _, _]) (q := 2) dX7_copy_1 rfl (by decide) rfl rfl ?_
  have P : ∀ k v, v + k = min n m → wp l mX7_copy [] d 0 0 (rV (hset h y (.inl (0, m, .inl (fun v => if v < min n m then f v else g v))))) (hset h y (.inl (0, m, .inl (fun i => if i < v then f i else g i)))) 2 [some (.ref x), some (.ref y), some (.int (nI v))] [] := by
    intro k
    induction k with
    | zero =>
      intro v hv
      have hv : v = min n m := by omega
      subst hv
      have R : wp l mX7_copy [] d 0 0 (rV (hset h y (.inl (0, m, .inl (fun v => if v < min n m then f v else g v))))) (hset h y (.inl (0, m, .inl (fun i => if i < min n m then f i else g i)))) 26 [some (.ref x), some (.ref y), some (.int (nI (min n m)))] [] := by
        refine wp_vret dX7_copy_26 rfl ?_
        exact ⟨rfl, rfl⟩
      refine wp_iload_n (i := 2) (q := 3) dX7_copy_2 rfl rfl rfl ?_
      refine wp_aload_n (i := 0) (q := 4) dX7_copy_3 rfl rfl rfl ?_
      refine wq_alen (q := 5) dX7_copy_4 (by first | assumption | exact hset_at | exact (hset_ne (by omega)).trans (by assumption)) (by decide) rfl ?_
      refine wp_icmp_ge (t := 26) (q := 8) dX7_copy_5 (by decide) rfl (fun hc => ?_) (fun hc => ?_)
      · exact R
      have hc : ¬ n ≤ min n m := fun q => hc ((nI_leI (by omega) (by omega)).mpr q)
      refine wp_iload_n (i := 2) (q := 9) dX7_copy_8 rfl rfl rfl ?_
      refine wp_aload_n (i := 1) (q := 10) dX7_copy_9 rfl rfl rfl ?_
      refine wq_alen (q := 11) dX7_copy_10 (by first | assumption | exact hset_at | exact (hset_ne (by omega)).trans (by assumption)) (by decide) rfl ?_
      refine wp_icmp_ge (t := 26) (q := 14) dX7_copy_11 (by decide) rfl (fun hc2 => ?_) (fun hc2 => ?_)
      · exact R
      have hc2 : ¬ m ≤ min n m := fun q => hc2 ((nI_leI (by omega) (by omega)).mpr q)
      omega
    | succ k ih =>
      intro v hv
      refine wp_iload_n (i := 2) (q := 3) dX7_copy_2 rfl rfl rfl ?_
      refine wp_aload_n (i := 0) (q := 4) dX7_copy_3 rfl rfl rfl ?_
      refine wq_alen (q := 5) dX7_copy_4 (by first | assumption | exact hset_at | exact (hset_ne (by omega)).trans (by assumption)) (by decide) rfl ?_
      refine wp_icmp_ge (t := 26) (q := 8) dX7_copy_5 (by decide) rfl (fun hc => ?_) (fun hc => ?_)
      · exact absurd ((nI_leI (by omega) (by omega)).mp hc) (by omega)
      refine wp_iload_n (i := 2) (q := 9) dX7_copy_8 rfl rfl rfl ?_
      refine wp_aload_n (i := 1) (q := 10) dX7_copy_9 rfl rfl rfl ?_
      refine wq_alen (q := 11) dX7_copy_10 (by first | assumption | exact hset_at | exact (hset_ne (by omega)).trans (by assumption)) (by decide) rfl ?_
      refine wp_icmp_ge (t := 26) (q := 14) dX7_copy_11 (by decide) rfl (fun hc2 => ?_) (fun hc2 => ?_)
      · exact absurd ((nI_leI (by omega) (by omega)).mp hc2) (by omega)
      refine wp_aload_n (i := 1) (q := 15) dX7_copy_14 rfl rfl rfl ?_
      refine wp_iload_n (i := 2) (q := 16) dX7_copy_15 rfl rfl rfl ?_
      refine wp_aload_n (i := 0) (q := 17) dX7_copy_16 rfl rfl rfl ?_
      refine wp_iload_n (i := 2) (q := 18) dX7_copy_17 rfl rfl rfl ?_
      refine wq_iald (q := 19) dX7_copy_18 (by first | assumption | exact hset_at | exact (hset_ne (by omega)).trans (by assumption)) rfl (by first | omega | exact ⟨by omega, by omega⟩) rfl ?_
      refine wq_iast (q := 20) dX7_copy_19 (by first | assumption | exact hset_at | exact (hset_ne (by omega)).trans (by assumption)) rfl (by first | omega | exact ⟨by omega, by omega⟩) (by exact rfl) rfl ?_
      refine wp_iinc (v := _ + nI 1) (lv' := [_, some _, _]) (q := 23) dX7_copy_20 rfl rfl (by decide) rfl rfl ?_
      refine wp_goto (q := 2) dX7_copy_23 (by decide) ?_
      rw [nI_add, hset_hset]
      rw [show upd (fun i => if i < v then f i else g i) v (f v) = (fun i => if i < v + 1 then f i else g i) by
        funext i
        unfold upd
        dsimp only
        by_cases w : i = v
        · rw [if_pos w, if_pos (by omega), w]
        · rw [if_neg w]
          by_cases w2 : i < v
          · rw [if_pos w2, if_pos (by omega)]
          · rw [if_neg w2, if_neg (by omega)]]
      exact ih (v + 1) (by omega)
  have := P (min n m) 0 (by omega)
  rw [show (fun i => if i < 0 then f i else g i) = g by funext i; rw [if_neg (by omega)], hset_self hy] at this
  exact this
def gcD (a b : Int64) : Int64 := gcE 100 (ab64 a) (ab64 b)
theorem tX7_divisorOf {a b : Int64} : mt l mX7_divisorOf d 0 0 [.long a, .long b] h (rL (gcD a b) h) := by
  refine mt_in (lv := [_, _, _, _, _, _, _, _, _, _, _]) (by decide) (Nat.le_of_ble_eq_true rfl) rfl ?_
  have P : ∀ m s (x y : Int64) (z : Option Value), s + m = 100 → gcE m x y = gcD a b → wp l mX7_divisorOf [] d 0 0 (rL (gcD a b) h) h 31 [some (.long a), none, some (.long b), none, some (.long x), none, some (.long y), none, some (.int (nI s)), z, none] [] := by
    intro m
    induction m with
    | zero =>
      intro s x y z hs he
      refine wp_iload (q := 33) dX7_divisorOf_31 rfl rfl ?_
      refine wp_bipush (v := nI 100) (q := 35) dX7_divisorOf_33 (by decide) rfl ?_
      refine wp_icmp_ge (t := 66) (q := 38) dX7_divisorOf_35 (by decide) rfl (fun hc => ?_) (fun hc => ?_)
      · rw [← he]
        refine wp_lload (q := 68) dX7_divisorOf_66 rfl rfl ?_
        refine wp_lret dX7_divisorOf_68 rfl ?_
        exact ⟨rfl, rfl⟩
      · exact absurd ((nI_leI (by omega) (by omega)).mpr (by omega)) hc
    | succ m ih =>
      intro s x y z hs he
      unfold gcE at he
      refine wp_iload (q := 33) dX7_divisorOf_31 rfl rfl ?_
      refine wp_bipush (v := nI 100) (q := 35) dX7_divisorOf_33 (by decide) rfl ?_
      refine wp_icmp_ge (t := 66) (q := 38) dX7_divisorOf_35 (by decide) rfl (fun hc => ?_) (fun hc => ?_)
      · exact absurd ((nI_leI (by omega) (by omega)).mp hc) (by omega)
      refine wp_lload (q := 40) dX7_divisorOf_38 rfl rfl ?_
      refine wp_lconst (v := 0) (q := 41) dX7_divisorOf_40 (by decide) rfl ?_
      refine wp_lcmp (q := 42) dX7_divisorOf_41 rfl ?_
      refine wp_if_eq (t := 66) (q := 45) dX7_divisorOf_42 (by decide) rfl (fun hz => ?_) (fun hz => ?_)
      · rw [if_pos (lg_cmp0.mp hz)] at he
        rw [← he]
        refine wp_lload (q := 68) dX7_divisorOf_66 rfl rfl ?_
        refine wp_lret dX7_divisorOf_68 rfl ?_
        exact ⟨rfl, rfl⟩
      · have hz : ¬ y = 0 := fun q => hz (lg_cmp0.mpr q)
        rw [if_neg hz] at he
        refine wp_lload (q := 47) dX7_divisorOf_45 rfl rfl ?_
        refine wp_lload (q := 49) dX7_divisorOf_47 rfl rfl ?_
        refine wp_lrem (q := 50) dX7_divisorOf_49 (by first | assumption | decide) rfl ?_
        refine wp_lstore (lv' := [_, _, _, _, _, _, _, _, some _, _, _]) (q := 52) dX7_divisorOf_50 (by decide) rfl rfl ?_
        refine wp_lload (q := 54) dX7_divisorOf_52 rfl rfl ?_
        refine wp_lstore (lv' := [_, _, _, _, _, _, _, _, _, _, _]) (q := 56) dX7_divisorOf_54 (by decide) rfl rfl ?_
        refine wp_lload (q := 58) dX7_divisorOf_56 rfl rfl ?_
        refine wp_lstore (lv' := [_, _, _, _, _, _, _, _, _, _, _]) (q := 60) dX7_divisorOf_58 (by decide) rfl rfl ?_
        refine wp_iinc (v := _ + nI 1) (lv' := [_, _, _, _, _, _, _, _, _, _, _]) (q := 63) dX7_divisorOf_60 rfl rfl (by decide) rfl rfl ?_
        refine wp_goto (q := 31) dX7_divisorOf_63 (by decide) ?_
        rw [nI_add]
        exact ih (s + 1) _ _ _ (by omega) he
  have K26 : ∀ x y : Int64, x = ab64 a → y = ab64 b → wp l mX7_divisorOf [] d 0 0 (rL (gcD a b) h) h 26 [some (.long a), none, some (.long b), none, some (.long x), none, none, none, none, none, none] [.long y] := by
    intro x y hx hy
    refine wp_lstore (lv' := [_, _, _, _, _, _, _, _, _, _, _]) (q := 28) dX7_divisorOf_26 (by decide) rfl rfl ?_
    refine wp_iconst (v := nI 0) (q := 29) dX7_divisorOf_28 (by decide) rfl ?_
    refine wp_istore (lv' := [_, _, _, _, _, _, _, _, _, _, _]) (q := 31) dX7_divisorOf_29 (by decide) rfl rfl ?_
    exact P 100 0 x y _ (by omega) (by rw [hx, hy]; rfl)
  have K12 : ∀ x : Int64, x = ab64 a → wp l mX7_divisorOf [] d 0 0 (rL (gcD a b) h) h 12 [some (.long a), none, some (.long b), none, none, none, none, none, none, none, none] [.long x] := by
    intro x hx
    refine wp_lstore (lv' := [_, _, _, _, _, _, _, _, _, _, _]) (q := 14) dX7_divisorOf_12 (by decide) rfl rfl ?_
    refine wp_lload_n (i := 2) (q := 15) dX7_divisorOf_14 rfl rfl rfl ?_
    refine wp_lconst (v := 0) (q := 16) dX7_divisorOf_15 (by decide) rfl ?_
    refine wp_lcmp (q := 17) dX7_divisorOf_16 rfl ?_
    refine wp_if_ge (t := 25) (q := 20) dX7_divisorOf_17 (by decide) rfl (fun hge => ?_) (fun hge => ?_)
    · refine wp_lload_n (i := 2) (q := 26) dX7_divisorOf_25 rfl rfl rfl ?_
      exact K26 x b hx (by unfold ab64; rw [if_neg (Int64.not_lt.mpr ((lg_cmp_ge _ _).mp hge))])
    · refine wp_lload_n (i := 2) (q := 21) dX7_divisorOf_20 rfl rfl rfl ?_
      refine wp_lneg (q := 22) dX7_divisorOf_21 rfl ?_
      refine wp_goto (q := 26) dX7_divisorOf_22 (by decide) ?_
      exact K26 x (-b) hx (by unfold ab64; rw [if_pos (Int64.not_le.mp (fun q => hge ((lg_cmp_ge _ _).mpr q)))])
  refine wp_lload_n (i := 0) (q := 1) dX7_divisorOf_0 rfl rfl rfl ?_
  refine wp_lconst (v := 0) (q := 2) dX7_divisorOf_1 (by decide) rfl ?_
  refine wp_lcmp (q := 3) dX7_divisorOf_2 rfl ?_
  refine wp_if_ge (t := 11) (q := 6) dX7_divisorOf_3 (by decide) rfl (fun hge => ?_) (fun hge => ?_)
  · refine wp_lload_n (i := 0) (q := 12) dX7_divisorOf_11 rfl rfl rfl ?_
    exact K12 a (by unfold ab64; rw [if_neg (Int64.not_lt.mpr ((lg_cmp_ge _ _).mp hge))])
  · refine wp_lload_n (i := 0) (q := 7) dX7_divisorOf_6 rfl rfl rfl ?_
    refine wp_lneg (q := 8) dX7_divisorOf_7 rfl ?_
    refine wp_goto (q := 12) dX7_divisorOf_8 (by decide) ?_
    exact K12 (-a) (by unfold ab64; rw [if_pos (Int64.not_le.mp (fun q => hge ((lg_cmp_ge _ _).mpr q)))])
end C1
