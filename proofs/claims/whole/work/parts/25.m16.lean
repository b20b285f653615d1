/-! THE REFERENCE: laying the table; what is left by division -/
theorem i64_rem (x y : Int64) : (x - x / y * y).toInt = x.toInt.tmod y.toInt := by
  rw [Int64.toInt_sub, Int64.toInt_mul, Int64.toInt_div, Int.sub_bmod_bmod, ← Int.sub_bmod_bmod, Int.bmod_mul_bmod, Int.sub_bmod_bmod, Int.mul_comm, ← Int.tmod_def]
  have h1 := Int64.le_toInt x
  have h2 := Int64.toInt_lt x
  have h3 := Int.natAbs_tmod x.toInt y.toInt
  have h4 : x.toInt.natAbs % y.toInt.natAbs ≤ x.toInt.natAbs := Nat.mod_le _ _
  rcases Int.le_total 0 x.toInt with h | h
  · have h5 := Int.tmod_nonneg y.toInt h
    exact Int.bmod_eq_of_le (by omega) (by omega)
  · have h5 : x.toInt.tmod y.toInt ≤ 0 := by
      have := Int.tmod_nonneg (a := -x.toInt) y.toInt (by omega)
      rw [Int.neg_tmod] at this
      omega
    exact Int.bmod_eq_of_le (by omega) (by omega)
theorem i64_rem_lt {x y : Int64} (h : ¬ y = 0) : (x - x / y * y).toInt.natAbs < y.toInt.natAbs := by
  rw [i64_rem, Int.natAbs_tmod]
  refine Nat.mod_lt _ (Nat.pos_of_ne_zero (fun q => h ?_))
  have : y.toInt = 0 := Int.natAbs_eq_zero.mp q
  exact Int64.toInt_inj.mp this
def ab64 (x : Int64) : Int64 := if x < 0 then -x else x
def gcE : Nat → Int64 → Int64 → Int64
  | 0, d, _ => d
  | n + 1, d, a => if a = 0 then d else gcE n a (d - d / a * a)
def gc64 (d a : Int64) : Int64 := gcE (2 ^ 63 + 1) d a
def gcN (row : Nat → Int64) : Nat → Nat → Int64 → Int64
  | 0, _, d => d
  | m + 1, c, d => gcN row m (c + 1) (gc64 d (ab64 (row c)))
theorem gcE_ne : ∀ n d a, a.toInt.natAbs < n → (¬ d = 0 ∨ ¬ a = 0) → ¬ gcE n d a = 0
  | 0, d, a, h, _ => by omega
  | n + 1, d, a, h, h0 => by
    unfold gcE
    split
    · next e => exact h0.resolve_right (fun q => q e)
    · next e => exact gcE_ne n a _ (by have := i64_rem_lt (x := d) e; omega) (Or.inl e)
theorem i64_abs (x : Int64) : x.toInt.natAbs < 2 ^ 63 + 1 := by
  have h1 := Int64.le_toInt x
  have h2 := Int64.toInt_lt x
  omega
theorem gc64_ne {d a : Int64} (h : ¬ d = 0 ∨ ¬ a = 0) : ¬ gc64 d a = 0 := gcE_ne _ _ _ (i64_abs a) h
theorem i64_neg0 {x : Int64} (q : -x = 0) : x = 0 := by
  have h := congrArg (fun z : Int64 => -z) q
  simpa using h
theorem ab64_ne {x : Int64} (h : ¬ x = 0) : ¬ ab64 x = 0 := by
  unfold ab64
  split
  · intro q
    exact h (i64_neg0 q)
  · exact h
theorem gcN_ne {row : Nat → Int64} : ∀ m c d, (¬ d = 0 ∨ ∃ f, c ≤ f ∧ f < c + m ∧ ¬ row f = 0) → ¬ gcN row m c d = 0
  | 0, c, d, h => by
    rcases h with h | ⟨f, h1, h2, -⟩
    · exact h
    · omega
  | m + 1, c, d, h => by
    unfold gcN
    refine gcN_ne m (c + 1) _ ?_
    rcases h with h | ⟨f, h1, h2, h3⟩
    · exact Or.inl (gc64_ne (Or.inl h))
    · by_cases e : f = c
      · subst e
        exact Or.inl (gc64_ne (Or.inr (ab64_ne h3)))
      · exact Or.inr ⟨f, by omega, by omega, h3⟩
/-- the divisor of a row, with the sign of its place f -/
def dvF (row : Nat → Int64) (n f : Nat) : Int64 := if row f < 0 then -gcN row n 0 0 else gcN row n 0 0
theorem dvF_ne {row : Nat → Int64} {n f : Nat} (hf : f < n) (h : ¬ row f = 0) : ¬ dvF row n f = 0 := by
  have h1 : ¬ gcN row n 0 0 = 0 := gcN_ne n 0 0 (Or.inr ⟨f, by omega, by omega, h⟩)
  unfold dvF
  split
  · intro q
    exact h1 (i64_neg0 q)
  · exact h1
def shF (t : Nat → Int64) (k n f : Nat) (x : Nat) : Nat → Int64 := fun z => if z / 5 = k ∧ z % 5 < x then t z / dvF (fun c => t (5 * k + c)) n f else t z
section M16
variable {l : Launch} {d sz b np na p side : Nat} {I : Nat → Int32} {L : Int64} {A : Nat → Nat → Int32} {B : Nat → Nat → Int64} {g : Nat → Option aE}
theorem tX8_shorten {k n f : Nat} (hk : k < 5) (hn : n ≤ 5) (hf : f < n) (h17 : I 17 = nI n) (hnz : ¬ B 15 (5 * k + f) = 0) : mt l mX8_shorten d 0 0 [.ref b, .int (nI k), .int (nI f)] (sz, mh b I L A B g) (rV (sz, mh b I L A (upR B 15 (shF (B 15) k n f n)) g)) := by
  have hdv := dvF_ne (row := fun c => B 15 (5 * k + c)) hf hnz
  refine mt_in (lv := [_, _, _, _, _, _, _, _, _, _]) (by decide) (Nat.le_of_ble_eq_true rfl) rfl ?_
  refine wp_lconst (v := 0) (q := 1) dX8_shorten_0 (by decide) rfl ?_
  refine wp_lstore_n (i := 3) (lv' := [_, _, some _, _, _, _, _, _, _, _]) (q := 2) dX8_shorten_1 rfl (by decide) rfl rfl ?_
  refine wp_iconst (v := nI 0) (q := 3) dX8_shorten_2 (by decide) rfl ?_
  refine wp_istore (lv' := [_, _, _, _, _, _, _, _, _, _]) (q := 5) dX8_shorten_3 (by decide) rfl rfl ?_
  have P112 : ∀ m x, x + m = n → ∀ (y6 y7 y8 y9 : Option Value), wp l mX8_shorten [] d 0 0 (rV (sz, mh b I L A (upR B 15 (shF (B 15) k n f n)) g)) (sz, mh b I L A (upR B 15 (shF (B 15) k n f x)) g) 112 [some (.ref b), some (.int (nI k)), some (.int (nI f)), some (.long (dvF (fun c => B 15 (5 * k + c)) n f)), none, some (.int (nI x)), y6, y7, y8, y9] [] := by
    intro m
    induction m with
    | zero =>
      intro x hx y6 y7 y8 y9
      have hx : x = n := by omega
      subst hx
      refine wp_iload (q := 114) dX8_shorten_112 rfl rfl ?_
      refine wp_aload_n (i := 0) (q := 115) dX8_shorten_114 rfl rfl rfl ?_
      refine wm_getI (k := 17) (q := 118) dX8_shorten_115 ffX8_214 rfl rfl ?_ -- columns
      rw [h17]
      refine wp_icmp_ge (t := 142) (q := 121) dX8_shorten_118 (by decide) rfl (fun hc => ?_) (fun hc => ?_)
      · refine wp_vret dX8_shorten_142 rfl ?_
        exact ⟨rfl, rfl⟩
      · exact absurd ((nI_leI (by omega) (by omega)).mpr (by omega)) hc
    | succ m ih =>
      intro x hx y6 y7 y8 y9
      refine wp_iload (q := 114) dX8_shorten_112 rfl rfl ?_
      refine wp_aload_n (i := 0) (q := 115) dX8_shorten_114 rfl rfl rfl ?_
      refine wm_getI (k := 17) (q := 118) dX8_shorten_115 ffX8_214 rfl rfl ?_ -- columns
      rw [h17]
      refine wp_icmp_ge (t := 142) (q := 121) dX8_shorten_118 (by decide) rfl (fun hc => ?_) (fun hc => ?_)
      · exact absurd ((nI_leI (by omega) (by omega)).mp hc) (by omega)
      refine wp_aload_n (i := 0) (q := 122) dX8_shorten_121 rfl rfl rfl ?_
      refine wm_getA (k := 24) (o := 15) (q := 125) dX8_shorten_122 ffX8_54 rfl rfl rfl ?_ -- base
      refine wp_iconst (v := nI 5) (q := 126) dX8_shorten_125 (by decide) rfl ?_
      refine wp_iload_n (i := 1) (q := 127) dX8_shorten_126 rfl rfl rfl ?_
      refine wp_imul (q := 128) dX8_shorten_127 rfl ?_
      refine wp_iload (q := 130) dX8_shorten_128 rfl rfl ?_
      refine wp_iadd (q := 131) dX8_shorten_130 rfl ?_
      rw [pk_mul, nI_add]
      refine wp_dup2 (q := 132) dX8_shorten_131 rfl rfl rfl ?_
      refine wm_laldN (q := 133) dX8_shorten_132 ⟨by decide, by decide, rfl⟩ rfl (by simp only [mlen]; omega) (by decide) rfl ?_
      refine wp_lload_n (i := 3) (q := 134) dX8_shorten_133 rfl rfl rfl ?_
      refine wp_ldiv (q := 135) dX8_shorten_134 (by exact hdv) rfl ?_
      refine wm_lastN (q := 136) dX8_shorten_135 ⟨by decide, by decide, rfl⟩ rfl (by simp only [mlen]; omega) (by decide) rfl ?_
      refine wp_iinc (v := _ + nI 1) (lv' := [_, _, _, _, _, _, _, _, _, _]) (q := 139) dX8_shorten_136 rfl rfl (by decide) rfl rfl ?_
      refine wp_goto (q := 112) dX8_shorten_139 (by decide) ?_
      rw [nI_add, up2_upR, upR_at]
      have z1 : (5 * k + x) / 5 = k := by omega
      have z2 : (5 * k + x) % 5 = x := by omega
      have e : (fun z => if z = 5 * k + x then shF (B 15) k n f x (5 * k + x) / dvF (fun c => B 15 (5 * k + c)) n f else shF (B 15) k n f x z) = shF (B 15) k n f (x + 1) := by
        funext z
        unfold shF
        by_cases w : z = 5 * k + x
        · subst w
          rw [if_pos rfl, if_neg (by omega), if_pos ⟨z1, by omega⟩]
        · rw [if_neg w]
          by_cases w2 : z / 5 = k ∧ z % 5 < x
          · rw [if_pos w2, if_pos (by omega)]
          · rw [if_neg w2, if_neg (by omega)]
      rw [e]
      exact ih (x + 1) (by omega) _ _ _ _
  have P5 : ∀ m c, c + m = n → ∀ (dd : Int64) (y6 y7 y8 y9 : Option Value), gcN (fun c => B 15 (5 * k + c)) m c dd = gcN (fun c => B 15 (5 * k + c)) n 0 0 → wp l mX8_shorten [] d 0 0 (rV (sz, mh b I L A (upR B 15 (shF (B 15) k n f n)) g)) (sz, mh b I L A B g) 5 [some (.ref b), some (.int (nI k)), some (.int (nI f)), some (.long dd), none, some (.int (nI c)), y6, y7, y8, y9] [] := by
    intro m
    induction m with
    | zero =>
      intro c hc dd y6 y7 y8 y9 he
      refine wp_iload (q := 7) dX8_shorten_5 rfl rfl ?_
      refine wp_aload_n (i := 0) (q := 8) dX8_shorten_7 rfl rfl rfl ?_
      refine wm_getI (k := 17) (q := 11) dX8_shorten_8 ffX8_214 rfl rfl ?_ -- columns
      rw [h17]
      refine wp_icmp_ge (t := 87) (q := 14) dX8_shorten_11 (by decide) rfl (fun hcc => ?_) (fun hcc => ?_)
      · rw [show gcN (fun c => B 15 (5 * k + c)) 0 c dd = dd from rfl] at he
        refine wp_aload_n (i := 0) (q := 88) dX8_shorten_87 rfl rfl rfl ?_
        refine wm_getA (k := 24) (o := 15) (q := 91) dX8_shorten_88 ffX8_54 rfl rfl rfl ?_ -- base
        refine wp_iconst (v := nI 5) (q := 92) dX8_shorten_91 (by decide) rfl ?_
        refine wp_iload_n (i := 1) (q := 93) dX8_shorten_92 rfl rfl rfl ?_
        refine wp_imul (q := 94) dX8_shorten_93 rfl ?_
        refine wp_iload_n (i := 2) (q := 95) dX8_shorten_94 rfl rfl rfl ?_
        refine wp_iadd (q := 96) dX8_shorten_95 rfl ?_
        rw [pk_mul, nI_add]
        refine wm_laldN (q := 97) dX8_shorten_96 ⟨by decide, by decide, rfl⟩ rfl (by simp only [mlen]; omega) (by decide) rfl ?_
        refine wp_lconst (v := 0) (q := 98) dX8_shorten_97 (by decide) rfl ?_
        refine wp_lcmp (q := 99) dX8_shorten_98 rfl ?_
        have K108 : ∀ z : Int64, z = dvF (fun c => B 15 (5 * k + c)) n f → wp l mX8_shorten [] d 0 0 (rV (sz, mh b I L A (upR B 15 (shF (B 15) k n f n)) g)) (sz, mh b I L A B g) 108 [some (.ref b), some (.int (nI k)), some (.int (nI f)), some (.long dd), none, some (.int (nI c)), y6, y7, y8, y9] [.long z] := by
          intro z hz
          rw [hz]
          refine wp_lstore_n (i := 3) (lv' := [_, _, some _, _, _, _, _, _, _, _]) (q := 109) dX8_shorten_108 rfl (by decide) rfl rfl ?_
          refine wp_iconst (v := nI 0) (q := 110) dX8_shorten_109 (by decide) rfl ?_
          refine wp_istore (lv' := [_, _, _, _, _, _, _, _, _, _]) (q := 112) dX8_shorten_110 (by decide) rfl rfl ?_
          have := P112 n 0 (by omega) y6 y7 y8 y9
          rw [show shF (B 15) k n f 0 = B 15 by funext z; unfold shF; rw [if_neg (by omega)], upR_self] at this
          exact this
        refine wp_if_ge (t := 107) (q := 102) dX8_shorten_99 (by decide) rfl (fun hge => ?_) (fun hge => ?_)
        · refine wp_lload_n (i := 3) (q := 108) dX8_shorten_107 rfl rfl rfl ?_
          exact K108 _ (by unfold dvF; rw [if_neg (Int64.not_lt.mpr ((lg_cmp_ge _ _).mp hge)), ← he])
        · refine wp_lload_n (i := 3) (q := 103) dX8_shorten_102 rfl rfl rfl ?_
          refine wp_lneg (q := 104) dX8_shorten_103 rfl ?_
          refine wp_goto (q := 108) dX8_shorten_104 (by decide) ?_
          exact K108 _ (by unfold dvF; rw [if_pos (Int64.not_le.mp (fun q => hge ((lg_cmp_ge _ _).mpr q))), ← he])
      · exact absurd ((nI_leI (by omega) (by omega)).mpr (by omega)) hcc
    | succ m ih =>
      intro c hc dd y6 y7 y8 y9 he
      refine wp_iload (q := 7) dX8_shorten_5 rfl rfl ?_
      refine wp_aload_n (i := 0) (q := 8) dX8_shorten_7 rfl rfl rfl ?_
      refine wm_getI (k := 17) (q := 11) dX8_shorten_8 ffX8_214 rfl rfl ?_ -- columns
      rw [h17]
      refine wp_icmp_ge (t := 87) (q := 14) dX8_shorten_11 (by decide) rfl (fun hcc => ?_) (fun hcc => ?_)
      · exact absurd ((nI_leI (by omega) (by omega)).mp hcc) (by omega)
      rw [show gcN (fun c => B 15 (5 * k + c)) (m + 1) c dd = gcN (fun c => B 15 (5 * k + c)) m (c + 1) (gc64 dd (ab64 (B 15 (5 * k + c)))) from rfl] at he
      obtain ⟨dd0, hdd0⟩ : ∃ dd0, dd0 = dd := ⟨_, rfl⟩
      rw [← hdd0] at he
      have P58 : ∀ N (dd a : Int64) (y8 y9 : Option Value), a.toInt.natAbs < N → gcE N dd a = gc64 dd0 (ab64 (B 15 (5 * k + c))) → wp l mX8_shorten [] d 0 0 (rV (sz, mh b I L A (upR B 15 (shF (B 15) k n f n)) g)) (sz, mh b I L A B g) 58 [some (.ref b), some (.int (nI k)), some (.int (nI f)), some (.long dd), none, some (.int (nI c)), some (.long a), none, y8, y9] [] := by
        intro N
        induction N with
        | zero => intro dd a y8 y9 h; omega
        | succ N ihN =>
          intro dd a y8 y9 hN hg
          unfold gcE at hg
          refine wp_lload (q := 60) dX8_shorten_58 rfl rfl ?_
          refine wp_lconst (v := 0) (q := 61) dX8_shorten_60 (by decide) rfl ?_
          refine wp_lcmp (q := 62) dX8_shorten_61 rfl ?_
          refine wp_if_eq (t := 81) (q := 65) dX8_shorten_62 (by decide) rfl (fun hz => ?_) (fun hz => ?_)
          · have hz : a = 0 := lg_cmp0.mp hz
            rw [if_pos hz] at hg
            refine wp_iinc (v := _ + nI 1) (lv' := [_, _, _, _, _, _, _, _, _, _]) (q := 84) dX8_shorten_81 rfl rfl (by decide) rfl rfl ?_
            refine wp_goto (q := 5) dX8_shorten_84 (by decide) ?_
            rw [nI_add]
            exact ih (c + 1) (by omega) dd _ _ _ _ (by rw [hg]; exact he)
          · have hz : ¬ a = 0 := fun q => hz (lg_cmp0.mpr q)
            rw [if_neg hz] at hg
            refine wp_lload_n (i := 3) (q := 66) dX8_shorten_65 rfl rfl rfl ?_
            refine wp_lload (q := 68) dX8_shorten_66 rfl rfl ?_
            refine wp_lrem (q := 69) dX8_shorten_68 (by exact hz) rfl ?_
            refine wp_lstore (lv' := [_, _, _, _, _, _, _, _, _, _]) (q := 71) dX8_shorten_69 (by decide) rfl rfl ?_
            refine wp_lload (q := 73) dX8_shorten_71 rfl rfl ?_
            refine wp_lstore_n (i := 3) (lv' := [_, _, some _, _, _, _, _, _, _, _]) (q := 74) dX8_shorten_73 rfl (by decide) rfl rfl ?_
            refine wp_lload (q := 76) dX8_shorten_74 rfl rfl ?_
            refine wp_lstore (lv' := [_, _, _, _, _, some _, _, _, _, _]) (q := 78) dX8_shorten_76 (by decide) rfl rfl ?_
            refine wp_goto (q := 58) dX8_shorten_78 (by decide) ?_
            exact ihN a _ _ _ (by have := i64_rem_lt (x := dd) hz; omega) hg
      have K56 : ∀ z : Int64, z = ab64 (B 15 (5 * k + c)) → wp l mX8_shorten [] d 0 0 (rV (sz, mh b I L A (upR B 15 (shF (B 15) k n f n)) g)) (sz, mh b I L A B g) 56 [some (.ref b), some (.int (nI k)), some (.int (nI f)), some (.long dd), none, some (.int (nI c)), y6, y7, y8, y9] [.long z] := by
        intro z hz
        rw [hz]
        refine wp_lstore (lv' := [_, _, _, _, _, some _, _, _, _, _]) (q := 58) dX8_shorten_56 (by decide) rfl rfl ?_
        exact P58 (2 ^ 63 + 1) dd _ _ _ (i64_abs _) (by rw [hdd0]; rfl)
      refine wp_aload_n (i := 0) (q := 15) dX8_shorten_14 rfl rfl rfl ?_
      refine wm_getA (k := 24) (o := 15) (q := 18) dX8_shorten_15 ffX8_54 rfl rfl rfl ?_ -- base
      refine wp_iconst (v := nI 5) (q := 19) dX8_shorten_18 (by decide) rfl ?_
      refine wp_iload_n (i := 1) (q := 20) dX8_shorten_19 rfl rfl rfl ?_
      refine wp_imul (q := 21) dX8_shorten_20 rfl ?_
      refine wp_iload (q := 23) dX8_shorten_21 rfl rfl ?_
      refine wp_iadd (q := 24) dX8_shorten_23 rfl ?_
      rw [pk_mul, nI_add]
      refine wm_laldN (q := 25) dX8_shorten_24 ⟨by decide, by decide, rfl⟩ rfl (by simp only [mlen]; omega) (by decide) rfl ?_
      refine wp_lconst (v := 0) (q := 26) dX8_shorten_25 (by decide) rfl ?_
      refine wp_lcmp (q := 27) dX8_shorten_26 rfl ?_
      refine wp_if_ge (t := 45) (q := 30) dX8_shorten_27 (by decide) rfl (fun hge => ?_) (fun hge => ?_)
      · refine wp_aload_n (i := 0) (q := 46) dX8_shorten_45 rfl rfl rfl ?_
        refine wm_getA (k := 24) (o := 15) (q := 49) dX8_shorten_46 ffX8_54 rfl rfl rfl ?_ -- base
        refine wp_iconst (v := nI 5) (q := 50) dX8_shorten_49 (by decide) rfl ?_
        refine wp_iload_n (i := 1) (q := 51) dX8_shorten_50 rfl rfl rfl ?_
        refine wp_imul (q := 52) dX8_shorten_51 rfl ?_
        refine wp_iload (q := 54) dX8_shorten_52 rfl rfl ?_
        refine wp_iadd (q := 55) dX8_shorten_54 rfl ?_
        rw [pk_mul, nI_add]
        refine wm_laldN (q := 56) dX8_shorten_55 ⟨by decide, by decide, rfl⟩ rfl (by simp only [mlen]; omega) (by decide) rfl ?_
        exact K56 _ (by unfold ab64; rw [if_neg (Int64.not_lt.mpr ((lg_cmp_ge _ _).mp hge))])
      · refine wp_aload_n (i := 0) (q := 31) dX8_shorten_30 rfl rfl rfl ?_
        refine wm_getA (k := 24) (o := 15) (q := 34) dX8_shorten_31 ffX8_54 rfl rfl rfl ?_ -- base
        refine wp_iconst (v := nI 5) (q := 35) dX8_shorten_34 (by decide) rfl ?_
        refine wp_iload_n (i := 1) (q := 36) dX8_shorten_35 rfl rfl rfl ?_
        refine wp_imul (q := 37) dX8_shorten_36 rfl ?_
        refine wp_iload (q := 39) dX8_shorten_37 rfl rfl ?_
        refine wp_iadd (q := 40) dX8_shorten_39 rfl ?_
        rw [pk_mul, nI_add]
        refine wm_laldN (q := 41) dX8_shorten_40 ⟨by decide, by decide, rfl⟩ rfl (by simp only [mlen]; omega) (by decide) rfl ?_
        refine wp_lneg (q := 42) dX8_shorten_41 rfl ?_
        refine wp_goto (q := 56) dX8_shorten_42 (by decide) ?_
        exact K56 _ (by unfold ab64; rw [if_pos (Int64.not_le.mp (fun q => hge ((lg_cmp_ge _ _).mpr q)))])
  exact P5 n 0 (by omega) 0 _ _ _ _ rfl
end M16
