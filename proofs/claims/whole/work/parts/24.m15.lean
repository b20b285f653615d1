/-! THE REFERENCE: the table of readings, brought to its solved shape -/
def exF (t : Nat → Int64) (a c n : Nat) : Nat → Int64 := fun z => if z / 5 = a ∧ z % 5 < n then t (5 * c + z % 5) else if z / 5 = c ∧ z % 5 < n then t (5 * a + z % 5) else t z
def elA (t : Nat → Int64) (p y : Int64) (c rk n K : Nat) : Nat → Int64 := fun z => if z / 5 < K ∧ ¬ z / 5 = rk ∧ z % 5 < n then (p * t z - t (5 * (z / 5) + c) * t (5 * rk + z % 5)) / y else t z
def pvF (t : Nat → Int64) (c : Nat) : Nat → Nat → Nat
  | 0, r => r
  | m + 1, r => if t (5 * r + c) = 0 then pvF t c m (r + 1) else r
abbrev brT : Type := (Nat → Int64) × List Nat × Int64
/-- one place: its first row is found, exchanged, and clears the others -/
def brC (n rows c : Nat) (s : brT) : brT :=
  if pvF s.1 c (rows - s.2.1.length) s.2.1.length < rows then
    (elA (exF s.1 (pvF s.1 c (rows - s.2.1.length) s.2.1.length) s.2.1.length n) (exF s.1 (pvF s.1 c (rows - s.2.1.length) s.2.1.length) s.2.1.length n (5 * s.2.1.length + c)) s.2.2 c s.2.1.length n rows, s.2.1 ++ [c], exF s.1 (pvF s.1 c (rows - s.2.1.length) s.2.1.length) s.2.1.length n (5 * s.2.1.length + c))
  else s
def brF (n rows c : Nat) (s : brT) : brT := (List.range' c (n - c)).foldl (fun s c => brC n rows c s) s
theorem brF_end {n rows c : Nat} {s : brT} (h : n ≤ c) : brF n rows c s = s := by
  unfold brF
  rw [show n - c = 0 by omega]
  rfl
theorem brF_step {n rows c : Nat} {s : brT} (h : c < n) : brF n rows c s = brF n rows (c + 1) (brC n rows c s) := by
  unfold brF
  rw [show n - c = (n - (c + 1)) + 1 by omega, List.range'_succ, List.foldl_cons]
theorem pvF_ge {t : Nat → Int64} {c : Nat} : ∀ m r, r ≤ pvF t c m r ∧ pvF t c m r ≤ r + m
  | 0, r => ⟨Nat.le_refl _, Nat.le_refl _⟩
  | m + 1, r => by
    unfold pvF
    split
    · have := pvF_ge (t := t) (c := c) m (r + 1)
      omega
    · omega
theorem pvF_ne {t : Nat → Int64} {c : Nat} : ∀ m r, pvF t c m r < r + m → ¬ t (5 * pvF t c m r + c) = 0
  | 0, r, h => by simp [pvF] at h
  | m + 1, r, h => by
    unfold pvF at h ⊢
    split
    · next e =>
      rw [if_pos e] at h
      exact pvF_ne m (r + 1) (by omega)
    · next e => exact e
theorem lg_cmp0 {x y : Int64} : lg_cmp x y = 0 ↔ x = y := by
  unfold lg_cmp
  split
  · next h => constructor
              · intro q; exact absurd q (by decide)
              · intro q; subst q; exact absurd h (by simp)
  · split
    · next h => simp [h]
    · next h => constructor
                · intro q; exact absurd q (by decide)
                · intro q; exact absurd q h
def frF (fs : List Nat) (c : Nat) : Bool := !fs.contains c
section M15
variable {l : Launch} {d sz b np na p side : Nat} {I : Nat → Int32} {L : Int64} {A : Nat → Nat → Int32} {B : Nat → Nat → Int64} {g : Nat → Option aE}
theorem tX8_exchange {a c n : Nat} (ha : a < 40) (hc : c < 40) (hn : n ≤ 5) (h17 : I 17 = nI n) : mt l mX8_exchange d 0 0 [.ref b, .int (nI a), .int (nI c)] (sz, mh b I L A B g) (rV (sz, mh b I L A (upR B 12 (exF (B 12) a c n)) g)) := by
  refine mt_in (lv := [_, _, _, _, _, _]) (by decide) (Nat.le_of_ble_eq_true rfl) rfl ?_
  refine wp_iconst (v := nI 0) (q := 1) dX8_exchange_0 (by decide) rfl ?_
  refine wp_istore_n (i := 3) (lv' := [_, _, some _, _, _, _]) (q := 2) dX8_exchange_1 rfl (by decide) rfl rfl ?_
  have H : ∀ m x, x + m = n → ∀ (j4 j5 : Option Value), wp l mX8_exchange [] d 0 0 (rV (sz, mh b I L A (upR B 12 (exF (B 12) a c n)) g)) (sz, mh b I L A (upR B 12 (exF (B 12) a c x)) g) 2 [some (.ref b), some (.int (nI a)), some (.int (nI c)), some (.int (nI x)), j4, j5] [] := by
    intro m
    induction m with
    | zero =>
      intro x hx j4 j5
      refine wp_iload_n (i := 3) (q := 3) dX8_exchange_2 rfl rfl rfl ?_
      refine wp_aload_n (i := 0) (q := 4) dX8_exchange_3 rfl rfl rfl ?_
      refine wm_getI (k := 17) (q := 7) dX8_exchange_4 ffX8_214 rfl rfl ?_ -- columns
      rw [h17]
      refine wp_icmp_ge (t := 60) (q := 10) dX8_exchange_7 (by decide) rfl (fun hc => ?_) (fun hc => ?_)
      · have : x = n := by omega
        subst this
        refine wp_vret dX8_exchange_60 rfl ?_
        exact ⟨rfl, rfl⟩
      · exact absurd ((nI_leI (by omega) (by omega)).mpr (by omega)) hc
    | succ m ih =>
      intro x hx j4 j5
      refine wp_iload_n (i := 3) (q := 3) dX8_exchange_2 rfl rfl rfl ?_
      refine wp_aload_n (i := 0) (q := 4) dX8_exchange_3 rfl rfl rfl ?_
      refine wm_getI (k := 17) (q := 7) dX8_exchange_4 ffX8_214 rfl rfl ?_ -- columns
      rw [h17]
      refine wp_icmp_ge (t := 60) (q := 10) dX8_exchange_7 (by decide) rfl (fun hc => ?_) (fun hc => ?_)
      · exact absurd ((nI_leI (by omega) (by omega)).mp hc) (by omega)
      refine wp_aload_n (i := 0) (q := 11) dX8_exchange_10 rfl rfl rfl ?_
      refine wm_getA (k := 19) (o := 12) (q := 14) dX8_exchange_11 ffX8_44 rfl rfl rfl ?_ -- table
      refine wp_iconst (v := nI 5) (q := 15) dX8_exchange_14 (by decide) rfl ?_
      refine wp_iload_n (i := 1) (q := 16) dX8_exchange_15 rfl rfl rfl ?_
      refine wp_imul (q := 17) dX8_exchange_16 rfl ?_
      refine wp_iload_n (i := 3) (q := 18) dX8_exchange_17 rfl rfl rfl ?_
      refine wp_iadd (q := 19) dX8_exchange_18 rfl ?_
      rw [pk_mul, nI_add]
      refine wm_laldN (q := 20) dX8_exchange_19 ⟨by decide, by decide, rfl⟩ rfl (by simp only [mlen]; omega) (by decide) rfl ?_
      refine wp_lstore (lv' := [_, _, _, some _, _, _]) (q := 22) dX8_exchange_20 (by decide) rfl rfl ?_
      refine wp_aload_n (i := 0) (q := 23) dX8_exchange_22 rfl rfl rfl ?_
      refine wm_getA (k := 19) (o := 12) (q := 26) dX8_exchange_23 ffX8_44 rfl rfl rfl ?_ -- table
      refine wp_iconst (v := nI 5) (q := 27) dX8_exchange_26 (by decide) rfl ?_
      refine wp_iload_n (i := 1) (q := 28) dX8_exchange_27 rfl rfl rfl ?_
      refine wp_imul (q := 29) dX8_exchange_28 rfl ?_
      refine wp_iload_n (i := 3) (q := 30) dX8_exchange_29 rfl rfl rfl ?_
      refine wp_iadd (q := 31) dX8_exchange_30 rfl ?_
      rw [pk_mul, nI_add]
      refine wp_aload_n (i := 0) (q := 32) dX8_exchange_31 rfl rfl rfl ?_
      refine wm_getA (k := 19) (o := 12) (q := 35) dX8_exchange_32 ffX8_44 rfl rfl rfl ?_ -- table
      refine wp_iconst (v := nI 5) (q := 36) dX8_exchange_35 (by decide) rfl ?_
      refine wp_iload_n (i := 2) (q := 37) dX8_exchange_36 rfl rfl rfl ?_
      refine wp_imul (q := 38) dX8_exchange_37 rfl ?_
      refine wp_iload_n (i := 3) (q := 39) dX8_exchange_38 rfl rfl rfl ?_
      refine wp_iadd (q := 40) dX8_exchange_39 rfl ?_
      rw [pk_mul, nI_add]
      refine wm_laldN (q := 41) dX8_exchange_40 ⟨by decide, by decide, rfl⟩ rfl (by simp only [mlen]; omega) (by decide) rfl ?_
      refine wm_lastN (q := 42) dX8_exchange_41 ⟨by decide, by decide, rfl⟩ rfl (by simp only [mlen]; omega) (by decide) rfl ?_
      refine wp_aload_n (i := 0) (q := 43) dX8_exchange_42 rfl rfl rfl ?_
      refine wm_getA (k := 19) (o := 12) (q := 46) dX8_exchange_43 ffX8_44 rfl rfl rfl ?_ -- table
      refine wp_iconst (v := nI 5) (q := 47) dX8_exchange_46 (by decide) rfl ?_
      refine wp_iload_n (i := 2) (q := 48) dX8_exchange_47 rfl rfl rfl ?_
      refine wp_imul (q := 49) dX8_exchange_48 rfl ?_
      refine wp_iload_n (i := 3) (q := 50) dX8_exchange_49 rfl rfl rfl ?_
      refine wp_iadd (q := 51) dX8_exchange_50 rfl ?_
      rw [pk_mul, nI_add]
      refine wp_lload (q := 53) dX8_exchange_51 rfl rfl ?_
      refine wm_lastN (q := 54) dX8_exchange_53 ⟨by decide, by decide, rfl⟩ rfl (by simp only [mlen]; omega) (by decide) rfl ?_
      refine wp_iinc (v := _ + nI 1) (lv' := [_, _, some _, _, _, _]) (q := 57) dX8_exchange_54 rfl rfl (by decide) rfl rfl ?_
      refine wp_goto (q := 2) dX8_exchange_57 (by decide) ?_
      rw [nI_add, up2_upR, up2_upR, upR_at]
      have e : (fun k => if k = 5 * c + x then exF (B 12) a c x (5 * a + x) else if k = 5 * a + x then exF (B 12) a c x (5 * c + x) else exF (B 12) a c x k) = exF (B 12) a c (x + 1) := by
        have q1 : (5 * a + x) / 5 = a := by omega
        have q2 : (5 * a + x) % 5 = x := by omega
        have q3 : (5 * c + x) / 5 = c := by omega
        have q4 : (5 * c + x) % 5 = x := by omega
        funext z
        by_cases z1 : z = 5 * c + x
        · subst z1
          simp only [exF, q1, q2, q3, q4, if_true]
          by_cases hac : c = a
          · subst hac; simp
          · simp [hac]
        · by_cases z2 : z = 5 * a + x
          · subst z2
            have hac : ¬ a = c := fun q => z1 (by rw [q])
            simp only [exF, q1, q2, q3, q4, hac, z1, if_true, if_false, true_and, false_and, show x < x + 1 by omega, show ¬ x < x by omega, and_false, show ¬ c = a from fun q => hac q.symm]
          · simp only [z1, z2, if_false, exF]
            by_cases w1 : z / 5 = a
            · have : ¬ z % 5 = x := by omega
              simp only [w1, true_and, show (z % 5 < x + 1) ↔ z % 5 < x by omega]
            · by_cases w2 : z / 5 = c
              · have : ¬ z % 5 = x := by omega
                simp only [w1, w2, false_and, true_and, show (z % 5 < x + 1) ↔ z % 5 < x by omega]
              · simp only [w1, w2, false_and]
      rw [e]
      exact ih (x + 1) (by omega) _ _
  have := H n 0 (by omega) none none
  rw [show exF (B 12) a c 0 = B 12 by funext z; simp [exF], upR_self] at this
  exact this
theorem tX8_bring {n rows : Nat} (hd : 1 ≤ d) (hn : n ≤ 5) (hr : rows ≤ 40) (h16 : I 16 = nI rows) (h17 : I 17 = nI n) : mt l mX8_bring d 0 0 [.ref b] (sz, mh b I L A B g) (fun rv h' => rv = none ∧ ∃ I' A', h' = (sz, mh b I' (brF n rows 0 (B 12, [], 1)).2.2 A' (upR B 12 (brF n rows 0 (B 12, [], 1)).1) g) ∧ SC [18] [13, 14] I A I' A' ∧ I' 18 = nI (brF n rows 0 (B 12, [], 1)).2.1.length ∧ fwc (A' 13) (brF n rows 0 (B 12, [], 1)).2.1 ∧ ∀ c, c < n → A' 14 c = b2 (frF (brF n rows 0 (B 12, [], 1)).2.1 c)) := by
  refine mt_in (lv := [_, _, _, _, _, _, _, _, _]) (by decide) (Nat.le_of_ble_eq_true rfl) rfl ?_
  refine wp_aload_n (i := 0) (q := 1) dX8_bring_0 rfl rfl rfl ?_
  refine wp_iconst (v := nI 0) (q := 2) dX8_bring_1 (by decide) rfl ?_
  refine wm_putI (k := 18) (q := 5) dX8_bring_2 ffX8_207 rfl rfl ?_ -- rank
  refine wp_aload_n (i := 0) (q := 6) dX8_bring_5 rfl rfl rfl ?_
  refine wp_lconst (v := 1) (q := 7) dX8_bring_6 (by decide) rfl ?_
  refine wm_putL (q := 10) dX8_bring_7 ffX8_210 mty_L rfl ?_ -- by
  refine wp_iconst (v := nI 0) (q := 11) dX8_bring_10 (by decide) rfl ?_
  refine wp_istore_n (i := 1) (lv' := [some _, _, _, _, _, _, _, _, _]) (q := 12) dX8_bring_11 rfl (by decide) rfl rfl ?_
  generalize hG : brF n rows 0 (B 12, [], 1) = G
  have P12 : ∀ m c, c + m = n → ∀ (s : brT) (I1 : Nat → Int32) (A1 : Nat → Nat → Int32) (j2 j3 j4 j5 j6 j7 j8 : Option Value), SC [18] [13, 14] I A I1 A1 → I1 18 = nI s.2.1.length → fwc (A1 13) s.2.1 → (∀ c', c' < c → A1 14 c' = b2 (frF s.2.1 c')) → (∀ x ∈ s.2.1, x < c) → s.2.1.length ≤ c → s.2.1.length ≤ rows → ¬ s.2.2 = 0 → brF n rows c s = G → wp l mX8_bring [] d 0 0 (fun rv h' => rv = none ∧ ∃ I' A', h' = (sz, mh b I' G.2.2 A' (upR B 12 G.1) g) ∧ SC [18] [13, 14] I A I' A' ∧ I' 18 = nI G.2.1.length ∧ fwc (A' 13) G.2.1 ∧ ∀ c, c < n → A' 14 c = b2 (frF G.2.1 c)) (sz, mh b I1 s.2.2 A1 (upR B 12 s.1) g) 12 [some (.ref b), some (.int (nI c)), j2, j3, j4, j5, j6, j7, j8] [] := by
    intro m
    induction m with
    | zero =>
      intro c hc s I1 A1 j2 j3 j4 j5 j6 j7 j8 hS h18 hf hfree hlt hlc hlr hy he
      have e17 : I1 17 = nI n := (hS.1 17 (by decide)).trans h17
      refine wp_iload_n (i := 1) (q := 13) dX8_bring_12 rfl rfl rfl ?_
      refine wp_aload_n (i := 0) (q := 14) dX8_bring_13 rfl rfl rfl ?_
      refine wm_getI (k := 17) (q := 17) dX8_bring_14 ffX8_214 rfl rfl ?_ -- columns
      rw [e17]
      refine wp_icmp_ge (t := 237) (q := 20) dX8_bring_17 (by decide) rfl (fun hcc => ?_) (fun hcc => ?_)
      · rw [brF_end (by omega)] at he
        subst he
        refine wp_vret dX8_bring_237 rfl ?_
        exact ⟨rfl, I1, A1, rfl, hS, h18, hf, fun c' hc' => hfree c' (by omega)⟩
      · exact absurd ((nI_leI (by omega) (by omega)).mpr (by omega)) hcc
    | succ m ih =>
      intro c hc s I1 A1 j2 j3 j4 j5 j6 j7 j8 hS h18 hf hfree hlt hlc hlr hy he
      have e17 : I1 17 = nI n := (hS.1 17 (by decide)).trans h17
      have e16 : I1 16 = nI rows := (hS.1 16 (by decide)).trans h16
      obtain ⟨t, fs, y⟩ := s
      dsimp only at h18 hf hfree hlt hlc hlr hy he ⊢
      rw [brF_step (by omega)] at he
      unfold brC at he
      dsimp only at he
      refine wp_iload_n (i := 1) (q := 13) dX8_bring_12 rfl rfl rfl ?_
      refine wp_aload_n (i := 0) (q := 14) dX8_bring_13 rfl rfl rfl ?_
      refine wm_getI (k := 17) (q := 17) dX8_bring_14 ffX8_214 rfl rfl ?_ -- columns
      rw [e17]
      refine wp_icmp_ge (t := 237) (q := 20) dX8_bring_17 (by decide) rfl (fun hcc => ?_) (fun hcc => ?_)
      · exact absurd ((nI_leI (by omega) (by omega)).mp hcc) (by omega)
      refine wp_aload_n (i := 0) (q := 21) dX8_bring_20 rfl rfl rfl ?_
      refine wm_getA (k := 21) (o := 14) (q := 24) dX8_bring_21 ffX8_51 rfl rfl rfl ?_ -- isFree
      refine wp_iload_n (i := 1) (q := 25) dX8_bring_24 rfl rfl rfl ?_
      refine wp_iconst (v := nI 1) (q := 26) dX8_bring_25 (by decide) rfl ?_
      refine wm_zastN (q := 27) dX8_bring_26 ⟨by decide, by decide, rfl⟩ rfl (by simp only [mlen]; omega) (by decide) (by first | exact Or.inl rfl | exact Or.inr rfl | exact b2_01 _ | assumption) rfl ?_
      refine wp_aload_n (i := 0) (q := 28) dX8_bring_27 rfl rfl rfl ?_
      refine wm_getI (k := 18) (q := 31) dX8_bring_28 ffX8_207 rfl rfl ?_ -- rank
      refine wp_istore_n (i := 2) (lv' := [_, some _, _, _, _, _, _, _, _]) (q := 32) dX8_bring_31 rfl (by decide) rfl rfl ?_
      rw [h18]
      have hSa : SC [18] [13, 14] I A I1 (up2 A1 14 c (nI 1)) := hS.tr (SC.u2 (by decide))
      have hpv := pvF_ge (t := t) (c := c) (rows - fs.length) fs.length
      have P32 : ∀ m r, r + m = rows → ∀ (y3 y4 y5 y6 y7 y8 : Option Value), pvF t c m r = pvF t c (rows - fs.length) fs.length → wp l mX8_bring [] d 0 0 (fun rv h' => rv = none ∧ ∃ I' A', h' = (sz, mh b I' G.2.2 A' (upR B 12 G.1) g) ∧ SC [18] [13, 14] I A I' A' ∧ I' 18 = nI G.2.1.length ∧ fwc (A' 13) G.2.1 ∧ ∀ c, c < n → A' 14 c = b2 (frF G.2.1 c)) (sz, mh b I1 y (up2 A1 14 c (nI 1)) (upR B 12 t) g) 61 [some (.ref b), some (.int (nI c)), some (.int (nI (pvF t c (rows - fs.length) fs.length))), y3, y4, y5, y6, y7, y8] [] → wp l mX8_bring [] d 0 0 (fun rv h' => rv = none ∧ ∃ I' A', h' = (sz, mh b I' G.2.2 A' (upR B 12 G.1) g) ∧ SC [18] [13, 14] I A I' A' ∧ I' 18 = nI G.2.1.length ∧ fwc (A' 13) G.2.1 ∧ ∀ c, c < n → A' 14 c = b2 (frF G.2.1 c)) (sz, mh b I1 y (up2 A1 14 c (nI 1)) (upR B 12 t) g) 32 [some (.ref b), some (.int (nI c)), some (.int (nI r)), y3, y4, y5, y6, y7, y8] [] := by
        intro m
        induction m with
        | zero =>
          intro r hr2 y3 y4 y5 y6 y7 y8 hpe k61
          refine wp_iload_n (i := 2) (q := 33) dX8_bring_32 rfl rfl rfl ?_
          refine wp_aload_n (i := 0) (q := 34) dX8_bring_33 rfl rfl rfl ?_
          refine wm_getI (k := 16) (q := 37) dX8_bring_34 ffX8_217 rfl rfl ?_ -- rows
          rw [e16]
          refine wp_icmp_ge (t := 61) (q := 40) dX8_bring_37 (by decide) rfl (fun hge => ?_) (fun hge => ?_)
          · rw [pvF] at hpe
            rw [← hpe] at k61
            exact k61
          · exact absurd ((nI_leI (by omega) (by omega)).mpr (by omega)) hge
        | succ m ihr =>
          intro r hr2 y3 y4 y5 y6 y7 y8 hpe k61
          refine wp_iload_n (i := 2) (q := 33) dX8_bring_32 rfl rfl rfl ?_
          refine wp_aload_n (i := 0) (q := 34) dX8_bring_33 rfl rfl rfl ?_
          refine wm_getI (k := 16) (q := 37) dX8_bring_34 ffX8_217 rfl rfl ?_ -- rows
          rw [e16]
          refine wp_icmp_ge (t := 61) (q := 40) dX8_bring_37 (by decide) rfl (fun hge => ?_) (fun hge => ?_)
          · exact absurd ((nI_leI (by omega) (by omega)).mp hge) (by omega)
          refine wp_aload_n (i := 0) (q := 41) dX8_bring_40 rfl rfl rfl ?_
          refine wm_getA (k := 19) (o := 12) (q := 44) dX8_bring_41 ffX8_44 rfl rfl rfl ?_ -- table
          refine wp_iconst (v := nI 5) (q := 45) dX8_bring_44 (by decide) rfl ?_
          refine wp_iload_n (i := 2) (q := 46) dX8_bring_45 rfl rfl rfl ?_
          refine wp_imul (q := 47) dX8_bring_46 rfl ?_
          refine wp_iload_n (i := 1) (q := 48) dX8_bring_47 rfl rfl rfl ?_
          refine wp_iadd (q := 49) dX8_bring_48 rfl ?_
          rw [pk_mul, nI_add]
          refine wm_laldN (q := 50) dX8_bring_49 ⟨by decide, by decide, rfl⟩ rfl (by simp only [mlen]; omega) (by decide) rfl ?_
          refine wp_lconst (v := 0) (q := 51) dX8_bring_50 (by decide) rfl ?_
          refine wp_lcmp (q := 52) dX8_bring_51 rfl ?_
          rw [upR_at]
          rw [pvF] at hpe
          refine wp_if_ne (t := 61) (q := 55) dX8_bring_52 (by decide) rfl (fun hz => ?_) (fun hz => ?_)
          · have hz : ¬ t (5 * r + c) = 0 := fun q => hz (lg_cmp0.mpr q)
            rw [if_neg hz] at hpe
            rw [← hpe] at k61
            exact k61
          · have hz : t (5 * r + c) = 0 := lg_cmp0.mp hz
            rw [if_pos hz] at hpe
            refine wp_iinc (v := _ + nI 1) (lv' := [_, some _, _, _, _, _, _, _, _]) (q := 58) dX8_bring_55 rfl rfl (by decide) rfl rfl ?_
            refine wp_goto (q := 32) dX8_bring_58 (by decide) ?_
            rw [nI_add]
            exact ihr (r + 1) (by omega) _ _ _ _ _ _ hpe k61
      refine P32 (rows - fs.length) fs.length (by omega) _ _ _ _ _ _ rfl ?_
      generalize hpp : pvF t c (rows - fs.length) fs.length = r at hpv he ⊢
      refine wp_iload_n (i := 2) (q := 62) dX8_bring_61 rfl rfl rfl ?_
      refine wp_aload_n (i := 0) (q := 63) dX8_bring_62 rfl rfl rfl ?_
      refine wm_getI (k := 16) (q := 66) dX8_bring_63 ffX8_217 rfl rfl ?_ -- rows
      rw [e16]
      refine wp_icmp_ge (t := 231) (q := 69) dX8_bring_66 (by decide) rfl (fun hge => ?_) (fun hge => ?_)
      · have hge : rows ≤ r := (nI_leI (by omega) (by omega)).mp hge
        rw [if_neg (by omega)] at he
        refine wp_iinc (v := _ + nI 1) (lv' := [some _, _, _, _, _, _, _, _, _]) (q := 234) dX8_bring_231 rfl rfl (by decide) rfl rfl ?_
        refine wp_goto (q := 12) dX8_bring_234 (by decide) ?_
        rw [nI_add]
        refine ih (c + 1) (by omega) (t, fs, y) I1 _ _ _ _ _ _ _ _ hSa h18 (by rw [up2_ne (by decide)]; exact hf) (fun c' hc' => ?_) (fun x hx => by have := hlt x hx; omega) (by show fs.length ≤ c + 1; omega) hlr hy he
        rw [up2_row]
        by_cases e : c' = c
        · subst e
          simp only [if_true]
          have : frF fs c' = true := by unfold frF; rw [show fs.contains c' = false by rw [List.contains_eq_mem, decide_eq_false (fun q => by have := hlt c' q; omega)]]; rfl
          rw [this]
          rfl
        · simp only [e, if_false]
          exact hfree c' (by omega)
      have hrr : r < rows := by
        rcases Nat.lt_or_ge r rows with q | q
        · exact q
        · exact absurd ((nI_leI (by omega) (by omega)).mpr q) hge
      rw [if_pos hrr] at he
      have hnz : ¬ t (5 * r + c) = 0 := by
        have := pvF_ne (t := t) (c := c) (rows - fs.length) fs.length (by omega)
        rw [hpp] at this
        exact this
      refine wp_aload_n (i := 0) (q := 70) dX8_bring_69 rfl rfl rfl ?_
      refine wm_getA (k := 21) (o := 14) (q := 73) dX8_bring_70 ffX8_51 rfl rfl rfl ?_ -- isFree
      refine wp_iload_n (i := 1) (q := 74) dX8_bring_73 rfl rfl rfl ?_
      refine wp_iconst (v := nI 0) (q := 75) dX8_bring_74 (by decide) rfl ?_
      refine wm_zastN (q := 76) dX8_bring_75 ⟨by decide, by decide, rfl⟩ rfl (by simp only [mlen]; omega) (by decide) (by first | exact Or.inl rfl | exact Or.inr rfl | exact b2_01 _ | assumption) rfl ?_
      refine wp_aload_n (i := 0) (q := 77) dX8_bring_76 rfl rfl rfl ?_
      refine wp_iload_n (i := 2) (q := 78) dX8_bring_77 rfl rfl rfl ?_
      refine wp_aload_n (i := 0) (q := 79) dX8_bring_78 rfl rfl rfl ?_
      refine wm_getI (k := 18) (q := 82) dX8_bring_79 ffX8_207 rfl rfl ?_ -- rank
      rw [h18]
      refine wp_Vv (μ' := mX8_exchange) (ci := 8) (q := 85) (tX8_exchange (d := d - 1) (n := n) (by omega) (by omega) hn e17) dX8_bring_82 okX8_exchange lkX8_220 mh_obj rfl rfl rfl (Nat.le_of_ble_eq_true rfl) (by omega) rfl ?_
      rw [upR_upR, upR_at]
      generalize ht1 : exF t r fs.length n = t1 at he ⊢
      have hp1 : t1 (5 * fs.length + c) = t (5 * r + c) := by
        rw [← ht1]
        unfold exF
        rw [show (5 * fs.length + c) / 5 = fs.length by omega, show (5 * fs.length + c) % 5 = c by omega]
        by_cases e : fs.length = r
        · rw [if_pos ⟨e, by omega⟩, e]
        · rw [if_neg (fun q => e q.1), if_pos ⟨rfl, by omega⟩]
      refine wp_aload_n (i := 0) (q := 86) dX8_bring_85 rfl rfl rfl ?_
      refine wm_getA (k := 19) (o := 12) (q := 89) dX8_bring_86 ffX8_44 rfl rfl rfl ?_ -- table
      refine wp_iconst (v := nI 5) (q := 90) dX8_bring_89 (by decide) rfl ?_
      refine wp_aload_n (i := 0) (q := 91) dX8_bring_90 rfl rfl rfl ?_
      refine wm_getI (k := 18) (q := 94) dX8_bring_91 ffX8_207 rfl rfl ?_ -- rank
      rw [h18]
      refine wp_imul (q := 95) dX8_bring_94 rfl ?_
      refine wp_iload_n (i := 1) (q := 96) dX8_bring_95 rfl rfl rfl ?_
      refine wp_iadd (q := 97) dX8_bring_96 rfl ?_
      rw [pk_mul, nI_add]
      refine wm_laldN (q := 98) dX8_bring_97 ⟨by decide, by decide, rfl⟩ rfl (by simp only [mlen]; omega) (by decide) rfl ?_
      refine wp_lstore_n (i := 3) (lv' := [_, _, some _, _, _, _, _, _, _]) (q := 99) dX8_bring_98 rfl (by decide) rfl rfl ?_
      refine wp_iconst (v := nI 0) (q := 100) dX8_bring_99 (by decide) rfl ?_
      refine wp_istore (lv' := [_, _, _, _, _, _, _, _, _]) (q := 102) dX8_bring_100 (by decide) rfl rfl ?_
      rw [upR_at]
      have hpz : ¬ t1 (5 * fs.length + c) = 0 := by rw [hp1]; exact hnz
      generalize t1 (5 * fs.length + c) = pp at he hpz ⊢
      generalize hAx : up2 (up2 A1 14 c (nI 1)) 14 c (nI 0) = Ax
      have hSx : SC [18] [13, 14] I A I1 Ax := by rw [← hAx]; exact hSa.tr (SC.u2 (by decide))
      have hfx : fwc (Ax 13) fs := by rw [← hAx, up2_ne (by decide), up2_ne (by decide)]; exact hf
      have hfreex : ∀ c', c' < c + 1 → Ax 14 c' = b2 (frF (fs ++ [c]) c') := by
        intro c' hc'
        rw [← hAx, up2_row, up2_row]
        by_cases e : c' = c
        · subst e
          simp only [if_true]
          have : frF (fs ++ [c']) c' = false := by unfold frF; rw [show (fs ++ [c']).contains c' = true by rw [List.contains_eq_mem, decide_eq_true (by simp)]]; rfl
          rw [this]
          rfl
        · simp only [e, if_false]
          rw [hfree c' (by omega)]
          congr 1
          unfold frF
          simp [List.contains_eq_mem, e]
      have P102 : ∀ m k, k + m = rows → ∀ (y6 y7 y8 : Option Value), wp l mX8_bring [] d 0 0 (fun rv h' => rv = none ∧ ∃ I' A', h' = (sz, mh b I' G.2.2 A' (upR B 12 G.1) g) ∧ SC [18] [13, 14] I A I' A' ∧ I' 18 = nI G.2.1.length ∧ fwc (A' 13) G.2.1 ∧ ∀ c, c < n → A' 14 c = b2 (frF G.2.1 c)) (sz, mh b I1 y Ax (upR B 12 (elA t1 pp y c fs.length n k)) g) 102 [some (.ref b), some (.int (nI c)), some (.int (nI r)), some (.long pp), none, some (.int (nI k)), y6, y7, y8] [] := by
        intro m
        induction m with
        | zero =>
          intro k hk y6 y7 y8
          have hk : k = rows := by omega
          subst hk
          refine wp_iload (q := 104) dX8_bring_102 rfl rfl ?_
          refine wp_aload_n (i := 0) (q := 105) dX8_bring_104 rfl rfl rfl ?_
          refine wm_getI (k := 16) (q := 108) dX8_bring_105 ffX8_217 rfl rfl ?_ -- rows
          rw [e16]
          refine wp_icmp_ge (t := 206) (q := 111) dX8_bring_108 (by decide) rfl (fun hge2 => ?_) (fun hge2 => ?_)
          · refine wp_aload_n (i := 0) (q := 207) dX8_bring_206 rfl rfl rfl ?_
            refine wp_lload_n (i := 3) (q := 208) dX8_bring_207 rfl rfl rfl ?_
            refine wm_putL (q := 211) dX8_bring_208 ffX8_210 mty_L rfl ?_ -- by
            refine wp_aload_n (i := 0) (q := 212) dX8_bring_211 rfl rfl rfl ?_
            refine wm_getA (k := 20) (o := 13) (q := 215) dX8_bring_212 ffX8_48 rfl rfl rfl ?_ -- first
            refine wp_aload_n (i := 0) (q := 216) dX8_bring_215 rfl rfl rfl ?_
            refine wm_getI (k := 18) (q := 219) dX8_bring_216 ffX8_207 rfl rfl ?_ -- rank
            refine wp_iload_n (i := 1) (q := 220) dX8_bring_219 rfl rfl rfl ?_
            rw [h18]
            refine wm_iastN (q := 221) dX8_bring_220 ⟨by decide, by decide, rfl⟩ rfl (by simp only [mlen]; omega) (by decide) rfl ?_
            refine wp_aload_n (i := 0) (q := 222) dX8_bring_221 rfl rfl rfl ?_
            refine wp_dup (q := 223) dX8_bring_222 rfl rfl ?_
            refine wm_getI (k := 18) (q := 226) dX8_bring_223 ffX8_207 rfl rfl ?_ -- rank
            refine wp_iconst (v := nI 1) (q := 227) dX8_bring_226 (by decide) rfl ?_
            refine wp_iadd (q := 228) dX8_bring_227 rfl ?_
            rw [h18, nI_add]
            refine wm_putI (k := 18) (q := 231) dX8_bring_228 ffX8_207 rfl rfl ?_ -- rank
            refine wp_iinc (v := _ + nI 1) (lv' := [some _, _, _, _, _, _, _, _, _]) (q := 234) dX8_bring_231 rfl rfl (by decide) rfl rfl ?_
            refine wp_goto (q := 12) dX8_bring_234 (by decide) ?_
            rw [nI_add]
            refine ih (c + 1) (by omega) (elA t1 pp y c fs.length n k, fs ++ [c], pp) _ _ _ _ _ _ _ _ _ (hSx.tr ((SC.u2 (by decide)).tr (SC.uI (by decide)))) (by simp [upd]) (by rw [up2_row]; exact fwc_app hfx) (fun c' hc' => by rw [up2_ne (by decide)]; exact hfreex c' hc') (fun x hx => ?_) (by simp; omega) (by simp; omega) hpz he
            rcases List.mem_append.mp hx with q | q
            · have := hlt x q; omega
            · simp at q; omega
          · exact absurd ((nI_leI (by omega) (by omega)).mpr (by omega)) hge2
        | succ m ihk =>
          intro k hk y6 y7 y8
          refine wp_iload (q := 104) dX8_bring_102 rfl rfl ?_
          refine wp_aload_n (i := 0) (q := 105) dX8_bring_104 rfl rfl rfl ?_
          refine wm_getI (k := 16) (q := 108) dX8_bring_105 ffX8_217 rfl rfl ?_ -- rows
          rw [e16]
          refine wp_icmp_ge (t := 206) (q := 111) dX8_bring_108 (by decide) rfl (fun hge2 => ?_) (fun hge2 => ?_)
          · exact absurd ((nI_leI (by omega) (by omega)).mp hge2) (by omega)
          refine wp_iload (q := 113) dX8_bring_111 rfl rfl ?_
          refine wp_aload_n (i := 0) (q := 114) dX8_bring_113 rfl rfl rfl ?_
          refine wm_getI (k := 18) (q := 117) dX8_bring_114 ffX8_207 rfl rfl ?_ -- rank
          rw [h18]
          refine wp_icmp_eq (t := 200) (q := 120) dX8_bring_117 (by decide) rfl (fun hkr => ?_) (fun hkr => ?_)
          · have hkr : k = fs.length := (nI_eq (by omega) (by omega)).mp hkr
            refine wp_iinc (v := _ + nI 1) (lv' := [_, _, _, _, _, _, _, _, _]) (q := 203) dX8_bring_200 rfl rfl (by decide) rfl rfl ?_
            refine wp_goto (q := 102) dX8_bring_203 (by decide) ?_
            rw [nI_add]
            have e : elA t1 pp y c fs.length n k = elA t1 pp y c fs.length n (k + 1) := by
              funext z
              unfold elA
              by_cases w : z / 5 = fs.length
              · simp [w]
              · simp only [w, show (z / 5 < k + 1) ↔ z / 5 < k by omega]
            rw [e]
            exact ihk (k + 1) (by omega) _ _ _
          have hkr : ¬ k = fs.length := fun q => hkr (by rw [q])
          refine wp_aload_n (i := 0) (q := 121) dX8_bring_120 rfl rfl rfl ?_
          refine wm_getA (k := 19) (o := 12) (q := 124) dX8_bring_121 ffX8_44 rfl rfl rfl ?_ -- table
          refine wp_iconst (v := nI 5) (q := 125) dX8_bring_124 (by decide) rfl ?_
          refine wp_iload (q := 127) dX8_bring_125 rfl rfl ?_
          refine wp_imul (q := 128) dX8_bring_127 rfl ?_
          refine wp_iload_n (i := 1) (q := 129) dX8_bring_128 rfl rfl rfl ?_
          refine wp_iadd (q := 130) dX8_bring_129 rfl ?_
          rw [pk_mul, nI_add]
          refine wm_laldN (q := 131) dX8_bring_130 ⟨by decide, by decide, rfl⟩ rfl (by simp only [mlen]; omega) (by decide) rfl ?_
          refine wp_lstore (lv' := [_, _, _, _, _, some _, _, _, _]) (q := 133) dX8_bring_131 (by decide) rfl rfl ?_
          refine wp_iconst (v := nI 0) (q := 134) dX8_bring_133 (by decide) rfl ?_
          refine wp_istore (lv' := [_, _, _, _, _, _, _, _, _]) (q := 136) dX8_bring_134 (by decide) rfl rfl ?_
          rw [upR_at]
          have hq : elA t1 pp y c fs.length n k (5 * k + c) = t1 (5 * k + c) := by unfold elA; rw [if_neg (by omega)]
          rw [hq]
          have P136 : ∀ m x, x + m = n → wp l mX8_bring [] d 0 0 (fun rv h' => rv = none ∧ ∃ I' A', h' = (sz, mh b I' G.2.2 A' (upR B 12 G.1) g) ∧ SC [18] [13, 14] I A I' A' ∧ I' 18 = nI G.2.1.length ∧ fwc (A' 13) G.2.1 ∧ ∀ c, c < n → A' 14 c = b2 (frF G.2.1 c)) (sz, mh b I1 y Ax (upR B 12 (fun z => if z / 5 = k ∧ z % 5 < x then (pp * t1 z - t1 (5 * k + c) * t1 (5 * fs.length + z % 5)) / y else elA t1 pp y c fs.length n k z)) g) 136 [some (.ref b), some (.int (nI c)), some (.int (nI r)), some (.long pp), none, some (.int (nI k)), some (.long (t1 (5 * k + c))), none, some (.int (nI x))] [] := by
            intro m
            induction m with
            | zero =>
              intro x hx
              have hx : x = n := by omega
              subst hx
              refine wp_iload (q := 138) dX8_bring_136 rfl rfl ?_
              refine wp_aload_n (i := 0) (q := 139) dX8_bring_138 rfl rfl rfl ?_
              refine wm_getI (k := 17) (q := 142) dX8_bring_139 ffX8_214 rfl rfl ?_ -- columns
              rw [e17]
              refine wp_icmp_ge (t := 200) (q := 145) dX8_bring_142 (by decide) rfl (fun hge3 => ?_) (fun hge3 => ?_)
              · refine wp_iinc (v := _ + nI 1) (lv' := [_, _, _, _, _, _, _, _, _]) (q := 203) dX8_bring_200 rfl rfl (by decide) rfl rfl ?_
                refine wp_goto (q := 102) dX8_bring_203 (by decide) ?_
                rw [nI_add]
                have e : (fun z => if z / 5 = k ∧ z % 5 < x then (pp * t1 z - t1 (5 * k + c) * t1 (5 * fs.length + z % 5)) / y else elA t1 pp y c fs.length x k z) = elA t1 pp y c fs.length x (k + 1) := by
                  funext z
                  unfold elA
                  by_cases w : z / 5 = k
                  · by_cases w2 : z % 5 < x
                    · simp only [w, w2, true_and, and_true, if_true, show k < k + 1 by omega, hkr, not_false_eq_true]
                    · simp only [w, w2, and_false, if_false]
                  · simp only [w, false_and, if_false, show (z / 5 < k + 1) ↔ z / 5 < k by omega]
                rw [e]
                exact ihk (k + 1) (by omega) _ _ _
              · exact absurd ((nI_leI (by omega) (by omega)).mpr (by omega)) hge3
            | succ m ihx =>
              intro x hx
              refine wp_iload (q := 138) dX8_bring_136 rfl rfl ?_
              refine wp_aload_n (i := 0) (q := 139) dX8_bring_138 rfl rfl rfl ?_
              refine wm_getI (k := 17) (q := 142) dX8_bring_139 ffX8_214 rfl rfl ?_ -- columns
              rw [e17]
              refine wp_icmp_ge (t := 200) (q := 145) dX8_bring_142 (by decide) rfl (fun hge3 => ?_) (fun hge3 => ?_)
              · exact absurd ((nI_leI (by omega) (by omega)).mp hge3) (by omega)
              refine wp_aload_n (i := 0) (q := 146) dX8_bring_145 rfl rfl rfl ?_
              refine wm_getA (k := 19) (o := 12) (q := 149) dX8_bring_146 ffX8_44 rfl rfl rfl ?_ -- table
              refine wp_iconst (v := nI 5) (q := 150) dX8_bring_149 (by decide) rfl ?_
              refine wp_iload (q := 152) dX8_bring_150 rfl rfl ?_
              refine wp_imul (q := 153) dX8_bring_152 rfl ?_
              refine wp_iload (q := 155) dX8_bring_153 rfl rfl ?_
              refine wp_iadd (q := 156) dX8_bring_155 rfl ?_
              rw [pk_mul, nI_add]
              refine wp_lload_n (i := 3) (q := 157) dX8_bring_156 rfl rfl rfl ?_
              refine wp_aload_n (i := 0) (q := 158) dX8_bring_157 rfl rfl rfl ?_
              refine wm_getA (k := 19) (o := 12) (q := 161) dX8_bring_158 ffX8_44 rfl rfl rfl ?_ -- table
              refine wp_iconst (v := nI 5) (q := 162) dX8_bring_161 (by decide) rfl ?_
              refine wp_iload (q := 164) dX8_bring_162 rfl rfl ?_
              refine wp_imul (q := 165) dX8_bring_164 rfl ?_
              refine wp_iload (q := 167) dX8_bring_165 rfl rfl ?_
              refine wp_iadd (q := 168) dX8_bring_167 rfl ?_
              rw [pk_mul, nI_add]
              refine wm_laldN (q := 169) dX8_bring_168 ⟨by decide, by decide, rfl⟩ rfl (by simp only [mlen]; omega) (by decide) rfl ?_
              refine wp_lmul (q := 170) dX8_bring_169 rfl ?_
              refine wp_lload (q := 172) dX8_bring_170 rfl rfl ?_
              refine wp_aload_n (i := 0) (q := 173) dX8_bring_172 rfl rfl rfl ?_
              refine wm_getA (k := 19) (o := 12) (q := 176) dX8_bring_173 ffX8_44 rfl rfl rfl ?_ -- table
              refine wp_iconst (v := nI 5) (q := 177) dX8_bring_176 (by decide) rfl ?_
              refine wp_aload_n (i := 0) (q := 178) dX8_bring_177 rfl rfl rfl ?_
              refine wm_getI (k := 18) (q := 181) dX8_bring_178 ffX8_207 rfl rfl ?_ -- rank
              rw [h18]
              refine wp_imul (q := 182) dX8_bring_181 rfl ?_
              refine wp_iload (q := 184) dX8_bring_182 rfl rfl ?_
              refine wp_iadd (q := 185) dX8_bring_184 rfl ?_
              rw [pk_mul, nI_add]
              refine wm_laldN (q := 186) dX8_bring_185 ⟨by decide, by decide, rfl⟩ rfl (by simp only [mlen]; omega) (by decide) rfl ?_
              refine wp_lmul (q := 187) dX8_bring_186 rfl ?_
              refine wp_lsub (q := 188) dX8_bring_187 rfl ?_
              refine wp_aload_n (i := 0) (q := 189) dX8_bring_188 rfl rfl rfl ?_
              refine wm_getL (k := 22) (q := 192) dX8_bring_189 ffX8_210 rfl rfl ?_ -- by
              refine wp_ldiv (q := 193) dX8_bring_192 (by exact hy) rfl ?_
              refine wm_lastN (q := 194) dX8_bring_193 ⟨by decide, by decide, rfl⟩ rfl (by simp only [mlen]; omega) (by decide) rfl ?_
              refine wp_iinc (v := _ + nI 1) (lv' := [_, _, _, _, _, _, _, _, _]) (q := 197) dX8_bring_194 rfl rfl (by decide) rfl rfl ?_
              refine wp_goto (q := 136) dX8_bring_197 (by decide) ?_
              rw [nI_add, up2_upR, upR_at]
              have z1 : (5 * k + x) / 5 = k := by omega
              have z2 : (5 * k + x) % 5 = x := by omega
              have z3 : (5 * fs.length + x) / 5 = fs.length := by omega
              have z4 : (5 * fs.length + x) % 5 = x := by omega
              have e1 : elA t1 pp y c fs.length n k (5 * k + x) = t1 (5 * k + x) := by unfold elA; rw [if_neg (by omega)]
              have e2 : elA t1 pp y c fs.length n k (5 * fs.length + x) = t1 (5 * fs.length + x) := by unfold elA; rw [if_neg (by omega)]
              have e : (fun z => if z = 5 * k + x then (pp * (if (5 * k + x) / 5 = k ∧ (5 * k + x) % 5 < x then (pp * t1 (5 * k + x) - t1 (5 * k + c) * t1 (5 * fs.length + (5 * k + x) % 5)) / y else elA t1 pp y c fs.length n k (5 * k + x)) - t1 (5 * k + c) * (if (5 * fs.length + x) / 5 = k ∧ (5 * fs.length + x) % 5 < x then (pp * t1 (5 * fs.length + x) - t1 (5 * k + c) * t1 (5 * fs.length + (5 * fs.length + x) % 5)) / y else elA t1 pp y c fs.length n k (5 * fs.length + x))) / y else if z / 5 = k ∧ z % 5 < x then (pp * t1 z - t1 (5 * k + c) * t1 (5 * fs.length + z % 5)) / y else elA t1 pp y c fs.length n k z) = (fun z => if z / 5 = k ∧ z % 5 < x + 1 then (pp * t1 z - t1 (5 * k + c) * t1 (5 * fs.length + z % 5)) / y else elA t1 pp y c fs.length n k z) := by
                funext z
                rw [if_neg (show ¬ ((5 * k + x) / 5 = k ∧ (5 * k + x) % 5 < x) by omega), if_neg (show ¬ ((5 * fs.length + x) / 5 = k ∧ (5 * fs.length + x) % 5 < x) by omega), e1, e2]
                by_cases w : z = 5 * k + x
                · subst w
                  rw [if_pos rfl, if_pos ⟨z1, by omega⟩, z2]
                · rw [if_neg w]
                  by_cases w2 : z / 5 = k ∧ z % 5 < x
                  · rw [if_pos w2, if_pos (by omega)]
                  · rw [if_neg w2, if_neg (by omega)]
              rw [e]
              exact ihx (x + 1) (by omega)
          have := P136 n 0 (by omega)
          rw [show (fun z => if z / 5 = k ∧ z % 5 < 0 then (pp * t1 z - t1 (5 * k + c) * t1 (5 * fs.length + z % 5)) / y else elA t1 pp y c fs.length n k z) = elA t1 pp y c fs.length n k by funext z; rw [if_neg (by omega)]] at this
          exact this
      have := P102 rows 0 (by omega) j6 j7 j8
      rw [show elA t1 pp y c fs.length n 0 = t1 by funext z; unfold elA; rw [if_neg (by omega)]] at this
      exact this
  have := P12 n 0 (by omega) (B 12, [], 1) (upd I 18 (nI 0)) A none none none none none none none (SC.uI (by decide)) (by simp [upd]) (fun j c h => by simp at h) (fun c' hc' => by omega) (fun x hx => by simp at hx) (by simp) (by simp) (show ¬ (1 : Int64) = 0 by decide) hG
  dsimp only at this
  rw [upR_self] at this
  exact this
end M15
