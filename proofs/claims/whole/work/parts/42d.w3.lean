/-! BOTH SIDES: what is kept, what broke -/
section W3
variable {I I' : Nat → Int32} {A A' : Nat → Nat → Int32} {D : DS} {p : Nat}
theorem nn_of {w : Int32} (h : ¬ w < 0) : ∃ j, j < 2 ^ 31 ∧ w = nI j := by
  have h1 : ¬ w.toInt < (0 : Int32).toInt := fun q => h (Int32.lt_iff_toInt_lt.mpr q)
  have h2 := Int32.toInt_lt w
  rw [show (0 : Int32).toInt = 0 from rfl] at h1
  refine ⟨w.toInt.toNat, by omega, ?_⟩
  rw [← Int32.toInt_inj, nI_toInt (by omega)]
  omega
theorem an_broke (h : WR I A D I' A') {w : Int32} : cBroke I A w = aBroke I' A' w := by
  unfold cBroke aBroke
  rcases h.2.2.2.2.2.2.2.2.2 with ⟨q1, q2⟩ | ⟨p, c, n, hp, hc, hn, e1, e2, e3, e4, e5, e6, e7, e8, e9⟩
  · rw [if_pos q1, if_neg (Int32.not_le.mpr q2)]
  · have hnp := h.np6
    have hk := (h.k4 hp).1
    rw [e1, e2, e3, e4, e5, e6, e7, if_neg (nI_nneg (by omega)), if_pos (nI_geq (by omega)), nI_clamp (by omega), nI_clamp (by omega), nI_clamp (by omega), ← (h.pt hp).1]
    by_cases hw : w < 0
    · have hl : ∀ a b : Nat, a < 2 ^ 31 → ¬ inB w (nI a) (nI b) = true := by
        intro a b ha q
        unfold inB at q
        have := of_decide_eq_true (Bool.and_eq_true_iff.mp q).1
        apply this
        have h1 := Int32.lt_iff_toInt_lt.mp hw
        rw [show (0 : Int32).toInt = 0 from rfl] at h1
        exact Int32.lt_iff_toInt_lt.mpr (by rw [nI_toInt ha]; omega)
      have hne : ∀ a : Nat, a < 2 ^ 31 → ¬ w = nI a := fun a ha q => nI_nneg ha (q ▸ hw)
      rw [if_pos hw, if_neg (hl 3 _ (by omega)), if_neg (hl 10 _ (by omega)), if_neg (show ¬ w = 0 from hne 0 (by omega)), if_neg (hne 1 (by omega)), if_neg (hne 2 (by omega))]
    · obtain ⟨j, hj, e⟩ := nn_of hw
      subst e
      rw [if_neg hw, inB_nI (by omega) (by omega) (by omega), inB_nI (by omega) (by omega) (by omega), nI_clamp (by omega)]
      have hlt : ∀ a : Nat, a < 2 ^ 31 → (nI j < nI a ↔ j < a) := fun a ha => by
        rw [Int32.lt_iff_toInt_lt, nI_toInt (by omega), nI_toInt ha]
        omega
      have heq : ∀ a : Nat, a < 2 ^ 31 → (nI j = nI a ↔ j = a) := fun a ha => ⟨fun q => by
        have := congrArg Int32.toInt q
        rw [nI_toInt (by omega), nI_toInt ha] at this
        omega, fun q => by rw [q]⟩
      rw [show ((0 : Int32) = nI 0) from rfl]
      simp only [hlt 10 (by omega), hlt 3 (by omega), heq 2 (by omega), heq 0 (by omega), heq 1 (by omega), decide_eq_true_eq]
      by_cases w1 : j < 10
      · rw [if_neg (show ¬ ¬ j < 10 by omega)]
        by_cases w2 : j < 3
        · rw [if_neg (show ¬ ¬ j < 3 by omega), if_neg (show ¬ (3 ≤ j ∧ j ≤ 2 + dK D p) by omega), if_neg (show ¬ (10 ≤ j ∧ j ≤ 9 + n) by omega)]
          rcases (show j = 0 ∨ j = 1 ∨ j = 2 by omega) with q | q | q <;> subst q <;> simp
        · rw [if_pos w2]
          by_cases w3 : j - 3 < dK D p
          · rw [if_pos w3, if_pos (show 3 ≤ j ∧ j ≤ 2 + dK D p by omega)]
            exact e8 _ w3
          · rw [if_neg w3, if_neg (show ¬ (3 ≤ j ∧ j ≤ 2 + dK D p) by omega), if_neg (show ¬ (10 ≤ j ∧ j ≤ 9 + n) by omega), if_neg (show ¬ j = 0 by omega), if_neg (show ¬ j = 1 by omega), if_neg (show ¬ j = 2 by omega)]
      · rw [if_pos w1, if_neg (show ¬ (3 ≤ j ∧ j ≤ 2 + dK D p) by omega)]
        by_cases w3 : j - 10 < n
        · rw [if_pos w3, if_pos (show 10 ≤ j ∧ j ≤ 9 + n by omega)]
          exact e9 _ w3
        · rw [if_neg w3, if_neg (show ¬ (10 ≤ j ∧ j ≤ 9 + n) by omega), if_neg (show ¬ j = 0 by omega), if_neg (show ¬ j = 1 by omega), if_neg (show ¬ j = 2 by omega)]
theorem sw_find {f g : Nat → Bool} {n : Nat} (hn : n < 2 ^ 30) (h : ∀ j, j < n → f j = g j) : ∀ m s, s + m = n → (∃ j, j < n ∧ (List.range' s m).find? (fun s => !g s) = some j ∧ swF f m s = nI j) ∨ ((List.range' s m).find? (fun s => !g s) = none ∧ swF f m s = -1)
  | 0, s, _ => Or.inr ⟨rfl, rfl⟩
  | m + 1, s, hs => by
    rw [List.range'_succ, List.find?_cons]
    unfold swF
    rw [h s (by omega)]
    cases q : g s
    · exact Or.inl ⟨s, by omega, by simp, by simp⟩
    · simp only [Bool.not_true, if_true]
      exact sw_find hn h m (s + 1) (by omega)
theorem ss_st {row row' : Nat → Int64} {x : Nat → Int32} {k : Nat} (h1 : ∀ c, c < k → row c = row' c) (h2 : ∀ v, v < k → x v = A' 16 v) : ∀ m v z, v + m = k → ssF row x m v z = stS A' row' m v z
  | 0, _, _, _ => rfl
  | m + 1, v, z, hv => by
    unfold ssF stS
    rw [h1 v (by omega), h2 v (by omega)]
    exact ss_st h1 h2 m (v + 1) _ (by omega)
theorem sw_st (h : WR I A D I' A') (hp : p < dNp D) {x : Nat → Int32} (hx : ∀ v, v < dK D p → x v = A' 16 v) {s : Nat} (hs : s < (fl8 A' p 0).length) : swB D p x s = stB A' p s := by
  obtain ⟨w1, w2, w3, w4, w5⟩ := h.pt hp
  have hk := (h.k4 hp).1
  have hb : ∀ c, c < dK D p + 1 → bsV (dK D p + 1) (dF D p 0).2.1 s c = bRow A' p s c := fun c hc => (SL_basis hk w1.symm (w5 0 (by omega)) hs hc).1
  unfold swB stB
  rw [← w1, ss_st (fun c hc => hb c (by omega)) hx (dK D p) 0 _ (by omega), hb _ (by omega)]
theorem piS_bd {M : Nat → Nat → Int32} {pl : Nat} {sm : Nat → Int64} {n : Nat} {P Q : Int} (hP : P = 19440000) (hQ : Q = 1924560000) (hn : n ≤ 4) (hs : ∀ v, v < n → bd (sm v).toInt 19440000) (hM : ∀ v, v < n → bd (M v pl).toInt 99) : ∀ m v (z : Int64), v + m = n → bd z.toInt (P + v * Q) → bd (piS M pl sm m v z).toInt (P + n * Q) := by
  intro m
  induction m with
  | zero =>
    intro v z hv hz
    have : v = n := by omega
    subst this
    exact hz
  | succ m ih =>
    intro v z hv hz
    show bd (piS M pl sm m (v + 1) (z + sm v * (M v pl).toInt64)).toInt _
    have b1 := bd_mul (hs v (by omega)) (hM v (by omega))
    have e1 : (sm v * (M v pl).toInt64).toInt = (sm v).toInt * (M v pl).toInt := by
      have := i64_mul (x := sm v) (y := (M v pl).toInt64) (by rw [Int32.toInt_toInt64]; unfold bd at b1; omega) (by rw [Int32.toInt_toInt64]; unfold bd at b1; omega)
      rw [this, Int32.toInt_toInt64]
    refine ih (v + 1) _ (by omega) ?_
    subst hP
    subst hQ
    unfold bd at b1 hz ⊢
    rw [i64_add (by rw [e1]; omega) (by rw [e1]; omega), e1]
    omega
theorem pi_mk {a : Nat} {M : Nat → Nat → Int32} {sm sm' : Nat → Int64} {u k n : Nat} (hu : u ≤ k) (hk : k ≤ 4) (hn : n ≤ 4) (hs : ∀ v, v < n → sm v = sm' v) (hM : ∀ v, v < n → ∀ c, c < 5 → M v c = A' 19 (20 * a + 5 * v + c)) : ∀ m v z, v + m = n → piS M (if u < k then u else 4) sm m v z = mkS A' a u k sm' m v z
  | 0, _, _, _ => rfl
  | m + 1, v, z, hv => by
    unfold piS mkS
    rw [hs v (by omega), hM v (by omega) _ (by split <;> omega)]
    rw [show (if u < k then u else 4) = (if u = k then 4 else u) by
      by_cases e : u = k
      · rw [if_pos e, if_neg (by omega)]
      · rw [if_neg e, if_pos (by omega)]]
    have := pi_mk (a := a) hu hk hn hs hM m (v + 1) (z + sm' v * (A' 19 (20 * a + 5 * v + if u = k then 4 else u)).toInt64) (by omega)
    rw [← this]
    congr 1
    by_cases e : u = k
    · rw [if_pos e, if_neg (by omega)]
    · rw [if_neg e, if_pos (by omega)]
theorem sl_ac (h : WR I A D I' A') {a : Nat} (ha : a < dNa D) {s : Nat} (hs : s < (fl8 A' (toA A' a) 0).length) : slB D a s = acB A' a s := by
  obtain ⟨⟨a1, a2, a3⟩, hf, ht⟩ := h.ac ha
  obtain ⟨w1, w2, w3, w4, w5⟩ := h.pt hf
  obtain ⟨u1, u2, u3, u4, u5⟩ := h.pt ht
  have hkf := (h.k4 hf).1
  have hkt := (h.k4 ht).1
  have hb : ∀ c, c < dK D (dTo D a) + 1 → bsV (dK D (dTo D a) + 1) (dF D (dTo D a) 0).2.1 s c = bRow A' (toA A' a) s c ∧ bd (bsV (dK D (dTo D a) + 1) (dF D (dTo D a) 0).2.1 s c).toInt 19440000 := fun c hc => by
    have := SL_basis hkt u1.symm (u5 0 (by omega)) (s := s) (c := c) (by rw [a2]; exact hs) hc
    rw [a2] at this ⊢
    exact this
  have hM : ∀ v, v < dK D (dTo D a) → ∀ c, c < 5 → dM D a v c = A' 19 (20 * a + 5 * v + c) := fun v hv c hc => (a3 v (by omega) c hc).1
  have hrow : ∀ c, c < kA A' (frA A' a) + 1 → mkR A' a (bRow A' (toA A' a) s) c = piR (dM D a) (dK D (dFr D a)) (dK D (dTo D a)) (bsV (dK D (dTo D a) + 1) (dF D (dTo D a) 0).2.1 s) c := by
    intro c hc
    unfold mkR piR
    rw [← a1, ← a2, ← w1, ← u1]
    rw [← a1, ← w1] at hc
    rw [pi_mk (A' := A') (a := a) (sm' := bRow A' (dTo D a) s) (show c ≤ dK D (dFr D a) by omega) hkf hkt (fun v hv => by have := (hb v (by omega)).1; rw [← a2] at this; exact this) hM (dK D (dTo D a)) 0 _ (by omega)]
    congr 1
    by_cases e : c = dK D (dFr D a)
    · rw [if_pos e, if_neg (by omega)]
      have := (hb (dK D (dTo D a)) (by omega)).1
      rw [← a2] at this
      exact this.symm
    · rw [if_neg e, if_pos (by omega)]
  unfold acB slB
  rw [isT_cr (s := sl A' (frA A' a) 0) hrow (slv_inv (h.1.2.2.1 _ (by have := h.np6; rw [← a1]; omega))).1]
  rw [← a1]
  rw [SL_isT hkf w1.symm (w5 0 (by omega))]
  intro c hc
  unfold piR
  have := piS_bd (M := dM D a) (pl := if c < dK D (dFr D a) then c else 4) (sm := bsV (dK D (dTo D a) + 1) (dF D (dTo D a) 0).2.1 s) (n := dK D (dTo D a)) rfl rfl hkt (fun v hv => (hb v (by omega)).2) (fun v hv => (a3 v (by omega) _ (by split <;> omega)).2.1) (dK D (dTo D a)) 0 (if c < dK D (dFr D a) then 0 else bsV (dK D (dTo D a) + 1) (dF D (dTo D a) 0).2.1 s (dK D (dTo D a))) (by omega) (by
    split
    · exact ⟨by decide, by decide⟩
    · exact bd_mo (hb _ (by omega)).2 (by omega))
  refine bd_mo this ?_
  omega
theorem kept_num {x s : Int32} : -20 - 100 * (x + 1) - s = -120 - 100 * x - s := by grind
theorem bz_fl (h : WR I A D I' A') (hp : p < dNp D) : bzD D p = (fl8 A' p 0).length := SL_size (h.k4 hp).1 (h.pt hp).1.symm ((h.pt hp).2.2.2.2 0 (by omega))
theorem fl_5 (h : WR I A D I' A') (hp : p < dNp D) : (fl8 A' p 0).length ≤ 5 := by
  rw [← bz_fl h hp]
  have := (h.k4 hp).1
  unfold bzD bzN
  split <;> omega
theorem kc_kp (h : WR I A D I' A') : ∀ m a, a + m = dNa D → kcF D m a = kpF A' m a
  | 0, _, _ => rfl
  | m + 1, a, ha => by
    unfold kcF kpF
    obtain ⟨⟨a1, a2, a3⟩, hf, ht⟩ := h.ac (show a < dNa D by omega)
    have h5 := fl_5 h ht
    rw [bz_fl h ht]
    rcases sw_find (f := slB D a) (g := acB A' a) (n := (fl8 A' (dTo D a) 0).length) (by omega) (fun j hj => sl_ac h (by omega) (by rw [← a2]; exact hj)) (fl8 A' (dTo D a) 0).length 0 (by omega) with ⟨j, hj, q1, q2⟩ | ⟨q1, q2⟩
    · rw [q2, ← a2, q1, if_neg (nI_nneg (by omega))]
      exact kept_num
    · rw [q2, ← a2, q1, if_pos (by decide)]
      exact kc_kp h m (a + 1) (by omega)
theorem an_kept (h : WR I A D I' A') : cKept I A D = aKept I' A' (dNa D) := by
  unfold cKept aKept
  rcases h.st with ⟨q1, q2⟩ | ⟨q1, q2, q3, q4, q5, q6⟩
  · rw [if_pos q1, if_pos (Int32.not_le.mp q2)]
  · rw [if_neg q1, if_neg (Int32.not_lt.mpr q2), ← q3, bz_fl h q4]
    have h5 := fl_5 h q4
    rcases sw_find (f := swB D (I 3).toNatClampNeg (A 4)) (g := stB A' (I 3).toNatClampNeg) (n := (fl8 A' (I 3).toNatClampNeg 0).length) (by omega) (fun j hj => sw_st h q4 (fun v hv => (q6 v hv).1) hj) (fl8 A' (I 3).toNatClampNeg 0).length 0 (by omega) with ⟨j, hj, r1, r2⟩ | ⟨r1, r2⟩
    · rw [r2, r1, if_neg (nI_nneg (by omega))]
    · rw [r2, r1, if_pos (by decide)]
      exact kc_kp h (dNa D) 0 (by omega)
end W3
