/-! BOTH SIDES: numbers of guesses, breaks -/
theorem exS_mem {gr : Bool} : ∀ (t : List Int32) (a : Int32), exS gr a true t = a ∨ exS gr a true t ∈ t
  | [], a => Or.inl rfl
  | v :: vs, a => by
    have e : exS gr a true (v :: vs) = exS gr (if (!true || (if gr then decide (a < v) else decide (v < a))) = true then v else a) true vs := rfl
    rw [e]
    generalize hz : (if (!true || (if gr then decide (a < v) else decide (v < a))) = true then v else a) = z
    have hz2 : z = v ∨ z = a := by
      rw [← hz]
      generalize (!true || (if gr then decide (a < v) else decide (v < a))) = cc
      cases cc
      · exact Or.inr rfl
      · exact Or.inl rfl
    rcases exS_mem (gr := gr) vs z with h | h
    · rw [h]
      rcases hz2 with rfl | rfl
      · exact Or.inr List.mem_cons_self
      · exact Or.inl rfl
    · exact Or.inr (List.mem_cons_of_mem _ h)
theorem mdF_spec {vs : List Int32} : ∀ m, 0 < mdF vs m → 2 ≤ mdF vs m ∧ mdF vs m ≤ m ∧ sR (mdF vs m) (-1) vs = true
  | 0, h => by cases h
  | 1, h => by cases h
  | m + 2, h => by
    rw [show mdF vs (m + 2) = if sR (m + 2) (-1) vs = true then m + 2 else mdF vs (m + 1) from rfl] at h ⊢
    by_cases w : sR (m + 2) (-1) vs = true
    · rw [if_pos w] at h ⊢
      exact ⟨by omega, Nat.le_refl _, w⟩
    · rw [if_neg w] at h ⊢
      have := mdF_spec (m + 1) h
      exact ⟨this.1, by omega, this.2.2⟩
theorem flM_rst {x : Int32} {m : Nat} (hx : rng x) (h1 : 1 ≤ m) (hm : m ≤ 12) : flM x (nI m) = rst x m := by
  obtain ⟨a1, a2⟩ := hx
  have hmi : (nI m).toInt = (m : Int) := nI_toInt (by omega)
  have hd : (x / nI m).toInt = x.toInt.tdiv (m : Int) := by
    rw [Int32.toInt_div, hmi]
    have : (x.toInt.tdiv (m : Int)).natAbs ≤ x.toInt.natAbs := by
      rw [Int.natAbs_tdiv]
      exact Nat.div_le_self _ _
    exact Int.bmod_eq_of_le (by omega) (by omega)
  have hq := Int.mul_tdiv_add_tmod x.toInt (m : Int)
  have hr1 : (x.toInt.tmod (m : Int)).natAbs < m := by
    rw [Int.natAbs_tmod]
    exact Nat.mod_lt _ (by omega)
  have hp : x.toInt.tdiv (m : Int) * m = x.toInt - x.toInt.tmod (m : Int) := by rw [Int.mul_comm]; omega
  have hs : (x - x / nI m * nI m).toInt = x.toInt.tmod (m : Int) := by
    have h1 : (x / nI m * nI m).toInt = x.toInt - x.toInt.tmod (m : Int) := by
      rw [Int32.toInt_mul, hd, hmi, hp]
      exact Int.bmod_eq_of_le (by omega) (by omega)
    rw [Int32.toInt_sub, h1, Int.bmod_eq_of_le (by omega) (by omega)]
    omega
  have hxor : (0 ≤ x ^^^ nI m) ↔ 0 ≤ x.toInt := by
    rw [Int32.le_iff_toInt_le, show (0 : Int32).toInt = 0 from rfl]
    have e1 : decide ((x ^^^ nI m).toInt < 0) = decide (x.toInt < 0) := by
      show decide ((x ^^^ nI m).toBitVec.toInt < 0) = decide (x.toBitVec.toInt < 0)
      rw [← BitVec.msb_eq_toInt, ← BitVec.msb_eq_toInt, Int32.toBitVec_xor, BitVec.msb_xor]
      have : (nI m).toBitVec.msb = false := by
        rw [BitVec.msb_eq_toInt]
        show decide ((nI m).toInt < 0) = false
        rw [hmi]
        exact decide_eq_false (by omega)
      rw [this, Bool.xor_false]
    have e2 := decide_eq_decide.mp e1
    omega
  unfold flM rst
  by_cases w : 0 ≤ x.toInt
  · have hn := Int.tmod_nonneg (m : Int) w
    rw [if_pos (hxor.mpr w), if_pos (Int32.le_iff_toInt_le.mpr (by rw [hs]; exact hn))]
  · have hn := Int.tmod_nonneg (m : Int) (show 0 ≤ -x.toInt by omega)
    rw [Int.neg_tmod] at hn
    rw [if_neg (fun q => w (hxor.mp q))]
    by_cases w2 : x - x / nI m * nI m = 0
    · rw [if_pos w2, if_pos (by rw [w2]; decide)]
    · have w3 : ¬ x.toInt.tmod (m : Int) = 0 := fun q => w2 (Int32.toInt_inj.mp (by rw [hs, q]; rfl))
      rw [if_neg w2, if_neg (fun q => by
        have := Int32.le_iff_toInt_le.mp q
        rw [hs, show (0 : Int32).toInt = 0 from rfl] at this
        omega)]
section V4
variable {k p side s i j : Nat} {S : FS} {A : Nat → Nat → Int32}
theorem rsO_rst {x : Int32} {m : Nat} (hx : rng x) (h1 : 1 ≤ m) (hm : m ≤ 12) : rsO x m = rst x m := by
  unfold rsO
  rw [if_pos (by omega), flM_rst hx h1 hm]
/-- all readings leave one rest -/
theorem rest_one {a x : Int32} {t : List Int32} (ht : ∀ y, y ∈ a :: t → rng y) (h : 0 < mdF (a :: t) 12) (hx : x ∈ a :: t) : rst x (mdF (a :: t) 12) = rst a (mdF (a :: t) 12) := by
  obtain ⟨h2, h12, hs⟩ := mdF_spec 12 h
  have ha := ht a List.mem_cons_self
  rw [sR_first, sR_all ha (by omega) h12 t (fun y hy => ht y (List.mem_cons_of_mem _ hy))] at hs
  rcases List.mem_cons.mp hx with rfl | hx
  · rfl
  · exact ((rst_dvd ha (ht x (List.mem_cons_of_mem _ hx)) (by omega) h12).mpr (hs x hx)).symm
theorem nb_num {wh : Int32} (h : FRr A p side k S) (hn : (rs A p side).length ≠ 0) (hi : i < k) (hs : s < 5) (hso : isSoB A p side s i 0 = true) : nbN S.2.2 s i wh = if ix 5 wh = true then aNumR A p side s i wh.toNatClampNeg else -1000 := by
  obtain ⟨c1, c2, c3⟩ := h.2 i hi
  obtain ⟨a, t, e, ⟨v1, v2, v3, v4, v5, v6, v7, v8, v9⟩, vo⟩ := c3 hn
  have cr : ∀ y, y ∈ a :: t → rng y := fun y hy => c2 y (by rw [e]; exact hy)
  have hu4 : (gth [] (a :: t)).length ≤ 4 := gth_le _ _ (by decide)
  have hfew : s = 1 → (gth [] (a :: t)).length ≤ 3 := by
    intro e1
    subst e1
    have : (decide ((gth [] (vl A p side i)).length = 2) || decide ((gth [] (vl A p side i)).length = 3)) = true := hso
    rw [e] at this
    simp only [Bool.or_eq_true, decide_eq_true_eq] at this
    omega
  have hmod : s = 4 → 0 < mdF (a :: t) 12 := by
    intro e1
    subst e1
    have : decide (0 < mdF (vl A p side i) 12) = true := hso
    rw [e] at this
    exact of_decide_eq_true this
  unfold nbN aNumR
  rw [e]
  by_cases hw0 : wh < 0
  · rw [if_neg (fun q => q.2 (Int32.lt_trans hw0 (by decide))), if_neg (fun q => by rw [q.2] at hw0; exact absurd hw0 (by decide)), if_pos (fun q => by rw [q] at hw0; exact absurd hw0 (by decide)), if_neg (by rw [ix_neg hw0]; decide)]
  obtain ⟨w, hw, rfl⟩ := nI_of hw0
  rw [nI_clamp hw, ix_nI hw]
  by_cases h2 : w < 2
  · have h2' : nI w < nI 2 := (nI_ltI hw (by omega)).mpr h2
    rw [if_neg (fun q => q.2 h2'), if_pos (decide_eq_true (by omega))]
    rcases (show w = 0 ∨ w = 1 by omega) with rfl | rfl
    · rw [if_neg (fun q => absurd q.2 (by decide)), if_neg (fun q => q rfl)]
      rcases (show s = 0 ∨ s = 1 ∨ s = 2 ∨ s = 3 ∨ s = 4 by omega) with rfl | rfl | rfl | rfl | rfl
      · rw [if_pos rfl, if_neg (by decide), if_neg (by decide), if_pos rfl, exS_first, v3]
        rfl
      · rw [if_neg (by decide), if_pos rfl, if_pos rfl, if_pos rfl, v8]
      · rw [if_neg (by decide), if_neg (by decide), if_pos rfl, if_neg (by decide), if_neg (by decide), if_pos rfl, exS_first, v3]
        rfl
      · rw [if_neg (by decide), if_neg (by decide), if_neg (by decide), if_pos rfl, if_neg (by decide), if_neg (by decide), if_pos rfl, exS_first, v4]
        rfl
      · rw [if_neg (by decide), if_neg (by decide), if_neg (by decide), if_neg (by decide), if_neg (by decide), if_pos rfl, if_pos rfl, v6]
    · by_cases w4 : s = 4
      · subst w4
        have hm := hmod rfl
        obtain ⟨m2, m12, -⟩ := mdF_spec 12 hm
        rw [if_pos ⟨rfl, rfl⟩, if_neg (by decide), if_pos rfl, if_neg (by decide), if_pos rfl, v1, v6, rsO_rst (cr a List.mem_cons_self) (by omega) m12, exS_first]
        refine (rest_one cr hm ?_).symm
        rcases exS_mem (gr := false) t a with q | q
        · rw [q]; exact List.mem_cons_self
        · exact List.mem_cons_of_mem _ q
      · rw [if_neg (fun q => w4 q.1), if_pos (by decide)]
        by_cases w1 : s = 1
        · rw [if_pos w1, if_neg (by decide), if_neg (by omega)]
        · rw [if_neg w1, if_neg w4, if_neg (by decide)]
  · have h2' : ¬ nI w < nI 2 := fun q => h2 ((nI_ltI hw (by omega)).mp q)
    have hne1 : ¬ nI w = nI 1 := fun q => by have := (nI_eq hw (by omega)).mp q; omega
    have hne0 : ¬ nI w = 0 := fun q => by have := (nI_eq (b := 0) hw (by omega)).mp q; omega
    by_cases w1 : s = 1
    · have hl3 := hfew w1
      rw [if_pos ⟨w1, h2'⟩, v8]
      by_cases hc : w - 2 < (gth [] (a :: t)).length
      · rw [if_pos ⟨hc, by omega⟩, if_pos (decide_eq_true (by omega)), if_pos w1, if_neg (by omega), if_pos ⟨by omega, hc⟩]
        refine v9 hl3 (w - 2) _ ?_
        rw [List.getD_eq_getElem?_getD, List.getElem?_eq_getElem hc]
        rfl
      · rw [if_neg (fun q => hc q.1)]
        by_cases h5 : w < 5
        · rw [if_pos (decide_eq_true h5), if_pos w1, if_neg (by omega), if_neg (fun q => hc q.2)]
        · rw [if_neg (by rw [decide_eq_false h5]; decide)]
    · rw [if_neg (fun q => w1 q.1), if_neg (fun q => hne1 q.2), if_pos hne0]
      by_cases h5 : w < 5
      · rw [if_pos (decide_eq_true h5), if_neg w1]
        by_cases w4 : s = 4
        · rw [if_pos w4, if_neg (by omega), if_neg (by omega)]
        · rw [if_neg w4, if_neg (by omega)]
      · rw [if_neg (by rw [decide_eq_false h5]; decide)]
/-- one pair of numbers -/
theorem fitO_goes {x y : Int32} (h5 : 5 ≤ s) (h8 : s ≤ 8) : fitO (nI s) (ordO x y) = goesB s x y := by
  have h : OR_ (ordO x y) [(x, y)] := by
    have := OR_snoc (x := x) (y := y) OR_nil
    rw [show (0 : Int32) ||| ordO x y = ordO x y from by
      rcases ordO_c (x := x) (y := y) with ⟨_, e, _⟩ | ⟨_, e, _⟩ | ⟨_, e, _⟩ <;> rw [e] <;> decide] at this
    exact this
  rw [fitO_all (by simp) h h5 h8, List.all_cons, List.all_nil, Bool.and_true]
theorem gth_one {a : Int32} : ∀ t : List Int32, (gth [] (a :: t)).length = 1 → ∀ x, x ∈ a :: t → x = a := by
  intro t
  have key : ∀ (t : List Int32) (s : List Int32), 1 ≤ s.length → (gth s t).length = 1 → ∀ x, x ∈ t → x ∈ s ∧ gth s t = s := by
    intro t
    induction t with
    | nil => intro s _ _ x hx; cases hx
    | cons v vs ih =>
      intro s hs h1 x hx
      have hle : ∀ (t s : List Int32), s.length ≤ (gth s t).length := by
        intro t
        induction t with
        | nil => intro s; exact Nat.le_refl _
        | cons v vs ih =>
          intro s
          unfold gth
          split
          · refine Nat.le_trans ?_ (ih _)
            have : ∀ s : List Int32, s.length ≤ (insL v s).length := by
              intro s
              induction s with
              | nil => exact Nat.zero_le _
              | cons a s ih2 =>
                unfold insL
                split
                · rw [List.length_cons, List.length_cons]; omega
                · split
                  · exact Nat.le_refl _
                  · simp only [List.length_cons]; omega
            exact this s
          · exact Nat.le_refl _
      have hs1 : s.length = 1 := by have := hle (v :: vs) s; omega
      match s, hs1 with
      | [a], _ =>
        unfold gth at h1 ⊢
        rw [if_pos (show ([a] : List Int32).length < 4 from show (1 : Nat) < 4 by decide)] at h1 ⊢
        have hi : (insL v [a]).length ≤ 1 := by have := hle vs (insL v [a]); omega
        have hva : v = a := by
          unfold insL at hi
          by_cases w : a < v
          · rw [if_pos w] at hi
            simp [insL] at hi
          · rw [if_neg w] at hi
            by_cases w2 : a = v
            · exact w2.symm
            · rw [if_neg w2] at hi
              simp at hi
        have hin : insL v [a] = [a] := by
          rw [hva]
          exact insL_same [a] ⟨fun b hb => (by cases hb), trivial⟩ List.mem_cons_self
        rw [hin] at h1 ⊢
        rcases List.mem_cons.mp hx with rfl | hx
        · refine ⟨by rw [hva]; exact List.mem_cons_self, ?_⟩
          cases vs with
          | nil => rfl
          | cons w ws => exact (ih [a] (Nat.le_refl _) h1 w List.mem_cons_self).2
        · exact ih [a] (Nat.le_refl _) h1 x hx
  intro h x hx
  have h0 : gth [] (a :: t) = gth [a] t := rfl
  rw [h0] at h
  rcases List.mem_cons.mp hx with rfl | hx
  · rfl
  · exact List.mem_singleton.mp (key t [a] (Nat.le_refl _) h x hx).1
theorem rng_lost {x : Int32} (h : rng x) : ¬ x = -1000 := fun q => by
  have h1 := h.1
  rw [q, show (-1000 : Int32).toInt = -1000 from rfl] at h1
  omega
theorem nm_num {c np w : Nat} (hp : p < np) (hp6 : np ≤ 6) (hk : kA A p = k) (hk4 : k ≤ 4) (hn : (rs A p 0).length ≠ 0) (hs' : c / 100 = s) (hi' : c / 10 % 10 = i) (hi : i < k) (h5 : s < 5) (hso : isSoB A p 0 s i j = true) (hw : w < 5) : nmA A np p c w = aNumR A p 0 s i w := by
  have hso0 : isSoB A p 0 s i 0 = true := by
    rw [← hso]
    exact isSoB_j (decide_eq_false (by omega)) (by omega)
  unfold nmA aNumber
  rw [hs', hi', nI_clamp (n := p) (by omega), nI_clamp (n := s) (by omega), nI_clamp (n := i) (by omega), nI_clamp (n := w) (by omega), nI_clamp (n := 0) (by omega), ix_nI (j := p) (by omega), ix_nI (j := 0) (by omega), ix_nI (j := i) (by omega), ix_nI (j := s) (by omega), ix_nI (j := w) (by omega), hk, hso0, decide_eq_true hp, decide_eq_true (show 0 < 3 by omega), decide_eq_true hi, decide_eq_true h5, decide_eq_true hw, decide_eq_false hn]
  exact if_pos rfl
theorem bk_0 {xi a : Int32} {t : List Int32} (h : vl A p 0 i = a :: t) (hso : isSoB A p 0 0 i j = true) : aNumR A p 0 0 i 0 = a := by
  have h1 : (gth [] (a :: t)).length = 1 := by
    have : decide ((gth [] (vl A p 0 i)).length = 1) = true := hso
    rw [h] at this
    exact of_decide_eq_true this
  unfold aNumR
  rw [if_neg (by decide), if_neg (by decide), if_pos rfl, h, exS_first]
  rcases exS_mem (gr := decide ((0 : Nat) = 3)) t a with q | q
  · exact q
  · exact gth_one t h1 _ (List.mem_cons_of_mem _ q)
theorem bk_1 {x a : Int32} {t : List Int32} {f : Nat → Int32} {u : Nat} (hx : rng x) (e : vl A p 0 i = a :: t) (hso : isSoB A p 0 1 i j = true) (v8 : u = (gth [] (a :: t)).length) (v9 : (gth [] (a :: t)).length ≤ 3 → fw f (gth [] (a :: t))) : (!amB f u x) = (!decide (x = aNumR A p 0 1 i 2) && (!decide (x = aNumR A p 0 1 i 3) && !decide (x = aNumR A p 0 1 i 4))) := by
  have hl : (gth [] (a :: t)).length = 2 ∨ (gth [] (a :: t)).length = 3 := by
    have : (decide ((gth [] (vl A p 0 i)).length = 2) || decide ((gth [] (vl A p 0 i)).length = 3)) = true := hso
    rw [e] at this
    rcases Bool.or_eq_true_iff.mp this with h | h
    · exact Or.inl (of_decide_eq_true h)
    · exact Or.inr (of_decide_eq_true h)
  have hne := rng_lost hx
  have q2 : aNumR A p 0 1 i 2 = if 1 < 2 ∧ 2 - 2 < (gth [] (a :: t)).length then (gth [] (a :: t)).getD (2 - 2) 0 else -1000 := by
    unfold aNumR
    rw [if_pos rfl, if_neg (show ¬ (2 : Nat) = 0 by decide), e]
  have q3 : aNumR A p 0 1 i 3 = if 1 < 3 ∧ 3 - 2 < (gth [] (a :: t)).length then (gth [] (a :: t)).getD (3 - 2) 0 else -1000 := by
    unfold aNumR
    rw [if_pos rfl, if_neg (show ¬ (3 : Nat) = 0 by decide), e]
  have q4 : aNumR A p 0 1 i 4 = if 1 < 4 ∧ 4 - 2 < (gth [] (a :: t)).length then (gth [] (a :: t)).getD (4 - 2) 0 else -1000 := by
    unfold aNumR
    rw [if_pos rfl, if_neg (show ¬ (4 : Nat) = 0 by decide), e]
  rw [q2, q3, q4, v8]
  have hm := amB_mem (x := x) (s := gth [] (a :: t)) (f := f) (by omega) (v9 (by omega))
  generalize gth [] (a :: t) = g at hm hl
  rcases hl with hl | hl
  · match g, hl with
    | [g0, g1], _ =>
      have hm2 : amB f [g0, g1].length x = (decide (x = g0) || decide (x = g1)) := by
        rw [Bool.eq_iff_iff, hm]
        simp
      rw [hm2, if_pos ⟨by decide, show (0 : Nat) < 2 by decide⟩, if_pos ⟨by decide, show (1 : Nat) < 2 by decide⟩, if_neg (fun q => absurd q.2 (show ¬ (2 : Nat) < 2 by decide)), decide_eq_false hne]
      show (!(decide (x = g0) || decide (x = g1))) = (!decide (x = g0) && (!decide (x = g1) && true))
      cases decide (x = g0) <;> cases decide (x = g1) <;> rfl
  · match g, hl with
    | [g0, g1, g2], _ =>
      have hm2 : amB f [g0, g1, g2].length x = (decide (x = g0) || (decide (x = g1) || decide (x = g2))) := by
        rw [Bool.eq_iff_iff, hm]
        simp
      rw [hm2, if_pos ⟨by decide, show (0 : Nat) < 3 by decide⟩, if_pos ⟨by decide, show (1 : Nat) < 3 by decide⟩, if_pos ⟨by decide, show (2 : Nat) < 3 by decide⟩]
      show (!(decide (x = g0) || (decide (x = g1) || decide (x = g2)))) = (!decide (x = g0) && (!decide (x = g1) && !decide (x = g2)))
      cases decide (x = g0) <;> cases decide (x = g1) <;> cases decide (x = g2) <;> rfl
theorem bkV_0 {c : Nat} {a1 a2 a3 x y : Int32} (h : c / 100 = 0) : bkV c a1 a2 a3 x y = !decide (x = a1) := by unfold bkV; rw [if_pos h]
theorem bkV_1 {c : Nat} {a1 a2 a3 x y : Int32} (h : c / 100 = 1) : bkV c a1 a2 a3 x y = (!decide (x = a1) && (!decide (x = a2) && !decide (x = a3))) := by unfold bkV; rw [if_neg (by omega), if_pos h]
theorem bkV_2 {c : Nat} {a1 a2 a3 x y : Int32} (h : c / 100 = 2) : bkV c a1 a2 a3 x y = decide (x < a1) := by unfold bkV; rw [if_neg (by omega), if_neg (by omega), if_pos h]
theorem bkV_3 {c : Nat} {a1 a2 a3 x y : Int32} (h : c / 100 = 3) : bkV c a1 a2 a3 x y = decide (a1 < x) := by unfold bkV; rw [if_neg (by omega), if_neg (by omega), if_neg (by omega), if_pos h]
theorem bkV_4 {c : Nat} {a1 a2 a3 x y : Int32} (h : c / 100 = 4) : bkV c a1 a2 a3 x y = !decide (rst x a1.toNatClampNeg = a2) := by unfold bkV; rw [if_neg (by omega), if_neg (by omega), if_neg (by omega), if_neg (by omega), if_pos h]
theorem bkV_9 {c : Nat} {a1 a2 a3 x y : Int32} (h : c / 100 = 9) : bkV c a1 a2 a3 x y = false := by unfold bkV; rw [if_neg (by omega), if_neg (by omega), if_neg (by omega), if_neg (by omega), if_neg (by omega), if_pos h]
theorem bkV_t {c : Nat} {a1 a2 a3 x y : Int32} (h : 5 ≤ c / 100) (h8 : c / 100 ≤ 8) : bkV c a1 a2 a3 x y = !goesB (c / 100) x y := by unfold bkV; rw [if_neg (by omega), if_neg (by omega), if_neg (by omega), if_neg (by omega), if_neg (by omega), if_neg (by omega)]
theorem bkN_t {V : Nat → VS} {x : Nat → Int32} (h5 : 5 ≤ s) (h8 : s ≤ 8) : bkN V x s i j = !fitO (nI s) (ordO (x i) (x j)) := by unfold bkN; rw [if_neg (by omega), if_neg (by omega), if_neg (by omega), if_neg (by omega), if_neg (by omega), if_neg (by omega)]
/-- a told guess is broken by numbers on both sides alike -/
theorem bk_br {x : Nat → Int32} {c np : Nat} (hp : p < np) (hp6 : np ≤ 6) (h : FRr A p 0 k S) (hk : kA A p = k) (hk4 : k ≤ 4) (hn : (rs A p 0).length ≠ 0) (hx : ∀ u, u < k → rng (x u)) (hs' : c / 100 = s) (hi' : c / 10 % 10 = i) (hi : i < k) (hs : s < 10) (hso : isSoB A p 0 s i j = true) : bkN S.2.2 x s i j = bkV c (tdA A np p c) (tdB A np p c) (tdC A np p c) (x i) (x j) := by
  obtain ⟨c1, c2, c3⟩ := h.2 i hi
  obtain ⟨a, t, e, ⟨v1, v2, v3, v4, v5, v6, v7, v8, v9⟩, vo⟩ := c3 hn
  have cr : ∀ y, y ∈ a :: t → rng y := fun y hy => c2 y (by rw [e]; exact hy)
  have hxi := hx i hi
  rcases (show s = 0 ∨ s = 1 ∨ s = 2 ∨ s = 3 ∨ s = 4 ∨ s = 9 ∨ (5 ≤ s ∧ s ≤ 8) by omega) with rfl | rfl | rfl | rfl | rfl | rfl | ⟨h5, h8⟩
  · have e1 : tdA A np p c = a := by
      unfold tdA
      rw [if_neg (by omega), nm_num hp hp6 hk hk4 hn hs' hi' hi (by omega) hso (by omega)]
      exact bk_0 (xi := a) e hso
    rw [bkV_0 hs', e1]
    show (!decide (x i = vF (S.2.2 i))) = _
    rw [v1]
  · have e1 : tdA A np p c = aNumR A p 0 1 i 2 := by
      unfold tdA
      rw [if_pos hs', nm_num hp hp6 hk hk4 hn hs' hi' hi (by omega) hso (by omega)]
    have e2 : tdB A np p c = aNumR A p 0 1 i 3 := by
      unfold tdB
      rw [if_pos hs', nm_num hp hp6 hk hk4 hn hs' hi' hi (by omega) hso (by omega)]
    have e3 : tdC A np p c = aNumR A p 0 1 i 4 := by
      unfold tdC
      rw [if_pos hs', nm_num hp hp6 hk hk4 hn hs' hi' hi (by omega) hso (by omega)]
    rw [bkV_1 hs', e1, e2, e3]
    exact bk_1 hxi e hso v8 v9
  · have e1 : tdA A np p c = vLe (S.2.2 i) := by
      unfold tdA
      rw [if_neg (by omega), nm_num hp hp6 hk hk4 hn hs' hi' hi (by omega) hso (by omega)]
      unfold aNumR
      rw [if_neg (by decide), if_neg (by decide), if_pos rfl, e, exS_first, v3]
      rfl
    rw [bkV_2 hs', e1]
    rfl
  · have e1 : tdA A np p c = vGr (S.2.2 i) := by
      unfold tdA
      rw [if_neg (by omega), nm_num hp hp6 hk hk4 hn hs' hi' hi (by omega) hso (by omega)]
      unfold aNumR
      rw [if_neg (by decide), if_neg (by decide), if_pos rfl, e, exS_first, v4]
      rfl
    rw [bkV_3 hs', e1]
    rfl
  · have hm0 : 0 < mdF (a :: t) 12 := by
      have : decide (0 < mdF (vl A p 0 i) 12) = true := hso
      rw [e] at this
      exact of_decide_eq_true this
    obtain ⟨m2, m12, -⟩ := mdF_spec 12 hm0
    have e1 : tdA A np p c = nI (mdF (a :: t) 12) := by
      unfold tdA
      rw [if_neg (by omega), nm_num hp hp6 hk hk4 hn hs' hi' hi (by omega) hso (by omega)]
      unfold aNumR
      rw [if_neg (by decide), if_pos rfl, if_pos rfl, e]
    have e2 : tdB A np p c = rst a (mdF (a :: t) 12) := by
      unfold tdB
      rw [if_neg (by omega), if_pos hs', nm_num hp hp6 hk hk4 hn hs' hi' hi (by omega) hso (by omega)]
      unfold aNumR
      rw [if_neg (by decide), if_pos rfl, if_neg (by decide), if_pos rfl, e, exS_first]
      refine rest_one cr hm0 ?_
      rcases exS_mem (gr := false) t a with q | q
      · rw [q]; exact List.mem_cons_self
      · exact List.mem_cons_of_mem _ q
    rw [bkV_4 hs', e1, e2, nI_clamp (by omega)]
    show (!decide (rsO (x i) (vMo (S.2.2 i)) = rsO (vF (S.2.2 i)) (vMo (S.2.2 i)))) = _
    rw [v1, v6, rsO_rst hxi (by omega) m12, rsO_rst (cr a List.mem_cons_self) (by omega) m12]
  · rw [bkV_9 hs']
    rfl
  · rw [bkV_t (by omega) (by omega), bkN_t h5 h8, hs', fitO_goes h5 h8]
end V4
