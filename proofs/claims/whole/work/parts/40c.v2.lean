/-! BOTH SIDES: what is kept of one variable holds its readings a :: t -/
def VR (v : VS) (a : Int32) (t : List Int32) : Prop :=
  vF v = a ∧ vL v = (t.getLast?.getD a) ∧ vLe v = exS false a true t ∧ vGr v = exS true a true t ∧ vFe v = !risF a t ∧ vMo v = mdF (a :: t) 12 ∧
  (∃ g : Nat, (vSt v).toInt = (g : Int) ∧ g ≤ 60 ∧ ∀ m, m ∣ g ↔ ∀ x, x ∈ t → m ∣ dfN a x) ∧ vUn v = (gth [] (a :: t)).length ∧ ((gth [] (a :: t)).length ≤ 3 → fw (vFw v) (gth [] (a :: t)))
theorem risF_31 {a : Int32} {t : List Int32} (ha : rng a) : risF (-31) (a :: t) = risF a t := by
  show (!decide (a < -31) && risF a t) = _
  rw [decide_eq_false (fun q => by
    have h1 : a.toInt < -31 := Int32.lt_iff_toInt_lt.mp q
    have := ha.1
    omega)]
  rfl
theorem mdF_first {a : Int32} (ha : rng a) : ∀ m, m ≤ 12 → ∀ (t : List Int32), (∀ x, x ∈ t → rng x) → ∀ g : Nat, (∀ m, m ∣ g ↔ ∀ x, x ∈ t → m ∣ dfN a x) → ∀ st : Int64, st.toInt = (g : Int) → mdF (a :: t) m = gmF st m := by
  intro m
  induction m with
  | zero => intro _ t ht g hg st hst; rfl
  | succ m ih =>
    intro hm t ht g hg st hst
    cases m with
    | zero => rfl
    | succ m =>
      have ih := ih (by omega) t ht g hg st hst
      rw [show mdF (a :: t) (m + 2) = if sR (m + 2) (-1) (a :: t) = true then m + 2 else mdF (a :: t) (m + 1) from rfl, show gmF st (m + 1 + 1) = if m + 1 + 1 < 2 then 0 else if st - st / (nI (m + 1 + 1)).toInt64 * (nI (m + 1 + 1)).toInt64 = 0 then m + 1 + 1 else gmF st (m + 1) from rfl, if_neg (show ¬ m + 1 + 1 < 2 by omega), ih]
      have hmi : ((nI (m + 1 + 1)).toInt64).toInt = ((m + 2 : Nat) : Int) := by
        rw [Int32.toInt_toInt64, nI_toInt (by omega)]
      have e : (sR (m + 2) (-1) (a :: t) = true) ↔ (st - st / (nI (m + 1 + 1)).toInt64 * (nI (m + 1 + 1)).toInt64 = 0) := by
        rw [sR_first, sR_all ha (by omega) (by omega) t ht, ← hg (m + 2), i64_eq0, j64_rem (by omega) (by rw [hmi]; omega), hmi, hst, ← Int.natCast_dvd_natCast]
        exact Int.dvd_iff_emod_eq_zero
      by_cases w : sR (m + 2) (-1) (a :: t) = true
      · rw [if_pos w, if_pos (e.mp w)]
      · rw [if_neg w, if_neg (fun q => w (e.mpr q))]
theorem VR_begin {k : Nat} {v : VS} {x : Int32} : VR (bgV k v x) x [] := by
  refine ⟨rfl, rfl, rfl, rfl, rfl, ?_, ⟨0, rfl, by omega, fun m => ⟨fun _ y hy => (by cases hy), fun _ => Nat.dvd_zero m⟩⟩, rfl, fun _ j y hj => ?_⟩
  · show 12 = mdF [x] 12
    rw [show mdF [x] (10 + 2) = if sR (10 + 2) (-1) [x] = true then 10 + 2 else mdF [x] (10 + 1) from rfl, sR_first, if_pos (show sR (10 + 2) (rst x (10 + 2)) [] = true from rfl)]
  · have hj : ([x] : List Int32)[j]? = some y := hj
    rcases j with _ | j
    · cases hj
      show upd (vFw v) 0 x 0 = x
      exact pk_us
    · cases hj
theorem nnV_few {v : VS} {x : Int32} {s : List Int32} (hs : srt s) (h4 : s.length ≤ 4) (hu : vUn v = s.length) (hf : s.length ≤ 3 → fw (vFw v) s) : vUn (nnV v x) = (if s.length < 4 then insL x s else s).length ∧ ((if s.length < 4 then insL x s else s).length ≤ 3 → fw (vFw (nnV v x)) (if s.length < 4 then insL x s else s)) := by
  unfold nnV
  by_cases w : 3 < vUn v
  · have e4 : (if s.length < 4 then insL x s else s) = s := if_neg (by omega)
    rw [e4, if_pos w]
    exact ⟨hu, fun h => hf h⟩
  · have e4 : (if s.length < 4 then insL x s else s) = insL x s := if_pos (by omega)
    have hf3 := hf (by omega)
    rw [e4, if_neg w, hu]
    by_cases w2 : amB (vFw v) s.length x = true
    · rw [if_pos w2, insL_same s hs ((amB_mem (by omega) hf3).mp w2)]
      exact ⟨hu, fun _ => hf3⟩
    · have hn : ¬ x ∈ s := fun q => w2 ((amB_mem (by omega) hf3).mpr q)
      rw [if_neg w2]
      by_cases w3 : 3 ≤ s.length
      · rw [if_pos w3]
        have hl : (insL x s).length = s.length + 1 := by
          have : ∀ s : List Int32, srt s → ¬ x ∈ s → (insL x s).length = s.length + 1 := by
            intro s
            induction s with
            | nil => intro _ _; rfl
            | cons a s ih =>
              intro hs hn
              unfold insL
              split
              · rw [List.length_cons, ih hs.2 (fun q => hn (List.mem_cons_of_mem _ q)), List.length_cons]
              · split
                · next h => exact absurd (by rw [h]; exact List.mem_cons_self) hn
                · rfl
          exact this s hs hn
        refine ⟨?_, fun h => by omega⟩
        show s.length + 1 = _
        rw [hl]
      · rw [if_neg w3]
        obtain ⟨n1, n2⟩ := nnF_ins hs (by omega) hf3 hn
        exact ⟨by show s.length + 1 = _; rw [n2], fun _ => n1⟩
theorem VR_go {v : VS} {a x : Int32} {t : List Int32} (ha : rng a) (hx : rng x) (ht : ∀ y, y ∈ t → rng y) (h : VR v a t) : VR (goV v x) a (t ++ [x]) := by
  obtain ⟨h1, h2, h3, h4, h5, h6, ⟨g, gg1, gg2, gg3⟩, h8, h9⟩ := h
  have hg1 : ∀ {α : Type} (f : VS → α), (∀ (v : VS) (b : Bool), f (sFe v b) = f v) → f (g1 v x) = f v := by
    intro α f hf
    unfold g1
    split
    · exact hf v true
    · rfl
  have eF : vF (g1 v x) = a := (hg1 vF (fun _ _ => rfl)).trans h1
  have eSt : vSt (g1 v x) = vSt v := hg1 vSt (fun _ _ => rfl)
  -- the step
  have hxa : (x - a).toInt = x.toInt - a.toInt := by
    rw [Int32.toInt_sub]
    obtain ⟨b1, b2⟩ := ha
    obtain ⟨c1, c2⟩ := hx
    exact Int.bmod_eq_of_le (by omega) (by omega)
  have hst : (gcD (vSt v) (x - a).toInt64).toInt = (Nat.gcd g (dfN a x) : Int) := by
    obtain ⟨b1, b2⟩ := ha
    obtain ⟨c1, c2⟩ := hx
    have e2 : ((x - a).toInt64).toInt = x.toInt - a.toInt := by rw [Int32.toInt_toInt64, hxa]
    rw [gcD_gcd (by rw [gg1]; omega) (by rw [e2]; omega), gg1, e2]
    rfl
  have hgm : ∀ m, m ∣ Nat.gcd g (dfN a x) ↔ ∀ y, y ∈ t ++ [x] → m ∣ dfN a y := by
    intro m
    rw [Nat.dvd_gcd_iff, gg3 m]
    constructor
    · rintro ⟨q1, q2⟩ y hy
      rcases List.mem_append.mp hy with hy | hy
      · exact q1 y hy
      · rw [List.mem_singleton.mp hy]; exact q2
    · intro q
      exact ⟨fun y hy => q y (List.mem_append_left _ hy), q x (List.mem_append_right _ List.mem_cons_self)⟩
  have hle : Nat.gcd g (dfN a x) ≤ 60 := by
    rcases Nat.eq_zero_or_pos g with q | q
    · rw [q, Nat.gcd_zero_left]
      obtain ⟨b1, b2⟩ := ha
      obtain ⟨c1, c2⟩ := hx
      unfold dfN
      omega
    · exact Nat.le_trans (Nat.gcd_le_left _ q) gg2
  have ht2 : ∀ y, y ∈ t ++ [x] → rng y := fun y hy => by
    rcases List.mem_append.mp hy with hy | hy
    · exact ht y hy
    · rw [List.mem_singleton.mp hy]; exact hx
  have hstG : (vSt (gA v x)).toInt = (Nat.gcd g (dfN a x) : Int) := by
    show (gcD (vSt (g1 v x)) (x - vF (g1 v x)).toInt64).toInt = _
    rw [eF, eSt]
    exact hst
  have hnn : ∀ {α : Type} (f : VS → α), (∀ (v : VS) (u : Nat), f (sUn v u) = f v) → (∀ (v : VS) (w : Nat → Int32), f (sFw v w) = f v) → f (goV v x) = f (sMo (gA v x) (gmF (vSt (gA v x)) 12)) := by
    intro α f f1 f2
    unfold goV nnV
    split
    · rfl
    · split
      · rfl
      · split
        · exact f1 _ _
        · rw [f2, f1]
  have hsr : srt (gth [] (a :: t)) := gth_srt _ _ trivial
  have hl4 : (gth [] (a :: t)).length ≤ 4 := gth_le _ _ (by decide)
  have hfew := nnV_few (v := sMo (gA v x) (gmF (vSt (gA v x)) 12)) (x := x) hsr hl4 (by show vUn (g1 v x) = _; rw [hg1 vUn (fun _ _ => rfl)]; exact h8) (fun q => by
    show fw (vFw (g1 v x)) _
    rw [hg1 vFw (fun _ _ => rfl)]
    exact h9 q)
  rw [← gth_snoc (a :: t) []] at hfew
  refine ⟨?_, ?_, ?_, ?_, ?_, ?_, ⟨Nat.gcd g (dfN a x), ?_, hle, hgm⟩, hfew.1, hfew.2⟩
  · rw [hnn vF (fun _ _ => rfl) (fun _ _ => rfl)]
    exact eF
  · rw [hnn vL (fun _ _ => rfl) (fun _ _ => rfl), List.getLast?_append, List.getLast?_singleton]
    rfl
  · rw [hnn vLe (fun _ _ => rfl) (fun _ _ => rfl), exS_snoc]
    show mn2 (vLe (g1 v x)) x = _
    rw [hg1 vLe (fun _ _ => rfl), h3]
    unfold mn2
    by_cases w : x < exS false a true t
    · rw [if_pos w, if_pos (by rw [if_neg (by decide)]; exact decide_eq_true w)]
    · rw [if_neg w, if_neg (by rw [if_neg (by decide), decide_eq_false w]; decide)]
  · rw [hnn vGr (fun _ _ => rfl) (fun _ _ => rfl), exS_snoc]
    show mx2 (vGr (g1 v x)) x = _
    rw [hg1 vGr (fun _ _ => rfl), h4]
    unfold mx2
    by_cases w : exS true a true t < x
    · rw [if_pos w, if_pos (by rw [if_pos rfl]; exact decide_eq_true w)]
    · rw [if_neg w, if_neg (by rw [if_pos rfl, decide_eq_false w]; decide)]
  · rw [hnn vFe (fun _ _ => rfl) (fun _ _ => rfl), risF_snoc]
    show vFe (g1 v x) = _
    unfold g1
    rw [h2]
    by_cases w : x < t.getLast?.getD a
    · rw [if_pos w, decide_eq_true w, Bool.not_true, Bool.and_false]
      rfl
    · rw [if_neg w, decide_eq_false w, Bool.not_false, Bool.and_true]
      exact h5
  · rw [hnn vMo (fun _ _ => rfl) (fun _ _ => rfl)]
    show gmF (vSt (gA v x)) 12 = mdF (a :: (t ++ [x])) 12
    exact (mdF_first ha 12 (by omega) (t ++ [x]) ht2 _ hgm _ hstG).symm
  · rw [hnn vSt (fun _ _ => rfl) (fun _ _ => rfl)]
    exact hstG
/-- orders of two variables over their readings -/
def OR_ (o : Int32) (ps : List (Int32 × Int32)) : Prop := o = nI ((if ps.any (fun q => decide (q.1 < q.2)) = true then 1 else 0) + (if ps.any (fun q => decide (q.1 = q.2)) = true then 2 else 0) + (if ps.any (fun q => decide (q.2 < q.1)) = true then 4 else 0))
theorem tri {x y : Int32} : x < y ∨ x = y ∨ y < x := by
  by_cases h : x < y
  · exact Or.inl h
  · by_cases h2 : x = y
    · exact Or.inr (Or.inl h2)
    · exact Or.inr (Or.inr (Int32.not_le.mp (fun q => by
        rcases Int32.lt_or_eq_of_le q with q | q
        · exact h q
        · exact h2 q)))
theorem ordO_c {x y : Int32} : (x < y ∧ ordO x y = nI 1 ∧ ¬ x = y ∧ ¬ y < x) ∨ (x = y ∧ ordO x y = nI 2 ∧ ¬ x < y ∧ ¬ y < x) ∨ (y < x ∧ ordO x y = nI 4 ∧ ¬ x = y ∧ ¬ x < y) := by
  unfold ordO
  rcases tri (x := x) (y := y) with h | h | h
  · have h2 : ¬ x = y := fun e => by rw [e] at h; exact Int32.lt_irrefl h
    have h3 : ¬ y < x := fun e => Int32.lt_irrefl (Int32.lt_trans h e)
    exact Or.inl ⟨h, by rw [if_neg h2, if_pos h], h2, h3⟩
  · subst h
    exact Or.inr (Or.inl ⟨rfl, by rw [if_pos rfl], Int32.lt_irrefl, Int32.lt_irrefl⟩)
  · have h2 : ¬ x = y := fun e => by rw [e] at h; exact Int32.lt_irrefl h
    have h3 : ¬ x < y := fun e => Int32.lt_irrefl (Int32.lt_trans h e)
    exact Or.inr (Or.inr ⟨h, by rw [if_neg h2, if_neg h3], h2, h3⟩)
theorem OR_nil : OR_ 0 [] := rfl
theorem OR_snoc {o : Int32} {ps : List (Int32 × Int32)} {x y : Int32} (h : OR_ o ps) : OR_ (o ||| ordO x y) (ps ++ [(x, y)]) := by
  unfold OR_ at h ⊢
  rw [h, List.any_append, List.any_append, List.any_append]
  simp only [List.any_cons, List.any_nil, Bool.or_false]
  generalize ps.any (fun q => decide (q.1 < q.2)) = b1
  generalize ps.any (fun q => decide (q.1 = q.2)) = b2
  generalize ps.any (fun q => decide (q.2 < q.1)) = b3
  rcases ordO_c (x := x) (y := y) with ⟨h1, e, h2, h3⟩ | ⟨h1, e, h2, h3⟩ | ⟨h1, e, h2, h3⟩
  · rw [e, decide_eq_true h1, decide_eq_false h2, decide_eq_false h3]
    cases b1 <;> cases b2 <;> cases b3 <;> decide
  · rw [e, decide_eq_true h1, decide_eq_false h2, decide_eq_false h3]
    cases b1 <;> cases b2 <;> cases b3 <;> decide
  · rw [e, decide_eq_true h1, decide_eq_false h2, decide_eq_false h3]
    cases b1 <;> cases b2 <;> cases b3 <;> decide
theorem any_tri {ps : List (Int32 × Int32)} (hn : ps ≠ []) : ps.any (fun q => decide (q.1 < q.2)) = true ∨ ps.any (fun q => decide (q.1 = q.2)) = true ∨ ps.any (fun q => decide (q.2 < q.1)) = true := by
  cases ps with
  | nil => exact absurd rfl hn
  | cons q ps =>
    rcases tri (x := q.1) (y := q.2) with h | h | h
    · exact Or.inl (by rw [List.any_cons, decide_eq_true h, Bool.true_or])
    · exact Or.inr (Or.inl (by rw [List.any_cons, decide_eq_true h, Bool.true_or]))
    · exact Or.inr (Or.inr (by rw [List.any_cons, decide_eq_true h, Bool.true_or]))
/-- what the orders say: just what all readings do -/
theorem fitO_all {o : Int32} {ps : List (Int32 × Int32)} {s : Nat} (hn : ps ≠ []) (h : OR_ o ps) (h5 : 5 ≤ s) (h8 : s ≤ 8) : fitO (nI s) o = ps.all (fun q => goesB s q.1 q.2) := by
  have e1 : ps.any (fun q => decide (q.1 < q.2)) = !ps.all (fun q => !decide (q.1 < q.2)) := by rw [List.not_all_eq_any_not]; simp
  have e2 : ps.any (fun q => decide (q.1 = q.2)) = !ps.all (fun q => !decide (q.1 = q.2)) := by rw [List.not_all_eq_any_not]; simp
  have e3 : ps.any (fun q => decide (q.2 < q.1)) = !ps.all (fun q => !decide (q.2 < q.1)) := by rw [List.not_all_eq_any_not]; simp
  have a5 : ps.all (fun q => decide (q.1 = q.2)) = (!ps.any (fun q => decide (q.1 < q.2)) && !ps.any (fun q => decide (q.2 < q.1))) := by
    rw [Bool.eq_iff_iff]
    simp only [List.all_eq_true, Bool.and_eq_true, Bool.not_eq_true', List.any_eq_false, decide_eq_true_eq]
    constructor
    · intro q
      exact ⟨fun z hz => by rw [q z hz]; exact Int32.lt_irrefl, fun z hz => by rw [q z hz]; exact Int32.lt_irrefl⟩
    · rintro ⟨q1, q2⟩ z hz
      rcases tri (x := z.1) (y := z.2) with h | h | h
      · exact absurd h (q1 z hz)
      · exact h
      · exact absurd h (q2 z hz)
  have a6 : ps.all (fun q => decide (q.1 < q.2)) = (!ps.any (fun q => decide (q.1 = q.2)) && !ps.any (fun q => decide (q.2 < q.1))) := by
    rw [Bool.eq_iff_iff]
    simp only [List.all_eq_true, Bool.and_eq_true, Bool.not_eq_true', List.any_eq_false, decide_eq_true_eq]
    constructor
    · intro q
      exact ⟨fun z hz e => by have := q z hz; rw [e] at this; exact Int32.lt_irrefl this, fun z hz e => Int32.lt_irrefl (Int32.lt_trans (q z hz) e)⟩
    · rintro ⟨q1, q2⟩ z hz
      rcases tri (x := z.1) (y := z.2) with h | h | h
      · exact h
      · exact absurd h (q1 z hz)
      · exact absurd h (q2 z hz)
  have htr := any_tri hn
  unfold OR_ at h
  rw [h]
  rcases (show s = 5 ∨ s = 6 ∨ s = 7 ∨ s = 8 by omega) with rfl | rfl | rfl | rfl
  · show _ = ps.all (fun q => decide (q.1 = q.2))
    rw [a5]
    generalize ps.any (fun q => decide (q.1 < q.2)) = b1 at htr
    generalize ps.any (fun q => decide (q.1 = q.2)) = b2 at htr
    generalize ps.any (fun q => decide (q.2 < q.1)) = b3 at htr
    revert htr
    cases b1 <;> cases b2 <;> cases b3 <;> decide
  · show _ = ps.all (fun q => decide (q.1 < q.2))
    rw [a6]
    generalize ps.any (fun q => decide (q.1 < q.2)) = b1 at htr
    generalize ps.any (fun q => decide (q.1 = q.2)) = b2 at htr
    generalize ps.any (fun q => decide (q.2 < q.1)) = b3 at htr
    revert htr
    cases b1 <;> cases b2 <;> cases b3 <;> decide
  · show _ = ps.all (fun q => !decide (q.2 < q.1))
    rw [← Bool.not_not (ps.all (fun q => !decide (q.2 < q.1))), ← e3]
    generalize ps.any (fun q => decide (q.1 < q.2)) = b1 at htr
    generalize ps.any (fun q => decide (q.1 = q.2)) = b2 at htr
    generalize ps.any (fun q => decide (q.2 < q.1)) = b3 at htr
    revert htr
    cases b1 <;> cases b2 <;> cases b3 <;> decide
  · show _ = ps.all (fun q => !decide (q.1 = q.2))
    rw [← Bool.not_not (ps.all (fun q => !decide (q.1 = q.2))), ← e2]
    generalize ps.any (fun q => decide (q.1 < q.2)) = b1 at htr
    generalize ps.any (fun q => decide (q.1 = q.2)) = b2 at htr
    generalize ps.any (fun q => decide (q.2 < q.1)) = b3 at htr
    revert htr
    cases b1 <;> cases b2 <;> cases b3 <;> decide
