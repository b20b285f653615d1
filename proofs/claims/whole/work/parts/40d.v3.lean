/-! BOTH SIDES: a side's guesses -/
/-- a side holds n readings, column by column -/
def FRv (k : Nat) (S : FS) (n : Nat) (col : Nat → List Int32) : Prop := S.1 = n ∧ ∀ i, i < k → (col i).length = n ∧ (∀ y, y ∈ col i → rng y) ∧ (n ≠ 0 → ∃ a t, col i = a :: t ∧ VR (S.2.2 i) a t ∧ ∀ j, j < k → OR_ (vOr (S.2.2 i) j) ((col i).zip (col j)))
theorem VR_od {k i : Nat} {x : Nat → Int32} {v : VS} {a : Int32} {t : List Int32} (h : VR v a t) : VR (odV k x i v) a t := h
theorem goV_or {v : VS} {x : Int32} : vOr (goV v x) = vOr v := by
  have e1 : vOr (g1 v x) = vOr v := by unfold g1; split <;> rfl
  have e2 : vOr (sMo (gA v x) (gmF (vSt (gA v x)) 12)) = vOr v := e1
  unfold goV nnV
  split
  · exact e2
  · split
    · exact e2
    · split
      · exact e2
      · exact e2
theorem FRv_ad {k n : Nat} {S : FS} {col : Nat → List Int32} {x : Nat → Int32} (hx : ∀ i, i < k → rng (x i)) (h : FRv k S n col) : FRv k (adF k S x) (n + 1) (fun i => col i ++ [x i]) := by
  obtain ⟨h1, h2⟩ := h
  refine ⟨by show S.1 + 1 = n + 1; rw [h1], fun i hi => ?_⟩
  obtain ⟨c1, c2, c3⟩ := h2 i hi
  refine ⟨by rw [List.length_append, c1]; rfl, fun y hy => ?_, fun _ => ?_⟩
  · rcases List.mem_append.mp hy with hy | hy
    · exact c2 y hy
    · rw [List.mem_singleton.mp hy]; exact hx i hi
  have eV : (adF k S x).2.2 i = adV k S.1 x (S.2.2 i) i := if_pos hi
  by_cases w : n = 0
  · have hnil : ∀ i, i < k → col i = [] := fun i hi => List.eq_nil_of_length_eq_zero ((h2 i hi).1.trans w)
    refine ⟨x i, [], by show col i ++ [x i] = _; rw [hnil i hi]; rfl, ?_, fun j hj => ?_⟩
    · rw [eV]
      unfold adV
      rw [if_pos (h1.trans w)]
      exact VR_od VR_begin
    · rw [eV]
      unfold adV
      rw [if_pos (h1.trans w)]
      show OR_ (if j < k then (if j < k then 0 else vOr (S.2.2 i) j) ||| ordO (x i) (x j) else _) ((col i ++ [x i]).zip (col j ++ [x j]))
      rw [if_pos hj, if_pos hj, hnil i hi, hnil j hj]
      exact OR_snoc (ps := []) OR_nil
  · obtain ⟨a, t, e, v1, v2⟩ := c3 w
    refine ⟨a, t ++ [x i], by show col i ++ [x i] = _; rw [e]; rfl, ?_, fun j hj => ?_⟩
    · rw [eV]
      unfold adV
      rw [if_neg (by rw [h1]; exact w)]
      refine VR_od (VR_go (c2 a (by rw [e]; exact List.mem_cons_self)) (hx i hi) (fun y hy => c2 y (by rw [e]; exact List.mem_cons_of_mem _ hy)) v1)
    · rw [eV]
      unfold adV
      rw [if_neg (by rw [h1]; exact w)]
      show OR_ (if j < k then vOr (goV (S.2.2 i) (x i)) j ||| ordO (x i) (x j) else _) ((col i ++ [x i]).zip (col j ++ [x j]))
      rw [if_pos hj, goV_or, List.zip_append (by rw [c1, (h2 j hj).1])]
      exact OR_snoc (v2 j hj)
theorem FRv_cg {k n : Nat} {S : FS} {col col' : Nat → List Int32} (h : FRv k S n col) (he : ∀ i, i < k → col' i = col i) : FRv k S n col' := by
  refine ⟨h.1, fun i hi => ?_⟩
  rw [he i hi]
  obtain ⟨c1, c2, c3⟩ := h.2 i hi
  refine ⟨c1, c2, fun w => ?_⟩
  obtain ⟨a, t, e, v1, v2⟩ := c3 w
  exact ⟨a, t, e, v1, fun j hj => by rw [he j hj]; exact v2 j hj⟩
theorem FRv_0 {k : Nat} {S : FS} {col : Nat → List Int32} (h : S.1 = 0) (hc : ∀ i, i < k → col i = []) : FRv k S 0 col := ⟨h, fun i hi => by
  rw [hc i hi]
  exact ⟨rfl, fun y hy => (by cases hy), fun w => absurd rfl w⟩⟩
section V3
variable {k p side s i j : Nat} {S : FS} {A : Nat → Nat → Int32}
/-- the side of the class is that of the reference -/
abbrev FRr (A : Nat → Nat → Int32) (p side k : Nat) (S : FS) : Prop := FRv k S (rs A p side).length (vl A p side)
theorem zip_all {f : Int32 → Int32 → Bool} : ((vl A p side i).zip (vl A p side j)).all (fun q => f q.1 q.2) = (rs A p side).all (fun r => f (xA A p r i) (xA A p r j)) := by
  unfold vl vlF
  rw [List.zip_map', List.all_map]
  rfl
theorem st_so (h : FRr A p side k S) (hn : (rs A p side).length ≠ 0) (hi : i < k) (hj : j < k) (hs : s < 10) : stQ S.2.2 s i j = isSoB A p side s i j := by
  obtain ⟨c1, c2, c3⟩ := h.2 i hi
  obtain ⟨a, t, e, ⟨v1, v2, v3, v4, v5, v6, v7, v8, v9⟩, vo⟩ := c3 hn
  unfold stQ isSoB
  rcases (show s = 0 ∨ s = 1 ∨ s = 2 ∨ s = 3 ∨ s = 4 ∨ s = 9 ∨ (5 ≤ s ∧ s ≤ 8) by omega) with rfl | rfl | rfl | rfl | rfl | rfl | ⟨h5, h8⟩
  · rw [if_pos rfl, if_pos rfl, v8, e]
  · rw [if_neg (by decide), if_pos rfl, if_neg (by decide), if_pos rfl, v8, e]
    generalize (gth [] (a :: t)).length = u
    rw [Bool.eq_iff_iff]
    simp only [Bool.and_eq_true, Bool.or_eq_true, decide_eq_true_eq]
    omega
  · rfl
  · rfl
  · rw [if_neg (by decide), if_neg (by decide), if_neg (by decide), if_neg (by decide), if_pos rfl, if_neg (by decide), if_neg (by decide), if_neg (by decide), if_pos rfl, v6, e]
  · rw [if_neg (by decide), if_neg (by decide), if_neg (by decide), if_neg (by decide), if_neg (by decide), if_pos rfl, if_neg (by decide), if_neg (by decide), if_neg (by decide), if_neg (by decide), if_pos rfl, v5, Bool.not_not, e, risF_31 (c2 a (by rw [e]; exact List.mem_cons_self))]
  · rw [if_neg (by omega), if_neg (by omega), if_neg (by omega), if_neg (by omega), if_neg (by omega), if_neg (by omega), if_neg (by omega), if_neg (by omega), if_neg (by omega), if_neg (by omega), if_neg (by omega), fitO_all (by
      intro q
      have h1 := congrArg List.length q
      rw [List.length_zip, c1, (h.2 j hj).1, List.length_nil] at h1
      omega) (vo j hj) h5 h8]
    exact zip_all (f := goesB s)
theorem isSoB_j {j' : Nat} (hs : twB s = false) (h10 : s < 10) : isSoB A p side s i j = isSoB A p side s i j' := by
  have : ¬ (5 ≤ s ∧ s ≤ 8) := of_decide_eq_false hs
  unfold isSoB
  rcases (show s = 0 ∨ s = 1 ∨ s = 2 ∨ s = 3 ∨ s = 4 ∨ s = 9 by omega) with rfl | rfl | rfl | rfl | rfl | rfl <;> rfl
theorem stN_so (h : FRr A p side k S) (hi : i < k) (hj : j < k) (hs : s < 10) : stN S.1 S.2.2 s i j = (!decide ((rs A p side).length = 0) && isSoB A p side s i j) := by
  unfold stN
  rw [h.1]
  by_cases w : (rs A p side).length = 0
  · rw [decide_eq_true w]
    rfl
  · rw [st_so h w hi hj hs]
theorem tw_so (h5 : 5 ≤ s) (h8 : s ≤ 8) : isSoB A p side s i j = tw A p side s i j := by
  unfold isSoB
  rw [if_neg (by omega), if_neg (by omega), if_neg (by omega), if_neg (by omega), if_neg (by omega)]
theorem tl_so (h : FRr A p side k S) (hn : (rs A p side).length ≠ 0) (hi : i < k) (hj : j < k) (hs : s < 10) : tlN S.1 S.2.2 s i j = (isSoB A p side s i j && !sdB A p side s i j) := by
  have e : ∀ s i j, s < 10 → i < k → j < k → stN S.1 S.2.2 s i j = isSoB A p side s i j := fun s i j h1 h2 h3 => by
    rw [stN_so h h2 h3 h1, decide_eq_false hn]
    rfl
  unfold tlN sdB
  rw [e s i j hs hi hj]
  congr 1
  rw [e 0 i 0 (by omega) hi (by omega), e 0 j 0 (by omega) hj (by omega), e 5 i j (by omega) hi hj, e 6 i j (by omega) hi hj, e 6 j i (by omega) hj hi, tw_so (s := 5) (by omega) (by omega), tw_so (s := 6) (by omega) (by omega), tw_so (s := 6) (i := j) (j := i) (by omega) (by omega)]
  by_cases w0 : s = 0
  · rw [if_pos w0, if_pos w0]
    rfl
  rw [if_neg w0, if_neg w0]
  by_cases w1 : twB s = false
  · rw [if_pos w1, if_pos w1]
  rw [if_neg w1, if_neg w1]
  by_cases w2 : (isSoB A p side 0 i 0 && isSoB A p side 0 j 0) = true
  · rw [if_pos w2, if_pos w2]
    rfl
  rw [if_neg w2, if_neg w2]
  by_cases w7 : s = 7
  · rw [if_pos w7, if_pos w7]
    cases tw A p side 5 i j <;> cases tw A p side 6 i j <;> rfl
  rw [if_neg w7, if_neg w7]
  by_cases w8 : s = 8
  · rw [if_pos w8, decide_eq_true w8]
    cases tw A p side 6 i j <;> cases tw A p side 6 j i <;> rfl
  · rw [if_neg w8, decide_eq_false w8]
    rfl
theorem okC_okG {tA : Bool} (h : FRr A p side k S) (hn : (rs A p side).length ≠ 0) (hi : i < k) (hj : j < k) (hs : s < 10) (hg : isGN s i j = hsN s i j) : okC S.1 S.2.2 tA (s, i, j) = okG A p side tA (s, i, j) := by
  unfold okC okG isG3
  rw [hg]
  cases tA with
  | true =>
    rw [if_pos rfl, tl_so h hn hi hj hs, Bool.true_and, Bool.and_assoc]
  | false =>
    rw [if_neg (by decide), stN_so h hi hj hs, decide_eq_false hn, Bool.false_and, Bool.not_false, Bool.and_true]
    rfl
theorem isGN_tw (h : twB s = true) : isGN s i j = hsN s i j := by
  have := of_decide_eq_true h
  unfold isGN hsN
  rw [h, Bool.not_true, Bool.false_or]
  by_cases w : s = 5 ∨ s = 8
  · rw [if_pos w, if_pos w]
  · rw [if_neg w, if_neg w, if_pos (by omega)]
theorem isGN_one (h : twB s = false) : isGN s i j = decide (j = 0) ∧ hsN s i j = true := by
  have := of_decide_eq_false h
  unfold isGN hsN
  rw [h, if_neg (by omega), if_neg (by omega)]
  exact ⟨rfl, rfl⟩
theorem C3_L3 {tA : Bool} (h : FRr A p side k S) (hn : (rs A p side).length ≠ 0) (hi : i < k) (hs : s < 10) : (C3 k s i 0).filter (okC S.1 S.2.2 tA) = (L3 k s i 0).filter (okG A p side tA) := by
  by_cases w : twB s = true
  · have e : L3 k s i 0 = C3 k s i 0 := by unfold L3 C3 jlG; rw [if_pos w]
    rw [e]
    refine List.filter_congr (fun q hq => ?_)
    unfold C3 at hq
    obtain ⟨j, hj, rfl⟩ := List.mem_map.mp hq
    have := List.mem_range'_1.mp hj
    exact okC_okG h hn hi (by omega) hs (isGN_tw w)
  · have w := Bool.eq_false_iff.mpr w
    have hk0 : 0 < k := by omega
    have e : L3 k s i 0 = [(s, i, 0)] := by unfold L3 jlG; rw [if_neg (by rw [w]; decide)]; rfl
    rw [e, C3_step hk0, List.filter_cons, List.filter_cons, okC_okG h hn hi hk0 hs (by rw [(isGN_one w).1, (isGN_one w).2]; rfl)]
    have e2 : (C3 k s i (0 + 1)).filter (okC S.1 S.2.2 tA) = [] := by
      refine List.filter_eq_nil_iff.mpr (fun q hq => ?_)
      unfold C3 at hq
      obtain ⟨j, hj, rfl⟩ := List.mem_map.mp hq
      have := List.mem_range'_1.mp hj
      unfold okC isG3
      rw [(isGN_one w).1, show decide ((s, i, j).2.2 = 0) = false from decide_eq_false (show ¬ j = 0 by omega), Bool.false_and]
      decide
    rw [e2]
    rfl
theorem ls_gl {tA : Bool} (h : FRr A p side (kA A p) S) : lsF S.1 S.2.2 tA (C1 (kA A p) 0) = gl A p side tA := by
  unfold gl lsF
  by_cases w : (rs A p side).length = 0
  · rw [if_pos w]
    have e : (C1 (kA A p) 0).filter (okC S.1 S.2.2 tA) = [] := by
      refine List.filter_eq_nil_iff.mpr (fun q hq => ?_)
      obtain ⟨h1, h2, h3⟩ := C1_mem hq
      have hst : stN S.1 S.2.2 q.1 q.2.1 q.2.2 = false := by
        unfold stN
        rw [h.1, decide_eq_true w]
        rfl
      unfold okC tlN
      rw [hst]
      cases tA <;> simp
    rw [e]
    rfl
  · rw [if_neg w]
    unfold gF
    congr 1
    unfold C1 L1
    rw [List.filter_flatMap, List.filter_flatMap]
    have e1 : ∀ (xs : List Nat) (f g : Nat → List (Nat × Nat × Nat)), (∀ a, a ∈ xs → f a = g a) → xs.flatMap f = xs.flatMap g := by
      intro xs f g hfg
      induction xs with
      | nil => rfl
      | cons a xs ih => rw [List.flatMap_cons, List.flatMap_cons, hfg a List.mem_cons_self, ih (fun b hb => hfg b (List.mem_cons_of_mem _ hb))]
    refine e1 _ _ _ (fun s hs => ?_)
    have hs := List.mem_range'_1.mp hs
    unfold C2 L2
    rw [List.filter_flatMap, List.filter_flatMap]
    refine e1 _ _ _ (fun i hi => ?_)
    have hi := List.mem_range'_1.mp hi
    exact C3_L3 h w (by omega) (by omega)
end V3
