/-! BOTH SIDES: a side of a point -/
/-- the side S holds the readings l, in their order -/
def SL (k : Nat) (l : List (Nat → Int32)) (S : FS) : Prop := FRv k S l.length (fun i => l.map (fun x => x i)) ∧ CT (k + 1) S.2.1 (fun w => ∀ x, x ∈ l → dt w (mX (k + 1) x) (k + 1) = 0)
theorem CT_cg {n : Nat} {T T' : TS} {NS NS' : (Nat → Int) → Prop} (h : CT n T NS) (he : tEq T T') (hN : ∀ w, NS w ↔ NS' w) : CT n T' NS' := by
  obtain ⟨k, cs, R, F0, B⟩ := T
  obtain ⟨k', cs', R', F0', B'⟩ := T'
  obtain ⟨e1, e2, e3⟩ := he
  dsimp only at e1 e2 e3
  subst e1
  subst e2
  subst e3
  obtain ⟨N, t, c1, c2, c3, c4, c5⟩ := h
  exact ⟨N, t, c1, c2, c3, fun w => (c4 w).trans (hN w), c5⟩
theorem FRv_eq {k n : Nat} {S S' : FS} {col : Nat → List Int32} (h : FRv k S n col) (h1 : S'.1 = S.1) (h2 : S'.2.2 = S.2.2) : FRv k S' n col := by
  unfold FRv at h ⊢
  rw [h1, h2]
  exact h
theorem mX_cg {k : Nat} {x y : Nat → Int32} (h : ∀ i, i < k → x i = y i) : ∀ c, mX (k + 1) x c = mX (k + 1) y c := by
  intro c
  unfold mX
  by_cases e : c < k + 1 - 1
  · rw [if_pos e, if_pos e, h c (by omega)]
  · rw [if_neg e, if_neg e]
theorem SL_eq {k : Nat} {l : List (Nat → Int32)} {S S' : FS} (h : SL k l S) (h1 : S'.1 = S.1) (h2 : S'.2.2 = S.2.2) (h3 : tEq S.2.1 S'.2.1) : SL k l S' := ⟨FRv_eq h.1 h1 h2, CT_cg h.2 h3 (fun _ => Iff.rfl)⟩
theorem SL_nil {k : Nat} {S : FS} (hk : k ≤ 4) (h1 : S.1 = 0) (h2 : S.2.1.1 = 0) : SL k [] S := ⟨FRv_0 h1 (fun _ _ => rfl), CT_cg (CT_0 (by omega) h2) ⟨rfl, rfl, rfl⟩ (fun w => ⟨fun _ x hx => absurd hx (by simp), fun _ => trivial⟩)⟩
theorem SL_add {k : Nat} {l : List (Nat → Int32)} {S : FS} {x : Nat → Int32} (hk : k ≤ 4) (hx : ∀ i, i < k → rng (x i)) (h : SL k l S) : SL k (l ++ [x]) (adF k S x) := by
  obtain ⟨h1, h2⟩ := h
  refine ⟨?_, ?_⟩
  · have := FRv_ad hx h1
    have e : (l ++ [x]).length = l.length + 1 := by simp
    rw [e]
    exact FRv_cg this (fun i _ => by simp)
  · have hb : ∀ c, c < k + 1 - 1 → bd (x c).toInt 30 := fun c hc => by
      have := hx c (by omega)
      unfold rng at this
      unfold bd
      omega
    have := CT_add (by omega) (by omega) h2 hb
    refine CT_cg this ⟨rfl, rfl, rfl⟩ (fun w => ⟨fun h y hy => ?_, fun h => ⟨fun y hy => h y (List.mem_append_left _ hy), h x (List.mem_append_right _ (by simp))⟩⟩)
    rcases List.mem_append.mp hy with q | q
    · exact h.1 y q
    · rw [List.mem_singleton.mp q]
      exact h.2
/-- the readings count at their first k places alone -/
def eqL (k : Nat) : List (Nat → Int32) → List (Nat → Int32) → Prop
  | [], [] => True
  | x :: l, y :: m => (∀ i, i < k → x i = y i) ∧ eqL k l m
  | _, _ => False
theorem eqL_ok {k : Nat} : ∀ l m, eqL k l m → l.length = m.length ∧ (∀ i, i < k → l.map (fun x => x i) = m.map (fun x => x i)) ∧ ∀ w, (∀ x, x ∈ l → dt w (mX (k + 1) x) (k + 1) = 0) ↔ ∀ x, x ∈ m → dt w (mX (k + 1) x) (k + 1) = 0
  | [], [], _ => ⟨rfl, fun _ _ => rfl, fun _ => Iff.rfl⟩
  | [], _ :: _, h => absurd h (by simp [eqL])
  | _ :: _, [], h => absurd h (by simp [eqL])
  | x :: l, y :: m, h => by
    obtain ⟨h1, h2⟩ := h
    obtain ⟨i1, i2, i3⟩ := eqL_ok l m h2
    refine ⟨by simp [i1], fun i hi => by rw [List.map_cons, List.map_cons, h1 i hi, i2 i hi], fun w => ?_⟩
    have e : dt w (mX (k + 1) x) (k + 1) = dt w (mX (k + 1) y) (k + 1) := dt_cg (k + 1) (fun f _ => mX_cg h1 f)
    constructor
    · intro h z hz
      rcases List.mem_cons.mp hz with q | q
      · rw [q, ← e]; exact h x (by simp)
      · exact (i3 w).mp (fun u hu => h u (List.mem_cons_of_mem _ hu)) z q
    · intro h z hz
      rcases List.mem_cons.mp hz with q | q
      · rw [q, e]; exact h y (by simp)
      · exact (i3 w).mpr (fun u hu => h u (List.mem_cons_of_mem _ hu)) z q
theorem eqL_map {k : Nat} {f g : Nat → Nat → Int32} : ∀ l : List Nat, (∀ r, r ∈ l → ∀ i, i < k → f r i = g r i) → eqL k (l.map f) (l.map g)
  | [], _ => trivial
  | r :: l, h => ⟨h r (by simp), eqL_map l (fun q hq => h q (List.mem_cons_of_mem _ hq))⟩
theorem SL_cg {k : Nat} {l m : List (Nat → Int32)} {S : FS} (h : SL k l S) (he : eqL k l m) : SL k m S := by
  obtain ⟨e1, e2, e3⟩ := eqL_ok l m he
  obtain ⟨h1, h2⟩ := h
  refine ⟨?_, CT_cg h2 ⟨rfl, rfl, rfl⟩ e3⟩
  rw [← e1]
  exact FRv_cg h1 (fun i hi => (e2 i hi).symm)
theorem SL_fold {k : Nat} (hk : k ≤ 4) : ∀ (m l : List (Nat → Int32)) (S : FS), (∀ x, x ∈ m → ∀ i, i < k → rng (x i)) → SL k l S → SL k (l ++ m) (m.foldl (adF k) S)
  | [], l, S, _, h => by rw [List.append_nil]; exact h
  | x :: m, l, S, hm, h => by
    have := SL_fold hk m (l ++ [x]) (adF k S x) (fun y hy => hm y (List.mem_cons_of_mem _ hy)) (SL_add hk (hm x (by simp)) h)
    rw [List.append_assoc] at this
    exact this
section W0
variable {A : Nat → Nat → Int32} {p side k : Nat} {S : FS}
/-- the readings of a side, as the reference holds them -/
abbrev rl (A : Nat → Nat → Int32) (p side : Nat) : List (Nat → Int32) := (rs A p side).map (fun r => xA A p r)
theorem SL_FRr (h : SL k (rl A p side) S) : FRr A p side k S := by
  have h1 := h.1
  unfold rl at h1
  rw [List.length_map] at h1
  exact FRv_cg h1 (fun i _ => by rw [List.map_map]; rfl)
theorem SL_n (h : SL k (rl A p side) S) : S.1 = (rs A p side).length := by
  have := h.1.1
  rw [this]
  simp
theorem SL_rng (h : SL k (rl A p side) S) {r i : Nat} (hr : r ∈ rs A p side) (hi : i < k) : rng (xA A p r i) := by
  refine (h.1.2 i hi).2.1 _ ?_
  show xA A p r i ∈ List.map (fun x => x i) (rl A p side)
  rw [List.map_map]
  exact List.mem_map.mpr ⟨r, hr, rfl⟩
theorem SL_TwT (hk : k ≤ 4) (hkA : kA A p = k) (h : SL k (rl A p side) S) : TwT (k + 1) S.2.1 (sl A p side) (fun w => ∀ x, x ∈ rl A p side → dt w (mX (k + 1) x) (k + 1) = 0) := by
  refine ⟨h.2, ?_⟩
  have hR : ∀ i f, i < (rs A p side).length → f < k + 1 → (lyF A p k (rs A p side) (fun _ => 0) (5 * i + f)).toInt = mX (k + 1) (xA A p ((rs A p side).getD i 0)) f := by
    intro i f hi hf
    unfold lyF mX
    rw [show (5 * i + f) / 5 = i by omega, show (5 * i + f) % 5 = f by omega]
    by_cases e : f < k
    · rw [if_pos ⟨hi, e⟩, if_pos (by omega)]
      exact Int32.toInt_toInt64 _
    · rw [if_neg (fun q => e q.2), if_pos ⟨hi, by omega⟩, if_neg (by omega)]
      rfl
  have hb : ∀ i f, i < (rs A p side).length → f < k + 1 → bd (mX (k + 1) (xA A p ((rs A p side).getD i 0)) f) 30 := by
    intro i f hi hf
    unfold mX
    by_cases e : f < k + 1 - 1
    · rw [if_pos e]
      have := SL_rng h (getD_mem hi) (show f < k by omega)
      unfold rng at this
      unfold bd
      omega
    · rw [if_neg e]
      exact ⟨by decide, by decide⟩
  have hs : brF (k + 1) (rs A p side).length 0 (lyF A p k (rs A p side) (fun _ => 0), [], 1) = sl A p side := by
    unfold sl slv
    rw [hkA]
  obtain ⟨a1, a2, a3, a4, a5⟩ := br_ok (by omega) hR hb hs
  refine ⟨a1, a2, a3, fun w => (a5 w).trans ?_⟩
  constructor
  · intro q x hx
    obtain ⟨r, hr, e⟩ := List.mem_map.mp hx
    obtain ⟨i, hi, e2⟩ := List.getElem_of_mem hr
    have : dt w (mX (k + 1) (xA A p ((rs A p side).getD i 0))) (k + 1) = 0 := q i hi
    rw [← e]
    rw [List.getD_eq_getElem?_getD, List.getElem?_eq_getElem hi] at this
    rw [← e2]
    exact this
  · intro q i hi
    exact q _ (List.mem_map.mpr ⟨_, getD_mem hi, rfl⟩)
theorem SL_size (hk : k ≤ 4) (hkA : kA A p = k) (h : SL k (rl A p side) S) : bzN k S.1 S.2.1 = (fl8 A p side).length := by
  have hT := SL_TwT hk hkA h
  have hs := TwT_size hT
  unfold bzN fl8 fcL
  rw [hkA, SL_n h]
  by_cases e : (rs A p side).length = 0
  · rw [if_pos e, if_pos e]; rfl
  · rw [if_neg e, if_neg e, hs]
theorem SL_basis (hk : k ≤ 4) (hkA : kA A p = k) (h : SL k (rl A p side) S) {s c : Nat} (hs : s < (fl8 A p side).length) (hc : c < k + 1) : bsV (k + 1) S.2.1 s c = bR (kA A p + 1) (sl A p side) ((fl8 A p side).getD s 0) c ∧ bd (bsV (k + 1) S.2.1 s c).toInt 19440000 := by
  have hT := SL_TwT hk hkA h
  unfold fl8 fcL at hs ⊢
  rw [hkA] at hs ⊢
  by_cases e : (rs A p side).length = 0
  · rw [if_pos e] at hs
    simp at hs
  · rw [if_neg e] at hs ⊢
    have := TwT_basis hT hs hc
    exact ⟨this.1, this.2.2⟩
theorem SL_isT (hk : k ≤ 4) (hkA : kA A p = k) (h : SL k (rl A p side) S) {row : Nat → Int64} (hr : ∀ c, c < k + 1 → bd (row c).toInt 7717680000) : isT row (kA A p + 1) (rs A p side).length (sl A p side) = spB k S.1 S.2.1 row := by
  rw [hkA]
  exact isT_spB (SL_TwT hk hkA h) (by rw [SL_n h]) hr
end W0
