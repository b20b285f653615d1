/-! THE CLASS: Facts, what stays -/
def fOK (k : Nat) (S : FS) : Prop := tOK (k + 1) S.2.1 ∧ ∀ i, i < k → vUn (S.2.2 i) ≤ 4 ∧ vMo (S.2.2 i) ≤ 12
theorem isS_L {n l K : Nat} : ∀ m (L : Nat → Nat) (R : Nat → Nat → Int64), (∀ r, r < m → L r < n) → (∀ r, m < r → r < K → L r < n) → ∀ r, r < K → r ≠ (isS n l m L R).1 → (isS n l m L R).2.1 r < n
  | 0, L, R, _, h2, r, hr, hne => h2 r (by have : r ≠ 0 := hne; omega) hr
  | m + 1, L, R, h1, h2, r, hr, hne => by
    unfold isS at hne ⊢
    by_cases w : l < L m
    · rw [if_pos w] at hne ⊢
      refine isS_L m _ _ (fun r hr => ?_) (fun r h3 h4 => ?_) r hr hne
      · rw [if_neg (by omega)]
        exact h1 r (by omega)
      · by_cases w2 : r = m + 1
        · rw [if_pos w2]
          exact h1 m (by omega)
        · rw [if_neg w2]
          exact h2 r (by omega) h4
    · rw [if_neg w] at hne ⊢
      have hne : r ≠ m + 1 := hne
      rcases Nat.lt_or_gt_of_ne hne with w2 | w2
      · exact h1 r w2
      · exact h2 r w2 hr
theorem tOK_ad {n : Nat} {T : TS} {x : Nat → Int32} (h : tOK n T) : tOK n (adT n T x) := by
  unfold adT
  by_cases w : ldF (adA n T x).2.2.2.1 n 0 < n ∧ T.1 < n
  · rw [if_pos w]
    generalize ldF (adA n T x).2.2.2.1 n 0 = l at w
    refine ⟨?_, fun r hr => ?_⟩
    · show T.1 + 1 ≤ n
      omega
    · have hr : r < T.1 + 1 := hr
      show (if r = (isS n l T.1 T.2.1 T.2.2.1).1 then l else (isS n l T.1 T.2.1 T.2.2.1).2.1 r) < n
      by_cases w2 : r = (isS n l T.1 T.2.1 T.2.2.1).1
      · rw [if_pos w2]; exact w.1
      · rw [if_neg w2]
        exact isS_L (K := T.1 + 1) T.1 _ _ h.2 (fun r h3 h4 => by omega) r hr w2
  · rw [if_neg w]
    exact h
theorem nnV_un {v : VS} {x : Int32} (h : vUn v ≤ 4) : vUn (nnV v x) ≤ 4 ∧ vMo (nnV v x) = vMo v := by
  unfold nnV
  by_cases w : 3 < vUn v
  · rw [if_pos w]
    exact ⟨h, rfl⟩
  · rw [if_neg w]
    by_cases w2 : amB (vFw v) (vUn v) x = true
    · rw [if_pos w2]
      exact ⟨h, rfl⟩
    · rw [if_neg w2]
      by_cases w3 : 3 ≤ vUn v
      · rw [if_pos w3]
        exact ⟨by show vUn v + 1 ≤ 4; omega, rfl⟩
      · rw [if_neg w3]
        exact ⟨by show vUn v + 1 ≤ 4; omega, rfl⟩
theorem g1_un {v : VS} {x : Int32} : vUn (g1 v x) = vUn v := by unfold g1; split <;> rfl
theorem goV_un {v : VS} {x : Int32} (h : vUn v ≤ 4) : vUn (goV v x) ≤ 4 ∧ vMo (goV v x) ≤ 12 := by
  unfold goV
  have e := nnV_un (v := sMo (gA v x) (gmF (vSt (gA v x)) 12)) (x := x) (by show vUn (g1 v x) ≤ 4; rw [g1_un]; exact h)
  refine ⟨e.1, ?_⟩
  rw [e.2]
  exact gmF_le 12
theorem od_un {k i : Nat} {x : Nat → Int32} {v : VS} : vUn (odV k x i v) = vUn v := rfl
theorem od_mo {k i : Nat} {x : Nat → Int32} {v : VS} : vMo (odV k x i v) = vMo v := rfl
theorem fOK_ad {k : Nat} {S : FS} {x : Nat → Int32} (h : fOK k S) : fOK k (adF k S x) := by
  refine ⟨tOK_ad h.1, fun i hi => ?_⟩
  show vUn (if i < k then adV k S.1 x (S.2.2 i) i else S.2.2 i) ≤ 4 ∧ vMo (if i < k then adV k S.1 x (S.2.2 i) i else S.2.2 i) ≤ 12
  rw [if_pos hi]
  unfold adV
  rw [od_un, od_mo]
  by_cases w : S.1 = 0
  · rw [if_pos w]
    exact ⟨by show 1 ≤ 4; omega, Nat.le_refl 12⟩
  · rw [if_neg w]
    exact goV_un (h.2 i hi).1
theorem fOK_cl {k : Nat} {S : FS} (h : fOK k S) : fOK k (0, (0, S.2.1.2), S.2.2) := ⟨⟨Nat.zero_le _, fun r hr => by cases hr⟩, h.2⟩
