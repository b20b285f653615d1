/-! BOTH SIDES: a row of acts, the search -/
section W4
variable {I I' : Nat → Int32} {A A' : Nat → Nat → Int32} {D : DS} {p : Nat}
theorem lc_ld (h : WR I A D I' A') {a : Nat} (ha : a < dNa D) {x : Nat → Int32} {v : Nat} (hv : v < 4) : lcS (dM D a) v x (dK D (dFr D a)) = ldV A' a x v := by
  obtain ⟨⟨a1, a2, a3⟩, hf, ht⟩ := h.ac ha
  have hk := (h.k4 hf).1
  unfold ldV
  rw [← a1, ← (h.pt hf).1]
  have : ∀ u, u ≤ 4 → lcS (dM D a) v x u = ldS A' a v x u := by
    intro u
    induction u with
    | zero => intro _; unfold lcS ldS; exact (a3 v hv 4 (by omega)).1
    | succ u ih =>
      intro hu
      unfold lcS ldS
      rw [ih (by omega), (a3 v hv u (by omega)).1]
  exact this _ hk
theorem wi_in {x : Int32} : wiB x (nI 30) = in30 x := rfl
theorem lcD_ld (h : WR I A D I' A') {a : Nat} (ha : a < dNa D) {xs : List Int32} : lcD D a xs = ldG A' a (gt_ xs) (kA A' (toA A' a)) := by
  obtain ⟨⟨a1, a2, a3⟩, hf, ht⟩ := h.ac ha
  have hk := (h.k4 ht).1
  unfold lcD lcG ldG
  rw [← a2, ← (h.pt ht).1, List.range_eq_range']
  rw [Bool.eq_iff_iff, List.all_eq_true, List.all_eq_true]
  refine forall_congr' (fun v => forall_congr' (fun hv => ?_))
  have := List.mem_range'_1.mp hv
  rw [lc_ld h ha (by omega), wi_in]
theorem lcX_ld (h : WR I A D I' A') {a : Nat} (ha : a < dNa D) {xs : List Int32} : lcX D a xs = stL (ldV A' a (gt_ xs)) (kA A' (toA A' a)) := by
  obtain ⟨⟨a1, a2, a3⟩, hf, ht⟩ := h.ac ha
  have hk := (h.k4 ht).1
  unfold lcX stL
  rw [← a2, ← (h.pt ht).1]
  refine List.map_congr_left (fun v hv => ?_)
  have := List.mem_range.mp hv
  exact lc_ld h ha (by omega)
theorem rc_rn (h : WR I A D I' A') : ∀ m n pt xs, rcF D m n pt xs = rnF A' (dNa D) m n pt xs
  | 0, _, _, _ => rfl
  | m + 1, n, pt, xs => by
    unfold rcF rnF
    by_cases e : dNa D ≤ n % 10
    · rw [if_pos (Or.inl e), if_pos (Or.inl e)]
    · have ha : n % 10 < dNa D := by omega
      obtain ⟨⟨a1, a2, a3⟩, hf, ht⟩ := h.ac ha
      rw [a1, lcD_ld h ha, lcX_ld h ha, a2]
      rw [rc_rn h m]
/-- numbers of a state, within the bounds -/
def VX (D : DS) (pt : Nat) (xs : List Int32) : Prop := pt < dNp D ∧ xs.length = dK D pt ∧ ∀ u, u < dK D pt → rng (gt_ xs u)
theorem stL_get {x : Nat → Int32} {n u : Nat} (h : u < n) : gt_ (stL x n) u = x u := by
  unfold gt_ stL
  rw [List.getD_eq_getElem?_getD, List.getElem?_map, List.getElem?_range h]
  rfl
theorem VX_lc (h : WR I A D I' A') {a : Nat} (ha : a < dNa D) {xs : List Int32} (hl : lcD D a xs = true) : VX D (dTo D a) (lcX D a xs) := by
  obtain ⟨⟨a1, a2, a3⟩, hf, ht⟩ := h.ac ha
  refine ⟨ht, by unfold lcX stL; simp, fun u hu => ?_⟩
  unfold lcX
  rw [stL_get hu]
  unfold lcD lcG at hl
  exact rng_of (List.all_eq_true.mp hl u (List.mem_range'_1.mpr ⟨by omega, by omega⟩))
theorem fnd_cg {l : List Nat} {P Q : Nat → Bool} (h : ∀ c, c ∈ l → P c = Q c) : l.find? P = l.find? Q := by
  induction l with
  | nil => rfl
  | cons c l ih =>
    rw [List.find?_cons, List.find?_cons, h c (by simp), ih (fun c hc => h c (List.mem_cons_of_mem _ hc))]
theorem bk_bk (h : WR I A D I' A') {pt : Nat} {xs : List Int32} (hx : VX D pt xs) : bkC D pt (gt_ xs) = brkF A' (dNp D) pt xs := by
  obtain ⟨hp, hl, hr⟩ := hx
  obtain ⟨w1, w2, w3, w4, w5⟩ := h.pt hp
  obtain ⟨hk, hk1⟩ := h.k4 hp
  have hF := SL_FRr (w5 0 (by omega))
  unfold bkC brkF
  rw [← cls_gl h hp (by omega)]
  refine fnd_cg (fun c hc => ?_)
  unfold cls at hc
  obtain ⟨m1, m2, m3, m4, m5⟩ := lsF_mem hk hc
  unfold okC at m5
  rw [if_pos rfl] at m5
  have m6 := (Bool.and_eq_true_iff.mp m5).2
  unfold tlN at m6
  have m7 := (Bool.and_eq_true_iff.mp m6).1
  dsimp only at m7
  rw [stN_so hF m3 m4 m2] at m7
  obtain ⟨m8, m9⟩ := Bool.and_eq_true_iff.mp m7
  exact bk_br hp h.np6 hF w1.symm hk (by simpa using m8) hr rfl rfl m3 m2 m9
theorem gcK_sr (h : WR I A D I' A') {last : Bool} {f f' : Nat → List Int32 → Nat → Nat × Option sR_} {pt : Nat} {xs : List Int32} (hf0 : last = true → f = gcA D 0) (hf : last = false → ∀ pt xs cnt, VX D pt xs → f pt xs cnt = f' pt xs cnt) : ∀ (ks : List Nat) (cnt : Nat), (∀ k, k ∈ ks → k < dNa D) → gcK D last f pt xs ks cnt = srK A' (dNp D) last f' pt xs ks cnt
  | [], _, _ => rfl
  | a :: ks, cnt, hk => by
    have ih := fun cnt => gcK_sr h (pt := pt) (xs := xs) hf0 hf ks cnt (fun k hk' => hk k (List.mem_cons_of_mem _ hk'))
    have ha := hk a (by simp)
    obtain ⟨⟨a1, a2, a3⟩, hfr, ht⟩ := h.ac ha
    unfold gcK srK
    rw [a1]
    by_cases e1 : ¬ frA A' a = pt
    · rw [if_pos e1, if_pos e1]; exact ih cnt
    · rw [if_neg e1, if_neg e1]
      rw [← lcX_ld h ha, ← lcD_ld h ha, ← a2]
      cases last with
      | true =>
        simp only [if_true]
        by_cases e3 : lcD D a xs = true
        · simp only [e3, if_true]
          rw [hf0 rfl]
          have hb := bk_bk h (VX_lc h ha e3)
          show (match (match bkC D (dTo D a) (gt_ (lcX D a xs)) with
            | some c => (cnt + 1, some ([], dTo D a, lcX D a xs, c))
            | none => (cnt + 1, none)) with
            | (c', some r) => (c', some (a :: r.1, r.2))
            | (c', none) => gcK D true (gcA D 0) pt xs ks c') = _
          rw [hb]
          cases q : brkF A' (dNp D) (dTo D a) (lcX D a xs) with
          | some c => rfl
          | none =>
            have := ih (cnt + 1)
            rw [hf0 rfl] at this
            exact this
        · simp only [e3, if_false]
          exact ih (cnt + 1)
      | false =>
        simp only [Bool.false_eq_true, if_false]
        by_cases e3 : lcD D a xs = true
        · simp only [e3, if_true]
          rw [hf rfl _ _ _ (VX_lc h ha e3)]
          cases q : f' (dTo D a) (lcX D a xs) cnt with
          | mk c' o =>
            cases o with
            | some r => rfl
            | none => exact ih c'
        · simp only [e3, if_false]
          exact ih cnt
theorem gc_sr (h : WR I A D I' A') : ∀ left pt xs cnt, gcA D (left + 1) pt xs cnt = srA A' (dNa D) (dNp D) left pt xs cnt
  | 0, pt, xs, cnt => by
    show gcK D (decide (0 = 0)) (gcA D 0) pt xs (List.range' 0 (dNa D)) cnt = srK A' (dNp D) true (fun _ _ c => (c, none)) pt xs (List.range' 0 (dNa D)) cnt
    rw [decide_eq_true rfl]
    exact gcK_sr h (fun _ => rfl) (fun q => by cases q) _ _ (fun k hk => by have := List.mem_range'_1.mp hk; omega)
  | left + 1, pt, xs, cnt => by
    show gcK D (decide (left + 1 = 0)) (gcA D (left + 1)) pt xs (List.range' 0 (dNa D)) cnt = srK A' (dNp D) false (srA A' (dNa D) (dNp D) left) pt xs (List.range' 0 (dNa D)) cnt
    rw [decide_eq_false (by omega)]
    exact gcK_sr h (fun q => by cases q) (fun _ pt xs cnt _ => gc_sr h left pt xs cnt) _ _ (fun k hk => by have := List.mem_range'_1.mp hk; omega)
theorem gcK_len {last : Bool} {f : Nat → List Int32 → Nat → Nat × Option sR_} {pt : Nat} {xs : List Int32} {n : Nat} (hf : ∀ pt xs cnt c' r, f pt xs cnt = (c', some r) → r.1.length = n) : ∀ (ks : List Nat) cnt c' r, gcK D last f pt xs ks cnt = (c', some r) → r.1.length = n + 1
  | [], _, _, _, h => by simp [gcK] at h
  | a :: ks, cnt, c', r, h => by
    unfold gcK at h
    split at h
    · exact gcK_len hf ks _ _ _ h
    · split at h
      · split at h
        · next c2 r2 hr =>
          cases h
          show (a :: r2.1).length = n + 1
          rw [List.length_cons, hf _ _ _ _ _ hr]
        · exact gcK_len hf ks _ _ _ h
      · exact gcK_len hf ks _ _ _ h
theorem gcA_len : ∀ left pt xs cnt c' r, gcA D left pt xs cnt = (c', some r) → r.1.length = left
  | 0, pt, xs, cnt, c', r, h => by
    unfold gcA at h
    split at h
    · cases h; rfl
    · cases h
  | left + 1, pt, xs, cnt, c', r, h => gcK_len (gcA_len left) _ _ _ _ h
/-- what the search finds, on both sides -/
theorem gcL_sr (h : WR I A D I' A') {pt : Nat} {xs : List Int32} : ∀ m left cnt, (gcL D pt xs m (left + 1) cnt = none ∧ srN A' (dNa D) (dNp D) pt xs m left cnt = none) ∨ ∃ c r, gcL D pt xs m (left + 1) cnt = some (c, r) ∧ srN A' (dNa D) (dNp D) pt xs m left cnt = some (c, r.1.length, r)
  | 0, _, _ => Or.inl ⟨rfl, rfl⟩
  | m + 1, left, cnt => by
    unfold gcL srN
    have e := gc_sr h left pt xs cnt
    have hl := gcA_len (D := D) (left + 1) pt xs cnt
    rw [e] at hl ⊢
    cases q : srA A' (dNa D) (dNp D) left pt xs cnt with
    | mk c' o =>
      cases o with
      | some r =>
        right
        exact ⟨c', r, rfl, by rw [hl c' r q]⟩
      | none => exact gcL_sr h m (left + 1) c'
theorem gcL_srT (h : WR I A D I' A') {pt n : Nat} {xs : List Int32} (hx : VX D pt xs) : (gcL D pt xs (n + 1) 0 0 = none ∧ srT A' (dNa D) (dNp D) n pt xs = none) ∨ ∃ c r, gcL D pt xs (n + 1) 0 0 = some (c, r) ∧ srT A' (dNa D) (dNp D) n pt xs = some (c, r.1.length, r) := by
  have hb := bk_bk h hx
  unfold gcL srT
  show ((match (match bkC D pt (gt_ xs) with
    | some c => (0 + 1, some ([], pt, xs, c))
    | none => (0 + 1, none)) with
    | (c', some r) => some (c', r)
    | (c', none) => gcL D pt xs n (0 + 1) c') = none ∧ _) ∨ ∃ c r, (match (match bkC D pt (gt_ xs) with
    | some c => (0 + 1, some ([], pt, xs, c))
    | none => (0 + 1, none)) with
    | (c', some r) => some (c', r)
    | (c', none) => gcL D pt xs n (0 + 1) c') = some (c, r) ∧ _
  rw [hb]
  cases q : brkF A' (dNp D) pt xs with
  | some c => exact Or.inr ⟨1, ([], pt, xs, c), rfl, rfl⟩
  | none => exact gcL_sr h n 0 1
end W4
