/-! ELIMINATION: whether a row is a sum that stays, on both sides -/
theorem pw2 : ∀ n y : Nat, y ∣ 2 ^ n → ∃ j, y = 2 ^ j
  | 0, y, h => ⟨0, Nat.dvd_one.mp h⟩
  | n + 1, y, h => by
    by_cases e : y % 2 = 0
    · obtain ⟨z, hz⟩ : 2 ∣ y := Nat.dvd_of_mod_eq_zero e
      rw [hz, Nat.pow_succ, Nat.mul_comm (2 ^ n)] at h
      obtain ⟨j, hj⟩ := pw2 n z (Nat.dvd_of_mul_dvd_mul_left (by omega) h)
      exact ⟨j + 1, by rw [hz, hj, Nat.pow_succ, Nat.mul_comm]⟩
    · have hco : Nat.Coprime y 2 := by
        have h1 : Nat.gcd y 2 ∣ 2 := Nat.gcd_dvd_right _ _
        have h2 : Nat.gcd y 2 ∣ y := Nat.gcd_dvd_left _ _
        have h3 := Nat.le_of_dvd (by omega) h1
        show Nat.gcd y 2 = 1
        rcases (show Nat.gcd y 2 = 0 ∨ Nat.gcd y 2 = 1 ∨ Nat.gcd y 2 = 2 by omega) with q | q | q
        · rw [q] at h1; omega
        · exact q
        · rw [q] at h2; omega
      rw [Nat.pow_succ, Nat.mul_comm] at h
      exact pw2 n y (hco.dvd_of_dvd_mul_left h)
theorem mul0 {x y : Int64} (hx : bd x.toInt 2916000000) (hy : bd y.toInt 7717680000) : x * y = 0 ↔ x.toInt * y.toInt = 0 := by
  rw [i64_eq0, Int64.toInt_mul]
  constructor
  · intro h
    have hd : (2 ^ 64 : Int) ∣ x.toInt * y.toInt := Int.dvd_of_bmod_eq_zero h
    rw [← Int.natAbs_dvd_natAbs, Int.natAbs_mul] at hd
    have hd' : 2 ^ 64 ∣ x.toInt.natAbs * y.toInt.natAbs := hd
    have hX : x.toInt.natAbs ≤ 2916000000 := by unfold bd at hx; omega
    have hY : y.toInt.natAbs ≤ 7717680000 := by unfold bd at hy; omega
    obtain ⟨q, hq⟩ := hd'
    have hle := Nat.mul_le_mul hX hY
    have hq2 : q = 0 ∨ q = 1 := by omega
    rcases hq2 with w | w
    · rw [w, Nat.mul_zero, ← Int.natAbs_mul] at hq
      omega
    · rw [w, Nat.mul_one] at hq
      obtain ⟨j, hj⟩ := pw2 64 y.toInt.natAbs ⟨x.toInt.natAbs, by rw [Nat.mul_comm]; exact hq.symm⟩
      have hj32 : j ≤ 32 := by
        rcases Nat.lt_or_ge 32 j with w2 | w2
        · have := Nat.pow_le_pow_right (show 2 > 0 by omega) (show 33 ≤ j by omega)
          omega
        · exact w2
      have h1 := Nat.pow_le_pow_right (show 2 > 0 by omega) hj32
      rw [← hj] at h1
      have h2 := Nat.mul_le_mul hX h1
      omega
  · intro h
    rw [h]
    rfl
theorem dt_bd {w x : Nat → Int} {X Y : Int} : ∀ c, (∀ f, f < c → bd (w f) X ∧ bd (x f) Y) → bd (dt w x c) (c * (X * Y))
  | 0, _ => by unfold dt bd; simp
  | c + 1, h => by
    unfold dt
    have h1 := dt_bd c (fun f hf => h f (by omega))
    have h2 := bd_mul (h c (by omega)).1 (h c (by omega)).2
    have e : ((c + 1 : Nat) : Int) * (X * Y) = (c : Int) * (X * Y) + X * Y := by
      rw [Int.natCast_add, Int.add_mul]
      simp
    rw [e]
    exact bd_add h1 h2
theorem ztF_ok {row g : Nat → Int64} {n : Nat} (hn : n ≤ 5) (hr : ∀ c, c < n → bd (row c).toInt 7717680000) (hg : ∀ c, c < n → bd (g c).toInt 19440000) : ∀ m c (z : Int64), c + m = n → z.toInt = dt (iV row) (iV g) c → (ztF row g m c z).toInt = dt (iV row) (iV g) n
  | 0, c, z, hc, hz => by
    have : c = n := by omega
    subst this
    exact hz
  | m + 1, c, z, hc, hz => by
    show (ztF row g m (c + 1) (z + row c * g c)).toInt = _
    refine ztF_ok hn hr hg m (c + 1) _ (by omega) ?_
    have b1 := bd_mul (hr c (by omega)) (hg c (by omega))
    have b2 := dt_bd (w := iV row) (x := iV g) c (fun f hf => ⟨hr f (by omega), hg f (by omega)⟩)
    unfold bd at b1 b2
    have e1 : (row c * g c).toInt = (row c).toInt * (g c).toInt := i64_mul (by omega) (by omega)
    rw [i64_add (by rw [hz, e1]; omega) (by rw [hz, e1]; omega), hz, e1]
    rfl
theorem suF_ok {row t : Nat → Int64} {fs : List Nat} {r n : Nat} {y : Nat → Int} {z0 : Int} (hn : n ≤ 5) (hr : ∀ c, c < n → bd (row c).toInt 7717680000) (hg : ∀ c, c < n → bd (tI t r c) 19440000) (hy : ∀ c, c < n → y c = if frF fs c = true then tI t r c else 0) (h0 : bd z0 200000000000000000) : ∀ m c (z : Int64), c + m = n → z.toInt = z0 + dt (iV row) y c → (suF row t fs r m c z).toInt = z0 + dt (iV row) y n
  | 0, c, z, hc, hz => by
    have : c = n := by omega
    subst this
    exact hz
  | m + 1, c, z, hc, hz => by
    show (suF row t fs r m (c + 1) (z + if frF fs c = true then row c * t (5 * r + c) else 0)).toInt = _
    refine suF_ok hn hr hg hy h0 m (c + 1) _ (by omega) ?_
    have hyb : ∀ f, f < n → bd (y f) 19440000 := fun f hf => by
      rw [hy f hf]
      split
      · exact hg f hf
      · exact ⟨by decide, by decide⟩
    have b2 := dt_bd (w := iV row) (x := y) c (fun f hf => ⟨hr f (by omega), hyb f (by omega)⟩)
    unfold bd at b2 h0
    show _ = z0 + (dt (iV row) y c + (row c).toInt * y c)
    rw [hy c (by omega)]
    by_cases e : frF fs c = true
    · rw [if_pos e, if_pos e]
      have b1 := bd_mul (hr c (by omega)) (hg c (by omega))
      unfold bd at b1
      have e1 : (row c * t (5 * r + c)).toInt = (row c).toInt * tI t r c := i64_mul (by unfold tI at b1; omega) (by unfold tI at b1; omega)
      rw [i64_add (by rw [hz, e1]; omega) (by rw [hz, e1]; omega), hz, e1]
      omega
    · rw [if_neg e, if_neg e, Int.mul_zero, Int.add_zero, ← hz]
      have := i64_add (x := z) (y := 0) (by rw [show (0 : Int64).toInt = 0 from rfl]; omega) (by rw [show (0 : Int64).toInt = 0 from rfl]; omega)
      rw [this, show (0 : Int64).toInt = 0 from rfl, Int.add_zero]
theorem all_iff {k : Nat} {P : Nat → Bool} : (List.range' 0 k).all P = true ↔ ∀ r, r < k → P r = true := by
  rw [List.all_eq_true]
  constructor
  · intro h r hr
    exact h r (List.mem_range'_1.mpr ⟨by omega, by omega⟩)
  · intro h r hr
    exact h r (by have := List.mem_range'_1.mp hr; omega)
theorem isT_spB {n K c : Nat} {T : TS} {s : brT} {NS : (Nat → Int) → Prop} {row : Nat → Int64} (h : TwT (n + 1) T s NS) (hKc : K = 0 ↔ c = 0) (hr : ∀ c, c < n + 1 → bd (row c).toInt 7717680000) : isT row (n + 1) K s = spB n c T row := by
  unfold isT spB
  by_cases w : K = 0
  · rw [if_pos w, if_pos (hKc.mp w)]
  · rw [if_neg w, if_neg (fun q => w (hKc.mpr q))]
    obtain ⟨⟨N, t, c1, c2, c3, c4, c5⟩, h2, h3, h4, h5⟩ := h
    have hn := h2.2.1
    -- the class
    have hC : ((List.range' 0 T.1).all (fun r => decide (ztF row (T.2.2.1 r) (n + 1) 0 0 = 0)) = true) ↔ NS (iV row) := by
      rw [all_iff, ← c4]
      unfold nsp
      refine forall_congr' (fun r => forall_congr' (fun hr' => ?_))
      obtain ⟨g1, g2, b, hb, hbe⟩ := c5 r hr'
      have hz := ztF_ok (g := T.2.2.1 r) hn hr (fun c hc => (row_bd c1 hr' g1 ⟨b, hb, hbe⟩ c hc).1) (n + 1) 0 0 (by omega) rfl
      have hd := dt_lin (w := iV row) (x := iV (T.2.2.1 r)) (y := fun _ => 0) (z := t r) (a := b) (b := 0) (c := 1) (n + 1) (fun f hf => by rw [← hbe f hf]; simp)
      rw [Int.one_mul, Int.zero_mul, Int.sub_zero] at hd
      rw [decide_eq_true_eq, i64_eq0, hz, hd]
      constructor
      · intro q; rw [q, Int.mul_zero]
      · intro q; exact (Int.mul_eq_zero.mp q).resolve_left hb
    have hR : ((List.range' 0 s.2.1.length).all (fun r => decide (suF row s.1 s.2.1 r (n + 1) 0 (s.2.2 * row (s.2.1.getD r 0)) = 0)) = true) ↔ NS (iV row) := by
      rw [all_iff, ← h5]
      unfold nsp
      refine forall_congr' (fun r => forall_congr' (fun hr' => ?_))
      rw [decide_eq_true_eq]
      have hcn := h2.2.2.2.1 r hr'
      obtain ⟨y, hy⟩ : ∃ y : Nat → Int, ∀ c, y c = if frF s.2.1 c = true then tI s.1 r c else 0 := ⟨_, fun c => rfl⟩
      have hpv := dt_piv (w := iV row) h2 hr' (y := y) (fun f hf => by
        rw [hy f]
        by_cases e : f = csL s.2.1 r
        · rw [if_pos e, if_neg (fun q => frF_fre.mp q r hr' e.symm)]
        · rw [if_neg e]
          by_cases e2 : frF s.2.1 f = true
          · rw [if_pos e2]
          · rw [if_neg e2]
            obtain ⟨i, hi, hif⟩ := not_fre (fun q => e2 (frF_fre.mpr q))
            rw [← hif, h2.2.2.2.2.1 i r hi hr', if_neg (fun q => e (by rw [← hif, q]))])
      rw [hpv]
      have hNb := h2.2.2.2.2.2.1
      by_cases w4 : s.2.1.length ≤ 4
      · have hD4 : Dk s.2.1.length ≤ 19440000 := by
          rcases (show s.2.1.length = 0 ∨ s.2.1.length = 1 ∨ s.2.1.length = 2 ∨ s.2.1.length = 3 ∨ s.2.1.length = 4 by omega) with w | w | w | w | w <;> rw [w] <;> decide
        have b0 := bd_mul (bd_mo hNb hD4) (hr _ hcn)
        have e0 : (s.2.2 * row (s.2.1.getD r 0)).toInt = s.2.2.toInt * (row (csL s.2.1 r)).toInt := by
          unfold bd at b0
          exact i64_mul (by unfold csL at b0; omega) (by unfold csL at b0; omega)
        have hs := suF_ok (row := row) (t := s.1) (fs := s.2.1) (r := r) (y := y) (z0 := s.2.2.toInt * (row (csL s.2.1 r)).toInt) hn hr (fun c hc => bd_mo (h2.2.2.2.2.2.2.1 r c hr' hc) hD4) (fun c _ => hy c) (bd_mo b0 (by decide)) (n + 1) 0 _ (by omega) (by rw [e0]; unfold dt; omega)
        rw [i64_eq0, hs]
        show _ ↔ (row (csL s.2.1 r)).toInt * s.2.2.toInt + _ = 0
        rw [Int.mul_comm]
      · have k5 : s.2.1.length = n + 1 := by have := h2.1; omega
        have hnf : ∀ c, c < n + 1 → ¬ frF s.2.1 c = true := by
          intro c hc q
          obtain ⟨i, hi, hif⟩ := full (cs := csL s.2.1) hn (fun j hj => h2.2.2.2.1 j (by omega)) (fun i j hi hj e => AB_inj h2 (by omega) (by omega) e) c hc
          exact frF_fre.mp q i (by omega) hif
        have hsu : ∀ m c (z : Int64), c + m = n + 1 → suF row s.1 s.2.1 r m c z = z := by
          intro m
          induction m with
          | zero => intro c z _; rfl
          | succ m ih =>
            intro c z hc
            show suF row s.1 s.2.1 r m (c + 1) (z + if frF s.2.1 c = true then _ else 0) = z
            rw [if_neg (hnf c (by omega)), ih (c + 1) _ (by omega)]
            exact Int64.add_zero z
        rw [hsu (n + 1) 0 _ (by omega), dt_zero (w := iV row) (x := y) (n + 1) (fun f hf => by rw [hy f, if_neg (hnf f hf), Int.mul_zero]), Int.add_zero]
        have hD5 : Dk s.2.1.length ≤ 2916000000 := by unfold Dk; split <;> decide
        show s.2.2 * row (csL s.2.1 r) = 0 ↔ (row (csL s.2.1 r)).toInt * s.2.2.toInt = 0
        rw [mul0 (bd_mo hNb hD5) (hr _ hcn), Int.mul_comm]
    exact Bool.eq_iff_iff.mpr (hR.trans hC.symm)
