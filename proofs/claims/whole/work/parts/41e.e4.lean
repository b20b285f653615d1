/-! ELIMINATION: the class's table, a reading more -/
theorem AB_perm {n k : Nat} {N : Int} {cs : Nat → Nat} {t : Nat → Nat → Int} (h : AB n k N cs t) {σ : Nat → Nat} (hs : ∀ i, i < k → σ i < k) (hi : ∀ i j, i < k → j < k → σ i = σ j → i = j) : AB n k N (fun i => cs (σ i)) (fun i => t (σ i)) := by
  obtain ⟨a1, a2, a3, a4, a5, a6, a7, a8⟩ := h
  refine ⟨a1, a2, a3, fun j hj => a4 _ (hs j hj), fun i j h1 h2 => ?_, a6, fun j f hj hf => a7 _ f (hs j hj) hf, fun h3 l j c f hl hj hc hf => a8 h3 _ _ c f (hs l hl) (hs j hj) hc hf⟩
  show t (σ j) (cs (σ i)) = _
  rw [a5 _ _ (hs i h1) (hs j h2)]
  by_cases e : j = i
  · rw [if_pos e, if_pos (by rw [e])]
  · rw [if_neg e, if_neg (fun q => e (hi j i h2 h1 q))]
theorem ldF_ok {f : Nat → Int64} : ∀ m c, (∀ i, c ≤ i → i < ldF f m c → f i = 0) ∧ (ldF f m c < c + m → ¬ f (ldF f m c) = 0)
  | 0, c => ⟨fun i h1 h2 => by simp [ldF] at h2; omega, fun h => by simp [ldF] at h⟩
  | m + 1, c => by
    unfold ldF
    by_cases e : f c = 0
    · rw [if_pos e]
      obtain ⟨i1, i2⟩ := ldF_ok (f := f) m (c + 1)
      refine ⟨fun i h1 h2 => ?_, fun h => i2 (by omega)⟩
      by_cases q : i = c
      · rw [q]; exact e
      · exact i1 i (by omega) h2
    · rw [if_neg e]
      exact ⟨fun i h1 h2 => by omega, fun _ => e⟩
def mX (n : Nat) (x : Nat → Int32) (c : Nat) : Int := if c < n - 1 then (x c).toInt else 1
theorem gcV_cg {F G : Nat → Int} : ∀ n, (∀ c, c < n → F c = G c) → gcV F n = gcV G n
  | 0, _ => rfl
  | n + 1, h => by
    unfold gcV
    rw [gcV_cg n (fun c hc => h c (by omega)), h n (by omega)]
theorem frs_ok {n : Nat} {x : Nat → Int32} {f : Nat → Int64} (h1 : 1 ≤ n) : (∀ c, c < n → iV (frs n x f) c = mX n x c) ∧ gcV (iV (frs n x f)) n = 1 := by
  have h : ∀ c, c < n → iV (frs n x f) c = mX n x c := by
    intro c hc
    show (frs n x f c).toInt = _
    unfold frs mX
    by_cases e : c < n - 1
    · rw [if_pos e, if_pos e]
      exact Int32.toInt_toInt64 _
    · rw [if_neg e, if_neg e, if_pos (by omega)]
      rfl
  refine ⟨h, ?_⟩
  have := gcV_dvd (w := iV (frs n x f)) n (n - 1) (by omega)
  rw [h (n - 1) (by omega)] at this
  unfold mX at this
  rw [if_neg (by omega)] at this
  exact Nat.dvd_one.mp this
theorem al6 {N t2 Ep tj tjp E b a R Rp F Fp : Int} (h : N * t2 = Ep * tj - tjp * E) (h1 : b * R = tj) (h2 : b * Rp = tjp) (h3 : a * F = E) (h4 : a * Fp = Ep) : (a * b) * (R * Fp - F * Rp) = N * t2 := by
  have : (a * b) * (R * Fp - F * Rp) = (a * Fp) * (b * R) - (b * Rp) * (a * F) := by grind
  rw [this, h1, h2, h3, h4, h]
theorem CT_add {n : Nat} {T : TS} {NS : (Nat → Int) → Prop} (hn1 : 1 ≤ n) (hn : n ≤ 5) (h : CT n T NS) {x : Nat → Int32} (hx : ∀ c, c < n - 1 → bd (x c).toInt 30) : CT n (adT n T x) (fun w => NS w ∧ dt w (mX n x) n = 0) := by
  obtain ⟨k, cs, R, F0, B⟩ := T
  obtain ⟨N, t, hAB, hsh, hso, hns, hro⟩ := h
  dsimp only at hAB hsh hso hns hro
  have hm : ∀ f, f < n → bd (mX n x f) 30 := by
    intro f hf
    unfold mX
    by_cases e : f < n - 1
    · rw [if_pos e]; exact hx f e
    · rw [if_neg e]; exact ⟨by decide, by decide⟩
  generalize hmm : mX n x = m at hm ⊢
  obtain ⟨f1, f2⟩ := frs_ok (x := x) (f := F0) hn1
  rw [hmm] at f1
  have hcl := clF_ok (m := m) hAB hm (fun r hr => ⟨(hro r hr).1, (hro r hr).2.2⟩) k 0 (frs n x F0) (by omega) (Or.inl f2) ⟨N, hAB.2.2.1, fun c hc => by rw [f1 c hc]; unfold sE sU; omega⟩
  unfold adT adA
  dsimp only
  generalize clF n cs R k 0 (frs n x F0) = F at hcl ⊢
  obtain ⟨c1, c2⟩ := hcl
  have hl1 := ldF_ok (f := F) n 0
  have hl2 := ldF_le (f := F) n 0
  generalize ldF F n 0 = p at hl1 hl2 ⊢
  obtain ⟨l1, l2⟩ := hl1
  obtain ⟨a, ha, hFE⟩ := c2
  by_cases hcond : p < n ∧ k < n
  · rw [if_pos hcond]
    obtain ⟨hpn, hkn⟩ := hcond
    have hFp : ¬ F p = 0 := l2 (by omega)
    have hEp : sE k N cs t m p ≠ 0 := by
      rw [← hFE p hpn]
      exact Int.mul_ne_zero ha (fun q => hFp (i64_eq0.mpr q))
    have hElt : ∀ f, f < p → sE k N cs t m f = 0 := fun f hf => by
      rw [← hFE f (by omega), show iV F f = 0 from i64_eq0.mp (l1 f (by omega) hf), Int.mul_zero]
    have hEpiv : ∀ i, i < k → sE k N cs t m (cs i) = 0 := fun i hi => sE_piv hAB hi
    have hcsp : ∀ i, i < k → cs i ≠ p := fun i hi q => hEp (by rw [← q]; exact hEpiv i hi)
    obtain ⟨t', ht⟩ := AB_div hAB hm hkn hpn hEp
    obtain ⟨d1, d2, d3, d4⟩ := Dk_sq (show k ≤ 4 by omega)
    have hFb : ∀ c, c < n → bd (F c).toInt (Dk (k + 1)) := fun c hc => prl_bd (F := iV F) ⟨a, ha, hFE⟩ hc (sE_bd hAB hm hc (by omega))
    have D5 : Dk (k + 1) ≤ 2916000000 := by
      rcases (show k = 0 ∨ k = 1 ∨ k = 2 ∨ k = 3 ∨ k = 4 by omega) with rfl | rfl | rfl | rfl | rfl <;> decide
    -- the row that goes in
    obtain ⟨Fn, hFn⟩ : ∃ Fn : Nat → Int64, ∀ c, (if F p < 0 then -F c else F c) = Fn c := ⟨_, fun c => rfl⟩
    have hg1 : gcV (iV F) n = 1 := by
      rcases c1 with q | q
      · exact q
      · exact absurd (q p hpn) (fun e => hFp (i64_eq0.mpr e))
    have hFn1 : ∃ e : Int, (e = 1 ∨ e = -1) ∧ (∀ c, c < n → e * (Fn c).toInt = (F c).toInt) ∧ 0 < (Fn p).toInt := by
      by_cases w : F p < 0
      · refine ⟨-1, Or.inr rfl, fun c hc => ?_, ?_⟩
        · rw [← hFn c, if_pos w, i64_neg (by have := hFb c hc; unfold bd at this; omega)]
          omega
        · rw [← hFn p, if_pos w, i64_neg (by have := hFb p hpn; unfold bd at this; omega)]
          have := Int64.lt_iff_toInt_lt.mp w
          rw [show (0 : Int64).toInt = 0 from rfl] at this
          omega
      · refine ⟨1, Or.inl rfl, fun c hc => ?_, ?_⟩
        · rw [← hFn c, if_neg w]
          omega
        · rw [← hFn p, if_neg w]
          have h1 : ¬ (F p).toInt < (0 : Int64).toInt := fun q => w (Int64.lt_iff_toInt_lt.mpr q)
          have h2 : (F p).toInt ≠ 0 := fun q => hFp (i64_eq0.mpr q)
          rw [show (0 : Int64).toInt = 0 from rfl] at h1
          omega
    obtain ⟨e, he, hFe, hFnp⟩ := hFn1
    have he0 : e ≠ 0 := by omega
    have hFnE : ∀ c, c < n → (a * e) * (Fn c).toInt = sE k N cs t m c := fun c hc => by
      rw [Int.mul_assoc, hFe c hc]; exact hFE c hc
    have hae : a * e ≠ 0 := Int.mul_ne_zero ha he0
    have hgn : gcV (iV Fn) n = 1 := by
      have := gcV_mul (w := iV F) (v := iV Fn) (a := 1) n (fun c hc => by
        show (F c).toInt.natAbs = 1 * (Fn c).toInt.natAbs
        rw [← hFe c hc, Int.natAbs_mul]
        rcases he with q | q <;> subst q <;> rfl)
      omega
    have hFnb : ∀ c, c < n → bd (Fn c).toInt (Dk (k + 1)) := fun c hc => prl_bd (F := iV Fn) ⟨a * e, hae, hFnE⟩ hc (sE_bd hAB hm hc (by omega))
    -- the rows over the integers
    obtain ⟨t2, h2a, h2b⟩ : ∃ t2 : Nat → Nat → Int, (∀ j f, j < k → f < n → t2 j f = t' j f) ∧ ∀ f, f < n → t2 k f = sE k N cs t m f :=
      ⟨fun j f => if j = k then sE k N cs t m f else t' j f, fun j f hj _ => if_neg (by omega), fun f _ => if_pos rfl⟩
    have hA2 := AB_step hAB hm hkn hpn hEp ht h2a h2b
    have h2N : ∀ j f, j < k → f < n → N * t2 j f = sE k N cs t m p * t j f - t j p * sE k N cs t m f := fun j f hj hf => by rw [h2a j f hj hf]; exact (ht j f hj hf).1
    have hns2 := fun w => nsp_step (w := w) hAB.2.2.1 hEp h2N h2b
    -- places
    have hle := isS_le (n := n) (l := p) k cs R
    obtain ⟨s1, s2, s3, s4, s5⟩ := isS_ok (n := n) (l := p) k cs R
    unfold adB inS
    dsimp only
    generalize isS n p k cs R = S at *
    have hlow : ∀ r, r < S.1 → cs r < p := by
      intro r hr
      have h1 := s2 (S.1 - 1) (by omega)
      have h2 : cs r ≤ cs (S.1 - 1) := by
        by_cases q : r = S.1 - 1
        · rw [q]; exact Nat.le_refl _
        · have := hso r (S.1 - 1) (by omega) (by omega); omega
      have := hcsp r (by omega)
      omega
    have hhigh : ∀ r, S.1 ≤ r → r < k → p < cs r := s1
    obtain ⟨σ, hσ1, hσ2, hσ3⟩ : ∃ σ : Nat → Nat, (∀ r, r < S.1 → σ r = r) ∧ σ S.1 = k ∧ ∀ r, S.1 < r → σ r = r - 1 := ⟨fun r => if r < S.1 then r else if r = S.1 then k else r - 1, fun r hr => if_pos hr, by simp, fun r hr => by simp only [show ¬ r < S.1 by omega, show ¬ r = S.1 by omega, if_false]⟩
    have hσk : ∀ r, r < k + 1 → σ r < k + 1 := by
      intro r hr
      rcases Nat.lt_trichotomy r S.1 with q | q | q
      · rw [hσ1 r q]; omega
      · rw [q, hσ2]; omega
      · rw [hσ3 r q]; omega
    have hσj : ∀ r, r < k + 1 → r ≠ S.1 → σ r < k := by
      intro r hr hne
      rcases Nat.lt_trichotomy r S.1 with q | q | q
      · rw [hσ1 r q]; omega
      · exact absurd q hne
      · rw [hσ3 r q]; omega
    have hσi : ∀ i j, i < k + 1 → j < k + 1 → σ i = σ j → i = j := by
      intro i j hi hj
      rcases Nat.lt_trichotomy i S.1 with q | q | q <;> rcases Nat.lt_trichotomy j S.1 with q' | q' | q'
      all_goals first | rw [hσ1 i q] | rw [q, hσ2] | rw [hσ3 i q]
      all_goals first | rw [hσ1 j q'] | rw [q', hσ2] | rw [hσ3 j q']
      all_goals intro; omega
    have hσs : ∀ j, j < k + 1 → ∃ i, i < k + 1 ∧ σ i = j := by
      intro j hj
      by_cases q : j = k
      · exact ⟨S.1, by omega, by rw [hσ2, q]⟩
      · by_cases q2 : j < S.1
        · exact ⟨j, by omega, hσ1 j q2⟩
        · exact ⟨j + 1, by omega, by rw [hσ3 (j + 1) (by omega)]; omega⟩
    have hL : ∀ r, r < k + 1 → (if r = S.1 then p else S.2.1 r) = upC cs k p (σ r) := by
      intro r hr
      rcases Nat.lt_trichotomy r S.1 with q | q | q
      · rw [if_neg (by omega), hσ1 r q, (s3 r (by omega) (by omega)).1]
        exact (if_neg (by omega)).symm
      · rw [if_pos q, q, hσ2]
        exact (if_pos rfl).symm
      · rw [if_neg (by omega), hσ3 r q]
        have := (s4 (r - 1) (by omega) (by omega)).1
        rw [show r - 1 + 1 = r by omega] at this
        rw [this]
        exact (if_neg (by omega)).symm
    have hRr : ∀ r, r < k + 1 → r ≠ S.1 → ∀ c, c < n → S.2.2 r c = R (σ r) c := by
      intro r hr hne c hc
      rcases Nat.lt_trichotomy r S.1 with q | q | q
      · rw [hσ1 r q, (s3 r (by omega) (by omega)).2]
      · exact absurd q hne
      · have := (s4 (r - 1) (by omega) (by omega)).2 c hc
        rw [show r - 1 + 1 = r by omega] at this
        rw [this, hσ3 r q]
    refine ⟨sE k N cs t m p, fun i => t2 (σ i), AB_cg (AB_perm hA2 hσk hσi) (fun j hj => hL j hj) (fun _ _ _ _ => rfl), fun r f hr hf => ?_, fun i j hij hj => ?_, fun w => ?_, fun r hr => ?_⟩
    · dsimp only at hr hf ⊢
      by_cases q : r = S.1
      · rw [if_pos q] at hf
        rw [q, hσ2, h2b f (by omega)]
        exact hElt f hf
      · have hj := hσj r hr q
        rw [hL r hr, show upC cs k p (σ r) = cs (σ r) from if_neg (by omega)] at hf
        have hcn := hAB.2.2.2.1 _ hj
        have := h2N (σ r) f hj (by omega)
        rw [hsh _ f hj hf, Int.mul_zero] at this
        have hz : t (σ r) p * sE k N cs t m f = 0 := by
          by_cases w : p < cs (σ r)
          · rw [hsh _ p hj w, Int.zero_mul]
          · rw [hElt f (by omega), Int.mul_zero]
        rw [hz] at this
        exact (Int.mul_eq_zero.mp this).resolve_left hAB.2.2.1
    · dsimp only at hj ⊢
      by_cases qi : i = S.1
      · rw [if_pos qi, if_neg (by omega)]
        have := (s4 (j - 1) (by omega) (by omega)).1
        rw [show j - 1 + 1 = j by omega] at this
        rw [this]
        exact hhigh (j - 1) (by omega) (by omega)
      · rw [if_neg qi]
        by_cases qj : j = S.1
        · rw [if_pos qj, (s3 i (by omega) (by omega)).1]
          exact hlow i (by omega)
        · rw [if_neg qj]
          have e1 := hL i (by omega)
          have e2 := hL j hj
          have hji := hσj i (by omega) qi
          have hjj := hσj j hj qj
          rw [if_neg qi, show upC cs k p (σ i) = cs (σ i) from if_neg (by omega)] at e1
          rw [if_neg qj, show upC cs k p (σ j) = cs (σ j) from if_neg (by omega)] at e2
          rw [e1, e2]
          refine hso _ _ ?_ hjj
          rcases Nat.lt_or_gt_of_ne qi with q | q <;> rcases Nat.lt_or_gt_of_ne qj with q' | q'
          · rw [hσ1 i q, hσ1 j q']; exact hij
          · rw [hσ1 i q, hσ3 j q']; omega
          · omega
          · rw [hσ3 i q, hσ3 j q']; omega
    · show nsp n (k + 1) (fun i => t2 (σ i)) w ↔ NS w ∧ dt w m n = 0
      rw [← hns w, ← hns2 w]
      constructor
      · intro h j hj
        obtain ⟨i, hi, hi2⟩ := hσs j hj
        have := h i hi
        rw [← hi2]
        exact this
      · intro h i hi
        exact h (σ i) (hσk i hi)
    · dsimp only at hr ⊢
      rw [clO_at, upR_at]
      have hRat : ∀ c, c < n → (fun c => if c < n then (if F p < 0 then -F c else F c) else S.2.2 S.1 c) c = Fn c := fun c hc => by
        dsimp only
        rw [if_pos hc]; exact hFn c
      generalize hW : (fun c => if c < n then (if F p < 0 then -F c else F c) else S.2.2 S.1 c) = W at hRat
      by_cases q : r = S.1
      · rw [if_neg (by omega), q, upR_at, if_pos rfl, hσ2]
        refine ⟨?_, ?_, a * e, hae, fun c hc => ?_⟩
        · rw [gcV_cg (G := iV Fn) n (fun c hc => by show (W c).toInt = _; rw [hRat c hc])]
          exact hgn
        · rw [hRat p hpn]; exact hFnp
        · show (a * e) * (W c).toInt = _
          rw [hRat c hc, h2b c hc]
          exact hFnE c hc
      · rw [if_pos ⟨by omega, by omega, q⟩, upR_ne q, if_neg q]
        have hj := hσj r hr q
        have hLr := hL r hr
        rw [if_neg q, show upC cs k p (σ r) = cs (σ r) from if_neg (by omega)] at hLr
        rw [hLr]
        have hcn := hAB.2.2.2.1 _ hj
        have hV := hRr r hr q
        generalize S.2.2 r = V at hV ⊢
        generalize hjj : σ r = j at *
        obtain ⟨g1, g2, b, hb, hbe⟩ := hro j hj
        have hVb : ∀ c, c < n → bd (V c).toInt (Dk k) := fun c hc => by
          rw [hV c hc]
          exact (row_bd hAB hj g1 ⟨b, hb, hbe⟩ c hc).2.1 (by omega)
        have hVg : gcV (iV V) n = 1 := by
          rw [gcV_cg (G := iV (R j)) n (fun c hc => by show (V c).toInt = _; rw [hV c hc])]
          exact g1
        have hVt : ∀ c, c < n → b * (V c).toInt = t j c := fun c hc => by rw [hV c hc]; exact hbe c hc
        have hVp : 0 < (V (cs j)).toInt := by rw [hV _ hcn]; exact g2
        by_cases hz : V p = 0
        · have e1 : clP n V W p = V := by unfold clP; rw [if_pos hz]
          rw [e1]
          refine ⟨hVg, hVp, ?_⟩
          refine prl_div (x := sE k N cs t m p * b) (y := N) (Int.mul_ne_zero hEp hb) hAB.2.2.1 (Or.inl hVg) (fun c hc => ?_)
          have h1 := hVt p hpn
          rw [i64_eq0.mp hz, Int.mul_zero] at h1
          rw [h2N j c hj hc, ← h1, Int.zero_mul, Int.sub_zero, Int.mul_assoc]
          rw [hVt c hc]
        · obtain ⟨p1, g, p2, p3⟩ := clP_ok (R := W) hVb (fun c hc => by rw [hRat c hc]; exact hFnb c hc) d2 hpn hz
          generalize clP n V W p = H at p1 p3 ⊢
          have hpos : 0 < (H (cs j)).toInt := by
            have h1 := p3 _ hcn
            rw [hRat p hpn, hRat _ hcn] at h1
            have h2 := hFnE _ hcn
            rw [hEpiv j hj] at h2
            rw [(Int.mul_eq_zero.mp h2).resolve_left hae, Int.zero_mul, Int.sub_zero] at h1
            have h3 := Int.mul_pos hVp hFnp
            rw [← h1] at h3
            exact Int.pos_of_mul_pos_right h3 (by omega)
          have hg : gcV (iV H) n = 1 := by
            rcases p1 with w | w
            · exact w
            · have := w _ hcn
              have : (H (cs j)).toInt = 0 := this
              omega
          refine ⟨hg, hpos, ?_⟩
          refine prl_div (x := (a * e) * b * g) (y := N) (Int.mul_ne_zero (Int.mul_ne_zero hae hb) (by omega)) hAB.2.2.1 (Or.inl hg) (fun c hc => ?_)
          rw [Int.mul_assoc]
          show (a * e) * b * (g * (H c).toInt) = _
          rw [p3 c hc, hRat p hpn, hRat c hc]
          exact al6 (h2N j c hj hc) (hVt c hc) (hVt p hpn) (hFnE c hc) (hFnE p hpn)
  · rw [if_neg hcond]
    have hE0 : ∀ f, f < n → sE k N cs t m f = 0 := by
      intro f hf
      by_cases w : p < n
      · have hkn : k = n := by have := hAB.1; omega
        obtain ⟨i, hi, hif⟩ := full (cs := cs) hn (fun j hj => hAB.2.2.2.1 j (by omega)) (fun i j hi hj e => AB_inj hAB (by omega) (by omega) e) f hf
        rw [← hif]
        exact sE_piv hAB (by omega)
      · rw [← hFE f hf, show iV F f = 0 from i64_eq0.mp (l1 f (by omega) (by omega)), Int.mul_zero]
    refine ⟨N, t, hAB, hsh, hso, fun w => ?_, hro⟩
    show nsp n k t w ↔ NS w ∧ dt w m n = 0
    rw [← hns w]
    exact nsp_none hAB.2.2.1 hE0
/-- an empty table -/
theorem CT_0 {n : Nat} {T : TS} (hn : n ≤ 5) (h : T.1 = 0) : CT n T (fun _ => True) := by
  obtain ⟨k, cs, R, F0, B⟩ := T
  dsimp only at h
  subst h
  exact ⟨1, fun _ _ => 0, AB_0 hn, fun j f hj => absurd hj (by omega), fun i j _ hj => absurd hj (by omega), fun w => ⟨fun _ => trivial, fun _ j hj => absurd hj (by omega)⟩, fun r hr => absurd hr (by omega)⟩
