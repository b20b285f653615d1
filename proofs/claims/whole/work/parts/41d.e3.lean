/-! ELIMINATION: the class's rows -/
abbrev iV (f : Nat → Int64) : Nat → Int := fun c => (f c).toInt
theorem gcT_gcV {f : Nat → Int64} {n : Nat} (hb : ∀ c, c < n → -2 ^ 63 < (f c).toInt) : ∀ m c g, c + m = n → g.toInt = (gcV (iV f) c : Int) → (gcT f m c g).toInt = (gcV (iV f) n : Int)
  | 0, c, g, hc, hg => by
    have : c = n := by omega
    subst this
    exact hg
  | m + 1, c, g, hc, hg => by
    show (gcT f m (c + 1) (gcD g (f c))).toInt = _
    refine gcT_gcV hb m (c + 1) _ (by omega) ?_
    rw [gcD_gcd (by omega) (hb c (by omega)), hg]
    show _ = ((Nat.gcd (gcV (iV f) c) (f c).toInt.natAbs : Nat) : Int)
    rw [Int.natAbs_natCast]
/-- primitive, or nothing at all -/
def prm (n : Nat) (F : Nat → Int) : Prop := gcV F n = 1 ∨ ∀ c, c < n → F c = 0
theorem gcV_0 {F : Nat → Int} {n : Nat} (h : gcV F n = 0) : ∀ c, c < n → F c = 0 := by
  intro c hc
  have := gcV_dvd (w := F) n c hc
  rw [h] at this
  have := Nat.eq_zero_of_zero_dvd this
  omega
theorem shT_ok {n : Nat} {f : Nat → Int64} (hb : ∀ c, c < n → -2 ^ 63 < (f c).toInt) : prm n (iV (shT n f)) ∧ ∃ g : Int, 0 < g ∧ ∀ c, c < n → g * (shT n f c).toInt = (f c).toInt := by
  have hg := gcT_gcV hb n 0 0 (by omega) rfl
  unfold shT
  by_cases h1 : 1 < gcT f n 0 0
  · rw [if_pos h1]
    have h1' := Int64.lt_iff_toInt_lt.mp h1
    rw [hg, show (1 : Int64).toInt = 1 from rfl] at h1'
    have hd : ∀ c, c < n → ((gcV (iV f) n : Nat) : Int) * ((fun c => if c < n then f c / gcT f n 0 0 else f c) c).toInt = (f c).toInt := by
      intro c hc
      dsimp only
      rw [if_pos hc, i64_div (hb c hc), hg]
      refine Int.mul_tdiv_cancel' ?_
      exact Int.ofNat_dvd_left.mpr (gcV_dvd (w := iV f) n c hc)
    refine ⟨Or.inl ?_, (gcV (iV f) n : Int), by omega, hd⟩
    have e := gcV_mul (w := iV f) (v := iV (fun c => if c < n then f c / gcT f n 0 0 else f c)) (a := gcV (iV f) n) n (fun c hc => by
      show (f c).toInt.natAbs = _
      rw [← hd c hc, Int.natAbs_mul, Int.natAbs_natCast])
    have h0 : 0 < gcV (iV f) n := by omega
    exact Nat.eq_of_mul_eq_mul_left h0 (by omega)
  · rw [if_neg h1]
    refine ⟨?_, 1, by decide, fun c _ => by omega⟩
    have h1' : ¬ (1 : Int64).toInt < (gcT f n 0 0).toInt := fun q => h1 (Int64.lt_iff_toInt_lt.mpr q)
    rw [hg, show (1 : Int64).toInt = 1 from rfl] at h1'
    rcases (show gcV (iV f) n = 1 ∨ gcV (iV f) n = 0 by omega) with q | q
    · exact Or.inl q
    · exact Or.inr (gcV_0 q)
/-- v is a multiple of F -/
def prl (n : Nat) (F v : Nat → Int) : Prop := ∃ a : Int, a ≠ 0 ∧ ∀ c, c < n → a * F c = v c
theorem prl_bd {n : Nat} {F v : Nat → Int} {D : Int} (h : prl n F v) {c : Nat} (hc : c < n) (hb : bd (v c) D) : bd (F c) D := by
  obtain ⟨a, ha, he⟩ := h
  have e := he c hc
  have : (a * F c).natAbs = (v c).natAbs := by rw [e]
  rw [Int.natAbs_mul] at this
  have h1 : 1 ≤ a.natAbs := by omega
  have h2 : (F c).natAbs ≤ a.natAbs * (F c).natAbs := Nat.le_mul_of_pos_left _ (by omega)
  unfold bd at *
  omega
theorem prl_div {n : Nat} {H E : Nat → Int} {x y : Int} (hx : x ≠ 0) (hy : y ≠ 0) (hp : prm n H) (h : ∀ c, c < n → x * H c = y * E c) : prl n H E := by
  rcases hp with hp | hp
  · have hd : y ∣ x := by
      have h1 : y.natAbs ∣ gcV (fun c => x * H c) n := dvd_gcV n (fun c hc => by
        rw [h c hc, Int.natAbs_mul]
        exact Nat.dvd_mul_right _ _)
      rw [gcV_mul (a := x.natAbs) (v := H) n (fun c _ => Int.natAbs_mul _ _), hp, Nat.mul_one] at h1
      exact Int.natAbs_dvd_natAbs.mp h1
    obtain ⟨a, ha⟩ := hd
    refine ⟨a, fun q => hx (by rw [ha, q, Int.mul_zero]), fun c hc => ?_⟩
    have := h c hc
    rw [ha, Int.mul_assoc] at this
    exact Int.eq_of_mul_eq_mul_left hy this
  · refine ⟨1, by decide, fun c hc => ?_⟩
    have := h c hc
    rw [hp c hc, Int.mul_zero] at this
    rw [hp c hc, Int.mul_zero]
    exact ((Int.mul_eq_zero.mp this.symm).resolve_left hy).symm
theorem clP_ok {n p : Nat} {F R : Nat → Int64} {x y : Int} (hF : ∀ c, c < n → bd (F c).toInt x) (hR : ∀ c, c < n → bd (R c).toInt y) (hxy : x * y + x * y ≤ 9000000000000000000) (hpn : p < n) (hnz : ¬ F p = 0) : prm n (iV (clP n F R p)) ∧ ∃ g : Int, 0 < g ∧ ∀ c, c < n → g * (clP n F R p c).toInt = (F c).toInt * (R p).toInt - (R c).toInt * (F p).toInt := by
  unfold clP
  rw [if_neg hnz]
  have hG : ∀ c, c < n → ((fun c => if c < n then F c * R p - R c * F p else F c) c).toInt = (F c).toInt * (R p).toInt - (R c).toInt * (F p).toInt := by
    intro c hc
    dsimp only
    rw [if_pos hc]
    have b1 := bd_mul (hF c hc) (hR p hpn)
    have b2 := bd_mul (hF p hpn) (hR c hc)
    rw [Int.mul_comm (F p).toInt] at b2
    unfold bd at b1 b2
    have e1 : (F c * R p).toInt = (F c).toInt * (R p).toInt := i64_mul (by omega) (by omega)
    have e2 : (R c * F p).toInt = (R c).toInt * (F p).toInt := i64_mul (by omega) (by omega)
    rw [← e1, ← e2]
    exact i64_sub (by rw [e1, e2]; omega) (by rw [e1, e2]; omega)
  have hGb : ∀ c, c < n → -2 ^ 63 < ((fun c => if c < n then F c * R p - R c * F p else F c) c).toInt := by
    intro c hc
    rw [hG c hc]
    have b1 := bd_mul (hF c hc) (hR p hpn)
    have b2 := bd_mul (hF p hpn) (hR c hc)
    rw [Int.mul_comm (F p).toInt] at b2
    unfold bd at b1 b2
    omega
  obtain ⟨h1, g, h2, h3⟩ := shT_ok hGb
  exact ⟨h1, g, h2, fun c hc => by rw [h3 c hc]; exact hG c hc⟩
/-- a table of the class -/
def CT (n : Nat) (T : TS) (NS : (Nat → Int) → Prop) : Prop := ∃ (N : Int) (t : Nat → Nat → Int), AB n T.1 N T.2.1 t ∧ shp n T.1 T.2.1 t ∧ (∀ i j, i < j → j < T.1 → T.2.1 i < T.2.1 j) ∧ (∀ w, nsp n T.1 t w ↔ NS w) ∧ ∀ r, r < T.1 → gcV (iV (T.2.2.1 r)) n = 1 ∧ 0 < (T.2.2.1 r (T.2.1 r)).toInt ∧ prl n (iV (T.2.2.1 r)) (t r)
/-- when each place is a pivot's -/
theorem full {n : Nat} {cs : Nat → Nat} (hn : n ≤ 5) (hlt : ∀ j, j < n → cs j < n) (hinj : ∀ i j, i < n → j < n → cs i = cs j → i = j) : ∀ f, f < n → ∃ i, i < n ∧ cs i = f := by
  intro f hf
  rcases Classical.em (∃ i, i < n ∧ cs i = f) with q | q
  · exact q
  · exfalso
    have hne : ∀ i, i < n → cs i ≠ f := fun i hi e => q ⟨i, hi, e⟩
    have hd : ∀ i j, i < n → j < n → i ≠ j → cs i ≠ cs j := fun i j hi hj h e => h (hinj i j hi hj e)
    rcases (show n = 0 ∨ n = 1 ∨ n = 2 ∨ n = 3 ∨ n = 4 ∨ n = 5 by omega) with rfl | rfl | rfl | rfl | rfl | rfl
    · omega
    · have := hlt 0 (by omega); have := hne 0 (by omega); omega
    · have := hlt 0 (by omega); have := hlt 1 (by omega); have := hne 0 (by omega); have := hne 1 (by omega); have := hd 0 1 (by omega) (by omega) (by omega); omega
    · have := hlt 0 (by omega); have := hlt 1 (by omega); have := hlt 2 (by omega); have := hne 0 (by omega); have := hne 1 (by omega); have := hne 2 (by omega); have := hd 0 1 (by omega) (by omega) (by omega); have := hd 0 2 (by omega) (by omega) (by omega); have := hd 1 2 (by omega) (by omega) (by omega); omega
    · have := hlt 0 (by omega); have := hlt 1 (by omega); have := hlt 2 (by omega); have := hlt 3 (by omega); have := hne 0 (by omega); have := hne 1 (by omega); have := hne 2 (by omega); have := hne 3 (by omega); have := hd 0 1 (by omega) (by omega) (by omega); have := hd 0 2 (by omega) (by omega) (by omega); have := hd 1 2 (by omega) (by omega) (by omega); have := hd 0 3 (by omega) (by omega) (by omega); have := hd 1 3 (by omega) (by omega) (by omega); have := hd 2 3 (by omega) (by omega) (by omega); omega
    · have hq := pig5 ⟨cs 0, hlt 0 (by omega)⟩ ⟨cs 1, hlt 1 (by omega)⟩ ⟨cs 2, hlt 2 (by omega)⟩ ⟨cs 3, hlt 3 (by omega)⟩ ⟨cs 4, hlt 4 (by omega)⟩ ⟨f, hf⟩ (fun e => hd 0 1 (by omega) (by omega) (by omega) (Fin.mk.inj e)) (fun e => hd 0 2 (by omega) (by omega) (by omega) (Fin.mk.inj e)) (fun e => hd 0 3 (by omega) (by omega) (by omega) (Fin.mk.inj e)) (fun e => hd 0 4 (by omega) (by omega) (by omega) (Fin.mk.inj e)) (fun e => hd 1 2 (by omega) (by omega) (by omega) (Fin.mk.inj e)) (fun e => hd 1 3 (by omega) (by omega) (by omega) (Fin.mk.inj e)) (fun e => hd 1 4 (by omega) (by omega) (by omega) (Fin.mk.inj e)) (fun e => hd 2 3 (by omega) (by omega) (by omega) (Fin.mk.inj e)) (fun e => hd 2 4 (by omega) (by omega) (by omega) (Fin.mk.inj e)) (fun e => hd 3 4 (by omega) (by omega) (by omega) (Fin.mk.inj e))
      rcases hq with e | e | e | e | e
      · exact hne 0 (by omega) (Fin.mk.inj e).symm
      · exact hne 1 (by omega) (Fin.mk.inj e).symm
      · exact hne 2 (by omega) (Fin.mk.inj e).symm
      · exact hne 3 (by omega) (Fin.mk.inj e).symm
      · exact hne 4 (by omega) (Fin.mk.inj e).symm
theorem gcV_one {F : Nat → Int} {p : Nat} : ∀ n, (∀ c, c < n → c ≠ p → F c = 0) → gcV F n = if p < n then (F p).natAbs else 0
  | 0, _ => rfl
  | n + 1, h => by
    unfold gcV
    rw [gcV_one (p := p) n (fun c hc => h c (by omega))]
    by_cases e : p = n
    · subst e
      rw [if_neg (by omega), if_pos (by omega), Nat.gcd_zero_left]
    · rw [h n (by omega) (fun q => e q.symm)]
      by_cases e2 : p < n
      · rw [if_pos e2, if_pos (by omega)]; simp
      · rw [if_neg e2, if_neg (by omega)]; simp
/-- the rows are small -/
theorem row_bd {n k : Nat} {N : Int} {cs : Nat → Nat} {t : Nat → Nat → Int} {R : Nat → Int} {r : Nat} (h : AB n k N cs t) (hr : r < k) (hg : gcV R n = 1) (hp : prl n R (t r)) : ∀ c, c < n → bd (R c) 19440000 ∧ (k ≤ 4 → bd (R c) (Dk k)) ∧ (k = 5 → bd (R c) 1) := by
  intro c hc
  have hb := prl_bd hp hc (h.2.2.2.2.2.2.1 r c hr hc)
  by_cases w : k ≤ 4
  · refine ⟨bd_mo hb ?_, fun _ => hb, fun q => by omega⟩
    rcases (show k = 0 ∨ k = 1 ∨ k = 2 ∨ k = 3 ∨ k = 4 by omega) with rfl | rfl | rfl | rfl | rfl <;> decide
  · have k5 : k = 5 := by have := h.1; have := h.2.1; omega
    have n5 : n = 5 := by have := h.1; have := h.2.1; omega
    have hz : ∀ f, f < n → f ≠ cs r → R f = 0 := by
      intro f hf hne
      obtain ⟨i, hi, hif⟩ := full (cs := cs) h.2.1 (fun j hj => h.2.2.2.1 j (by omega)) (fun i j hi hj e => AB_inj h (by omega) (by omega) e) f hf
      obtain ⟨a, ha, he⟩ := hp
      have := he f hf
      rw [← hif, h.2.2.2.2.1 i r (by omega) hr, if_neg (fun q => hne (by rw [← hif, q]))] at this
      rw [← hif]
      exact (Int.mul_eq_zero.mp this).resolve_left ha
    have e := gcV_one (p := cs r) n hz
    rw [hg, if_pos (h.2.2.2.1 r hr)] at e
    have h1 : bd (R c) 1 := by
      by_cases q : c = cs r
      · rw [q]; unfold bd; omega
      · rw [hz c hc q]; exact ⟨by decide, by decide⟩
    exact ⟨bd_mo h1 (by decide), fun q => by omega, fun _ => h1⟩
theorem sE_bd2 {n k r : Nat} {N : Int} {cs : Nat → Nat} {t : Nat → Nat → Int} {m : Nat → Int} (h : AB n k N cs t) (hm : ∀ f, f < n → bd (m f) 30) {f : Nat} (hf : f < n) (hr : r ≤ k) : bd (sE r N cs t m f) (if k ≤ 4 then 2916000000 else 524880000000) := by
  have h1 := bd_mul h.2.2.2.2.2.1 (hm f hf)
  have h2 := sU_bd (cs := cs) (m := m) (v := fun l => t l f) (M := 30) (D := Dk k) r (fun l hl => ⟨hm _ (h.2.2.2.1 l (by omega)), h.2.2.2.2.2.2.1 l f (by omega) hf⟩)
  have h3 := bd_sub h1 h2
  unfold sE
  refine bd_mo h3 ?_
  have hk := h.1
  have hn := h.2.1
  have e : (r : Int) * (30 * Dk k) ≤ k * (30 * Dk k) := Int.mul_le_mul_of_nonneg_right (by omega) (by have := Dk_pos k; omega)
  rcases (show k = 0 ∨ k = 1 ∨ k = 2 ∨ k = 3 ∨ k = 4 ∨ k = 5 by omega) with rfl | rfl | rfl | rfl | rfl | rfl
  all_goals
    refine Int.le_trans (Int.add_le_add_left e _) ?_
    decide
theorem al5 {a b N F R Fp Rp E t Ep : Int} (h1 : a * F = E) (h2 : b * R = t) (h3 : a * Fp = Ep) (h4 : b * Rp = N) : (a * b) * (F * Rp - R * Fp) = N * E - t * Ep := by
  have : (a * b) * (F * Rp - R * Fp) = (a * F) * (b * Rp) - (b * R) * (a * Fp) := by grind
  rw [this, h1, h2, h3, h4]
  grind
/-- the fresh row, cleared by row after row -/
theorem clF_ok {n k : Nat} {N : Int} {cs : Nat → Nat} {t : Nat → Nat → Int} {R : Nat → Nat → Int64} {m : Nat → Int} (h : AB n k N cs t) (hm : ∀ f, f < n → bd (m f) 30) (hR : ∀ r, r < k → gcV (iV (R r)) n = 1 ∧ prl n (iV (R r)) (t r)) : ∀ q r (F : Nat → Int64), r + q = k → prm n (iV F) → prl n (iV F) (sE r N cs t m) → prm n (iV (clF n cs R q r F)) ∧ prl n (iV (clF n cs R q r F)) (sE k N cs t m)
  | 0, r, F, hr, h1, h2 => by
    have : r = k := by omega
    subst this
    exact ⟨h1, h2⟩
  | q + 1, r, F, hr, h1, h2 => by
    show prm n (iV (clF n cs R q (r + 1) (clP n F (R r) (cs r)))) ∧ prl n (iV (clF n cs R q (r + 1) (clP n F (R r) (cs r)))) (sE k N cs t m)
    have hcr := h.2.2.2.1 r (by omega)
    obtain ⟨g1, p1⟩ := hR r (by omega)
    have hEp : sE r N cs t m (cs r) = N * m (cs r) := by
      unfold sE
      rw [sU_zero r (fun l hl => by rw [h.2.2.2.2.1 r l (by omega) (by omega), if_neg (by omega)]), Int.sub_zero]
    have hnx : ∀ f, sE (r + 1) N cs t m f = sE r N cs t m f - m (cs r) * t r f := by
      intro f
      unfold sE
      show N * m f - (sU cs m (fun l => t l f) r + m (cs r) * t r f) = _
      omega
    by_cases hz : F (cs r) = 0
    · have e : clP n F (R r) (cs r) = F := by unfold clP; rw [if_pos hz]
      rw [e]
      refine clF_ok h hm hR q (r + 1) F (by omega) h1 ?_
      obtain ⟨a, ha, he⟩ := h2
      refine ⟨a, ha, fun c hc => ?_⟩
      have e2 := he (cs r) hcr
      rw [show iV F (cs r) = 0 from i64_eq0.mp hz, Int.mul_zero, hEp] at e2
      have e3 := (Int.mul_eq_zero.mp e2.symm).resolve_left h.2.2.1
      rw [hnx c, e3, Int.zero_mul, Int.sub_zero]
      exact he c hc
    · have hFb : ∀ c, c < n → bd (F c).toInt (if k ≤ 4 then 2916000000 else 524880000000) := fun c hc => prl_bd h2 hc (sE_bd2 h hm hc (by omega))
      have hRb : ∀ c, c < n → bd (R r c).toInt (if k ≤ 4 then 19440000 else 1) := by
        intro c hc
        have := row_bd h (show r < k by omega) g1 p1 c hc
        by_cases w : k ≤ 4
        · rw [if_pos w]; exact this.1
        · rw [if_neg w]; exact this.2.2 (by have := h.1; have := h.2.1; omega)
      obtain ⟨c1, g, c2, c3⟩ := clP_ok hFb hRb (by by_cases w : k ≤ 4 <;> simp only [w, if_true, if_false] <;> decide) hcr hz
      refine clF_ok h hm hR q (r + 1) _ (by omega) c1 ?_
      obtain ⟨a, ha, he⟩ := h2
      obtain ⟨b, hb, hbe⟩ := p1
      have hbp := hbe (cs r) hcr
      rw [h.2.2.2.2.1 r r (by omega) (by omega), if_pos rfl] at hbp
      refine prl_div (x := (a * b) * g) (y := N) (Int.mul_ne_zero (Int.mul_ne_zero ha hb) (by omega)) h.2.2.1 c1 (fun c hc => ?_)
      have e := al5 (he c hc) (hbe c hc) (he (cs r) hcr) hbp
      show (a * b) * g * (clP n F (R r) (cs r) c).toInt = _
      rw [Int.mul_assoc, c3 c hc]
      refine e.trans ?_
      rw [hnx c, hEp]
      grind
theorem clO_at {n at1 p : Nat} : ∀ m r (R : Nat → Nat → Int64) i, clO n at1 p m r R i = if r ≤ i ∧ i < r + m ∧ i ≠ at1 then clP n (R i) (R at1) p else R i
  | 0, r, R, i => by
    show R i = _
    rw [if_neg (by omega)]
  | m + 1, r, R, i => by
    show clO n at1 p m (r + 1) _ i = _
    rw [clO_at m (r + 1)]
    by_cases e : r = at1
    · rw [if_pos e]
      by_cases e2 : r + 1 ≤ i ∧ i < r + 1 + m ∧ i ≠ at1
      · rw [if_pos e2, if_pos (by omega)]
      · rw [if_neg e2, if_neg (by omega)]
    · rw [if_neg e]
      rw [upR_ne (show at1 ≠ r from fun q => e q.symm)]
      by_cases e2 : i = r
      · subst e2
        rw [if_neg (by omega), if_pos (by omega), upR_at]
      · rw [upR_ne e2]
        by_cases e3 : r + 1 ≤ i ∧ i < r + 1 + m ∧ i ≠ at1
        · rw [if_pos e3, if_pos (by omega)]
        · rw [if_neg e3, if_neg (by omega)]
/-- where the fresh row goes -/
theorem isS_ok {n l : Nat} : ∀ m (L : Nat → Nat) (R : Nat → Nat → Int64), (∀ r, (isS n l m L R).1 ≤ r → r < m → l < L r) ∧ (∀ r, r + 1 = (isS n l m L R).1 → ¬ l < L r) ∧ (∀ r, r ≤ (isS n l m L R).1 → r ≤ m → (isS n l m L R).2.1 r = L r ∧ (isS n l m L R).2.2 r = R r) ∧ (∀ r, (isS n l m L R).1 ≤ r → r < m → (isS n l m L R).2.1 (r + 1) = L r ∧ ∀ c, c < n → (isS n l m L R).2.2 (r + 1) c = R r c) ∧ ∀ r, m < r → (isS n l m L R).2.1 r = L r ∧ (isS n l m L R).2.2 r = R r
  | 0, L, R => ⟨fun r _ h => by omega, fun r h => by simp [isS] at h, fun r _ _ => ⟨rfl, rfl⟩, fun r _ h => by omega, fun r _ => ⟨rfl, rfl⟩⟩
  | m + 1, L, R => by
    unfold isS
    by_cases w : l < L m
    · rw [if_pos w]
      obtain ⟨i1, i2, i3, i4, i5⟩ := isS_ok (n := n) (l := l) m (fun r => if r = m + 1 then L m else L r) (upR R (m + 1) (fun c => if c < n then R m c else R (m + 1) c))
      have hle := isS_le (n := n) (l := l) m (fun r => if r = m + 1 then L m else L r) (upR R (m + 1) (fun c => if c < n then R m c else R (m + 1) c))
      generalize isS n l m (fun r => if r = m + 1 then L m else L r) (upR R (m + 1) (fun c => if c < n then R m c else R (m + 1) c)) = S at *
      have eL : ∀ r, r < m + 1 → (if r = m + 1 then L m else L r) = L r := fun r hr => if_neg (by omega)
      have eR : ∀ r, r < m + 1 → upR R (m + 1) (fun c => if c < n then R m c else R (m + 1) c) r = R r := fun r hr => upR_ne (by omega)
      refine ⟨fun r h1 h2 => ?_, fun r h1 => ?_, fun r h1 h2 => ?_, fun r h1 h2 => ?_, fun r h1 => ?_⟩
      · by_cases e : r = m
        · rw [e]; exact w
        · have := i1 r h1 (by omega)
          rw [eL r (by omega)] at this
          exact this
      · have := i2 r h1
        rw [eL r (by omega)] at this
        exact this
      · have := i3 r h1 (by omega)
        rw [eL r (by omega), eR r (by omega)] at this
        exact this
      · by_cases e : r = m
        · subst e
          have := i5 (r + 1) (by omega)
          rw [this.1, this.2, upR_at]
          exact ⟨if_pos rfl, fun c hc => if_pos hc⟩
        · have := i4 r h1 (by omega)
          rw [eL r (by omega), eR r (by omega)] at this
          exact this
      · have := i5 r (by omega)
        rw [this.1, this.2, upR_ne (by omega)]
        exact ⟨if_neg (by omega), rfl⟩
    · rw [if_neg w]
      exact ⟨fun r h1 h2 => by omega, fun r h1 => by rw [show r = m by omega]; exact w, fun r _ _ => ⟨rfl, rfl⟩, fun r h1 h2 => by omega, fun r _ => ⟨rfl, rfl⟩⟩
