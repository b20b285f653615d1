/-! ELIMINATION: the reference's, step by step -/
theorem sU_cg {cs cs' : Nat → Nat} {m : Nat → Int} {v v' : Nat → Int} : ∀ k, (∀ j, j < k → cs' j = cs j) → (∀ j, j < k → v' j = v j) → sU cs' m v' k = sU cs m v k
  | 0, _, _ => rfl
  | k + 1, h1, h2 => by
    unfold sU
    rw [sU_cg k (fun j hj => h1 j (by omega)) (fun j hj => h2 j (by omega)), h1 k (by omega), h2 k (by omega)]
theorem sE_cg {k : Nat} {N : Int} {cs cs' : Nat → Nat} {t t' : Nat → Nat → Int} {m : Nat → Int} {f : Nat} (hc : ∀ j, j < k → cs' j = cs j) (ht : ∀ j, j < k → t' j f = t j f) : sE k N cs' t' m f = sE k N cs t m f := by
  unfold sE
  rw [sU_cg (cs := cs) (v := fun l => t l f) k hc ht]
theorem AB_cg {n k : Nat} {N : Int} {cs cs' : Nat → Nat} {t t' : Nat → Nat → Int} (h : AB n k N cs t) (hc : ∀ j, j < k → cs' j = cs j) (ht : ∀ j f, j < k → f < n → t' j f = t j f) : AB n k N cs' t' := by
  obtain ⟨a1, a2, a3, a4, a5, a6, a7, a8⟩ := h
  refine ⟨a1, a2, a3, fun j hj => by rw [hc j hj]; exact a4 j hj, fun i j hi hj => ?_, a6, fun j f hj hf => by rw [ht j f hj hf]; exact a7 j f hj hf, fun h3 l j c f hl hj hc' hf => ?_⟩
  · rw [hc i hi, ht j _ hj (a4 i hi)]; exact a5 i j hi hj
  · rw [ht l c hl hc', ht j f hj hf, ht j c hj hc', ht l f hl hf]; exact a8 h3 l j c f hl hj hc' hf
theorem nsp_cg {n k : Nat} {t t' : Nat → Nat → Int} {w : Nat → Int} (ht : ∀ j f, j < k → f < n → t' j f = t j f) : nsp n k t' w ↔ nsp n k t w := by
  unfold nsp
  constructor
  · intro h j hj
    rw [← dt_cg n (fun f hf => ht j f hj hf)]
    exact h j hj
  · intro h j hj
    rw [dt_cg n (fun f hf => ht j f hj hf)]
    exact h j hj
theorem al4 {N p mf mc S1 S2 Sc Ef : Int} (h : S1 * p - Ef * Sc = N * S2) : N * (p * mf - (S2 + mc * Ef)) = p * (N * mf - S1) - (N * mc - Sc) * Ef := by grind
/-- what is left of a further row, a pivot later -/
theorem sE_next {k : Nat} {N p : Int} {cs : Nat → Nat} {t t2 : Nat → Nat → Int} {m' : Nat → Int} {c f : Nat} {Ef : Int} (h1 : ∀ j, j < k → N * t2 j f = p * t j f - t j c * Ef) (h2 : t2 k f = Ef) : N * sE (k + 1) p (upC cs k c) t2 m' f = p * sE k N cs t m' f - sE k N cs t m' c * Ef := by
  have hs := sU_lin (cs := cs) (m := m') (u := fun l => t l f) (v := fun l => t l c) (x := p) (y := Ef) (N := N) (w := fun l => t2 l f) k (fun l hl => by
    have := h1 l hl
    show t l f * p - Ef * t l c = N * t2 l f
    rw [this, Int.mul_comm p, Int.mul_comm Ef])
  have e1 : sU (upC cs k c) m' (fun l => t2 l f) (k + 1) = sU cs m' (fun l => t2 l f) k + m' c * Ef := by
    show sU (upC cs k c) m' (fun l => t2 l f) k + m' (upC cs k c k) * t2 k f = _
    rw [sU_cg (cs := cs) (cs' := upC cs k c) (v := fun l => t2 l f) k (fun j hj => if_neg (show ¬ j = k by omega)) (fun j _ => rfl), show upC cs k c k = c from if_pos rfl, h2]
  unfold sE
  rw [e1]
  exact al4 hs
theorem cr64 {p a b e y : Int64} {r : Int} (h1 : bd (p.toInt * a.toInt) 9000000000000000000) (h2 : bd (b.toInt * e.toInt) 9000000000000000000) (h3 : bd (p.toInt * a.toInt - b.toInt * e.toInt) 9000000000000000000) (hy : y.toInt ≠ 0) (he : y.toInt * r = p.toInt * a.toInt - b.toInt * e.toInt) : ((p * a - b * e) / y).toInt = r := by
  unfold bd at h1 h2 h3
  have e1 : (p * a).toInt = p.toInt * a.toInt := i64_mul (by omega) (by omega)
  have e2 : (b * e).toInt = b.toInt * e.toInt := i64_mul (by omega) (by omega)
  have e3 : (p * a - b * e).toInt = p.toInt * a.toInt - b.toInt * e.toInt := by
    rw [← e1, ← e2]
    exact i64_sub (by rw [e1, e2]; omega) (by rw [e1, e2]; omega)
  rw [i64_div (by rw [e3]; omega), e3, ← he]
  exact Int.mul_tdiv_cancel_left _ hy
def tI (tab : Nat → Int64) (r f : Nat) : Int := (tab (5 * r + f)).toInt
def csL (fs : List Nat) (j : Nat) : Nat := fs.getD j 0
def RI (n K : Nat) (NS : (Nat → Int) → Prop) (c : Nat) (tab : Nat → Int64) (fs : List Nat) (y : Int64) : Prop :=
  fs.length ≤ c ∧ fs.length ≤ K ∧ (∀ i j, i < j → j < fs.length → csL fs i < csL fs j) ∧ (∀ j, j < fs.length → csL fs j < c) ∧ AB n fs.length y.toInt (csL fs) (tI tab) ∧ shp n fs.length (csL fs) (tI tab) ∧ (∀ i, fs.length ≤ i → i < K → (∃ m : Nat → Int, (∀ f, f < n → bd (m f) 30) ∧ ∀ f, f < n → tI tab i f = sE fs.length y.toInt (csL fs) (tI tab) m f) ∧ ∀ f, f < c → f < n → tI tab i f = 0) ∧ ∀ w, nsp n K (tI tab) w ↔ NS w
theorem RI_ex {n K c a : Nat} {NS : (Nat → Int) → Prop} {tab : Nat → Int64} {fs : List Nat} {y : Int64} (hn : n ≤ 5) (h : RI n K NS c tab fs y) (ha : fs.length ≤ a) (haK : a < K) : RI n K NS c (exF tab a fs.length n) fs y := by
  obtain ⟨r1, r2, r3, r4, r5, r6, r7, r8⟩ := h
  have hat : ∀ r f, f < n → tI (exF tab a fs.length n) r f = if r = a then tI tab fs.length f else if r = fs.length then tI tab a f else tI tab r f := by
    intro r f hf
    unfold tI
    rw [exF_at hf hn]
    by_cases e1 : r = a
    · rw [if_pos e1, if_pos e1]
    · rw [if_neg e1, if_neg e1]
      by_cases e2 : r = fs.length
      · rw [if_pos e2, if_pos e2]
      · rw [if_neg e2, if_neg e2]
  have hlo : ∀ j f, j < fs.length → f < n → tI (exF tab a fs.length n) j f = tI tab j f := by
    intro j f hj hf
    rw [hat j f hf, if_neg (by omega), if_neg (by omega)]
  have hsE : ∀ m f, f < n → sE fs.length y.toInt (csL fs) (tI (exF tab a fs.length n)) m f = sE fs.length y.toInt (csL fs) (tI tab) m f := fun m f hf => sE_cg (fun _ _ => rfl) (fun j hj => hlo j f hj hf)
  refine ⟨r1, r2, r3, r4, AB_cg r5 (fun _ _ => rfl) hlo, fun j f hj hf => ?_, fun i hi hiK => ?_, fun w => ?_⟩
  · have := r5.2.2.2.1 j hj
    rw [hlo j f hj (by omega)]
    exact r6 j f hj hf
  · obtain ⟨i', hi', hiK', e⟩ : ∃ i', fs.length ≤ i' ∧ i' < K ∧ ∀ f, f < n → tI (exF tab a fs.length n) i f = tI tab i' f := by
      by_cases e1 : i = a
      · exact ⟨fs.length, Nat.le_refl _, by omega, fun f hf => by rw [hat i f hf, if_pos e1]⟩
      · by_cases e2 : i = fs.length
        · exact ⟨a, ha, haK, fun f hf => by rw [hat i f hf, if_neg e1, if_pos e2]⟩
        · exact ⟨i, hi, hiK, fun f hf => by rw [hat i f hf, if_neg e1, if_neg e2]⟩
    obtain ⟨⟨m, hm, hmE⟩, hz⟩ := r7 i' hi' hiK'
    exact ⟨⟨m, hm, fun f hf => by rw [e f hf, hsE m f hf]; exact hmE f hf⟩, fun f hf hfn => by rw [e f hfn]; exact hz f hf hfn⟩
  · rw [← r8 w]
    constructor
    · intro h j hj
      by_cases e1 : j = a
      · have := h fs.length (by omega)
        rw [← this]
        refine (dt_cg n (fun f hf => ?_)).symm
        rw [hat _ f hf]
        by_cases e2 : fs.length = a
        · rw [if_pos e2, e1, e2]
        · rw [if_neg e2, if_pos rfl, e1]
      · by_cases e2 : j = fs.length
        · have := h a haK
          rw [← this]
          exact (dt_cg n (fun f hf => by rw [hat _ f hf, if_pos rfl, e2])).symm
        · rw [← h j hj]
          exact (dt_cg n (fun f hf => by rw [hat _ f hf, if_neg e1, if_neg e2])).symm
    · intro h j hj
      by_cases e1 : j = a
      · rw [← h fs.length (by omega)]
        exact dt_cg n (fun f hf => by rw [hat _ f hf, if_pos e1])
      · by_cases e2 : j = fs.length
        · rw [← h a haK]
          exact dt_cg n (fun f hf => by rw [hat _ f hf, if_neg e1, if_pos e2])
        · rw [← h j hj]
          exact dt_cg n (fun f hf => by rw [hat _ f hf, if_neg e1, if_neg e2])
theorem csL_app {fs : List Nat} {c j : Nat} : j < fs.length + 1 → csL (fs ++ [c]) j = upC (csL fs) fs.length c j := by
  intro h
  unfold csL upC
  by_cases e : j = fs.length
  · subst e
    rw [if_pos rfl]
    simp
  · rw [if_neg e]
    show (fs ++ [c]).getD j 0 = fs.getD j 0
    rw [List.getD_eq_getElem?_getD, List.getD_eq_getElem?_getD, List.getElem?_append_left (by omega)]
theorem Dk_sq {k : Nat} (hk : k ≤ 4) : Dk (k + 1) * Dk (k + 1) ≤ 9000000000000000000 ∧ Dk k * Dk (k + 1) + Dk k * Dk (k + 1) ≤ 9000000000000000000 ∧ (k ≤ 3 → Dk (k + 1) * Dk (k + 1) + Dk (k + 1) * Dk (k + 1) ≤ 9000000000000000000) ∧ Dk k ≤ Dk (k + 1) := by
  rcases (show k = 0 ∨ k = 1 ∨ k = 2 ∨ k = 3 ∨ k = 4 by omega) with rfl | rfl | rfl | rfl | rfl <;> decide
theorem RI_el {n K c : Nat} {NS : (Nat → Int) → Prop} {tab : Nat → Int64} {fs : List Nat} {y : Int64} (hn : n ≤ 5) (h : RI n K NS c tab fs y) (hkK : fs.length < K) (hc : c < n) (hnz : ¬ tab (5 * fs.length + c) = 0) : RI n K NS (c + 1) (elA tab (tab (5 * fs.length + c)) y c fs.length n K) (fs ++ [c]) (tab (5 * fs.length + c)) := by
  obtain ⟨r1, r2, r3, r4, r5, r6, r7, r8⟩ := h
  obtain ⟨⟨m, hm, hmE⟩, hz⟩ := r7 fs.length (Nat.le_refl _) hkK
  have hN := r5.2.2.1
  have hpE : tI tab fs.length c = sE fs.length y.toInt (csL fs) (tI tab) m c := hmE c hc
  have hp0 : sE fs.length y.toInt (csL fs) (tI tab) m c ≠ 0 := by rw [← hpE]; exact fun q => hnz (i64_eq0.mpr q)
  obtain ⟨t', ht⟩ := AB_div r5 hm (by omega) hc hp0
  obtain ⟨d1, d2, d3, d4⟩ := Dk_sq (show fs.length ≤ 4 by omega)
  have hEb : ∀ f, f < n → bd (tI tab fs.length f) (Dk (fs.length + 1)) := fun f hf => by rw [hmE f hf]; exact sE_bd r5 hm hf (by omega)
  have hat : ∀ r f, r < K → f < n → elA tab (tab (5 * fs.length + c)) y c fs.length n K (5 * r + f) = if r = fs.length then tab (5 * r + f) else (tab (5 * fs.length + c) * tab (5 * r + f) - tab (5 * r + c) * tab (5 * fs.length + f)) / y := fun r f hr hf => elA_at hr hf hn
  generalize hT2 : elA tab (tab (5 * fs.length + c)) y c fs.length n K = T2 at hat ⊢
  have hk2 : ∀ f, f < n → tI T2 fs.length f = sE fs.length y.toInt (csL fs) (tI tab) m f := by
    intro f hf
    rw [← hmE f hf]
    unfold tI
    rw [hat _ f hkK hf, if_pos rfl]
  have hj2 : ∀ j f, j < fs.length → f < n → tI T2 j f = t' j f := by
    intro j f hj hf
    have b1 := bd_mul (r5.2.2.2.2.2.2.1 j f hj hf) (hEb c hc)
    have b2 := bd_mul (r5.2.2.2.2.2.2.1 j c hj hc) (hEb f hf)
    have hq := (ht j f hj hf).1
    rw [← hpE, ← hmE f hf] at hq
    show (T2 (5 * j + f)).toInt = _
    rw [hat j f (by omega) hf, if_neg (by omega)]
    rw [Int.mul_comm] at b1
    have b3 := bd_sub b1 b2
    have dp := Dk_pos fs.length
    have dp1 := Dk_pos (fs.length + 1)
    have dpp : 0 ≤ Dk fs.length * Dk (fs.length + 1) := Int.mul_nonneg (by omega) (by omega)
    exact cr64 (bd_mo b1 (by omega)) (bd_mo b2 (by omega)) (bd_mo b3 d2) hN hq
  have hAB : AB n (fs.length + 1) (tab (5 * fs.length + c)).toInt (upC (csL fs) fs.length c) (tI T2) := by
    rw [show (tab (5 * fs.length + c)).toInt = sE fs.length y.toInt (csL fs) (tI tab) m c from hpE]
    exact AB_step r5 hm (by omega) hc hp0 ht hj2 hk2
  have hN2 : ∀ j f, j < fs.length → f < n → y.toInt * tI T2 j f = (tab (5 * fs.length + c)).toInt * tI tab j f - tI tab j c * tI tab fs.length f := by
    intro j f hj hf
    rw [hj2 j f hj hf, (ht j f hj hf).1, ← hpE, ← hmE f hf]
    rfl
  have hEk : ∀ f, f < n → tI T2 fs.length f = tI tab fs.length f := fun f hf => by rw [hk2 f hf, hmE f hf]
  -- the rows behind
  have hi2 : ∀ i, fs.length < i → i < K → ∃ mi : Nat → Int, (∀ f, f < n → bd (mi f) 30) ∧ (∀ f, f < n → tI T2 i f = sE (fs.length + 1) (tab (5 * fs.length + c)).toInt (upC (csL fs) fs.length c) (tI T2) mi f) ∧ ∀ f, f < n → y.toInt * tI T2 i f = (tab (5 * fs.length + c)).toInt * tI tab i f - tI tab i c * tI tab fs.length f := by
    intro i hi hiK
    obtain ⟨⟨mi, hmi, hmiE⟩, _⟩ := r7 i (by omega) hiK
    have hq : ∀ f, f < n → y.toInt * sE (fs.length + 1) (tab (5 * fs.length + c)).toInt (upC (csL fs) fs.length c) (tI T2) mi f = (tab (5 * fs.length + c)).toInt * tI tab i f - tI tab i c * tI tab fs.length f := by
      intro f hf
      rw [sE_next (t := tI tab) (Ef := tI tab fs.length f) (fun j hj => hN2 j f hj hf) (hEk f hf), ← hmiE f hf, ← hmiE c hc]
    have hb : ∀ f, f < n → bd (tI tab i f) (Dk (fs.length + 1)) := fun f hf => by rw [hmiE f hf]; exact sE_bd r5 hmi hf (by omega)
    have hr : ∀ f, f < n → tI T2 i f = sE (fs.length + 1) (tab (5 * fs.length + c)).toInt (upC (csL fs) fs.length c) (tI T2) mi f := by
      intro f hf
      have b1 := bd_mul (hEb c hc) (hb f hf)
      have b2 := bd_mul (hb c hc) (hEb f hf)
      have b3 : bd (tI tab fs.length c * tI tab i f - tI tab i c * tI tab fs.length f) 9000000000000000000 := by
        by_cases w3 : fs.length ≤ 3
        · exact bd_mo (bd_sub b1 b2) (d3 w3)
        · have e : tI tab fs.length c * tI tab i f - tI tab i c * tI tab fs.length f = 0 := by
            have e0 := hq f hf
            have hcov : ∃ i', i' < fs.length + 1 ∧ upC (csL fs) fs.length c i' = f := by
              have k4 : fs.length = 4 := by omega
              have n5 : n = 5 := by omega
              have a4 := hAB.2.2.2.1
              have inj : ∀ i j, i < 5 → j < 5 → i ≠ j → upC (csL fs) fs.length c i ≠ upC (csL fs) fs.length c j := fun i j hi hj hne e => hne (AB_inj hAB (by omega) (by omega) e)
              have hq := pig5 ⟨upC (csL fs) fs.length c 0, by have := a4 0 (by omega); omega⟩ ⟨upC (csL fs) fs.length c 1, by have := a4 1 (by omega); omega⟩ ⟨upC (csL fs) fs.length c 2, by have := a4 2 (by omega); omega⟩ ⟨upC (csL fs) fs.length c 3, by have := a4 3 (by omega); omega⟩ ⟨upC (csL fs) fs.length c 4, by have := a4 4 (by omega); omega⟩ ⟨f, by omega⟩ (fun e => inj 0 1 (by omega) (by omega) (by omega) (Fin.mk.inj e)) (fun e => inj 0 2 (by omega) (by omega) (by omega) (Fin.mk.inj e)) (fun e => inj 0 3 (by omega) (by omega) (by omega) (Fin.mk.inj e)) (fun e => inj 0 4 (by omega) (by omega) (by omega) (Fin.mk.inj e)) (fun e => inj 1 2 (by omega) (by omega) (by omega) (Fin.mk.inj e)) (fun e => inj 1 3 (by omega) (by omega) (by omega) (Fin.mk.inj e)) (fun e => inj 1 4 (by omega) (by omega) (by omega) (Fin.mk.inj e)) (fun e => inj 2 3 (by omega) (by omega) (by omega) (Fin.mk.inj e)) (fun e => inj 2 4 (by omega) (by omega) (by omega) (Fin.mk.inj e)) (fun e => inj 3 4 (by omega) (by omega) (by omega) (Fin.mk.inj e))
              rcases hq with e | e | e | e | e
              · exact ⟨0, by omega, (Fin.mk.inj e).symm⟩
              · exact ⟨1, by omega, (Fin.mk.inj e).symm⟩
              · exact ⟨2, by omega, (Fin.mk.inj e).symm⟩
              · exact ⟨3, by omega, (Fin.mk.inj e).symm⟩
              · exact ⟨4, by omega, (Fin.mk.inj e).symm⟩
            obtain ⟨i', hi', hi2'⟩ := hcov
            rw [← hi2', sE_piv hAB hi', hi2', Int.mul_zero] at e0
            exact e0.symm
          rw [e]
          exact ⟨by decide, by decide⟩
      show (T2 (5 * i + f)).toInt = _
      rw [hat i f hiK hf, if_neg (by omega)]
      exact cr64 (bd_mo b1 d1) (bd_mo b2 d1) b3 hN (hq f hf)
    exact ⟨mi, hmi, hr, fun f hf => by rw [hr f hf]; exact hq f hf⟩
  have hcs : ∀ j, j < fs.length + 1 → csL (fs ++ [c]) j = upC (csL fs) fs.length c j := fun j hj => csL_app hj
  have hlt : ∀ j, j < fs.length → upC (csL fs) fs.length c j = csL fs j := fun j hj => if_neg (by omega)
  have hlk : upC (csL fs) fs.length c fs.length = c := if_pos rfl
  have hl : (fs ++ [c]).length = fs.length + 1 := by simp
  unfold RI
  rw [hl]
  refine ⟨by omega, by omega, fun i j hij hj => ?_, fun j hj => ?_, AB_cg hAB hcs (fun _ _ _ _ => rfl), fun j f hj hf => ?_, fun i hi hiK => ?_, fun w => ?_⟩
  · rw [hcs i (by omega), hcs j (by omega)]
    by_cases e : j = fs.length
    · rw [e, hlk, hlt i (by omega)]; exact r4 i (by omega)
    · rw [hlt i (by omega), hlt j (by omega)]; exact r3 i j hij (by omega)
  · rw [hcs j hj]
    by_cases e : j = fs.length
    · rw [e, hlk]; omega
    · rw [hlt j (by omega)]; have := r4 j (by omega); omega
  · rw [hcs j hj] at hf
    by_cases e : j = fs.length
    · subst e
      rw [hlk] at hf
      rw [hEk f (by omega)]
      exact hz f hf (by omega)
    · rw [hlt j (by omega)] at hf
      have hc4 := r4 j (by omega)
      have := hN2 j f (by omega) (by omega)
      rw [r6 j f (by omega) hf, hz f (by omega) (by omega), Int.mul_zero, Int.mul_zero, Int.sub_zero] at this
      exact (Int.mul_eq_zero.mp this).resolve_left hN
  · obtain ⟨mi, hmi, hmE2, hmN⟩ := hi2 i (by omega) hiK
    refine ⟨⟨mi, hmi, fun f hf => ?_⟩, fun f hf hfn => ?_⟩
    · rw [hmE2 f hf]
      exact (sE_cg hcs (fun _ _ => rfl)).symm
    · have := hmN f hfn
      by_cases e : f = c
      · subst e
        rw [show tI tab i f * tI tab fs.length f = (tab (5 * fs.length + f)).toInt * tI tab i f from Int.mul_comm _ _, Int.sub_self] at this
        exact (Int.mul_eq_zero.mp this).resolve_left hN
      · rw [(r7 i (by omega) hiK).2 f (by omega) hfn, hz f (by omega) hfn, Int.mul_zero, Int.mul_zero, Int.sub_zero] at this
        exact (Int.mul_eq_zero.mp this).resolve_left hN
  · rw [← r8 w]
    have hrel : ∀ j, j < K → j ≠ fs.length → y.toInt * dt w (tI T2 j) n = (tab (5 * fs.length + c)).toInt * dt w (tI tab j) n - tI tab j c * dt w (tI tab fs.length) n := by
      intro j hj hne
      refine dt_lin n (fun f hf => ?_)
      by_cases e : j < fs.length
      · exact hN2 j f e hf
      · obtain ⟨mi, _, _, hmN⟩ := hi2 j (by omega) hj
        exact hmN f hf
    have hk : dt w (tI T2 fs.length) n = dt w (tI tab fs.length) n := dt_cg n hEk
    have hp0' : (tab (5 * fs.length + c)).toInt ≠ 0 := fun q => hnz (i64_eq0.mpr q)
    constructor
    · intro h j hj
      have h0 : dt w (tI tab fs.length) n = 0 := by rw [← hk]; exact h _ hkK
      by_cases e : j = fs.length
      · rw [e]; exact h0
      · have := hrel j hj e
        rw [h j hj, h0, Int.mul_zero, Int.mul_zero, Int.sub_zero] at this
        exact (Int.mul_eq_zero.mp this.symm).resolve_left hp0'
    · intro h j hj
      have h0 := h _ hkK
      by_cases e : j = fs.length
      · rw [e, hk]; exact h0
      · have := hrel j hj e
        rw [h j hj, h0, Int.mul_zero, Int.mul_zero, Int.sub_zero] at this
        exact (Int.mul_eq_zero.mp this).resolve_left hN
theorem pvF_all {t : Nat → Int64} {c : Nat} : ∀ m r, r + m ≤ pvF t c m r → ∀ i, r ≤ i → i < r + m → t (5 * i + c) = 0
  | 0, r, _, i, h1, h2 => by omega
  | m + 1, r, h, i, h1, h2 => by
    unfold pvF at h
    by_cases e : t (5 * r + c) = 0
    · rw [if_pos e] at h
      by_cases e2 : i = r
      · rw [e2]; exact e
      · exact pvF_all m (r + 1) (by omega) i (by omega) (by omega)
    · rw [if_neg e] at h
      omega
theorem RI_step {n K c : Nat} {NS : (Nat → Int) → Prop} {s : brT} (hn : n ≤ 5) (hc : c < n) (h : RI n K NS c s.1 s.2.1 s.2.2) : RI n K NS (c + 1) (brC n K c s).1 (brC n K c s).2.1 (brC n K c s).2.2 := by
  obtain ⟨tab, fs, y⟩ := s
  dsimp only at h
  unfold brC
  dsimp only
  have hpv := pvF_ge (t := tab) (c := c) (K - fs.length) fs.length
  have hkK := h.2.1
  split
  · next hr =>
    have hnz := pvF_ne (t := tab) (c := c) (K - fs.length) fs.length (by omega)
    generalize pvF tab c (K - fs.length) fs.length = a at hr hnz hpv ⊢
    have h2 := RI_ex hn h hpv.1 hr
    refine RI_el hn h2 (by omega) hc ?_
    rw [exF_at hc hn]
    by_cases e : fs.length = a
    · rw [if_pos e, e]; exact hnz
    · rw [if_neg e, if_pos rfl]; exact hnz
  · next hr =>
    have hall := pvF_all (t := tab) (c := c) (K - fs.length) fs.length (by omega)
    obtain ⟨r1, r2, r3, r4, r5, r6, r7, r8⟩ := h
    refine ⟨by show fs.length ≤ c + 1; omega, r2, r3, fun j hj => Nat.lt_succ_of_lt (r4 j hj), r5, r6, fun i hi hiK => ⟨(r7 i hi hiK).1, fun f hf hfn => ?_⟩, r8⟩
    by_cases e : f = c
    · rw [e]
      exact i64_eq0.mp (hall i hi (by have : fs.length ≤ i := hi; omega))
    · exact (r7 i hi hiK).2 f (by omega) hfn
theorem RI_all {n K : Nat} {NS : (Nat → Int) → Prop} (hn : n ≤ 5) : ∀ m c (s : brT), c + m = n → RI n K NS c s.1 s.2.1 s.2.2 → RI n K NS n (brF n K c s).1 (brF n K c s).2.1 (brF n K c s).2.2
  | 0, c, s, hc, h => by
    rw [brF_end (by omega)]
    have : c = n := by omega
    subst this
    exact h
  | m + 1, c, s, hc, h => by
    rw [brF_step (by omega)]
    exact RI_all hn m (c + 1) _ (by omega) (RI_step hn (by omega) h)
/-- the reference's solved table -/
theorem br_ok {n K : Nat} (hn : n ≤ 5) {tab : Nat → Int64} {R : Nat → Nat → Int} (hR : ∀ i f, i < K → f < n → (tab (5 * i + f)).toInt = R i f) (hb : ∀ i f, i < K → f < n → bd (R i f) 30) {s : brT} (hs : brF n K 0 (tab, [], 1) = s) : AB n s.2.1.length s.2.2.toInt (csL s.2.1) (tI s.1) ∧ shp n s.2.1.length (csL s.2.1) (tI s.1) ∧ (∀ i j, i < j → j < s.2.1.length → csL s.2.1 i < csL s.2.1 j) ∧ s.2.1.length ≤ K ∧ ∀ w, nsp n s.2.1.length (tI s.1) w ↔ nsp n K R w := by
  have h0 : RI n K (fun w => nsp n K R w) 0 tab [] 1 := by
    refine ⟨Nat.zero_le _, Nat.zero_le _, fun i j _ hj => absurd hj (by simp), fun j hj => absurd hj (by simp), AB_0 hn, fun j f hj => absurd hj (by simp), fun i _ hiK => ⟨⟨tI tab i, fun f hf => ?_, fun f hf => ?_⟩, fun f hf => by omega⟩, fun w => ?_⟩
    · show bd (tab (5 * i + f)).toInt 30
      rw [hR i f hiK hf]
      exact hb i f hiK hf
    · show tI tab i f = (1 : Int64).toInt * tI tab i f - 0
      rw [show (1 : Int64).toInt = 1 from rfl]
      omega
    · exact nsp_cg (fun j f hj hf => hR j f hj hf)
  have h := RI_all hn n 0 (tab, [], 1) (by omega) h0
  rw [hs] at h
  obtain ⟨r1, r2, r3, r4, r5, r6, r7, r8⟩ := h
  refine ⟨r5, r6, r3, r2, fun w => ?_⟩
  refine Iff.trans ?_ (r8 w)
  constructor
  · intro h j hj
    by_cases e : j < s.2.1.length
    · exact h j e
    · exact dt_zero n (fun f hf => by rw [(r7 j (by omega) hj).2 f hf hf, Int.mul_zero])
  · intro h j hj
    exact h j (by omega)
