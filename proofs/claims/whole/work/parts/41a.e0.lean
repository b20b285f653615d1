/-! ELIMINATION: one step, over the integers -/
def bd (z : Int) (D : Int) : Prop := -D ≤ z ∧ z ≤ D
theorem bd_mul {x y a b : Int} (hx : bd x a) (hy : bd y b) : bd (x * y) (a * b) := by
  have ha : x.natAbs ≤ a.natAbs := by unfold bd at hx; omega
  have hb : y.natAbs ≤ b.natAbs := by unfold bd at hy; omega
  have h := Nat.mul_le_mul ha hb
  rw [← Int.natAbs_mul, ← Int.natAbs_mul] at h
  have h0 : 0 ≤ a * b := Int.mul_nonneg (by unfold bd at hx; omega) (by unfold bd at hy; omega)
  unfold bd
  omega
theorem bd_mo {x a b : Int} (h : bd x a) (hab : a ≤ b) : bd x b := by unfold bd at h ⊢; omega
theorem bd_add {x y a b : Int} (hx : bd x a) (hy : bd y b) : bd (x + y) (a + b) := by unfold bd at hx hy ⊢; omega
theorem bd_sub {x y a b : Int} (hx : bd x a) (hy : bd y b) : bd (x - y) (a + b) := by unfold bd at hx hy ⊢; omega
/-- a sum over the pivots: row m, taken at the pivots' columns -/
def sU (cs : Nat → Nat) (m : Nat → Int) (v : Nat → Int) : Nat → Int
  | 0 => 0
  | k + 1 => sU cs m v k + m (cs k) * v k
/-- what is left of a row m -/
def sE (k : Nat) (N : Int) (cs : Nat → Nat) (t : Nat → Nat → Int) (m : Nat → Int) (f : Nat) : Int := N * m f - sU cs m (fun l => t l f) k
theorem sU_lin {cs : Nat → Nat} {m : Nat → Int} {u v : Nat → Int} {x y N : Int} {w : Nat → Int} : ∀ k, (∀ l, l < k → u l * x - y * v l = N * w l) → sU cs m u k * x - y * sU cs m v k = N * sU cs m w k
  | 0, _ => by unfold sU; simp
  | k + 1, h => by
    unfold sU
    have h1 := sU_lin (cs := cs) (m := m) (u := u) (v := v) (x := x) (y := y) (N := N) (w := w) k (fun l hl => h l (by omega))
    have h2 := h k (by omega)
    generalize sU cs m u k = a at h1 ⊢
    generalize sU cs m v k = b at h1 ⊢
    generalize sU cs m w k = c at h1 ⊢
    grind
theorem sU_bd {cs : Nat → Nat} {m v : Nat → Int} {M D : Int} : ∀ k, (∀ l, l < k → bd (m (cs l)) M ∧ bd (v l) D) → bd (sU cs m v k) (k * (M * D))
  | 0, _ => by unfold sU bd; simp
  | k + 1, h => by
    unfold sU
    have h1 := sU_bd (cs := cs) (m := m) (v := v) (M := M) (D := D) k (fun l hl => h l (by omega))
    have h2 := bd_mul (h k (by omega)).1 (h k (by omega)).2
    have e : ((k + 1 : Nat) : Int) * (M * D) = (k : Int) * (M * D) + M * D := by
      rw [Int.natCast_add, Int.add_mul]
      simp
    rw [e]
    exact bd_add h1 h2
theorem sU_zero {cs : Nat → Nat} {m v : Nat → Int} : ∀ k, (∀ l, l < k → v l = 0) → sU cs m v k = 0
  | 0, _ => rfl
  | k + 1, h => by
    unfold sU
    rw [sU_zero k (fun l hl => h l (by omega)), h k (by omega)]
    simp
theorem sU_one {cs : Nat → Nat} {m v : Nat → Int} {N : Int} {i : Nat} : ∀ k, i < k → (∀ l, l < k → v l = if l = i then N else 0) → sU cs m v k = m (cs i) * N
  | 0, h, _ => by omega
  | k + 1, h, hv => by
    unfold sU
    by_cases w : i = k
    · subst w
      rw [sU_zero i (fun l hl => by rw [hv l (by omega), if_neg (by omega)]), hv i (by omega), if_pos rfl, Int.zero_add]
    · rw [sU_one k (by omega) (fun l hl => hv l (by omega)), hv k (by omega), if_neg (by omega)]
      simp
def Dk (k : Nat) : Int := match k with
  | 0 => 1
  | 1 => 30
  | 2 => 1800
  | 3 => 162000
  | 4 => 19440000
  | _ => 2916000000
/-- rows t, each alone in its column, over a common divisor N -/
def AB (n k : Nat) (N : Int) (cs : Nat → Nat) (t : Nat → Nat → Int) : Prop :=
  k ≤ n ∧ n ≤ 5 ∧ N ≠ 0 ∧ (∀ j, j < k → cs j < n) ∧ (∀ i j, i < k → j < k → t j (cs i) = if j = i then N else 0) ∧ bd N (Dk k) ∧ (∀ j f, j < k → f < n → bd (t j f) (Dk k)) ∧
  (k ≤ 3 → ∀ l j c f, l < k → j < k → c < n → f < n → ∃ b : Int, t l c * t j f - t j c * t l f = N * b ∧ bd b (Dk k))
theorem AB_0 {n : Nat} (hn : n ≤ 5) {cs : Nat → Nat} {t : Nat → Nat → Int} : AB n 0 1 cs t := ⟨Nat.zero_le _, hn, by decide, fun j hj => by omega, fun i j hi => by omega, ⟨by decide, by decide⟩, fun j f hj => by omega, fun _ l j c f hl => by omega⟩
theorem AB_inj {n k : Nat} {N : Int} {cs : Nat → Nat} {t : Nat → Nat → Int} (h : AB n k N cs t) {i j : Nat} (hi : i < k) (hj : j < k) (he : cs i = cs j) : i = j := by
  have h1 := h.2.2.2.2.1 i j hi hj
  have h2 := h.2.2.2.2.1 j j hj hj
  rw [if_pos rfl] at h2
  by_cases w : j = i
  · exact w.symm
  · rw [if_neg w, he, h2] at h1
    exact absurd h1 h.2.2.1
theorem al1 {N u1 u2 u3 tj tc mc mf : Int} (h : u1 * tj - tc * u2 = N * u3) : N * (mc * tj - tc * mf - u3) = (N * mc - u1) * tj - tc * (N * mf - u2) := by grind
section EL
variable {n k : Nat} {N : Int} {cs : Nat → Nat} {t : Nat → Nat → Int} {m : Nat → Int} {c : Nat}
theorem sE_piv (h : AB n k N cs t) {i : Nat} (hi : i < k) : sE k N cs t m (cs i) = 0 := by
  unfold sE
  rw [sU_one (N := N) (i := i) k hi (fun l hl => h.2.2.2.2.1 i l hi hl)]
  grind
theorem Dk_pos : ∀ k, 0 < Dk k := by
  intro k
  unfold Dk
  split <;> decide
theorem sE_bd (h : AB n k N cs t) (hm : ∀ f, f < n → bd (m f) 30) {f : Nat} (hf : f < n) (hk : k ≤ 4) : bd (sE k N cs t m f) (Dk (k + 1)) := by
  have h1 := bd_mul h.2.2.2.2.2.1 (hm f hf)
  have h2 := sU_bd (cs := cs) (m := m) (v := fun l => t l f) (M := 30) (D := Dk k) k (fun l hl => ⟨hm _ (h.2.2.2.1 l hl), h.2.2.2.2.2.2.1 l f hl hf⟩)
  have h3 := bd_sub h1 h2
  unfold sE
  refine bd_mo h3 ?_
  rcases (show k = 0 ∨ k = 1 ∨ k = 2 ∨ k = 3 ∨ k = 4 by omega) with rfl | rfl | rfl | rfl | rfl <;> decide
theorem pig5 : ∀ a b c d e f : Fin 5, a ≠ b → a ≠ c → a ≠ d → a ≠ e → b ≠ c → b ≠ d → b ≠ e → c ≠ d → c ≠ e → d ≠ e → f = a ∨ f = b ∨ f = c ∨ f = d ∨ f = e := by decide +kernel
/-- the new rows -/
theorem AB_div (h : AB n k N cs t) (hm : ∀ f, f < n → bd (m f) 30) (hkn : k < n) (hc : c < n) (hp : sE k N cs t m c ≠ 0) : ∃ t' : Nat → Nat → Int, (∀ j f, j < k → f < n → N * t' j f = sE k N cs t m c * t j f - t j c * sE k N cs t m f ∧ bd (t' j f) (Dk (k + 1))) := by
  obtain ⟨a1, a2, a3, a4, a5, a6, a7, a8⟩ := id h
  by_cases w3 : k ≤ 3
  · obtain ⟨bt, hb⟩ : ∃ bt : Nat → Nat → Nat → Nat → Int, ∀ l j c f, l < k → j < k → c < n → f < n → t l c * t j f - t j c * t l f = N * bt l j c f ∧ bd (bt l j c f) (Dk k) := by
      refine ⟨fun l j c f => if h : l < k ∧ j < k ∧ c < n ∧ f < n then Classical.choose (a8 w3 l j c f h.1 h.2.1 h.2.2.1 h.2.2.2) else 0, fun l j c f h1 h2 h3 h4 => ?_⟩
      show _ = N * (dite _ _ _) ∧ bd (dite _ _ _) _
      rw [dif_pos ⟨h1, h2, h3, h4⟩]
      exact Classical.choose_spec (a8 w3 l j c f h1 h2 h3 h4)
    refine ⟨fun j f => m c * t j f - t j c * m f - sU cs m (fun l => bt l j c f) k, fun j f hj hf => ⟨?_, ?_⟩⟩
    · have h1 := sU_lin (cs := cs) (m := m) (u := fun l => t l c) (v := fun l => t l f) (x := t j f) (y := t j c) (N := N) (w := fun l => bt l j c f) k (fun l hl => (hb l j c f hl hj hc hf).1)
      exact al1 h1
    · have hjj : bt j j c f = 0 := by
        have := (hb j j c f hj hj hc hf).1
        have h0 : N * bt j j c f = 0 := by rw [← this]; grind
        rcases Int.mul_eq_zero.mp h0 with q | q
        · exact absurd q a3
        · exact q
      have b1 := bd_mul (hm c hc) (a7 j f hj hf)
      have b2 := bd_mul (a7 j c hj hc) (hm f hf)
      have b3 : ∀ l, l < k → bd (m (cs l) * bt l j c f) (30 * Dk k) := fun l hl => bd_mul (hm _ (a4 l hl)) (hb l j c f hl hj hc hf).2
      have b4 : bd (m (cs j) * bt j j c f) 0 := by rw [hjj]; unfold bd; simp
      show bd (m c * t j f - t j c * m f - sU cs m (fun l => bt l j c f) k) _
      rcases (show k = 0 ∨ k = 1 ∨ k = 2 ∨ k = 3 by omega) with rfl | rfl | rfl | rfl
      · omega
      · have : j = 0 := by omega
        subst this
        unfold sU sU
        have d1 : Dk 1 = 30 := rfl
        have d2 : Dk (1 + 1) = 1800 := rfl
        unfold bd at *
        omega
      · have c0 := b3 0 (by omega)
        have c1 := b3 1 (by omega)
        unfold sU sU sU
        have d1 : Dk 2 = 1800 := rfl
        have d2 : Dk (2 + 1) = 162000 := rfl
        rcases (show j = 0 ∨ j = 1 by omega) with rfl | rfl <;> (unfold bd at *; omega)
      · have c0 := b3 0 (by omega)
        have c1 := b3 1 (by omega)
        have c2 := b3 2 (by omega)
        unfold sU sU sU sU
        have d1 : Dk 3 = 162000 := rfl
        have d2 : Dk (3 + 1) = 19440000 := rfl
        rcases (show j = 0 ∨ j = 1 ∨ j = 2 by omega) with rfl | rfl | rfl <;> (unfold bd at *; omega)
  · have hk4 : k = 4 := by omega
    have hn5 : n = 5 := by omega
    subst hk4
    subst hn5
    have hcs : ∀ i, i < 4 → c ≠ cs i := fun i hi e => hp (by rw [e]; exact sE_piv h hi)
    have hcov : ∀ f, f < 5 → f = c ∨ ∃ i, i < 4 ∧ f = cs i := by
      intro f hf
      have hd : ∀ i j, i < 4 → j < 4 → i ≠ j → cs i ≠ cs j := fun i j hi hj hn e => hn (AB_inj h hi hj e)
      have hq := pig5 ⟨cs 0, a4 0 (by omega)⟩ ⟨cs 1, a4 1 (by omega)⟩ ⟨cs 2, a4 2 (by omega)⟩ ⟨cs 3, a4 3 (by omega)⟩ ⟨c, hc⟩ ⟨f, hf⟩ (fun e => hd 0 1 (by omega) (by omega) (by omega) (Fin.mk.inj e)) (fun e => hd 0 2 (by omega) (by omega) (by omega) (Fin.mk.inj e)) (fun e => hd 0 3 (by omega) (by omega) (by omega) (Fin.mk.inj e)) (fun e => hcs 0 (by omega) (Fin.mk.inj e).symm) (fun e => hd 1 2 (by omega) (by omega) (by omega) (Fin.mk.inj e)) (fun e => hd 1 3 (by omega) (by omega) (by omega) (Fin.mk.inj e)) (fun e => hcs 1 (by omega) (Fin.mk.inj e).symm) (fun e => hd 2 3 (by omega) (by omega) (by omega) (Fin.mk.inj e)) (fun e => hcs 2 (by omega) (Fin.mk.inj e).symm) (fun e => hcs 3 (by omega) (Fin.mk.inj e).symm)
      rcases hq with e | e | e | e | e
      · exact Or.inr ⟨0, by omega, Fin.mk.inj e⟩
      · exact Or.inr ⟨1, by omega, Fin.mk.inj e⟩
      · exact Or.inr ⟨2, by omega, Fin.mk.inj e⟩
      · exact Or.inr ⟨3, by omega, Fin.mk.inj e⟩
      · exact Or.inl (Fin.mk.inj e)
    have hpb := sE_bd h hm hc (by omega)
    refine ⟨fun j f => if f = cs j then sE 4 N cs t m c else 0, fun j f hj hf => ?_⟩
    show N * (if f = cs j then _ else _) = _ ∧ bd (if f = cs j then _ else _) _
    rcases hcov f hf with rfl | ⟨i, hi, rfl⟩
    · rw [if_neg (hcs j hj)]
      exact ⟨by grind, by unfold bd Dk; decide⟩
    · rw [sE_piv h hi, a5 i j hi hj]
      by_cases w : j = i
      · subst w
        rw [if_pos rfl, if_pos rfl]
        exact ⟨by grind, hpb⟩
      · rw [if_neg w, if_neg (fun e => w (AB_inj h hi hj e).symm)]
        exact ⟨by grind, by unfold bd Dk; decide⟩
theorem al00 {N m0 m1 m2 q1 q2 q3 : Int} : m0 * (N * q1) - m2 * (N * q2) + m1 * (N * q3) = N * (m0 * q1 - m2 * q2 + m1 * q3) := by grind
theorem al01 {N p x1 x2 y1 y2 z : Int} (e : (N * x1) * (N * y2) - (N * y1) * (N * x2) = p * (N * (N * z))) : (N * N) * (x1 * y2 - y1 * x2) = (N * N) * (p * z) := by
  have e1 : (N * N) * (x1 * y2 - y1 * x2) = (N * x1) * (N * y2) - (N * y1) * (N * x2) := by grind
  rw [e1, e]
  grind
theorem al2 {N p E1 E2 m0 m1 m2 u0 u1 a0 a1 a2 b0 b1 b2 x1 x2 y1 y2 q1 q2 q3 : Int} (hN : N ≠ 0) (hp : p = N * m0 - u0 * a0 - u1 * b0) (h1 : E1 = N * m1 - u0 * a1 - u1 * b1) (h2 : E2 = N * m2 - u0 * a2 - u1 * b2) (hx1 : N * x1 = p * a1 - a0 * E1) (hx2 : N * x2 = p * a2 - a0 * E2) (hy1 : N * y1 = p * b1 - b0 * E1) (hy2 : N * y2 = p * b2 - b0 * E2) (hq1 : a1 * b2 - b1 * a2 = N * q1) (hq2 : a1 * b0 - b1 * a0 = N * q2) (hq3 : a2 * b0 - b2 * a0 = N * q3) : x1 * y2 - y1 * x2 = p * (m0 * q1 - m2 * q2 + m1 * q3) := by
  have e1 : (N * x1) * (N * y2) - (N * y1) * (N * x2) = p * (p * (a1 * b2 - b1 * a2) - b0 * (a1 * E2 - E1 * a2) + a0 * (b1 * E2 - E1 * b2)) := by rw [hx1, hx2, hy1, hy2]; grind
  have e2 : p * (a1 * b2 - b1 * a2) - b0 * (a1 * E2 - E1 * a2) + a0 * (b1 * E2 - E1 * b2) = N * (m0 * (a1 * b2 - b1 * a2) - m2 * (a1 * b0 - b1 * a0) + m1 * (a2 * b0 - b2 * a0)) := by rw [hp, h1, h2]; grind
  rw [e2, hq1, hq2, hq3, al00] at e1
  have e3 := al01 e1
  exact Int.eq_of_mul_eq_mul_left (fun q => by
    rcases Int.mul_eq_zero.mp q with q | q <;> exact hN q) e3
theorem al3 {N p Ec Ef uc uf w mc mf tc tf xc xf : Int} (hN : N ≠ 0) (hEc : Ec = N * mc - uc) (hEf : Ef = N * mf - uf) (hw : uc * tf - tc * uf = N * w) (t0 : Int) (hxc : N * xc = p * tc - t0 * Ec) (hxf : N * xf = p * tf - t0 * Ef) : xc * Ef - Ec * xf = p * (tc * mf - mc * tf + w) := by
  have e1 : N * (xc * Ef - Ec * xf) = (N * xc) * Ef - Ec * (N * xf) := by grind
  rw [hxc, hxf] at e1
  have e2 : (p * tc - t0 * Ec) * Ef - Ec * (p * tf - t0 * Ef) = p * (tc * Ef - Ec * tf) := by grind
  have e3 : tc * Ef - Ec * tf = N * (tc * mf - mc * tf + w) := by rw [hEc, hEf]; grind
  rw [e2, e3] at e1
  have e4 : N * (xc * Ef - Ec * xf) = N * (p * (tc * mf - mc * tf + w)) := by rw [e1]; grind
  exact Int.eq_of_mul_eq_mul_left hN e4
/-- a pivot more -/
def upC (cs : Nat → Nat) (k c : Nat) : Nat → Nat := fun j => if j = k then c else cs j
theorem AB_step (h : AB n k N cs t) (hm : ∀ f, f < n → bd (m f) 30) (hkn : k < n) (hc : c < n) (hp : sE k N cs t m c ≠ 0) {t' : Nat → Nat → Int} (ht : ∀ j f, j < k → f < n → N * t' j f = sE k N cs t m c * t j f - t j c * sE k N cs t m f ∧ bd (t' j f) (Dk (k + 1))) {t2 : Nat → Nat → Int} (h2 : ∀ j f, j < k → f < n → t2 j f = t' j f) (h3 : ∀ f, f < n → t2 k f = sE k N cs t m f) : AB n (k + 1) (sE k N cs t m c) (upC cs k c) t2 := by
  obtain ⟨a1, a2, a3, a4, a5, a6, a7, a8⟩ := id h
  have hup : ∀ j, j < k → upC cs k c j = cs j := fun j hj => if_neg (by omega)
  have huk : upC cs k c k = c := if_pos rfl
  refine ⟨hkn, a2, hp, fun j hj => ?_, fun i j hi hj => ?_, sE_bd h hm hc (by omega), fun j f hj hf => ?_, fun hk3 l j x f hl hj hx hf => ?_⟩
  · by_cases w : j = k
    · rw [w, huk]; exact hc
    · rw [hup j (by omega)]; exact a4 j (by omega)
  · by_cases wi : i = k
    · subst wi
      rw [huk]
      by_cases wj : j = i
      · subst wj
        rw [if_pos rfl, h3 c hc]
      · rw [if_neg wj, h2 j c (by omega) hc]
        have := (ht j c (by omega) hc).1
        have h0 : N * t' j c = 0 := by rw [this, Int.mul_comm]; exact Int.sub_self _
        exact (Int.mul_eq_zero.mp h0).resolve_left a3
    · rw [hup i (by omega)]
      have hci := a4 i (by omega)
      by_cases wj : j = k
      · subst wj
        rw [if_neg (fun e => wi e.symm), h3 _ hci, sE_piv h (by omega)]
      · rw [h2 j _ (by omega) hci]
        have := (ht j (cs i) (by omega) hci).1
        rw [sE_piv h (show i < k by omega), a5 i j (by omega) (by omega), Int.mul_zero, Int.sub_zero] at this
        by_cases w : j = i
        · rw [if_pos w] at this ⊢
          rw [Int.mul_comm (sE k N cs t m c)] at this
          exact Int.eq_of_mul_eq_mul_left a3 this
        · rw [if_neg w, Int.mul_zero] at this
          rw [if_neg w]
          exact (Int.mul_eq_zero.mp this).resolve_left a3
  · by_cases w : j = k
    · rw [w, h3 f hf]; exact sE_bd h hm hf (by omega)
    · rw [h2 j f (by omega) hf]; exact (ht j f (by omega) hf).2
  · have hd := a8 (by omega)
    -- a row with the new one
    have new : ∀ j x f, j < k → x < n → f < n → ∃ b : Int, t2 j x * t2 k f - t2 k x * t2 j f = sE k N cs t m c * b ∧ bd b (Dk (k + 1)) := by
      intro j x f hj hx hf
      obtain ⟨w, hw⟩ : ∃ w : Nat → Int, ∀ l, l < k → (t l x * t j f - t j x * t l f = N * w l ∧ bd (w l) (Dk k)) := by
        refine ⟨fun l => if h : l < k then Classical.choose (hd l j x f h hj hx hf) else 0, fun l hl => ?_⟩
        show _ = N * (dite _ _ _) ∧ bd (dite _ _ _) _
        rw [dif_pos hl]
        exact Classical.choose_spec (hd l j x f hl hj hx hf)
      have hwj : w j = 0 := by
        have := (hw j hj).1
        rw [Int.sub_self] at this
        exact (Int.mul_eq_zero.mp this.symm).resolve_left a3
      have hs := sU_lin (cs := cs) (m := m) (u := fun l => t l x) (v := fun l => t l f) (x := t j f) (y := t j x) (N := N) (w := w) k (fun l hl => (hw l hl).1)
      refine ⟨t j x * m f - m x * t j f + sU cs m w k, ?_, ?_⟩
      · rw [h2 j x hj hx, h2 j f hj hf, h3 x hx, h3 f hf]
        exact al3 a3 rfl rfl hs (t j c) (ht j x hj hx).1 (ht j f hj hf).1
      · have b1 := bd_mul (a7 j x hj hx) (hm f hf)
        have b2 := bd_mul (hm x hx) (a7 j f hj hf)
        have b3 : ∀ l, l < k → bd (m (cs l) * w l) (30 * Dk k) := fun l hl => bd_mul (hm _ (a4 l hl)) (hw l hl).2
        rcases (show k = 0 ∨ k = 1 ∨ k = 2 by omega) with rfl | rfl | rfl
        · omega
        · have : j = 0 := by omega
          subst this
          unfold sU sU
          rw [hwj, Int.mul_zero]
          have d1 : Dk 1 = 30 := rfl
          have d2 : Dk (1 + 1) = 1800 := rfl
          unfold bd at *
          omega
        · have c0 := b3 0 (by omega)
          have c1 := b3 1 (by omega)
          unfold sU sU sU
          have d1 : Dk 2 = 1800 := rfl
          have d2 : Dk (2 + 1) = 162000 := rfl
          rcases (show j = 0 ∨ j = 1 by omega) with rfl | rfl
          · rw [hwj, Int.mul_zero]
            unfold bd at *
            omega
          · rw [hwj, Int.mul_zero]
            unfold bd at *
            omega
    have zero : ∀ x f, ∃ b : Int, t2 l x * t2 l f - t2 l x * t2 l f = sE k N cs t m c * b ∧ bd b (Dk (k + 1)) := fun x f => ⟨0, by rw [Int.sub_self, Int.mul_zero], by have := Dk_pos (k + 1); unfold bd; omega⟩
    by_cases wl : l = k
    · by_cases wj : j = k
      · subst wj
        subst wl
        obtain ⟨b, e, hb⟩ := zero x f
        refine ⟨0, ?_, by have := Dk_pos (l + 1); unfold bd; omega⟩
        rw [Int.mul_zero]
        grind
      · subst wl
        obtain ⟨b, e, hb⟩ := new j x f (by omega) hx hf
        refine ⟨-b, ?_, by unfold bd at *; omega⟩
        rw [Int.mul_neg, ← e]
        grind
    · by_cases wj : j = k
      · subst wj
        exact new l x f (by omega) hx hf
      · by_cases wlj : l = j
        · subst wlj
          refine ⟨0, ?_, by have := Dk_pos (k + 1); unfold bd; omega⟩
          rw [Int.mul_zero]
          grind
        · have hk2 : k = 2 := by omega
          subst hk2
          have main : ∀ x f, x < n → f < n → ∃ b : Int, t2 0 x * t2 1 f - t2 1 x * t2 0 f = sE 2 N cs t m c * b ∧ bd b (Dk (2 + 1)) := by
            intro x f hx hf
            obtain ⟨q1, r1, s1⟩ := hd 0 1 x f (by omega) (by omega) hx hf
            obtain ⟨q2, r2, s2⟩ := hd 0 1 x c (by omega) (by omega) hx hc
            obtain ⟨q3, r3, s3⟩ := hd 0 1 f c (by omega) (by omega) hf hc
            refine ⟨m c * q1 - m f * q2 + m x * q3, ?_, ?_⟩
            · rw [h2 0 x (by omega) hx, h2 0 f (by omega) hf, h2 1 x (by omega) hx, h2 1 f (by omega) hf]
              have eE : ∀ z, sE 2 N cs t m z = N * m z - m (cs 0) * t 0 z - m (cs 1) * t 1 z := by
                intro z
                unfold sE sU sU sU
                grind
              exact al2 a3 (eE c) (eE x) (eE f) (ht 0 x (by omega) hx).1 (ht 0 f (by omega) hf).1 (ht 1 x (by omega) hx).1 (ht 1 f (by omega) hf).1 r1 r2 r3
            · have b1 := bd_mul (hm c hc) s1
              have b2 := bd_mul (hm f hf) s2
              have b3 := bd_mul (hm x hx) s3
              have d1 : Dk 2 = 1800 := rfl
              have d2 : Dk (2 + 1) = 162000 := rfl
              unfold bd at *
              omega
          rcases (show (l = 0 ∧ j = 1) ∨ (l = 1 ∧ j = 0) by omega) with ⟨rfl, rfl⟩ | ⟨rfl, rfl⟩
          · exact main x f hx hf
          · obtain ⟨b, e, hb⟩ := main x f hx hf
            refine ⟨-b, ?_, by unfold bd at *; omega⟩
            rw [Int.mul_neg, ← e]
            grind
end EL
