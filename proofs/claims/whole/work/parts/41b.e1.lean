/-! ELIMINATION: null space, shape, what is unique -/
def dt (w x : Nat → Int) : Nat → Int
  | 0 => 0
  | n + 1 => dt w x n + w n * x n
theorem dt_cg {w x y : Nat → Int} : ∀ n, (∀ f, f < n → x f = y f) → dt w x n = dt w y n
  | 0, _ => rfl
  | n + 1, h => by
    unfold dt
    rw [dt_cg n (fun f hf => h f (by omega)), h n (by omega)]
theorem dt_cgw {w v x : Nat → Int} : ∀ n, (∀ f, f < n → w f = v f) → dt w x n = dt v x n
  | 0, _ => rfl
  | n + 1, h => by
    unfold dt
    rw [dt_cgw n (fun f hf => h f (by omega)), h n (by omega)]
theorem dt_lin {w x y z : Nat → Int} {a b c : Int} : ∀ n, (∀ f, f < n → c * z f = a * x f - b * y f) → c * dt w z n = a * dt w x n - b * dt w y n
  | 0, _ => by unfold dt; simp
  | n + 1, h => by
    unfold dt
    have h1 := dt_lin (w := w) (x := x) (y := y) (z := z) (a := a) (b := b) (c := c) n (fun f hf => h f (by omega))
    have h2 := h n (by omega)
    generalize dt w z n = p at h1 ⊢
    generalize dt w x n = q at h1 ⊢
    generalize dt w y n = r at h1 ⊢
    generalize z n = zn at h2 ⊢
    generalize x n = xn at h2 ⊢
    generalize y n = yn at h2 ⊢
    generalize w n = wn
    clear h
    have e : c * (p + wn * zn) = c * p + wn * (c * zn) := by grind
    rw [e, h1, h2]
    grind
theorem dt_zero {w x : Nat → Int} : ∀ n, (∀ f, f < n → w f * x f = 0) → dt w x n = 0
  | 0, _ => rfl
  | n + 1, h => by
    unfold dt
    rw [dt_zero n (fun f hf => h f (by omega)), h n (by omega)]
    rfl
/-- one place taken out -/
theorem dt_one {w x : Nat → Int} {a : Nat} : ∀ n, a < n → dt w x n = w a * x a + dt w (fun f => if f = a then 0 else x f) n
  | 0, h => by omega
  | n + 1, h => by
    unfold dt
    by_cases w1 : a = n
    · subst w1
      rw [if_pos rfl, Int.mul_zero, Int.add_zero, Int.add_comm]
      congr 1
      exact dt_cg a (fun f hf => (if_neg (by omega)).symm)
    · rw [dt_one (a := a) n (by omega), if_neg (fun e => w1 e.symm), Int.add_assoc]
theorem dt_add {w x y : Nat → Int} : ∀ n, dt w (fun f => x f + y f) n = dt w x n + dt w y n
  | 0 => rfl
  | n + 1 => by
    unfold dt
    rw [dt_add n]
    grind
theorem dt_sU {w : Nat → Int} {cs : Nat → Nat} {m : Nat → Int} {t : Nat → Nat → Int} {n : Nat} : ∀ k, dt w (fun f => sU cs m (fun l => t l f) k) n = sU cs m (fun l => dt w (t l) n) k
  | 0 => dt_zero n (fun f _ => by show w f * 0 = 0; simp)
  | k + 1 => by
    show dt w (fun f => sU cs m (fun l => t l f) k + m (cs k) * t k f) n = _
    rw [dt_add, dt_sU k]
    show _ = sU cs m (fun l => dt w (t l) n) k + m (cs k) * dt w (t k) n
    congr 1
    have := dt_lin (w := w) (x := t k) (y := fun _ => 0) (z := fun f => m (cs k) * t k f) (a := m (cs k)) (b := 0) (c := 1) n (fun f _ => by simp)
    simpa using this
section NS
variable {n k : Nat} {N : Int} {cs : Nat → Nat} {t : Nat → Nat → Int} {m w : Nat → Int} {c : Nat}
/-- w is zero on all rows -/
def nsp (n k : Nat) (t : Nat → Nat → Int) (w : Nat → Int) : Prop := ∀ j, j < k → dt w (t j) n = 0
theorem dt_sE : dt w (sE k N cs t m) n = N * dt w m n - sU cs m (fun l => dt w (t l) n) k := by
  have h := dt_lin (w := w) (x := m) (y := fun f => sU cs m (fun l => t l f) k) (z := sE k N cs t m) (a := N) (b := 1) (c := 1) n (fun f _ => by unfold sE; simp)
  rw [dt_sU] at h
  simpa using h
theorem nsp_E (hN : N ≠ 0) : (nsp n k t w ∧ dt w (sE k N cs t m) n = 0) ↔ (nsp n k t w ∧ dt w m n = 0) := by
  constructor
  · rintro ⟨h1, h2⟩
    refine ⟨h1, ?_⟩
    rw [dt_sE, sU_zero k (fun l hl => h1 l hl), Int.sub_zero] at h2
    exact (Int.mul_eq_zero.mp h2).resolve_left hN
  · rintro ⟨h1, h2⟩
    refine ⟨h1, ?_⟩
    rw [dt_sE, sU_zero k (fun l hl => h1 l hl), h2]
    simp
theorem nsp_step (hN : N ≠ 0) (hp : sE k N cs t m c ≠ 0) {t2 : Nat → Nat → Int} (h2 : ∀ j f, j < k → f < n → N * t2 j f = sE k N cs t m c * t j f - t j c * sE k N cs t m f) (h3 : ∀ f, f < n → t2 k f = sE k N cs t m f) : nsp n (k + 1) t2 w ↔ (nsp n k t w ∧ dt w m n = 0) := by
  rw [← nsp_E (cs := cs) hN]
  have eE : dt w (t2 k) n = dt w (sE k N cs t m) n := dt_cg n h3
  have eJ : ∀ j, j < k → N * dt w (t2 j) n = sE k N cs t m c * dt w (t j) n - t j c * dt w (sE k N cs t m) n := fun j hj => dt_lin n (fun f hf => h2 j f hj hf)
  constructor
  · intro h
    have h0 : dt w (sE k N cs t m) n = 0 := by rw [← eE]; exact h k (by omega)
    refine ⟨fun j hj => ?_, h0⟩
    have := eJ j hj
    rw [h j (by omega), h0, Int.mul_zero, Int.mul_zero, Int.sub_zero] at this
    exact (Int.mul_eq_zero.mp this.symm).resolve_left hp
  · rintro ⟨h, h0⟩ j hj
    by_cases w1 : j = k
    · rw [w1, eE]; exact h0
    · have := eJ j (by omega)
      rw [h j (by omega), h0, Int.mul_zero, Int.mul_zero, Int.sub_zero] at this
      exact (Int.mul_eq_zero.mp this).resolve_left hN
/-- a row that has nothing left adds nothing -/
theorem nsp_none (hN : N ≠ 0) (hz : ∀ f, f < n → sE k N cs t m f = 0) : nsp n k t w ↔ (nsp n k t w ∧ dt w m n = 0) := by
  rw [← nsp_E (cs := cs) hN]
  exact ⟨fun h => ⟨h, dt_zero n (fun f hf => by rw [hz f hf, Int.mul_zero])⟩, fun h => h.1⟩
/-- each row begins at its pivot -/
def shp (n k : Nat) (cs : Nat → Nat) (t : Nat → Nat → Int) : Prop := ∀ j f, j < k → f < cs j → t j f = 0
def fre (k : Nat) (cs : Nat → Nat) (f : Nat) : Prop := ∀ i, i < k → cs i ≠ f
/-- a row against w: its pivot's place, and the free ones -/
theorem dt_piv (h : AB n k N cs t) {j : Nat} (hj : j < k) {y : Nat → Int} (hy : ∀ f, f < n → y f = if f = cs j then 0 else t j f) : dt w (t j) n = w (cs j) * N + dt w y n := by
  rw [dt_one (a := cs j) n (h.2.2.2.1 j hj), h.2.2.2.2.1 j j hj hj, if_pos rfl]
  congr 1
  exact dt_cg n (fun f hf => by rw [hy f hf])
/-- w zero in all free places but f -/
theorem dt_fre (h : AB n k N cs t) {j f : Nat} (hj : j < k) (hf : f < n) (hfr : fre k cs f) (hw : ∀ g, g < n → fre k cs g → g ≠ f → w g = 0) : dt w (t j) n = w (cs j) * N + w f * t j f := by
  have hne : cs j ≠ f := hfr j hj
  rw [dt_piv h hj (y := fun g => if g = cs j then 0 else t j g) (fun g _ => rfl)]
  congr 1
  rw [dt_one (a := f) n hf, if_neg (fun e => hne e.symm)]
  rw [dt_zero n (fun g hg => ?_), Int.add_zero]
  by_cases e1 : g = f
  · rw [if_pos e1, Int.mul_zero]
  · rw [if_neg e1]
    by_cases e2 : g = cs j
    · rw [if_pos e2, Int.mul_zero]
    · rw [if_neg e2]
      by_cases e3 : fre k cs g
      · rw [hw g hg e3 e1, Int.zero_mul]
      · obtain ⟨i, hi⟩ : ∃ i, i < k ∧ cs i = g := by
          rcases Classical.em (∃ i, i < k ∧ cs i = g) with q | q
          · exact q
          · exact absurd (fun i hi e => q ⟨i, hi, e⟩) e3
        rw [← hi.2, h.2.2.2.2.1 i j hi.1 hj, if_neg (fun e => e2 (by rw [← hi.2, e])), Int.mul_zero]
/-- the vector of a free place -/
def bvec (k : Nat) (N : Int) (cs : Nat → Nat) (t : Nat → Nat → Int) (f : Nat) : Nat → (Nat → Int) := fun _ g => if g = f then N else sU (fun i => i) (fun i => if cs i = g then 1 else 0) (fun i => -t i f) k
theorem bvec_piv (h : AB n k N cs t) {f j : Nat} (hj : j < k) (hfr : fre k cs f) : bvec k N cs t f 0 (cs j) = -t j f := by
  unfold bvec
  rw [if_neg (hfr j hj)]
  have : ∀ k', k' ≤ k → sU (fun i => i) (fun i => if cs i = cs j then (1 : Int) else 0) (fun i => -t i f) k' = if j < k' then -t j f else 0 := by
    intro k'
    induction k' with
    | zero => intro _; rfl
    | succ k' ih =>
      intro hk
      unfold sU
      rw [ih (by omega)]
      by_cases e : k' = j
      · subst e
        rw [if_neg (by omega), if_pos rfl, if_pos (by omega)]
        simp
      · rw [if_neg (fun q => e (AB_inj h (by omega) hj q))]
        by_cases e2 : j < k'
        · rw [if_pos e2, if_pos (by omega)]; simp
        · rw [if_neg e2, if_neg (by omega)]; simp
  rw [this k (Nat.le_refl _), if_pos hj]
theorem bvec_fre {f g : Nat} (hg : fre k cs g) (hne : g ≠ f) : bvec k N cs t f 0 g = 0 := by
  unfold bvec
  rw [if_neg hne]
  have : ∀ k', k' ≤ k → sU (fun i => i) (fun i => if cs i = g then (1 : Int) else 0) (fun i => -t i f) k' = 0 := by
    intro k'
    induction k' with
    | zero => intro _; rfl
    | succ k' ih =>
      intro hk
      unfold sU
      rw [ih (by omega), if_neg (hg k' (by omega))]
      simp
  exact this k (Nat.le_refl _)
theorem bvec_ns (h : AB n k N cs t) {f : Nat} (hf : f < n) (hfr : fre k cs f) : nsp n k t (bvec k N cs t f 0) := by
  intro j hj
  rw [dt_fre h hj hf hfr (fun g _ hg hne => bvec_fre hg hne), bvec_piv h hj hfr, show bvec k N cs t f 0 f = N from if_pos rfl]
  grind
/-- which places are free, the null space says -/
theorem fre_iff (h : AB n k N cs t) (hs : shp n k cs t) {f : Nat} (hf : f < n) : fre k cs f ↔ ∃ w, nsp n k t w ∧ w f ≠ 0 ∧ ∀ g, f < g → g < n → w g = 0 := by
  constructor
  · intro hfr
    refine ⟨bvec k N cs t f 0, bvec_ns h hf hfr, by rw [show bvec k N cs t f 0 f = N from if_pos rfl]; exact h.2.2.1, fun g hg hgn => ?_⟩
    by_cases e : fre k cs g
    · exact bvec_fre e (by omega)
    · obtain ⟨i, hi⟩ : ∃ i, i < k ∧ cs i = g := by
        rcases Classical.em (∃ i, i < k ∧ cs i = g) with q | q
        · exact q
        · exact absurd (fun i hi e => q ⟨i, hi, e⟩) e
      rw [← hi.2, bvec_piv h hi.1 hfr, hs i f hi.1 (by rw [hi.2]; exact hg)]
      rfl
  · rintro ⟨w, h1, h2, h3⟩ i hi e
    subst e
    have := h1 i hi
    rw [dt_one (a := cs i) n hf, dt_zero n (fun g hg => ?_), Int.add_zero, h.2.2.2.2.1 i i hi hi, if_pos rfl] at this
    · rcases Int.mul_eq_zero.mp this with q | q
      · exact h2 q
      · exact h.2.2.1 q
    · by_cases e1 : g = cs i
      · rw [if_pos e1, Int.mul_zero]
      · rw [if_neg e1]
        rcases Nat.lt_or_gt_of_ne e1 with q | q
        · rw [hs i g hi q, Int.mul_zero]
        · rw [h3 g q hg, Int.zero_mul]
/-- two vectors of one free place are parallel -/
theorem par (h : AB n k N cs t) {f : Nat} (hf : f < n) (hfr : fre k cs f) {u v : Nat → Int} (hu : nsp n k t u) (hv : nsp n k t v) (hu0 : ∀ g, g < n → fre k cs g → g ≠ f → u g = 0) (hv0 : ∀ g, g < n → fre k cs g → g ≠ f → v g = 0) : ∀ g, g < n → v f * u g = u f * v g := by
  intro g hg
  by_cases e : fre k cs g
  · by_cases e2 : g = f
    · rw [e2, Int.mul_comm]
    · rw [hu0 g hg e e2, hv0 g hg e e2]; simp
  · obtain ⟨i, hi⟩ : ∃ i, i < k ∧ cs i = g := by
      rcases Classical.em (∃ i, i < k ∧ cs i = g) with q | q
      · exact q
      · exact absurd (fun i hi e => q ⟨i, hi, e⟩) e
    have h1 := hu i hi.1
    have h2 := hv i hi.1
    rw [dt_fre h hi.1 hf hfr hu0, hi.2] at h1
    rw [dt_fre h hi.1 hf hfr hv0, hi.2] at h2
    have e3 : N * (v f * u g) = N * (u f * v g) := by
      generalize u g = ug at *
      generalize v g = vg at *
      generalize u f = uf at *
      generalize v f = vf at *
      generalize t i f = tf at *
      clear hu hv hu0 hv0 h hfr
      have a1 : ug * N = -(uf * tf) := by omega
      have a2 : vg * N = -(vf * tf) := by omega
      have b1 : N * (vf * ug) = vf * (ug * N) := by grind
      have b2 : N * (uf * vg) = uf * (vg * N) := by grind
      rw [b1, b2, a1, a2]
      grind
    exact Int.eq_of_mul_eq_mul_left h.2.2.1 e3
end NS
/-- primitive vectors that are parallel and point one way are one -/
def gcV (w : Nat → Int) : Nat → Nat
  | 0 => 0
  | n + 1 => Nat.gcd (gcV w n) (w n).natAbs
theorem gcV_dvd {w : Nat → Int} : ∀ n f, f < n → gcV w n ∣ (w f).natAbs
  | 0, f, h => by omega
  | n + 1, f, h => by
    unfold gcV
    by_cases e : f = n
    · rw [e]; exact Nat.gcd_dvd_right _ _
    · exact Nat.dvd_trans (Nat.gcd_dvd_left _ _) (gcV_dvd n f (by omega))
theorem dvd_gcV {w : Nat → Int} {d : Nat} : ∀ n, (∀ f, f < n → d ∣ (w f).natAbs) → d ∣ gcV w n
  | 0, _ => Nat.dvd_zero _
  | n + 1, h => by
    unfold gcV
    exact Nat.dvd_gcd (dvd_gcV n (fun f hf => h f (by omega))) (h n (by omega))
theorem gcV_mul {w v : Nat → Int} {a : Nat} : ∀ n, (∀ f, f < n → (w f).natAbs = a * (v f).natAbs) → gcV w n = a * gcV v n
  | 0, _ => by simp [gcV]
  | n + 1, h => by
    unfold gcV
    rw [gcV_mul n (fun f hf => h f (by omega)), h n (by omega), Nat.gcd_mul_left]
theorem prim_eq {u v : Nat → Int} {n f : Nat} (hf : f < n) (hu : gcV u n = 1) (hv : gcV v n = 1) (huf : 0 < u f) (hvf : 0 < v f) (hp : ∀ g, g < n → v f * u g = u f * v g) : ∀ g, g < n → u g = v g := by
  have e1 : gcV (fun g => v f * u g) n = (v f).natAbs * gcV u n := gcV_mul n (fun g _ => Int.natAbs_mul _ _)
  have e2 : gcV (fun g => u f * v g) n = (u f).natAbs * gcV v n := gcV_mul n (fun g _ => Int.natAbs_mul _ _)
  have e3 : ∀ n', n' ≤ n → gcV (fun g => v f * u g) n' = gcV (fun g => u f * v g) n' := by
    intro n'
    induction n' with
    | zero => intro _; rfl
    | succ n' ih =>
      intro h
      show Nat.gcd (gcV (fun g => v f * u g) n') (v f * u n').natAbs = Nat.gcd (gcV (fun g => u f * v g) n') (u f * v n').natAbs
      rw [ih (by omega), hp n' (by omega)]
  have e4 := e3 n (Nat.le_refl _)
  rw [e1, e2, hu, hv] at e4
  have e5 : v f = u f := by omega
  intro g hg
  have := hp g hg
  rw [e5] at this
  exact Int.eq_of_mul_eq_mul_left (by omega) this
