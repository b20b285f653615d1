/-! ELIMINATION: the basis, on both sides -/
theorem inc_eq1 {k k' : Nat} {f g : Nat → Nat} (hf : ∀ i j, i < j → j < k → f i < f j) (hg : ∀ i j, i < j → j < k' → g i < g j) (h1 : ∀ i, i < k → ∃ j, j < k' ∧ g j = f i) (h2 : ∀ i, i < k' → ∃ j, j < k ∧ f j = g i) : ∀ q i, i ≤ q → i < k → i < k' ∧ f i = g i
  | q, i, hiq, hi => by
    have ih : ∀ j, j < i → j < k' ∧ f j = g j := fun j hj => by
      cases q with
      | zero => omega
      | succ q => exact inc_eq1 hf hg h1 h2 q j (by omega) (by omega)
    obtain ⟨j, hj, hje⟩ := h1 i hi
    have hij : i ≤ j := by
      rcases Nat.lt_or_ge j i with w | w
      · have e := (ih j w).2
        have := hf j i w hi
        omega
      · exact w
    have hik : i < k' := by omega
    have hle : g i ≤ f i := by
      rcases Nat.lt_or_ge i j with w | w
      · have := hg i j w hj; omega
      · have : i = j := by omega
        rw [← hje, this]
        exact Nat.le_refl _
    obtain ⟨l, hl, hle2⟩ := h2 i hik
    have hil : i ≤ l := by
      rcases Nat.lt_or_ge l i with w | w
      · have e := (ih l w).2
        have := hg l i w hik
        omega
      · exact w
    have hge : f i ≤ g i := by
      rcases Nat.lt_or_ge i l with w | w
      · have := hf i l w hl; omega
      · have : i = l := by omega
        rw [← hle2, this]
        exact Nat.le_refl _
    exact ⟨hik, by omega⟩
theorem not_fre {k : Nat} {cs : Nat → Nat} {f : Nat} (h : ¬ fre k cs f) : ∃ i, i < k ∧ cs i = f := by
  rcases Classical.em (∃ i, i < k ∧ cs i = f) with q | q
  · exact q
  · exact absurd (fun i hi e => q ⟨i, hi, e⟩) h
/-- one null space, one set of leads -/
theorem lead_eq {n k k' : Nat} {N N' : Int} {cs cs' : Nat → Nat} {t t' : Nat → Nat → Int} (h : AB n k N cs t) (h' : AB n k' N' cs' t') (hs : shp n k cs t) (hs' : shp n k' cs' t') (ho : ∀ i j, i < j → j < k → cs i < cs j) (ho' : ∀ i j, i < j → j < k' → cs' i < cs' j) (hN : ∀ w, nsp n k t w ↔ nsp n k' t' w) : k = k' ∧ ∀ i, i < k → cs i = cs' i := by
  have hfre : ∀ f, f < n → (fre k cs f ↔ fre k' cs' f) := by
    intro f hf
    rw [fre_iff h hs hf, fre_iff h' hs' hf]
    exact ⟨fun ⟨w, h1, h2⟩ => ⟨w, (hN w).mp h1, h2⟩, fun ⟨w, h1, h2⟩ => ⟨w, (hN w).mpr h1, h2⟩⟩
  have h1 : ∀ i, i < k → ∃ j, j < k' ∧ cs' j = cs i := fun i hi => not_fre (fun q => (hfre _ (h.2.2.2.1 i hi)).mpr q i hi rfl)
  have h2 : ∀ i, i < k' → ∃ j, j < k ∧ cs j = cs' i := fun i hi => not_fre (fun q => (hfre _ (h'.2.2.2.1 i hi)).mp q i hi rfl)
  have a := inc_eq1 ho ho' h1 h2 k
  have b := inc_eq1 ho' ho h2 h1 k'
  refine ⟨?_, fun i hi => (a i (by omega) hi).2⟩
  rcases Nat.lt_trichotomy k k' with q | q | q
  · have := (b k (by omega) q).1; omega
  · exact q
  · have := (a k' (by omega) q).1; omega
/-- the vector of a free place, made primitive -/
def BV (n k : Nat) (cs : Nat → Nat) (f : Nat) (NS : (Nat → Int) → Prop) (w : Nat → Int) : Prop := NS w ∧ (∀ g, g < n → fre k cs g → g ≠ f → w g = 0) ∧ gcV w n = 1 ∧ 0 < w f
theorem BV_eq {n k : Nat} {N : Int} {cs : Nat → Nat} {t : Nat → Nat → Int} {f : Nat} {NS : (Nat → Int) → Prop} {u v : Nat → Int} (h : AB n k N cs t) (hN : ∀ w, nsp n k t w ↔ NS w) (hf : f < n) (hfr : fre k cs f) (hu : BV n k cs f NS u) (hv : BV n k cs f NS v) : ∀ g, g < n → u g = v g :=
  prim_eq hf hu.2.2.1 hv.2.2.1 hu.2.2.2 hv.2.2.2 (par h hf hfr ((hN u).mpr hu.1) ((hN v).mpr hv.1) hu.2.1 hv.2.1)
theorem BV_bd {n k : Nat} {N : Int} {cs : Nat → Nat} {t : Nat → Nat → Int} {f : Nat} {NS : (Nat → Int) → Prop} {u : Nat → Int} (h : AB n k N cs t) (hN : ∀ w, nsp n k t w ↔ NS w) (hf : f < n) (hfr : fre k cs f) (hu : BV n k cs f NS u) : ∀ g, g < n → bd (u g) (Dk k) := by
  intro g hg
  have hp := par h hf hfr ((hN u).mpr hu.1) (bvec_ns h hf hfr) hu.2.1 (fun g _ hg hne => bvec_fre hg hne)
  have hb : bd (bvec k N cs t f 0 g) (Dk k) := by
    by_cases e : fre k cs g
    · by_cases e2 : g = f
      · rw [e2, show bvec k N cs t f 0 f = N from if_pos rfl]; exact h.2.2.2.2.2.1
      · rw [bvec_fre e e2]; have := Dk_pos k; unfold bd; omega
    · obtain ⟨i, hi, hig⟩ := not_fre e
      rw [← hig, bvec_piv h hi hfr]
      have := h.2.2.2.2.2.2.1 i f hi hf
      unfold bd at *
      omega
  refine prl_bd (F := u) (v := bvec k N cs t f 0) ?_ hg hb
  refine prl_div (x := N) (y := u f) h.2.2.1 (by have := hu.2.2.2; omega) (Or.inl hu.2.2.1) (fun c hc => ?_)
  have := hp c hc
  rw [show bvec k N cs t f 0 f = N from if_pos rfl] at this
  exact this
-- the class's
theorem baR_out {R : Nat → Nat → Int64} {L : Nat → Nat} {p : Nat} {sc : Int64} {c : Nat} : ∀ m r b, (∀ i, r ≤ i → i < r + m → L i ≠ c) → baR R L p sc m r b c = b c
  | 0, _, _, _ => rfl
  | m + 1, r, b, h => by
    show baR R L p sc m (r + 1) _ c = _
    rw [baR_out m (r + 1) _ (fun i h1 h2 => h i (by omega) (by omega))]
    split
    · rfl
    · show (if c = L r then _ else _) = _
      rw [if_neg (fun q => h r (by omega) (by omega) q.symm)]
theorem baR_in {R : Nat → Nat → Int64} {L : Nat → Nat} {p : Nat} {sc : Int64} {i : Nat} (hnz : ¬ R i (L i) = 0) : ∀ m r b, r ≤ i → i < r + m → (∀ j, i < j → j < r + m → L j ≠ L i) → baR R L p sc m r b (L i) = -(R i p * sc / R i (L i))
  | 0, r, _, h1, h2, _ => by omega
  | m + 1, r, b, h1, h2, h3 => by
    show baR R L p sc m (r + 1) _ (L i) = _
    by_cases e : r = i
    · subst e
      rw [baR_out m (r + 1) _ (fun j h4 h5 => h3 j (by omega) (by omega)), if_neg hnz]
      exact if_pos rfl
    · exact baR_in hnz m (r + 1) _ (by omega) (by omega) (fun j h4 h5 => h3 j h4 (by omega))
def roN (R : Nat → Nat → Int64) (L : Nat → Nat) (p r : Nat) : Nat := (R r (L r)).toInt.natAbs / Nat.gcd (R r (L r)).toInt.natAbs (R r p).toInt.natAbs
theorem slD_ok {R : Nat → Nat → Int64} {L : Nat → Nat} {p r : Nat} (h1 : 0 < (R r (L r)).toInt) (h2 : -2 ^ 63 < (R r p).toInt) : (slD R L r p).toInt = (roN R L p r : Int) ∧ 0 < roN R L p r := by
  have hg := gcD_gcd (a := R r (L r)) (b := R r p) (by omega) h2
  have hp : 0 < Nat.gcd (R r (L r)).toInt.natAbs (R r p).toInt.natAbs := Nat.gcd_pos_of_pos_left _ (by omega)
  have hro : 0 < roN R L p r := Nat.div_pos (Nat.le_of_dvd (by omega) (Nat.gcd_dvd_left _ _)) hp
  refine ⟨?_, hro⟩
  unfold slD
  rw [if_pos (Int64.lt_iff_toInt_lt.mpr (by rw [hg, show (0 : Int64).toInt = 0 from rfl]; omega)), i64_div (by omega), hg]
  unfold roN
  rw [Int.tdiv_eq_ediv_of_nonneg (by omega), Int.natCast_ediv]
  congr 1
  omega
theorem cmL_ok {x y : Int64} {X Y M : Nat} (hx : x.toInt = (X : Int)) (hy : y.toInt = (Y : Int)) (hX : 0 < X) (hM : 0 < M) (h1 : X ∣ M) (h2 : Y ∣ M) (hb : M < 2 ^ 60) : (cmL x y).toInt = (Nat.lcm X Y : Int) := by
  have hg := gcD_gcd (a := x) (b := y) (by omega) (by omega)
  rw [hx, hy, Int.natAbs_natCast, Int.natAbs_natCast] at hg
  have hp : 0 < Nat.gcd X Y := Nat.gcd_pos_of_pos_left _ hX
  have hlM := Nat.le_of_dvd hM (Nat.lcm_dvd h1 h2)
  have e : X / Nat.gcd X Y * Y = Nat.lcm X Y := by
    refine Nat.eq_of_mul_eq_mul_left hp ?_
    rw [Nat.gcd_mul_lcm, ← Nat.mul_assoc, Nat.mul_div_cancel' (Nat.gcd_dvd_left _ _)]
  unfold cmL
  rw [if_pos (Int64.lt_iff_toInt_lt.mpr (by rw [hg, show (0 : Int64).toInt = 0 from rfl]; omega))]
  have e1 : (x / gcD x y).toInt = ((X / Nat.gcd X Y : Nat) : Int) := by
    rw [i64_div (by omega), hg, hx, Int.tdiv_eq_ediv_of_nonneg (by omega), Int.natCast_ediv]
  have e2 : (x / gcD x y).toInt * y.toInt = (Nat.lcm X Y : Int) := by
    rw [e1, hy, ← Int.natCast_mul, e]
  rw [i64_mul (by rw [e2]; omega) (by rw [e2]; omega), e2]
theorem scF_ok {R : Nat → Nat → Int64} {L : Nat → Nat} {p k M : Nat} (hM : 0 < M) (hb : M < 2 ^ 60) (h1 : ∀ r, r < k → 0 < (R r (L r)).toInt) (h2 : ∀ r, r < k → -2 ^ 63 < (R r p).toInt) (h3 : ∀ r, r < k → (R r (L r)).toInt.natAbs ∣ M) : ∀ m r (z : Int64) (Z : Nat), r + m = k → z.toInt = (Z : Int) → 0 < Z → Z ∣ M → (∀ i, i < r → roN R L p i ∣ Z) → (∀ z', (∀ i, i < r → roN R L p i ∣ z') → Z ∣ z') → ∃ Z' : Nat, (scF R L p m r z).toInt = (Z' : Int) ∧ 0 < Z' ∧ Z' ∣ M ∧ (∀ i, i < k → roN R L p i ∣ Z') ∧ ∀ z', (∀ i, i < k → roN R L p i ∣ z') → Z' ∣ z'
  | 0, r, z, Z, hr, a1, a2, a3, a4, a5 => by
    have : r = k := by omega
    subst this
    exact ⟨Z, a1, a2, a3, a4, a5⟩
  | m + 1, r, z, Z, hr, a1, a2, a3, a4, a5 => by
    obtain ⟨s1, s2⟩ := slD_ok (p := p) (h1 r (by omega)) (h2 r (by omega))
    have hroM : roN R L p r ∣ M := Nat.dvd_trans (Nat.div_dvd_of_dvd (Nat.gcd_dvd_left _ _)) (h3 r (by omega))
    have hc := cmL_ok a1 s1 a2 hM a3 hroM hb
    refine scF_ok hM hb h1 h2 h3 m (r + 1) _ (Nat.lcm Z (roN R L p r)) (by omega) hc (Nat.lcm_pos a2 s2) (Nat.lcm_dvd a3 hroM) (fun i hi => ?_) (fun z' hz => ?_)
    · by_cases e : i = r
      · rw [e]; exact Nat.dvd_lcm_right _ _
      · exact Nat.dvd_trans (a4 i (by omega)) (Nat.dvd_lcm_left _ _)
    · exact Nat.lcm_dvd (a5 z' (fun i hi => hz i (by omega))) (hz r (by omega))
theorem ro_dvd {A P z : Nat} (hA : 0 < A) : A ∣ P * z ↔ A / Nat.gcd A P ∣ z := by
  have hp : 0 < Nat.gcd A P := Nat.gcd_pos_of_pos_left _ hA
  have hco := Nat.coprime_div_gcd_div_gcd hp
  have eA : Nat.gcd A P * (A / Nat.gcd A P) = A := Nat.mul_div_cancel' (Nat.gcd_dvd_left _ _)
  have eP : Nat.gcd A P * (P / Nat.gcd A P) = P := Nat.mul_div_cancel' (Nat.gcd_dvd_right _ _)
  generalize A / Nat.gcd A P = a at *
  generalize P / Nat.gcd A P = q at *
  generalize Nat.gcd A P = g at *
  constructor
  · intro h
    rw [← eA, ← eP, Nat.mul_assoc] at h
    have := Nat.dvd_of_mul_dvd_mul_left hp h
    exact hco.dvd_of_dvd_mul_left this
  · intro h
    rw [← eA, ← eP, Nat.mul_assoc]
    exact Nat.mul_dvd_mul_left _ (Nat.dvd_trans h (Nat.dvd_mul_left _ _))
theorem al7 {b A P W S N tj : Int} (h1 : b * A = N) (h2 : b * P = tj) (h3 : A * W = -(P * S)) : W * N + S * tj = 0 := by
  rw [← h1, ← h2]
  have : W * (b * A) + S * (b * P) = b * (A * W) + b * (P * S) := by grind
  rw [this, h3]
  grind
theorem bsV_ok {n s f : Nat} {T : TS} {NS : (Nat → Int) → Prop} (h : CT n T NS) (hf : f < n) (hfr : fre T.1 T.2.1 f) (hfp : frP n T.1 T.2.1 s = f) : BV n T.1 T.2.1 f NS (iV (bsV n T s)) := by
  obtain ⟨k, L, R, F0, B⟩ := T
  obtain ⟨N, t, hAB, hsh, hso, hns, hro⟩ := h
  dsimp only at hAB hsh hso hns hro hfr hfp
  unfold bsV bsW
  dsimp only
  rw [hfp]
  have hNb := hAB.2.2.2.2.2.1
  have hD5 : Dk k ≤ 2916000000 := by unfold Dk; split <;> decide
  have hN0 : 0 < N.natAbs := by have := hAB.2.2.1; omega
  have hRb : ∀ r, r < k → ∀ c, c < n → bd (R r c).toInt 19440000 := fun r hr c hc => (row_bd hAB hr (hro r hr).1 (hro r hr).2.2 c hc).1
  have hLn : ∀ r, r < k → L r < n := hAB.2.2.2.1
  obtain ⟨Z, z1, z2, z3, z4, z5⟩ := scF_ok (R := R) (L := L) (p := f) (k := k) (M := N.natAbs) hN0 (by unfold bd at hNb; omega) (fun r hr => (hro r hr).2.1) (fun r hr => by have := hRb r hr f hf; unfold bd at this; omega) (fun r hr => by
    obtain ⟨_, _, b, hb, hbe⟩ := hro r hr
    have := hbe (L r) (hLn r hr)
    rw [hAB.2.2.2.2.1 r r hr hr, if_pos rfl] at this
    rw [← this, Int.natAbs_mul]
    exact Nat.dvd_mul_left _ _) k 0 1 1 (by omega) rfl (by omega) (Nat.one_dvd _) (fun i hi => by omega) (fun z' _ => Nat.one_dvd _)
  generalize scF R L f k 0 1 = sc at z1 ⊢
  have hZN := Nat.le_of_dvd hN0 z3
  have hinj : ∀ i j, i < k → j < k → L i = L j → i = j := fun i j hi hj e => AB_inj hAB hi hj e
  -- the values
  have vf : baR R L f sc k 0 (vp_updL (fun c => if c < n then 0 else 0) f sc) f = sc := by
    rw [baR_out k 0 _ (fun i _ hi => hfr i (by omega))]
    exact if_pos rfl
  have vg : ∀ g, g < n → fre k L g → g ≠ f → baR R L f sc k 0 (vp_updL (fun c => if c < n then 0 else 0) f sc) g = 0 := by
    intro g hg hgf hne
    rw [baR_out k 0 _ (fun i _ hi => hgf i (by omega))]
    show (if g = f then _ else _) = _
    rw [if_neg hne]
    exact if_pos hg
  have vl : ∀ r, r < k → (R r (L r)).toInt * (baR R L f sc k 0 (vp_updL (fun c => if c < n then 0 else 0) f sc) (L r)).toInt = -((R r f).toInt * (Z : Int)) := by
    intro r hr
    have hA := (hro r hr).2.1
    have hnz : ¬ R r (L r) = 0 := fun q => by
      have := i64_eq0.mp q
      omega
    rw [baR_in hnz k 0 _ (by omega) (by omega) (fun j h1 h2 e => by have := hinj j r (by omega) hr e; omega)]
    have b1 := hRb r hr f hf
    have b2 := bd_mul b1 (show bd (Z : Int) 2916000000 by unfold bd at hNb ⊢; omega)
    unfold bd at b2
    have e1 : (R r f * sc).toInt = (R r f).toInt * (Z : Int) := by
      rw [← z1]
      exact i64_mul (by rw [z1]; omega) (by rw [z1]; omega)
    have hdv : (R r (L r)).toInt ∣ (R r f).toInt * (Z : Int) := by
      rw [← Int.natAbs_dvd_natAbs, Int.natAbs_mul, Int.natAbs_natCast]
      exact (ro_dvd (by omega)).mpr (z4 r hr)
    have e2 : (R r f * sc / R r (L r)).toInt = ((R r f).toInt * (Z : Int)).tdiv (R r (L r)).toInt := by
      rw [i64_div (by rw [e1]; omega), e1]
    have e3 : (R r (L r)).toInt * ((R r f).toInt * (Z : Int)).tdiv (R r (L r)).toInt = (R r f).toInt * (Z : Int) := Int.mul_tdiv_cancel' hdv
    have b3 : (((R r f).toInt * (Z : Int)).tdiv (R r (L r)).toInt).natAbs ≤ ((R r f).toInt * (Z : Int)).natAbs := by
      rw [Int.natAbs_tdiv]
      exact Nat.div_le_self _ _
    rw [i64_neg (by rw [e2]; omega), e2, Int.mul_neg, e3]
  generalize baR R L f sc k 0 (vp_updL (fun c => if c < n then 0 else 0) f sc) = W at vf vg vl ⊢
  have wf : (W f).toInt = (Z : Int) := by rw [vf]; exact z1
  refine ⟨?_, fun g hg hgf hne => i64_eq0.mp (vg g hg hgf hne), ?_, ?_⟩
  · rw [← hns]
    intro j hj
    rw [dt_fre hAB hj hf hfr (fun g hg hgf hne => i64_eq0.mp (vg g hg hgf hne))]
    obtain ⟨_, _, b, hb, hbe⟩ := hro j hj
    have hbp := hbe (L j) (hLn j hj)
    rw [hAB.2.2.2.2.1 j j hj hj, if_pos rfl] at hbp
    show (W (L j)).toInt * N + (W f).toInt * t j f = 0
    rw [wf]
    exact al7 hbp (hbe f hf) (vl j hj)
  · have hg1 : gcV (iV W) n ∣ Z := by
      have := gcV_dvd (w := iV W) n f hf
      rw [show (iV W f).natAbs = Z by show (W f).toInt.natAbs = Z; rw [wf]; exact Int.natAbs_natCast _] at this
      exact this
    obtain ⟨y, hy⟩ := hg1
    have hg0 : 0 < gcV (iV W) n := Nat.pos_of_ne_zero (fun q => by rw [q, Nat.zero_mul] at hy; omega)
    have hzy : Z ∣ y := by
      refine z5 y (fun i hi => (ro_dvd (by have := (hro i hi).2.1; omega)).mp ?_)
      have h1 := vl i hi
      have h2 := gcV_dvd (w := iV W) n (L i) (hLn i hi)
      have h3 : (R i (L i)).toInt.natAbs * (W (L i)).toInt.natAbs = (R i f).toInt.natAbs * Z := by
        rw [← Int.natAbs_mul, h1, Int.natAbs_neg, Int.natAbs_mul, Int.natAbs_natCast]
      obtain ⟨u, hu⟩ := h2
      have hu' : (W (L i)).toInt.natAbs = gcV (iV W) n * u := hu
      rw [hu', hy] at h3
      have h4 : gcV (iV W) n * ((R i (L i)).toInt.natAbs * u) = gcV (iV W) n * ((R i f).toInt.natAbs * y) := by
        rw [Nat.mul_left_comm, h3, Nat.mul_left_comm]
      exact ⟨u, (Nat.eq_of_mul_eq_mul_left hg0 h4).symm⟩
    obtain ⟨v, hv⟩ := hzy
    rw [hv] at hy
    have h5 : Z * 1 = Z * (gcV (iV W) n * v) := by
      rw [Nat.mul_one, Nat.mul_left_comm]; exact hy
    have h6 := Nat.eq_of_mul_eq_mul_left z2 h5
    exact Nat.eq_one_of_mul_eq_one_right h6.symm
  · show 0 < (W f).toInt
    rw [wf]
    omega
