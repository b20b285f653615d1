/-! THE CLASS: Program, sums -/
def tEq (T T' : TS) : Prop := T'.1 = T.1 ∧ T'.2.1 = T.2.1 ∧ T'.2.2.1 = T.2.2.1
/-- alike but for the rows that are used again -/
def dEq (D D' : DS) : Prop := (dNp D' = dNp D ∧ dNa D' = dNa D ∧ dPa D' = dPa D ∧ dAa D' = dAa D ∧ dK D' = dK D ∧ dFr D' = dFr D ∧ dTo D' = dTo D ∧ dM D' = dM D) ∧ ∀ p, ((dP D' p).1 = (dP D p).1 ∧ (dP D' p).2.1 = (dP D p).2.1 ∧ (dP D' p).2.2.1 = (dP D p).2.2.1 ∧ (dP D' p).2.2.2.1 = (dP D p).2.2.2.1) ∧ ∀ s, (dF D' p s).1 = (dF D p s).1 ∧ (dF D' p s).2.2 = (dF D p s).2.2 ∧ tEq (dF D p s).2.1 (dF D' p s).2.1
theorem dEq.rf {D : DS} : dEq D D := ⟨⟨rfl, rfl, rfl, rfl, rfl, rfl, rfl, rfl⟩, fun _ => ⟨⟨rfl, rfl, rfl, rfl⟩, fun _ => ⟨rfl, rfl, rfl, rfl, rfl⟩⟩⟩
theorem dEq.tr {D D1 D2 : DS} (h : dEq D D1) (h' : dEq D1 D2) : dEq D D2 := by
  obtain ⟨⟨a1, a2, a3, a4, a5, a6, a7, a8⟩, ap⟩ := h
  obtain ⟨⟨b1, b2, b3, b4, b5, b6, b7, b8⟩, bp⟩ := h'
  refine ⟨⟨b1.trans a1, b2.trans a2, b3.trans a3, b4.trans a4, b5.trans a5, b6.trans a6, b7.trans a7, b8.trans a8⟩, fun p => ?_⟩
  obtain ⟨⟨c1, c2, c3, c4⟩, cs⟩ := ap p
  obtain ⟨⟨e1, e2, e3, e4⟩, es⟩ := bp p
  refine ⟨⟨e1.trans c1, e2.trans c2, e3.trans c3, e4.trans c4⟩, fun s => ?_⟩
  obtain ⟨f1, f2, f3, f4, f5⟩ := cs s
  obtain ⟨g1, g2, g3, g4, g5⟩ := es s
  exact ⟨g1.trans f1, g2.trans f2, g3.trans f3, g4.trans f4, g5.trans f5⟩
theorem PK.eq {D D' : DS} (h : dEq D D') (hP : PK D) : PK D' := by
  obtain ⟨⟨a1, a2, a3, a4, a5, a6, a7, a8⟩, ap⟩ := h
  intro p hp
  rw [a1] at hp
  obtain ⟨⟨c1, c2, c3, c4⟩, cs⟩ := ap p
  refine ⟨by rw [c1]; exact (hP p hp).1, fun s hs => ?_⟩
  obtain ⟨f1, f2, f3, f4, f5⟩ := cs s
  obtain ⟨g1, g2⟩ := (hP p hp).2 s hs
  rw [a5]
  refine ⟨⟨⟨?_, ?_⟩, ?_⟩, by show (dF D' p s).1 ≤ 40; rw [f1]; exact g2⟩
  · show (dF D' p s).2.1.1 ≤ _
    rw [f3]; exact g1.1.1
  · show ∀ r, r < (dF D' p s).2.1.1 → (dF D' p s).2.1.2.1 r < _
    rw [f3, f4]; exact g1.1.2
  · show ∀ i, i < _ → vUn ((dF D' p s).2.2 i) ≤ 4 ∧ vMo ((dF D' p s).2.2 i) ≤ 12
    rw [f2]; exact g1.2
theorem dsF_eq {D : DS} {p s : Nat} {S' : FS} (h1 : S'.1 = (dF D p s).1) (h2 : S'.2.2 = (dF D p s).2.2) (h3 : tEq (dF D p s).2.1 S'.2.1) : dEq D (dsF D p s S') := by
  refine ⟨⟨rfl, rfl, rfl, rfl, rfl, rfl, rfl, rfl⟩, fun p' => ?_⟩
  have e : dP (dsF D p s S') p' = upG (dP D) p ((dP D p).1, (dP D p).2.1, (dP D p).2.2.1, (dP D p).2.2.2.1, upG (dP D p).2.2.2.2 s S') p' := rfl
  by_cases w : p' = p
  · subst w
    rw [upG_at] at e
    refine ⟨by rw [e]; exact ⟨rfl, rfl, rfl, rfl⟩, fun s' => ?_⟩
    unfold dF
    rw [e]
    show (upG (dP D p').2.2.2.2 s S' s').1 = _ ∧ (upG (dP D p').2.2.2.2 s S' s').2.2 = _ ∧ tEq _ (upG (dP D p').2.2.2.2 s S' s').2.1
    by_cases w2 : s' = s
    · subst w2
      rw [upG_at]
      exact ⟨h1, h2, h3⟩
    · rw [upG_ne w2]
      exact ⟨rfl, rfl, rfl, rfl, rfl⟩
  · rw [upG_ne w] at e
    refine ⟨by rw [e]; exact ⟨rfl, rfl, rfl, rfl⟩, fun s' => ?_⟩
    unfold dF
    rw [e]
    exact ⟨rfl, rfl, rfl, rfl, rfl⟩
def ssF (row : Nat → Int64) (x : Nat → Int32) : Nat → Nat → Int64 → Int64
  | 0, _, z => z
  | m + 1, v, z => ssF row x m (v + 1) (z + row v * (x v).toInt64)
theorem ssF_cg {row row' : Nat → Int64} {x x' : Nat → Int32} : ∀ m v z, (∀ e, v ≤ e → e < v + m → row' e = row e ∧ x' e = x e) → ssF row' x' m v z = ssF row x m v z
  | 0, _, _, _ => rfl
  | m + 1, v, z, h => by
    unfold ssF
    rw [(h v (Nat.le_refl _) (by omega)).1, (h v (Nat.le_refl _) (by omega)).2]
    exact ssF_cg m (v + 1) _ (fun e h1 h2 => h e (by omega) (by omega))
theorem piS_cg {M : Nat → Nat → Int32} {pl : Nat} {sm sm' : Nat → Int64} : ∀ m v z, (∀ e, v ≤ e → e < v + m → sm' e = sm e) → piS M pl sm' m v z = piS M pl sm m v z
  | 0, _, _, _ => rfl
  | m + 1, v, z, h => by
    unfold piS
    rw [h v (Nat.le_refl _) (by omega)]
    exact piS_cg m (v + 1) _ (fun e h1 h2 => h e (by omega) (by omega))
theorem piR_cg {M : Nat → Nat → Int32} {m n u : Nat} {sm sm' : Nat → Int64} (h : ∀ e, e ≤ n → sm' e = sm e) : piR M m n sm' u = piR M m n sm u := by
  unfold piR
  rw [h n (Nat.le_refl _)]
  exact piS_cg n 0 _ (fun e _ h2 => h e (by omega))
theorem ztF_cg {row row' g : Nat → Int64} : ∀ m c z, (∀ e, c ≤ e → e < c + m → row' e = row e) → ztF row' g m c z = ztF row g m c z
  | 0, _, _, _ => rfl
  | m + 1, c, z, h => by
    unfold ztF
    rw [h c (Nat.le_refl _) (by omega)]
    exact ztF_cg m (c + 1) _ (fun e h1 h2 => h e (by omega) (by omega))
theorem spB_cg {k c : Nat} {T : TS} {row row' : Nat → Int64} (h : ∀ e, e ≤ k → row' e = row e) : spB k c T row' = spB k c T row := by
  unfold spB
  by_cases w : c = 0
  · rw [if_pos w, if_pos w, Bool.eq_iff_iff, List.all_eq_true, List.all_eq_true]
    have e1 : ∀ x, x ∈ List.range' 0 (k + 1) → decide (row' x = 0) = decide (row x = 0) := fun x hx => by
      have := List.mem_range'_1.mp hx
      rw [h x (by omega)]
    exact ⟨fun q x hx => by rw [← e1 x hx]; exact q x hx, fun q x hx => by rw [e1 x hx]; exact q x hx⟩
  · rw [if_neg w, if_neg w]
    have e1 : (fun r => decide (ztF row' (T.2.2.1 r) (k + 1) 0 0 = 0)) = (fun r => decide (ztF row (T.2.2.1 r) (k + 1) 0 0 = 0)) := by
      funext r
      rw [ztF_cg (k + 1) 0 0 (fun e _ h2 => h e (by omega))]
    rw [e1]
theorem baR_cg {R : Nat → Nat → Int64} {L : Nat → Nat} {p n : Nat} {sc : Int64} : ∀ m r (b b' : Nat → Int64), (∀ e, e < n → b' e = b e) → ∀ e, e < n → baR R L p sc m r b' e = baR R L p sc m r b e
  | 0, _, b, b', h, e, he => h e he
  | m + 1, r, b, b', h, e, he => by
    unfold baR
    refine baR_cg m (r + 1) _ _ (fun e he => ?_) e he
    by_cases w : R r (L r) = 0
    · rw [if_pos w, if_pos w]; exact h e he
    · rw [if_neg w, if_neg w]
      unfold vp_updL
      by_cases w2 : e = L r
      · rw [if_pos w2, if_pos w2]
      · rw [if_neg w2, if_neg w2]; exact h e he
/-- the s-th sum of the basis of a table -/
def bsV (n : Nat) (T : TS) (s : Nat) : Nat → Int64 := bsW n T.1 T.2.1 T.2.2.1 (fun _ => 0) s
theorem bsW_V {n : Nat} {T : TS} {B : Nat → Int64} {s e : Nat} (he : e < n) : bsW n T.1 T.2.1 T.2.2.1 B s e = bsV n T s e := by
  unfold bsV bsW
  refine baR_cg T.1 0 _ _ (fun e he => ?_) e he
  unfold vp_updL
  dsimp only
  split
  · rfl
  · rfl
theorem bsV_eq {n : Nat} {T T' : TS} {s : Nat} (h : tEq T T') : bsV n T' s = bsV n T s := by
  unfold bsV
  rw [h.1, h.2.1, h.2.2]
def swF (f : Nat → Bool) : Nat → Nat → Int32
  | 0, _ => -1
  | m + 1, s => if f s = true then swF f m (s + 1) else nI s
/-- whether the s-th sum of a point is 0 of numbers -/
def swB (D : DS) (p : Nat) (x : Nat → Int32) (s : Nat) : Bool := decide (ssF (bsV (dK D p + 1) (dF D p 0).2.1 s) x (dK D p) 0 (bsV (dK D p + 1) (dF D p 0).2.1 s (dK D p)) = 0)
def bzD (D : DS) (p : Nat) : Nat := bzN (dK D p) (dF D p 0).1 (dF D p 0).2.1
def slB (D : DS) (a s : Nat) : Bool := spB (dK D (dFr D a)) (dF D (dFr D a) 0).1 (dF D (dFr D a) 0).2.1 (piR (dM D a) (dK D (dFr D a)) (dK D (dTo D a)) (bsV (dK D (dTo D a) + 1) (dF D (dTo D a) 0).2.1 s))
theorem swB_eq {D D' : DS} {p : Nat} {x : Nat → Int32} (h : dEq D D') : swB D' p x = swB D p x := by
  funext s
  unfold swB
  rw [bsV_eq ((h.2 p).2 0).2.2, h.1.2.2.2.2.1]
theorem bzD_eq {D D' : DS} {p : Nat} (h : dEq D D') : bzD D' p = bzD D p := by
  unfold bzD bzN
  rw [((h.2 p).2 0).1, h.1.2.2.2.2.1, ((h.2 p).2 0).2.2.1]
theorem slB_eq {D D' : DS} {a : Nat} (h : dEq D D') : slB D' a = slB D a := by
  funext s
  unfold slB spB
  rw [h.1.2.2.2.2.2.2.1, h.1.2.2.2.2.2.1, h.1.2.2.2.2.1, h.1.2.2.2.2.2.2.2, bsV_eq ((h.2 _).2 0).2.2, ((h.2 _).2 0).1, ((h.2 _).2 0).2.2.1, ((h.2 _).2 0).2.2.2.2]
section PSs
variable {l : Launch} {d lo sz b p a : Nat} {g : Nat → Option aE} {D : DS} {I : Nat → Int32} {A : Nat → Nat → Int32} {B : Nat → Int64}
theorem tX1_basisSizeD {s : Nat} (hd : 1 ≤ d) (hW : DW lo sz g D) (hK : PK D) (hb : b + 33 ≤ lo) (hp : p < dNp D) (hs : s < 3) : mt l mX1_basisSize d 0 0 [.ref (dfA D p s)] (sz, ch b I A B D g) (rI (nI (bzN (dK D p) (dF D p s).1 (dF D p s).2.1)) (sz, ch b I A B D g)) := by
  have hk := (hK p hp).2 s hs
  have M := tX1_basisSize (l := l) (d := d) (sz := sz) (q := dfA D p s) (k := dK D p) (c := (dF D p s).1) (T := (dF D p s).2.1) (V := (dF D p s).2.2) (G := ch b I A B D g) hd (show (dF D p s).1 < 2 ^ 20 from Nat.lt_of_le_of_lt hk.2 (by decide)) hk.1.1.1
  rw [show ((dF D p s).1, (dF D p s).2.1, (dF D p s).2.2) = dF D p s from rfl, ← dw_fh hW hb hp hs] at M
  exact M
theorem tX6_basisRowD {s j : Nat} (hd : 2 ≤ d) (hj : j < 2 ^ 30) (hW : DW lo sz g D) (hK : PK D) (hb : b + 33 ≤ lo) (hp : p < dNp D) (hs : s < 3) : mt l mX6_basisRow d 0 0 [.ref (dfA D p s + 1), .int (nI j)] (sz, ch b I A B D g) (rR (.ref (dfA D p s + 1 + (dK D p + 1 + 4))) (sz, fh (dfA D p s) (dK D p) ((dF D p s).1, ((dF D p s).2.1.1, (dF D p s).2.1.2.1, (dF D p s).2.1.2.2.1, (dF D p s).2.1.2.2.2.1, bsW (dK D p + 1) (dF D p s).2.1.1 (dF D p s).2.1.2.1 (dF D p s).2.1.2.2.1 (dF D p s).2.1.2.2.2.2 j), (dF D p s).2.2) (ch b I A B D g))) := by
  have hk := (hK p hp).2 s hs
  have h4 := hW.k4 hp
  have M := tX6_basisRowF (l := l) (d := d) (sz := sz) (q := dfA D p s) (k := dK D p) (c := (dF D p s).1) (T := (dF D p s).2.1) (V := (dF D p s).2.2) (G := ch b I A B D g) hd hj hk.1.1 (by omega)
  rw [show ((dF D p s).1, (dF D p s).2.1, (dF D p s).2.2) = dF D p s from rfl, ← dw_fh hW hb hp hs] at M
  exact M
theorem tX1_spansD {s : Nat} (hd : 1 ≤ d) (hW : DW lo sz g D) (hK : PK D) (hb : b + 33 ≤ lo) (hp : p < dNp D) (hs : s < 3) : mt l mX1_spans d 0 0 [.ref (dfA D p s), .ref (b + 5)] (sz, ch b I A B D g) (rI (b2 (spB (dK D p) (dF D p s).1 (dF D p s).2.1 B)) (sz, ch b I A B D g)) := by
  have hk := (hK p hp).2 s hs
  have h4 := hW.k4 hp
  have M := tX1_spans (l := l) (d := d) (sz := sz) (q := dfA D p s) (k := dK D p) (c := (dF D p s).1) (T := (dF D p s).2.1) (V := (dF D p s).2.2) (G := ch b I A B D g) (w := b + 5) (mm := 5) (row := B) hd (show (dF D p s).1 < 2 ^ 20 from Nat.lt_of_le_of_lt hk.2 (by decide)) hk.1.1 (by omega) ch_pul (dfA_out hW hp hs (by omega)) (by omega) (by omega)
  rw [show ((dF D p s).1, (dF D p s).2.1, (dF D p s).2.2) = dF D p s from rfl, ← dw_fh hW hb hp hs] at M
  exact M
theorem gset_ch5 {f : Nat → Int64} : gset (ch b I A B D g) (b + 5) (lA 5 f) = ch b I A f D g := congrArg Prod.snd (ch_sB (sz := 0) (b := b) (I := I) (A := A) (B := B) (D := D) (g := g) (f := f))
theorem tX0_putInD {w1 mm : Nat} {sm : Nat → Int64} (hW : DW lo sz g D) (hb : b + 33 ≤ lo) (ha : a < dNa D) (hw1 : ch b I A B D g w1 = some (lA mm sm)) (ho1 : w1 < dAa D a ∨ dAa D a + (dK D (dTo D a) + 2) ≤ w1) (h12 : w1 ≠ b + 5) (hm : dK D (dTo D a) < mm) (hm2 : mm < 2 ^ 30) : mt l mX0_putIn d 0 0 [.ref (dAa D a), .ref w1, .ref (b + 5)] (sz, ch b I A B D g) (rV (sz, ch b I A (fun u => if u ≤ dK D (dFr D a) then piR (dM D a) (dK D (dFr D a)) (dK D (dTo D a)) sm u else B u) D g)) := by
  have h4 := hW.k4 (hW.fr ha)
  have h4' := hW.k4 (hW.to ha)
  have hl := hW.al ha
  have M := tX0_putIn (l := l) (d := d) (sz := sz) (q := dAa D a) (f := dFr D a) (t := dTo D a) (m := dK D (dFr D a)) (n := dK D (dTo D a)) (M := dM D a) (G := ch b I A B D g) (w1 := w1) (w2 := b + 5) (mm := mm) (nn := 5) (sm := sm) (y := B) (by omega) h4 hw1 ch_pul ho1 (by omega) h12 hm hm2 (by omega) (by omega)
  rw [gset_ch5, ← dw_ah hW hb ha, ← dw_ah hW hb ha] at M
  exact M
theorem ch_brow {s : Nat} (hW : DW lo sz g D) (hb : b + 33 ≤ lo) (hp : p < dNp D) (hs : s < 3) : ch b I A B D g (dfA D p s + 1 + (dK D p + 1 + 4)) = some (lA (dK D p + 1) (dF D p s).2.1.2.2.2.2) := by
  rw [dw_fh hW hb hp hs]
  exact fh_tbB (c := (dF D p s).1) (T := (dF D p s).2.1) (V := (dF D p s).2.2)
theorem ch_tob {s : Nat} (hW : DW lo sz g D) (hb : b + 33 ≤ lo) (hp : p < dNp D) (hs : s < 3) : ch b I A B D g (dfA D p s + 1) = some (.inr (6, FD6 (nI (dK D p + 1)) (dfA D p s + 1 + 1) (dfA D p s + 1 + (dK D p + 1 + 2)) (dfA D p s + 1 + (dK D p + 1 + 3)) (dfA D p s + 1 + (dK D p + 1 + 4)) (nI (dF D p s).2.1.1))) := by
  rw [dw_fh hW hb hp hs]
  exact fh_tb (c := (dF D p s).1) (T := (dF D p s).2.1) (V := (dF D p s).2.2)
/-- what a method leaves that uses the basis rows -/
def eqQ (lo sz b : Nat) (I : Nat → Int32) (A : Nat → Nat → Int32) (D : DS) (g : Nat → Option aE) (h' : aH) : Prop := ∃ B' D' g', h' = (sz, ch b I A B' D' g') ∧ DW lo sz g' D' ∧ (∀ x, x < lo → g' x = g x) ∧ dEq D D'
theorem tX4_sumWrongAtStart (hd : 3 ≤ d) (hW : DW lo sz g D) (hK : PK D) (hb : b + 33 ≤ lo) (hp : p < dNp D) (h3 : I 3 = nI p) : mt l mX4_sumWrongAtStart d 0 0 [.ref (b + 1)] (sz, ch b I A B D g) (fun rv h' => rv = some (.int (swF (swB D p (A 4)) (bzD D p) 0)) ∧ eqQ lo sz b I A D g h') := by
  have P : ∀ m s (D1 : DS) (g1 : Nat → Option aE) (y3 y4 y5 y6 : Option Value), DW lo sz g1 D1 → (∀ x, x < lo → g1 x = g x) → dEq D D1 → s + m = bzD D p → swF (swB D p (A 4)) m s = swF (swB D p (A 4)) (bzD D p) 0 → wp l mX4_sumWrongAtStart [] d 0 0 (fun rv h' => rv = some (.int (swF (swB D p (A 4)) (bzD D p) 0)) ∧ eqQ lo sz b I A D g h') (sz, ch b I A B D1 g1) 18 [some (.ref (b + 1)), some (.ref (dfA D p 0)), some (.int (nI s)), y3, y4, y5, y6] [] := by
    intro m
    induction m with
    | zero =>
      intro s D1 g1 y3 y4 y5 y6 hW1 hlo hE hs he
      have hbz : bzD D p ≤ 5 := by have := hW.k4 hp; unfold bzD bzN; split <;> omega
      have hp1 : p < dNp D1 := by rw [hE.1.1]; exact hp
      have hfa : dfA D p 0 = dfA D1 p 0 := by unfold dfA; rw [hE.1.2.2.1, hE.1.2.2.2.2.1]
      obtain ⟨r1, r3, r4, r5, r6, r7, r8, r9, r10, r11, r12, hob, -⟩ := ch_fob (I := I) (A := A) (B := B) hW1 hb hp1 (s := 0) (by omega)
      rw [hfa]
      refine wp_iload_n (i := 2) (q := 19) dX4_sumWrongAtStart_18 rfl rfl rfl ?_
      refine wp_aload_n (i := 1) (q := 20) dX4_sumWrongAtStart_19 rfl rfl rfl ?_
      refine wp_Vi (μ' := mX1_basisSize) (ci := 1) (q := 23) (tX1_basisSizeD (d := d - 1) (by omega) hW1 (hK.eq hE) hb hp1 (by omega)) dX4_sumWrongAtStart_20 okX1_basisSize lkX4_63 hob rfl rfl rfl (Nat.le_of_ble_eq_true rfl) (by omega) rfl ?_
      rw [show bzN (dK D1 p) (dF D1 p 0).1 (dF D1 p 0).2.1 = bzD D p from bzD_eq hE]
      refine wp_icmp_ge (t := 94) (q := 26) dX4_sumWrongAtStart_23 (by decide) rfl (fun hc => ?_) (fun hc => ?_)
      · rw [show swF (swB D p (A 4)) 0 s = -1 from rfl] at he
        refine wp_iconst (v := (-1)) (q := 95) dX4_sumWrongAtStart_94 (by decide) rfl ?_
        refine wp_iret dX4_sumWrongAtStart_95 rfl ?_
        exact ⟨by rw [← he], B, D1, g1, rfl, hW1, hlo, hE⟩
      · exact absurd ((nI_leI (by omega) (by omega)).mpr (by omega)) hc
    | succ m ih =>
      intro s D1 g1 y3 y4 y5 y6 hW1 hlo hE hs he
      rw [show swF (swB D p (A 4)) (m + 1) s = if swB D p (A 4) s = true then swF (swB D p (A 4)) m (s + 1) else nI s from rfl] at he
      have h4 := hW.k4 hp
      have hbz : bzD D p ≤ 5 := by unfold bzD bzN; split <;> omega
      have hp1 : p < dNp D1 := by rw [hE.1.1]; exact hp
      have hfa : dfA D p 0 = dfA D1 p 0 := by unfold dfA; rw [hE.1.2.2.1, hE.1.2.2.2.2.1]
      obtain ⟨r1, r3, r4, r5, r6, r7, r8, r9, r10, r11, r12, hob, rfl⟩ := ch_fob (I := I) (A := A) (B := B) hW1 hb hp1 (s := 0) (by omega)
      have htb := ch_tob (I := I) (A := A) (B := B) hW1 hb hp1 (s := 0) (by omega)
      rw [hfa]
      refine wp_iload_n (i := 2) (q := 19) dX4_sumWrongAtStart_18 rfl rfl rfl ?_
      refine wp_aload_n (i := 1) (q := 20) dX4_sumWrongAtStart_19 rfl rfl rfl ?_
      refine wp_Vi (μ' := mX1_basisSize) (ci := 1) (q := 23) (tX1_basisSizeD (d := d - 1) (by omega) hW1 (hK.eq hE) hb hp1 (by omega)) dX4_sumWrongAtStart_20 okX1_basisSize lkX4_63 hob rfl rfl rfl (Nat.le_of_ble_eq_true rfl) (by omega) rfl ?_
      rw [show bzN (dK D1 p) (dF D1 p 0).1 (dF D1 p 0).2.1 = bzD D p from bzD_eq hE]
      refine wp_icmp_ge (t := 94) (q := 26) dX4_sumWrongAtStart_23 (by decide) rfl (fun hc => ?_) (fun hc => ?_)
      · exact absurd ((nI_leI (by omega) (by omega)).mp hc) (by omega)
      refine wp_aload_n (i := 1) (q := 27) dX4_sumWrongAtStart_26 rfl rfl rfl ?_
      refine wg1_1 (q := 30) dX4_sumWrongAtStart_27 ffX4_69 (by first | exact ch_prg | exact ch_pts | exact ch_acs | exact ch_4 | exact ch_pul | exact ch_obj | assumption) rfl ?_ -- table
      refine wp_iload_n (i := 2) (q := 31) dX4_sumWrongAtStart_30 rfl rfl rfl ?_
      refine wp_Vr (μ' := mX6_basisRow) (ci := 6) (q := 34) (tX6_basisRowD (d := d - 1) (j := s) (by omega) (by omega) hW1 (hK.eq hE) hb hp1 (by omega)) dX4_sumWrongAtStart_31 okX6_basisRow lkX4_73 htb rfl rfl rfl (Nat.le_of_ble_eq_true rfl) (by omega) rfl ?_
      obtain ⟨g2, e2, hW2, hlo2⟩ := dw_fh2 (I := I) (A := A) (B := B) (s := 0) (S' := ((dF D1 p 0).1, ((dF D1 p 0).2.1.1, (dF D1 p 0).2.1.2.1, (dF D1 p 0).2.1.2.2.1, (dF D1 p 0).2.1.2.2.2.1, bsW (dK D1 p + 1) (dF D1 p 0).2.1.1 (dF D1 p 0).2.1.2.1 (dF D1 p 0).2.1.2.2.1 (dF D1 p 0).2.1.2.2.2.2 s), (dF D1 p 0).2.2)) hW1 hb hp1 (by omega)
      have hE2 := hE.tr (dsF_eq (D := D1) (p := p) (s := 0) (S' := ((dF D1 p 0).1, ((dF D1 p 0).2.1.1, (dF D1 p 0).2.1.2.1, (dF D1 p 0).2.1.2.2.1, (dF D1 p 0).2.1.2.2.2.1, bsW (dK D1 p + 1) (dF D1 p 0).2.1.1 (dF D1 p 0).2.1.2.1 (dF D1 p 0).2.1.2.2.1 (dF D1 p 0).2.1.2.2.2.2 s), (dF D1 p 0).2.2)) rfl rfl ⟨rfl, rfl, rfl⟩)
      rw [e2]
      have hrow : ∀ e, e ≤ dK D p → bsW (dK D1 p + 1) (dF D1 p 0).2.1.1 (dF D1 p 0).2.1.2.1 (dF D1 p 0).2.1.2.2.1 (dF D1 p 0).2.1.2.2.2.2 s e = bsV (dK D p + 1) (dF D p 0).2.1 s e := by
        intro e he
        rw [bsW_V (by rw [hE.1.2.2.2.2.1]; omega), bsV_eq ((hE.2 p).2 0).2.2, hE.1.2.2.2.2.1]
      have hbr : (dF (dsF D1 p 0 ((dF D1 p 0).1, ((dF D1 p 0).2.1.1, (dF D1 p 0).2.1.2.1, (dF D1 p 0).2.1.2.2.1, (dF D1 p 0).2.1.2.2.2.1, bsW (dK D1 p + 1) (dF D1 p 0).2.1.1 (dF D1 p 0).2.1.2.1 (dF D1 p 0).2.1.2.2.1 (dF D1 p 0).2.1.2.2.2.2 s), (dF D1 p 0).2.2)) p 0).2.1.2.2.2.2 = bsW (dK D1 p + 1) (dF D1 p 0).2.1.1 (dF D1 p 0).2.1.2.1 (dF D1 p 0).2.1.2.2.1 (dF D1 p 0).2.1.2.2.2.2 s := by
        show ((upG (dP D1) p _ p).2.2.2.2 0).2.1.2.2.2.2 = _
        rw [upG_at]
        rfl
      generalize hD2 : dsF D1 p 0 ((dF D1 p 0).1, ((dF D1 p 0).2.1.1, (dF D1 p 0).2.1.2.1, (dF D1 p 0).2.1.2.2.1, (dF D1 p 0).2.1.2.2.2.1, bsW (dK D1 p + 1) (dF D1 p 0).2.1.1 (dF D1 p 0).2.1.2.1 (dF D1 p 0).2.1.2.2.1 (dF D1 p 0).2.1.2.2.2.2 s), (dF D1 p 0).2.2) = D2 at e2 hW2 hE2 hbr
      generalize bsW (dK D1 p + 1) (dF D1 p 0).2.1.1 (dF D1 p 0).2.1.2.1 (dF D1 p 0).2.1.2.2.1 (dF D1 p 0).2.1.2.2.2.2 s = row at hrow hbr
      have hp2 : p < dNp D2 := by rw [hE2.1.1]; exact hp
      have hfa2 : dfA D1 p 0 = dfA D2 p 0 := by rw [← hfa]; unfold dfA; rw [hE2.1.2.2.1, hE2.1.2.2.2.2.1]
      have hk2 : dK D2 p = dK D p := by rw [hE2.1.2.2.2.2.1]
      have hk1 : dK D1 p = dK D p := by rw [hE.1.2.2.2.2.1]
      obtain ⟨r1, r3, r4, r5, r6, r7, r8, r9, r10, r11, r12, hob2, rfl⟩ := ch_fob (I := I) (A := A) (B := B) hW2 hb hp2 (s := 0) (by omega)
      have hbr2 := ch_brow (I := I) (A := A) (B := B) hW2 hb hp2 (s := 0) (by omega)
      rw [hbr] at hbr2
      rw [hfa2, hk1]
      rw [hk2] at hob2 hbr2
      refine wp_astore_n (i := 3) (lv' := [_, _, some _, _, _, _, _]) (q := 35) dX4_sumWrongAtStart_34 rfl (by decide) rfl rfl ?_
      refine wp_aload_n (i := 3) (q := 36) dX4_sumWrongAtStart_35 rfl rfl rfl ?_
      refine wp_aload_n (i := 1) (q := 37) dX4_sumWrongAtStart_36 rfl rfl rfl ?_
      refine wg1_0 (q := 40) dX4_sumWrongAtStart_37 ffX4_79 (by first | exact ch_prg | exact ch_pts | exact ch_acs | exact ch_4 | exact ch_pul | exact ch_obj | assumption) rfl ?_ -- size
      refine wq_lald (q := 41) dX4_sumWrongAtStart_40 (by first | exact ch_prg | exact ch_pts | exact ch_acs | exact ch_4 | exact ch_pul | exact ch_obj | assumption) rfl (by first | omega | exact ⟨by omega, by omega⟩) rfl ?_
      refine wp_lstore (lv' := [_, _, _, some _, _, _, _]) (q := 43) dX4_sumWrongAtStart_41 (by decide) rfl rfl ?_
      refine wp_iconst (v := nI 0) (q := 44) dX4_sumWrongAtStart_43 (by decide) rfl ?_
      refine wp_istore (lv' := [_, _, _, _, _, _, _]) (q := 46) dX4_sumWrongAtStart_44 (by decide) rfl rfl ?_
      have P46 : ∀ mm v (z : Int64), v + mm = dK D p → ssF row (A 4) mm v z = ssF row (A 4) (dK D p) 0 (row (dK D p)) → wp l mX4_sumWrongAtStart [] d 0 0 (fun rv h' => rv = some (.int (swF (swB D p (A 4)) (bzD D p) 0)) ∧ eqQ lo sz b I A D g h') (sz, ch b I A B D2 g2) 46 [some (.ref (b + 1)), some (.ref (dfA D2 p 0)), some (.int (nI s)), some (.ref (dfA D2 p 0 + 1 + (dK D p + 1 + 4))), some (.long z), none, some (.int (nI v))] [] := by
        intro mm
        induction mm with
        | zero =>
          intro v z hv hz
          rw [show ssF row (A 4) 0 v z = z from rfl] at hz
          refine wp_iload (q := 48) dX4_sumWrongAtStart_46 rfl rfl ?_
          refine wp_aload_n (i := 1) (q := 49) dX4_sumWrongAtStart_48 rfl rfl rfl ?_
          refine wg1_0 (q := 52) dX4_sumWrongAtStart_49 ffX4_79 (by first | exact ch_prg | exact ch_pts | exact ch_acs | exact ch_4 | exact ch_pul | exact ch_obj | assumption) rfl ?_ -- size
          refine wp_icmp_ge (t := 79) (q := 55) dX4_sumWrongAtStart_52 (by decide) rfl (fun hc1 => ?_) (fun hc1 => ?_)
          · have hB : swB D p (A 4) s = decide (z = 0) := by
              unfold swB
              rw [hz, ← hrow (dK D p) (Nat.le_refl _), ssF_cg (row' := row) (row := bsV (dK D p + 1) (dF D p 0).2.1 s) (x' := A 4) (x := A 4) (dK D p) 0 _ (fun e _ h2 => ⟨hrow e (by omega), rfl⟩)]
            rw [hB] at he
            refine wp_lload (q := 81) dX4_sumWrongAtStart_79 rfl rfl ?_
            refine wp_lconst (v := 0) (q := 82) dX4_sumWrongAtStart_81 (by decide) rfl ?_
            refine wp_lcmp (q := 83) dX4_sumWrongAtStart_82 rfl ?_
            refine wp_if_eq (t := 88) (q := 86) dX4_sumWrongAtStart_83 (by decide) rfl (fun h0 => ?_) (fun h0 => ?_)
            · rw [if_pos (decide_eq_true (lg_cmp0.mp h0))] at he
              refine wp_iinc (v := _ + nI 1) (lv' := [_, some _, _, _, _, _, _]) (q := 91) dX4_sumWrongAtStart_88 rfl rfl (by decide) rfl rfl ?_
              refine wp_goto (q := 18) dX4_sumWrongAtStart_91 (by decide) ?_
              rw [nI_add]
              have := ih (s + 1) D2 g2 (some (.ref (dfA D2 p 0 + 1 + (dK D p + 1 + 4)))) (some (.long z)) none (some (.int (nI v))) hW2 (fun x hx => (hlo2 x hx).trans (hlo x hx)) hE2 (by omega) he
              rw [hfa, hfa2] at this
              exact this
            · rw [if_neg (by rw [decide_eq_false (fun q => h0 (lg_cmp0.mpr q))]; decide)] at he
              refine wp_iload_n (i := 2) (q := 87) dX4_sumWrongAtStart_86 rfl rfl rfl ?_
              refine wp_iret dX4_sumWrongAtStart_87 rfl ?_
              exact ⟨by rw [← he], B, D2, g2, rfl, hW2, (fun x hx => (hlo2 x hx).trans (hlo x hx)), hE2⟩
          · exact absurd ((nI_leI (by omega) (by omega)).mpr (by omega)) hc1
        | succ mm ihv =>
          intro v z hv hz
          rw [show ssF row (A 4) (mm + 1) v z = ssF row (A 4) mm (v + 1) (z + row v * (A 4 v).toInt64) from rfl] at hz
          refine wp_iload (q := 48) dX4_sumWrongAtStart_46 rfl rfl ?_
          refine wp_aload_n (i := 1) (q := 49) dX4_sumWrongAtStart_48 rfl rfl rfl ?_
          refine wg1_0 (q := 52) dX4_sumWrongAtStart_49 ffX4_79 (by first | exact ch_prg | exact ch_pts | exact ch_acs | exact ch_4 | exact ch_pul | exact ch_obj | assumption) rfl ?_ -- size
          refine wp_icmp_ge (t := 79) (q := 55) dX4_sumWrongAtStart_52 (by decide) rfl (fun hc1 => ?_) (fun hc1 => ?_)
          · exact absurd ((nI_leI (by omega) (by omega)).mp hc1) (by omega)
          refine wp_lload (q := 57) dX4_sumWrongAtStart_55 rfl rfl ?_
          refine wp_aload_n (i := 3) (q := 58) dX4_sumWrongAtStart_57 rfl rfl rfl ?_
          refine wp_iload (q := 60) dX4_sumWrongAtStart_58 rfl rfl ?_
          refine wq_lald (q := 61) dX4_sumWrongAtStart_60 (by first | exact ch_prg | exact ch_pts | exact ch_acs | exact ch_4 | exact ch_pul | exact ch_obj | assumption) rfl (by first | omega | exact ⟨by omega, by omega⟩) rfl ?_
          refine wp_aload_n (i := 0) (q := 62) dX4_sumWrongAtStart_61 rfl rfl rfl ?_
          refine wg4_2 (q := 65) dX4_sumWrongAtStart_62 ffX4_23 (by first | exact ch_prg | exact ch_pts | exact ch_acs | exact ch_4 | exact ch_pul | exact ch_obj | assumption) rfl ?_ -- startNumbers
          refine wp_iload (q := 67) dX4_sumWrongAtStart_65 rfl rfl ?_
          refine wq_iald (q := 68) dX4_sumWrongAtStart_67 (by first | exact ch_prg | exact ch_pts | exact ch_acs | exact ch_4 | exact ch_pul | exact ch_obj | assumption) rfl (by first | omega | exact ⟨by omega, by omega⟩) rfl ?_
          refine wp_i2l (q := 69) dX4_sumWrongAtStart_68 rfl ?_
          refine wp_lmul (q := 70) dX4_sumWrongAtStart_69 rfl ?_
          refine wp_ladd (q := 71) dX4_sumWrongAtStart_70 rfl ?_
          refine wp_lstore (lv' := [_, _, _, some _, _, _, _]) (q := 73) dX4_sumWrongAtStart_71 (by decide) rfl rfl ?_
          refine wp_iinc (v := _ + nI 1) (lv' := [_, _, _, _, _, _, _]) (q := 76) dX4_sumWrongAtStart_73 rfl rfl (by decide) rfl rfl ?_
          refine wp_goto (q := 46) dX4_sumWrongAtStart_76 (by decide) ?_
          rw [nI_add]
          exact ihv (v + 1) _ (by omega) hz
      exact P46 (dK D p) 0 _ (by omega) rfl
  refine mt_in (lv := [_, _, _, _, _, _, _]) (by decide) (Nat.le_of_ble_eq_true rfl) rfl ?_
  refine wp_aload_n (i := 0) (q := 1) dX4_sumWrongAtStart_0 rfl rfl rfl ?_
  refine wp_aload_n (i := 0) (q := 2) dX4_sumWrongAtStart_1 rfl rfl rfl ?_
  refine wg4_6 (q := 5) dX4_sumWrongAtStart_2 ffX4_38 (by first | exact ch_prg | exact ch_pts | exact ch_acs | exact ch_4 | exact ch_pul | exact ch_obj | assumption) rfl ?_ -- startPoint
  refine wp_iconst (v := nI 0) (q := 6) dX4_sumWrongAtStart_5 (by decide) rfl ?_
  rw [h3]
  refine wp_Vr (μ' := mX4_factsAt) (ci := 4) (q := 9) (tX4_factsAt (d := d - 1) (s := 0) (by omega) hW hb hp (by omega)) dX4_sumWrongAtStart_6 okX4_factsAt lkX4_59 (by first | exact ch_prg | exact ch_pts | exact ch_acs | exact ch_4 | exact ch_pul | exact ch_obj | assumption) rfl rfl rfl (Nat.le_of_ble_eq_true rfl) (by omega) rfl ?_
  refine wp_astore_n (i := 1) (lv' := [some _, _, _, _, _, _, _]) (q := 10) dX4_sumWrongAtStart_9 rfl (by decide) rfl rfl ?_
  refine wp_aload_n (i := 1) (q := 11) dX4_sumWrongAtStart_10 rfl rfl rfl ?_
  refine wp_ifnonnull (q := 16) dX4_sumWrongAtStart_11 (by decide) ?_
  refine wp_iconst (v := nI 0) (q := 17) dX4_sumWrongAtStart_16 (by decide) rfl ?_
  refine wp_istore_n (i := 2) (lv' := [_, some _, _, _, _, _, _]) (q := 18) dX4_sumWrongAtStart_17 rfl (by decide) rfl rfl ?_
  exact P (bzD D p) 0 D g _ _ _ _ hW (fun _ _ => rfl) dEq.rf (by omega) rfl
theorem ch_aob (hW : DW lo sz g D) (hb : b + 33 ≤ lo) (ha : a < dNa D) : ch b I A B D g (dAa D a) = some (.inr (0, FD0 (nI (dFr D a)) (nI (dTo D a)) (nI (dK D (dFr D a))) (nI (dK D (dTo D a))) (dAa D a + 1))) := by
  rw [dw_ah hW hb ha]
  exact ah_obj
theorem tX4_sumLostBy (hd : 3 ≤ d) (hW : DW lo sz g D) (hK : PK D) (hb : b + 33 ≤ lo) (ha : a < dNa D) : mt l mX4_sumLostBy d 0 0 [.ref (b + 1), .ref (dAa D a)] (sz, ch b I A B D g) (fun rv h' => rv = some (.int (swF (slB D a) (bzD D (dTo D a)) 0)) ∧ eqQ lo sz b I A D g h') := by
  have hpf := hW.fr ha
  have hpt := hW.to ha
  have h4 := hW.k4 hpt
  have h4f := hW.k4 hpf
  have hbz : bzD D (dTo D a) ≤ 5 := by unfold bzD bzN; split <;> omega
  have P : ∀ m s (B1 : Nat → Int64) (D1 : DS) (g1 : Nat → Option aE), DW lo sz g1 D1 → (∀ x, x < lo → g1 x = g x) → dEq D D1 → s + m = bzD D (dTo D a) → swF (slB D a) m s = swF (slB D a) (bzD D (dTo D a)) 0 → wp l mX4_sumLostBy [] d 0 0 (fun rv h' => rv = some (.int (swF (slB D a) (bzD D (dTo D a)) 0)) ∧ eqQ lo sz b I A D g h') (sz, ch b I A B1 D1 g1) 49 [some (.ref (b + 1)), some (.ref (dAa D a)), some (.ref (dfA D (dFr D a) 0)), some (.ref (dfA D (dTo D a) 0)), some (.int (nI s))] [] := by
    intro m
    induction m with
    | zero =>
      intro s B1 D1 g1 hW1 hlo hE hs he
      have hp1 : dTo D a < dNp D1 := by rw [hE.1.1]; exact hpt
      have hfa : dfA D (dTo D a) 0 = dfA D1 (dTo D a) 0 := by unfold dfA; rw [hE.1.2.2.1, hE.1.2.2.2.2.1]
      obtain ⟨r1, r3, r4, r5, r6, r7, r8, r9, r10, r11, r12, hob, -⟩ := ch_fob (I := I) (A := A) (B := B1) hW1 hb hp1 (s := 0) (by omega)
      rw [hfa]
      refine wp_iload (q := 51) dX4_sumLostBy_49 rfl rfl ?_
      refine wp_aload_n (i := 3) (q := 52) dX4_sumLostBy_51 rfl rfl rfl ?_
      refine wp_Vi (μ' := mX1_basisSize) (ci := 1) (q := 55) (tX1_basisSizeD (d := d - 1) (by omega) hW1 (hK.eq hE) hb hp1 (by omega)) dX4_sumLostBy_52 okX1_basisSize lkX4_63 hob rfl rfl rfl (Nat.le_of_ble_eq_true rfl) (by omega) rfl ?_
      rw [show bzN (dK D1 (dTo D a)) (dF D1 (dTo D a) 0).1 (dF D1 (dTo D a) 0).2.1 = bzD D (dTo D a) from bzD_eq hE]
      refine wp_icmp_ge (t := 95) (q := 58) dX4_sumLostBy_55 (by decide) rfl (fun hc => ?_) (fun hc => ?_)
      · rw [show swF (slB D a) 0 s = -1 from rfl] at he
        refine wp_iconst (v := (-1)) (q := 96) dX4_sumLostBy_95 (by decide) rfl ?_
        refine wp_iret dX4_sumLostBy_96 rfl ?_
        exact ⟨by rw [← he], B1, D1, g1, rfl, hW1, hlo, hE⟩
      · exact absurd ((nI_leI (by omega) (by omega)).mpr (by omega)) hc
    | succ m ih =>
      intro s B1 D1 g1 hW1 hlo hE hs he
      rw [show swF (slB D a) (m + 1) s = if slB D a s = true then swF (slB D a) m (s + 1) else nI s from rfl] at he
      have hp1 : dTo D a < dNp D1 := by rw [hE.1.1]; exact hpt
      have hfa : dfA D (dTo D a) 0 = dfA D1 (dTo D a) 0 := by unfold dfA; rw [hE.1.2.2.1, hE.1.2.2.2.2.1]
      obtain ⟨r1, r3, r4, r5, r6, r7, r8, r9, r10, r11, r12, hob, rfl⟩ := ch_fob (I := I) (A := A) (B := B1) hW1 hb hp1 (s := 0) (by omega)
      have htb := ch_tob (I := I) (A := A) (B := B1) hW1 hb hp1 (s := 0) (by omega)
      rw [hfa]
      refine wp_iload (q := 51) dX4_sumLostBy_49 rfl rfl ?_
      refine wp_aload_n (i := 3) (q := 52) dX4_sumLostBy_51 rfl rfl rfl ?_
      refine wp_Vi (μ' := mX1_basisSize) (ci := 1) (q := 55) (tX1_basisSizeD (d := d - 1) (by omega) hW1 (hK.eq hE) hb hp1 (by omega)) dX4_sumLostBy_52 okX1_basisSize lkX4_63 hob rfl rfl rfl (Nat.le_of_ble_eq_true rfl) (by omega) rfl ?_
      rw [show bzN (dK D1 (dTo D a)) (dF D1 (dTo D a) 0).1 (dF D1 (dTo D a) 0).2.1 = bzD D (dTo D a) from bzD_eq hE]
      refine wp_icmp_ge (t := 95) (q := 58) dX4_sumLostBy_55 (by decide) rfl (fun hc => ?_) (fun hc => ?_)
      · exact absurd ((nI_leI (by omega) (by omega)).mp hc) (by omega)
      refine wp_aload_n (i := 1) (q := 59) dX4_sumLostBy_58 rfl rfl rfl ?_
      refine wp_aload_n (i := 3) (q := 60) dX4_sumLostBy_59 rfl rfl rfl ?_
      refine wg1_1 (q := 63) dX4_sumLostBy_60 ffX4_69 (by first | exact ch_prg | exact ch_pts | exact ch_acs | exact ch_4 | exact ch_pul | exact ch_obj | assumption) rfl ?_ -- table
      refine wp_iload (q := 65) dX4_sumLostBy_63 rfl rfl ?_
      refine wp_Vr (μ' := mX6_basisRow) (ci := 6) (q := 68) (tX6_basisRowD (d := d - 1) (j := s) (by omega) (by omega) hW1 (hK.eq hE) hb hp1 (by omega)) dX4_sumLostBy_65 okX6_basisRow lkX4_73 htb rfl rfl rfl (Nat.le_of_ble_eq_true rfl) (by omega) rfl ?_
      generalize hSx : (((dF D1 (dTo D a) 0).1, ((dF D1 (dTo D a) 0).2.1.1, (dF D1 (dTo D a) 0).2.1.2.1, (dF D1 (dTo D a) 0).2.1.2.2.1, (dF D1 (dTo D a) 0).2.1.2.2.2.1, bsW (dK D1 (dTo D a) + 1) (dF D1 (dTo D a) 0).2.1.1 (dF D1 (dTo D a) 0).2.1.2.1 (dF D1 (dTo D a) 0).2.1.2.2.1 (dF D1 (dTo D a) 0).2.1.2.2.2.2 s), (dF D1 (dTo D a) 0).2.2) : FS) = Sx
      obtain ⟨g2, e2, hW2, hlo2⟩ := dw_fh2 (I := I) (A := A) (B := B1) (s := 0) (S' := Sx) hW1 hb hp1 (by omega)
      have hE2 := hE.tr (dsF_eq (D := D1) (p := dTo D a) (s := 0) (S' := Sx) (by rw [← hSx]) (by rw [← hSx]) (by rw [← hSx]; exact ⟨rfl, rfl, rfl⟩))
      rw [e2]
      have hrow : ∀ e, e ≤ dK D (dTo D a) → Sx.2.1.2.2.2.2 e = bsV (dK D (dTo D a) + 1) (dF D (dTo D a) 0).2.1 s e := by
        intro e he
        rw [← hSx]
        show bsW _ _ _ _ _ s e = _
        rw [bsW_V (by rw [hE.1.2.2.2.2.1]; omega), bsV_eq ((hE.2 (dTo D a)).2 0).2.2, hE.1.2.2.2.2.1]
      have hbr : (dF (dsF D1 (dTo D a) 0 Sx) (dTo D a) 0).2.1.2.2.2.2 = Sx.2.1.2.2.2.2 := by
        show ((upG (dP D1) (dTo D a) _ (dTo D a)).2.2.2.2 0).2.1.2.2.2.2 = _
        rw [upG_at]
        rfl
      generalize dsF D1 (dTo D a) 0 Sx = D2 at e2 hW2 hE2 hbr
      generalize Sx.2.1.2.2.2.2 = row at hrow hbr
      have hp2 : dTo D a < dNp D2 := by rw [hE2.1.1]; exact hpt
      have hf2 : dFr D a < dNp D2 := by rw [hE2.1.1]; exact hpf
      have ha2 : a < dNa D2 := by rw [hE2.1.2.1]; exact ha
      have hk2 : dK D2 = dK D := hE2.1.2.2.2.2.1
      have hto : dTo D2 = dTo D := hE2.1.2.2.2.2.2.2.1
      have hfr : dFr D2 = dFr D := hE2.1.2.2.2.2.2.1
      have haa : dAa D2 = dAa D := hE2.1.2.2.2.1
      have hM2 : dM D2 = dM D := hE2.1.2.2.2.2.2.2.2
      have hk1 : dK D1 (dTo D a) = dK D (dTo D a) := by rw [hE.1.2.2.2.2.1]
      have hfa2 : dfA D1 (dTo D a) 0 = dfA D2 (dTo D a) 0 := by rw [← hfa]; unfold dfA; rw [hE2.1.2.2.1, hE2.1.2.2.2.2.1]
      have hff2 : dfA D (dFr D a) 0 = dfA D2 (dFr D a) 0 := by unfold dfA; rw [hE2.1.2.2.1, hE2.1.2.2.2.2.1]
      have hbr2 := ch_brow (I := I) (A := A) (B := B1) hW2 hb hp2 (s := 0) (by omega)
      rw [hbr] at hbr2
      have hao := ch_aob (I := I) (A := A) (B := B1) hW2 hb ha2
      rw [haa] at hao
      have hap := hW2.pa hp2 ha2
      have hlt := fA_lt (q := dPa D2 (dTo D a)) (k := dK D2 (dTo D a)) (s := 0) (by omega)
      have hlp := hW2.pl hp2
      rw [hfa2, hk1]
      refine wp_aload_n (i := 0) (q := 69) dX4_sumLostBy_68 rfl rfl rfl ?_
      refine wg4_3 (q := 72) dX4_sumLostBy_69 ffX4_27 (by first | exact ch_prg | exact ch_pts | exact ch_acs | exact ch_4 | exact ch_pul | exact ch_obj | assumption) rfl ?_ -- pulled
      have Mp := tX0_putInD (l := l) (d := d - 1) (I := I) (A := A) (B := B1) (w1 := dfA D2 (dTo D a) 0 + 1 + (dK D2 (dTo D a) + 1 + 4)) hW2 hb ha2 hbr2 (by rw [hto]; rw [hto] at hap; unfold apt at hap; show fA _ _ _ + _ + _ < _ ∨ _ ≤ fA _ _ _ + _ + _; omega) (by show fA _ _ _ + _ + _ ≠ _; omega) (by rw [hto]; omega) (by rw [hk2]; omega)
      rw [haa, hk2, hto, hfr, hM2] at Mp
      refine wp_Vv (μ' := mX0_putIn) (ci := 0) (q := 75) Mp dX4_sumLostBy_72 okX0_putIn lkX4_88 hao rfl rfl rfl (Nat.le_of_ble_eq_true rfl) (by omega) rfl ?_
      obtain ⟨q1, q3, q4, q5, q6, q7, q8, q9, q10, q11, q12, hobf, -⟩ := ch_fob (I := I) (A := A) (B := fun u => if u ≤ dK D (dFr D a) then piR (dM D a) (dK D (dFr D a)) (dK D (dTo D a)) row u else B1 u) hW2 hb hf2 (s := 0) (by omega)
      rw [hff2]
      refine wp_aload_n (i := 2) (q := 76) dX4_sumLostBy_75 rfl rfl rfl ?_
      refine wp_aload_n (i := 0) (q := 77) dX4_sumLostBy_76 rfl rfl rfl ?_
      refine wg4_3 (q := 80) dX4_sumLostBy_77 ffX4_27 (by first | exact ch_prg | exact ch_pts | exact ch_acs | exact ch_4 | exact ch_pul | exact ch_obj | assumption) rfl ?_ -- pulled
      refine wp_Vi (μ' := mX1_spans) (ci := 1) (q := 83) (tX1_spansD (d := d - 1) (by omega) hW2 (hK.eq hE2) hb hf2 (by omega)) dX4_sumLostBy_80 okX1_spans lkX4_92 hobf rfl rfl rfl (Nat.le_of_ble_eq_true rfl) (by omega) rfl ?_
      have hB : spB (dK D2 (dFr D a)) (dF D2 (dFr D a) 0).1 (dF D2 (dFr D a) 0).2.1 (fun u => if u ≤ dK D (dFr D a) then piR (dM D a) (dK D (dFr D a)) (dK D (dTo D a)) row u else B1 u) = slB D a s := by
        rw [← slB_eq hE2]
        unfold slB
        rw [hfr, hto, hk2, hM2]
        refine spB_cg (fun e he => ?_)
        rw [if_pos he]
        refine piR_cg (fun e he => ?_)
        rw [hrow e he, bsV_eq ((hE2.2 _).2 0).2.2]
      rw [hB]
      refine wp_if_ne (t := 89) (q := 86) dX4_sumLostBy_83 (by decide) rfl (fun hz => ?_) (fun hz => ?_)
      · rw [if_pos (b2_ne0.mp hz)] at he
        refine wp_iinc (v := _ + nI 1) (lv' := [_, _, _, some _, _]) (q := 92) dX4_sumLostBy_89 rfl rfl (by decide) rfl rfl ?_
        refine wp_goto (q := 49) dX4_sumLostBy_92 (by decide) ?_
        rw [nI_add]
        have := ih (s + 1) (fun u => if u ≤ dK D (dFr D a) then piR (dM D a) (dK D (dFr D a)) (dK D (dTo D a)) row u else B1 u) D2 g2 hW2 (fun x hx => (hlo2 x hx).trans (hlo x hx)) hE2 (by omega) he
        rw [hfa, hfa2, hff2] at this
        exact this
      · rw [if_neg (by rw [b2_eq0.mp hz]; decide)] at he
        refine wp_iload (q := 88) dX4_sumLostBy_86 rfl rfl ?_
        refine wp_iret dX4_sumLostBy_88 rfl ?_
        exact ⟨by rw [← he], _, D2, g2, rfl, hW2, (fun x hx => (hlo2 x hx).trans (hlo x hx)), hE2⟩
  have hao := ch_aob (I := I) (A := A) (B := B) hW hb ha
  refine mt_in (lv := [_, _, _, _, _]) (by decide) (Nat.le_of_ble_eq_true rfl) rfl ?_
  refine wp_aload_n (i := 1) (q := 1) dX4_sumLostBy_0 rfl rfl rfl ?_
  refine wp_ifnonnull (q := 8) dX4_sumLostBy_1 (by decide) ?_
  refine wp_aload_n (i := 0) (q := 9) dX4_sumLostBy_8 rfl rfl rfl ?_
  refine wp_aload_n (i := 1) (q := 10) dX4_sumLostBy_9 rfl rfl rfl ?_
  refine wg0_0 (q := 13) dX4_sumLostBy_10 ffX4_82 (by first | exact ch_prg | exact ch_pts | exact ch_acs | exact ch_4 | exact ch_pul | exact ch_obj | assumption) rfl ?_ -- from
  refine wp_iconst (v := nI 0) (q := 14) dX4_sumLostBy_13 (by decide) rfl ?_
  refine wp_Vr (μ' := mX4_factsAt) (ci := 4) (q := 17) (tX4_factsAt (d := d - 1) (s := 0) (by omega) hW hb hpf (by omega)) dX4_sumLostBy_14 okX4_factsAt lkX4_59 (by first | exact ch_prg | exact ch_pts | exact ch_acs | exact ch_4 | exact ch_pul | exact ch_obj | assumption) rfl rfl rfl (Nat.le_of_ble_eq_true rfl) (by omega) rfl ?_
  refine wp_astore_n (i := 2) (lv' := [_, some _, _, _, _]) (q := 18) dX4_sumLostBy_17 rfl (by decide) rfl rfl ?_
  refine wp_aload_n (i := 1) (q := 19) dX4_sumLostBy_18 rfl rfl rfl ?_
  refine wp_ifnonnull (q := 26) dX4_sumLostBy_19 (by decide) ?_
  refine wp_aload_n (i := 0) (q := 27) dX4_sumLostBy_26 rfl rfl rfl ?_
  refine wp_aload_n (i := 1) (q := 28) dX4_sumLostBy_27 rfl rfl rfl ?_
  refine wg0_1 (q := 31) dX4_sumLostBy_28 ffX4_85 (by first | exact ch_prg | exact ch_pts | exact ch_acs | exact ch_4 | exact ch_pul | exact ch_obj | assumption) rfl ?_ -- to
  refine wp_iconst (v := nI 0) (q := 32) dX4_sumLostBy_31 (by decide) rfl ?_
  refine wp_Vr (μ' := mX4_factsAt) (ci := 4) (q := 35) (tX4_factsAt (d := d - 1) (s := 0) (by omega) hW hb hpt (by omega)) dX4_sumLostBy_32 okX4_factsAt lkX4_59 (by first | exact ch_prg | exact ch_pts | exact ch_acs | exact ch_4 | exact ch_pul | exact ch_obj | assumption) rfl rfl rfl (Nat.le_of_ble_eq_true rfl) (by omega) rfl ?_
  refine wp_astore_n (i := 3) (lv' := [_, _, some _, _, _]) (q := 36) dX4_sumLostBy_35 rfl (by decide) rfl rfl ?_
  refine wp_aload_n (i := 2) (q := 37) dX4_sumLostBy_36 rfl rfl rfl ?_
  refine wp_ifnull (q := 40) dX4_sumLostBy_37 rfl ?_
  refine wp_aload_n (i := 3) (q := 41) dX4_sumLostBy_40 rfl rfl rfl ?_
  refine wp_ifnonnull (q := 46) dX4_sumLostBy_41 (by decide) ?_
  refine wp_iconst (v := nI 0) (q := 47) dX4_sumLostBy_46 (by decide) rfl ?_
  refine wp_istore (lv' := [_, _, _, some _, _]) (q := 49) dX4_sumLostBy_47 (by decide) rfl rfl ?_
  exact P (bzD D (dTo D a)) 0 B D g hW (fun _ _ => rfl) dEq.rf (by omega) rfl
end PSs
