/-! THE REFERENCE: the basis speaks of the readings alone; sums, sum -/
def eqT (rows n : Nat) (t t' : Nat → Int64) : Prop := ∀ r c, r < rows → c < n → t (5 * r + c) = t' (5 * r + c)
theorem pvF_cg {rows n c : Nat} {t t' : Nat → Int64} (h : eqT rows n t t') (hc : c < n) : ∀ m r, r + m ≤ rows → pvF t c m r = pvF t' c m r
  | 0, _, _ => rfl
  | m + 1, r, hr => by
    unfold pvF
    rw [h r c (by omega) hc, pvF_cg h hc m (r + 1) (by omega)]
theorem exF_at {t : Nat → Int64} {a c n r x : Nat} (hx : x < n) (hn : n ≤ 5) : exF t a c n (5 * r + x) = if r = a then t (5 * c + x) else if r = c then t (5 * a + x) else t (5 * r + x) := by
  unfold exF
  rw [show (5 * r + x) / 5 = r by omega, show (5 * r + x) % 5 = x by omega]
  simp [hx]
theorem elA_at {t : Nat → Int64} {p y : Int64} {c rk n K r x : Nat} (hr : r < K) (hx : x < n) (hn : n ≤ 5) : elA t p y c rk n K (5 * r + x) = if r = rk then t (5 * r + x) else (p * t (5 * r + x) - t (5 * r + c) * t (5 * rk + x)) / y := by
  unfold elA
  rw [show (5 * r + x) / 5 = r by omega, show (5 * r + x) % 5 = x by omega]
  by_cases e : r = rk
  · simp [e]
  · simp [e, hr, hx]
theorem brC_cg {rows n c : Nat} {t t' : Nat → Int64} {fs : List Nat} {y : Int64} (h : eqT rows n t t') (hc : c < n) (hn : n ≤ 5) : eqT rows n (brC n rows c (t, fs, y)).1 (brC n rows c (t', fs, y)).1 ∧ (brC n rows c (t, fs, y)).2 = (brC n rows c (t', fs, y)).2 := by
  unfold brC
  dsimp only
  by_cases hl : fs.length ≤ rows
  · rw [pvF_cg h hc (rows - fs.length) fs.length (by omega)]
    have hge := pvF_ge (t := t') (c := c) (rows - fs.length) fs.length
    generalize pvF t' c (rows - fs.length) fs.length = r at *
    by_cases hr : r < rows
    · rw [if_pos hr, if_pos hr]
      have hx : eqT rows n (exF t r fs.length n) (exF t' r fs.length n) := by
        intro q x hq hxx
        rw [exF_at hxx hn, exF_at hxx hn, h _ _ (by omega : fs.length < rows) hxx, h _ _ hr hxx, h _ _ hq hxx]
      refine ⟨?_, ?_⟩
      · intro q x hq hxx
        dsimp only
        rw [elA_at hq hxx hn, elA_at hq hxx hn, hx _ _ hq hxx, hx _ _ hq hc, hx _ _ (by omega : fs.length < rows) hc, hx _ _ (by omega : fs.length < rows) hxx]
      · dsimp only
        rw [hx _ _ (by omega : fs.length < rows) hc]
    · rw [if_neg hr, if_neg hr]
      exact ⟨h, rfl⟩
  · rw [show rows - fs.length = 0 by omega, show pvF t c 0 fs.length = fs.length from rfl, show pvF t' c 0 fs.length = fs.length from rfl, if_neg (by omega), if_neg (by omega)]
    exact ⟨h, rfl⟩
theorem brF_cg {rows n : Nat} (hn : n ≤ 5) : ∀ m c (t t' : Nat → Int64) (q : List Nat × Int64), c + m = n → eqT rows n t t' → eqT rows n (brF n rows c (t, q)).1 (brF n rows c (t', q)).1 ∧ (brF n rows c (t, q)).2 = (brF n rows c (t', q)).2
  | 0, c, t, t', q, hc, h => by
    rw [brF_end (by omega), brF_end (by omega)]
    exact ⟨h, rfl⟩
  | m + 1, c, t, t', q, hc, h => by
    obtain ⟨fs, y⟩ := q
    rw [brF_step (c := c) (s := (t, fs, y)) (by omega), brF_step (c := c) (s := (t', fs, y)) (by omega)]
    obtain ⟨h1, h2⟩ := brC_cg (fs := fs) (y := y) h (by omega : c < n) hn
    have := brF_cg hn m (c + 1) _ _ (brC n rows c (t, fs, y)).2 (by omega) h1
    rw [show ((brC n rows c (t', fs, y)).1, (brC n rows c (t, fs, y)).2) = brC n rows c (t', fs, y) by rw [h2]] at this
    exact this
/-- the solved table, over an empty one -/
def sl (A : Nat → Nat → Int32) (p side : Nat) : brT := slv A p side (fun _ => 0)
theorem slv_sl {A : Nat → Nat → Int32} {p side : Nat} {t : Nat → Int64} (hM : MP A p) : eqT (rs A p side).length (kA A p + 1) (slv A p side t).1 (sl A p side).1 ∧ (slv A p side t).2 = (sl A p side).2 := by
  unfold sl slv
  refine brF_cg (by have := hM.2.1; omega) (kA A p + 1) 0 _ _ _ (by omega) ?_
  intro r c hr hc
  have := hM.2.1
  unfold lyF
  rw [show (5 * r + c) / 5 = r by omega, show (5 * r + c) % 5 = c by omega]
  by_cases e : c < kA A p
  · rw [if_pos ⟨hr, e⟩, if_pos ⟨hr, e⟩]
  · have e2 : c = kA A p := by omega
    rw [if_neg (fun q => e q.2), if_pos ⟨hr, e2⟩, if_neg (fun q => e q.2), if_pos ⟨hr, e2⟩]
theorem bS_cg {rows n f : Nat} {t t' : Nat → Int64} {fs : List Nat} {y : Int64} (h : eqT rows n t t') (hf : f < n) : ∀ r, r ≤ rows → bS t fs y f r = bS t' fs y f r
  | 0, _ => rfl
  | r + 1, hr => by
    funext c
    unfold bS
    rw [h r f (by omega) hf, bS_cg h hf r (by omega)]
theorem bR_sl {A : Nat → Nat → Int32} {p side f : Nat} {t : Nat → Int64} (hM : MP A p) (hf : f < kA A p + 1) : bR (kA A p + 1) (slv A p side t) f = bR (kA A p + 1) (sl A p side) f := by
  funext c
  obtain ⟨h1, h2⟩ := slv_sl (side := side) (t := t) hM
  have h3 := (slv_inv (side := side) hM (t := t)).2.2.1
  unfold bR
  rw [bS_cg h1 hf _ h3, h2]
/-- the free places of a side: one for each row of its basis -/
abbrev fl8 (A : Nat → Nat → Int32) (p side : Nat) : List Nat := fcL (kA A p + 1) (rs A p side).length (sl A p side).2.1
theorem fcF_lt {n f x : Nat} {fs : List Nat} (h : x ∈ fcF n fs f) : x < n ∧ f ≤ x := by
  unfold fcF at h
  have := (List.mem_filter.mp h).1
  rw [List.mem_range'_1] at this
  omega
theorem fcL_lt {n rows x : Nat} {fs : List Nat} (h : x ∈ fcL n rows fs) : x < n := by
  unfold fcL at h
  split at h
  · simp at h
  · exact (fcF_lt h).1
theorem fcF_len {n f : Nat} {fs : List Nat} : (fcF n fs f).length ≤ n - f := by
  unfold fcF
  have := List.length_filter_le (frF fs) (List.range' f (n - f))
  rw [List.length_range'] at this
  exact this
theorem fcL_len {n rows : Nat} {fs : List Nat} : (fcL n rows fs).length ≤ n := by
  unfold fcL
  split
  · simp
  · exact fcF_len
theorem getD_mem {s : List Nat} {k : Nat} (h : k < s.length) : s.getD k 0 ∈ s := by
  rw [List.getD_eq_getElem?_getD, List.getElem?_eq_getElem h]
  exact List.getElem_mem _
/-- what findBasis leaves, in the words of the readings alone -/
theorem BT_sl {A : Nat → Nat → Int32} {p side : Nat} {B : Nat → Nat → Int64} {I' : Nat → Int32} {L' : Int64} {A' : Nat → Nat → Int32} {B' : Nat → Nat → Int64} (hM : MP A p) (h : BT A p side B I' L' A' B') : I' 16 = nI (rs A p side).length ∧ I' 17 = nI (kA A p + 1) ∧ I' 23 = nI (fl8 A p side).length ∧ ∀ k c, k < (fl8 A p side).length → c < kA A p + 1 → B' 15 (5 * k + c) = bR (kA A p + 1) (sl A p side) ((fl8 A p side).getD k 0) c := by
  obtain ⟨⟨h1, h2, -, -, -, -, -⟩, h3, h4⟩ := h
  have e := (slv_sl (side := side) (t := B 12) hM).2
  rw [e] at h3 h4
  refine ⟨h1, h2, h3, ?_⟩
  intro k c hk hc
  have := hM.2.1
  rw [h4]
  unfold baF
  rw [show (5 * k + c) / 5 = k by omega, show (5 * k + c) % 5 = c by omega, if_pos ⟨hk, hc⟩, bR_sl hM (fcL_lt (getD_mem hk))]
def aSums (A : Nat → Nat → Int32) (np : Nat) (x s : Int32) : Int32 := if (ix np x && ix 3 s) = true then (if (rs A x.toNatClampNeg s.toNatClampNeg).length = 0 then -9 else nI (fl8 A x.toNatClampNeg s.toNatClampNeg).length) else -1
def aSum (A : Nat → Nat → Int32) (np : Nat) (x s k c : Int32) : Int64 := if (ix np x && ix 3 s) = true then (if (ix (fl8 A x.toNatClampNeg s.toNatClampNeg).length k && ix (kA A x.toNatClampNeg + 1) c) = true then bR (kA A x.toNatClampNeg + 1) (sl A x.toNatClampNeg s.toNatClampNeg) ((fl8 A x.toNatClampNeg s.toNatClampNeg).getD k.toNatClampNeg 0) c.toNatClampNeg else -9223372036854775808) else -9223372036854775808
section M19
variable {l : Launch} {d sz b np na p side : Nat} {I : Nat → Int32} {L : Int64} {A : Nat → Nat → Int32} {B : Nat → Nat → Int64} {g : Nat → Option aE}
theorem tX8_sums {x s : Int32} (hd : 4 ≤ d) (hM : MM I A np) : mt l mX8_sums d 0 0 [.ref b, .int x, .int s] (sz, mh b I L A B g) (fun rv h' => rv = some (.int (aSums A np x s)) ∧ ∃ I' L' A' B', h' = (sz, mh b I' L' A' B' g) ∧ SC [16, 17, 18, 23] [13, 14] I A I' A' ∧ SB [12, 15] B B') := by
  obtain ⟨hn, h0, hP, -⟩ := hM
  refine mt_in (lv := [_, _, _]) (by decide) (Nat.le_of_ble_eq_true rfl) rfl ?_
  refine wp_aload_n (i := 0) (q := 1) dX8_sums_0 rfl rfl rfl ?_
  refine wp_iload_n (i := 1) (q := 2) dX8_sums_1 rfl rfl rfl ?_
  refine wp_iload_n (i := 2) (q := 3) dX8_sums_2 rfl rfl rfl ?_
  refine wp_Vi (μ' := mX8_noSide) (ci := 8) (q := 6) (tX8_noSide (d := d - 1) (by omega) hn h0) dX8_sums_3 okX8_noSide lkX8_138 mh_obj rfl rfl rfl (Nat.le_of_ble_eq_true rfl) (by omega) rfl ?_
  unfold aSums
  refine wp_if_eq (t := 11) (q := 9) dX8_sums_6 (by decide) rfl (fun hc => ?_) (fun hc => ?_)
  · have hc := b2n_eq0.mp hc
    rw [if_pos hc]
    obtain ⟨h1, h2⟩ := Bool.and_eq_true_iff.mp hc
    obtain ⟨p, hp, rfl⟩ := ix_of h1 (by omega)
    obtain ⟨s, hs, rfl⟩ := ix_of h2 (by omega)
    rw [nI_clamp (by omega), nI_clamp (by omega)]
    have hMp := hP p (by omega)
    have hrl := rs_len (A := A) (p := p) (side := s) hMp.2.2.2.1
    refine wp_aload_n (i := 0) (q := 12) dX8_sums_11 rfl rfl rfl ?_
    refine wp_iload_n (i := 1) (q := 13) dX8_sums_12 rfl rfl rfl ?_
    refine wp_iload_n (i := 2) (q := 14) dX8_sums_13 rfl rfl rfl ?_
    refine wp_V (μ' := mX8_findBasis) (ci := 8) (q := 17) (tX8_findBasis (d := d - 1) (by omega) (by omega) hs hMp) dX8_sums_14 okX8_findBasis lkX8_236 mh_obj rfl rfl rfl (Nat.le_of_ble_eq_true rfl) (by omega) rfl (fun rv hx hq => ?_)
    obtain ⟨rfl, I1, L1, A1, B1, rfl, hS, hB, hT⟩ := hq
    obtain ⟨t1, t2, t3, t4⟩ := BT_sl hMp hT
    show wp _ _ _ _ _ _ _ _ _ _ []
    refine wp_aload_n (i := 0) (q := 18) dX8_sums_17 rfl rfl rfl ?_
    refine wm_getI (k := 16) (q := 21) dX8_sums_18 ffX8_217 rfl rfl ?_ -- rows
    rw [t1]
    refine wp_if_ne (t := 29) (q := 24) dX8_sums_21 (by decide) rfl (fun hr => ?_) (fun hr => ?_)
    · rw [if_neg (fun q => hr (by rw [q]; rfl))]
      refine wp_aload_n (i := 0) (q := 30) dX8_sums_29 rfl rfl rfl ?_
      refine wm_getI (k := 23) (q := 33) dX8_sums_30 ffX8_230 rfl rfl ?_ -- basis
      rw [t3]
      refine wp_iret dX8_sums_33 rfl ?_
      exact ⟨rfl, I1, L1, A1, B1, rfl, hS, hB⟩
    · rw [if_pos ((nI_eq (b := 0) (by omega) (by decide)).mp hr)]
      refine wp_bipush (v := (-9)) (q := 26) dX8_sums_24 (by decide) rfl ?_
      refine wp_goto (q := 33) dX8_sums_26 (by decide) ?_
      refine wp_iret dX8_sums_33 rfl ?_
      exact ⟨rfl, I1, L1, A1, B1, rfl, hS, hB⟩
  · rw [if_neg (by rw [b2n_ne0.mp hc]; decide)]
    refine wp_iconst (v := (-1)) (q := 10) dX8_sums_9 (by decide) rfl ?_
    refine wp_iret dX8_sums_10 rfl ?_
    exact ⟨rfl, I, L, A, B, rfl, SC.rf, SB.rf⟩
theorem tX8_sum {x s k c : Int32} (hd : 4 ≤ d) (hM : MM I A np) : mt l mX8_sum d 0 0 [.ref b, .int x, .int s, .int k, .int c] (sz, mh b I L A B g) (fun rv h' => rv = some (.long (aSum A np x s k c)) ∧ ∃ I' L' A' B', h' = (sz, mh b I' L' A' B' g) ∧ SC [16, 17, 18, 23] [13, 14] I A I' A' ∧ SB [12, 15] B B') := by
  obtain ⟨hn, h0, hP, -⟩ := hM
  refine mt_in (lv := [_, _, _, _, _]) (by decide) (Nat.le_of_ble_eq_true rfl) rfl ?_
  refine wp_aload_n (i := 0) (q := 1) dX8_sum_0 rfl rfl rfl ?_
  refine wp_iload_n (i := 1) (q := 2) dX8_sum_1 rfl rfl rfl ?_
  refine wp_iload_n (i := 2) (q := 3) dX8_sum_2 rfl rfl rfl ?_
  refine wp_Vi (μ' := mX8_noSide) (ci := 8) (q := 6) (tX8_noSide (d := d - 1) (by omega) hn h0) dX8_sum_3 okX8_noSide lkX8_138 mh_obj rfl rfl rfl (Nat.le_of_ble_eq_true rfl) (by omega) rfl ?_
  unfold aSum
  refine wp_if_eq (t := 13) (q := 9) dX8_sum_6 (by decide) rfl (fun hc => ?_) (fun hc => ?_)
  · have hc := b2n_eq0.mp hc
    rw [if_pos hc]
    obtain ⟨h1, h2⟩ := Bool.and_eq_true_iff.mp hc
    obtain ⟨p, hp, rfl⟩ := ix_of h1 (by omega)
    obtain ⟨s, hs, rfl⟩ := ix_of h2 (by omega)
    rw [nI_clamp (by omega), nI_clamp (by omega)]
    have hMp := hP p (by omega)
    have hk4 := hMp.2.1
    have hlen : (fl8 A p s).length ≤ kA A p + 1 := fcL_len
    refine wp_aload_n (i := 0) (q := 14) dX8_sum_13 rfl rfl rfl ?_
    refine wp_iload_n (i := 1) (q := 15) dX8_sum_14 rfl rfl rfl ?_
    refine wp_iload_n (i := 2) (q := 16) dX8_sum_15 rfl rfl rfl ?_
    refine wp_V (μ' := mX8_findBasis) (ci := 8) (q := 19) (tX8_findBasis (d := d - 1) (by omega) (by omega) hs hMp) dX8_sum_16 okX8_findBasis lkX8_236 mh_obj rfl rfl rfl (Nat.le_of_ble_eq_true rfl) (by omega) rfl (fun rv hx hq => ?_)
    obtain ⟨rfl, I1, L1, A1, B1, rfl, hS, hB, hT⟩ := hq
    obtain ⟨t1, t2, t3, t4⟩ := BT_sl hMp hT
    show wp _ _ _ _ _ _ _ _ _ _ []
    refine wp_iload_n (i := 3) (q := 20) dX8_sum_19 rfl rfl rfl ?_
    refine wp_iconst (v := nI 0) (q := 21) dX8_sum_20 (by decide) rfl ?_
    refine wp_aload_n (i := 0) (q := 22) dX8_sum_21 rfl rfl rfl ?_
    refine wm_getI (k := 23) (q := 25) dX8_sum_22 ffX8_230 rfl rfl ?_ -- basis
    refine wp_iconst (v := nI 1) (q := 26) dX8_sum_25 (by decide) rfl ?_
    refine wp_isub (q := 27) dX8_sum_26 rfl ?_
    rw [t3]
    refine wp_Si (μ' := mX8_in) (q := 30) (tX8_in (d := d - 1)) dX8_sum_27 okX8_in lkX8_115 rfl rfl (Nat.le_of_ble_eq_true rfl) (by omega) rfl ?_
    rw [inB_pt (by omega)]
    refine wp_if_eq (t := 62) (q := 33) dX8_sum_30 (by decide) rfl (fun hk => ?_) (fun hk => ?_)
    · rw [b2_eq0.mp hk, Bool.false_and, if_neg (by decide)]
      refine wp_ldc2 (v := (-9223372036854775808)) (q := 65) dX8_sum_62 ktX8_239 rfl ?_
      refine wp_lret dX8_sum_65 rfl ?_
      exact ⟨rfl, I1, L1, A1, B1, rfl, hS, hB⟩
    have hk := b2_ne0.mp hk
    rw [hk, Bool.true_and]
    obtain ⟨k, hk1, rfl⟩ := ix_of hk (by omega)
    refine wp_iload (q := 35) dX8_sum_33 rfl rfl ?_
    refine wp_iconst (v := nI 0) (q := 36) dX8_sum_35 (by decide) rfl ?_
    refine wp_aload_n (i := 0) (q := 37) dX8_sum_36 rfl rfl rfl ?_
    refine wm_getI (k := 17) (q := 40) dX8_sum_37 ffX8_214 rfl rfl ?_ -- columns
    refine wp_iconst (v := nI 1) (q := 41) dX8_sum_40 (by decide) rfl ?_
    refine wp_isub (q := 42) dX8_sum_41 rfl ?_
    rw [t2]
    refine wp_Si (μ' := mX8_in) (q := 45) (tX8_in (d := d - 1)) dX8_sum_42 okX8_in lkX8_115 rfl rfl (Nat.le_of_ble_eq_true rfl) (by omega) rfl ?_
    rw [inB_pt (by omega)]
    refine wp_if_eq (t := 62) (q := 48) dX8_sum_45 (by decide) rfl (fun hk => ?_) (fun hk => ?_)
    · rw [b2_eq0.mp hk, if_neg (by decide)]
      refine wp_ldc2 (v := (-9223372036854775808)) (q := 65) dX8_sum_62 ktX8_239 rfl ?_
      refine wp_lret dX8_sum_65 rfl ?_
      exact ⟨rfl, I1, L1, A1, B1, rfl, hS, hB⟩
    have hk := b2_ne0.mp hk
    rw [hk, if_pos rfl]
    obtain ⟨c, hc1, rfl⟩ := ix_of hk (by omega)
    refine wp_aload_n (i := 0) (q := 49) dX8_sum_48 rfl rfl rfl ?_
    refine wm_getA (k := 24) (o := 15) (q := 52) dX8_sum_49 ffX8_54 rfl rfl rfl ?_ -- base
    refine wp_iconst (v := nI 5) (q := 53) dX8_sum_52 (by decide) rfl ?_
    refine wp_iload_n (i := 3) (q := 54) dX8_sum_53 rfl rfl rfl ?_
    refine wp_imul (q := 55) dX8_sum_54 rfl ?_
    refine wp_iload (q := 57) dX8_sum_55 rfl rfl ?_
    refine wp_iadd (q := 58) dX8_sum_57 rfl ?_
    rw [pk_mul, nI_add]
    refine wm_laldN (q := 59) dX8_sum_58 ⟨by decide, by decide, rfl⟩ rfl (by simp only [mlen]; omega) (by decide) rfl ?_
    refine wp_goto (q := 65) dX8_sum_59 (by decide) ?_
    rw [t4 k c hk1 hc1, nI_clamp (by omega), nI_clamp (by omega)]
    refine wp_lret dX8_sum_65 rfl ?_
    exact ⟨rfl, I1, L1, A1, B1, rfl, hS, hB⟩
  · rw [if_neg (by rw [b2n_ne0.mp hc]; decide)]
    refine wp_ldc2 (v := (-9223372036854775808)) (q := 12) dX8_sum_9 ktX8_239 rfl ?_
    refine wp_lret dX8_sum_12 rfl ?_
    exact ⟨rfl, I, L, A, B, rfl, SC.rf, SB.rf⟩
end M19
