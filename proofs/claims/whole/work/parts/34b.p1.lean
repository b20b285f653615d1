/-! THE CLASS: Point, its methods -/
/-- the side that numbers are of -/
def sdO (k : Nat) (sv sb : Int32) (x : Nat → Int32) : Nat := if ix k sv = true then (if x sv.toNatClampNeg < sb then 2 else 1) else 0
theorem sdO_lt {k : Nat} {sv sb : Int32} {x : Nat → Int32} : sdO k sv sb x < 3 := by
  unfold sdO
  split
  · split <;> omega
  · omega
theorem sdO_pos {k : Nat} {sv sb : Int32} {x : Nat → Int32} (h : ix k sv = true) : sdO k sv sb x = 1 ∨ sdO k sv sb x = 2 := by
  unfold sdO
  rw [if_pos h]
  split
  · exact Or.inr rfl
  · exact Or.inl rfl
def clS (S : FS) : FS := (0, (0, S.2.1.2), S.2.2)
/-- a side of readings from the first ones on -/
def ptL (k : Nat) (sv sb : Int32) (R : Nat → Nat → Int32) (s n : Nat) : List (Nat → Int32) := ((List.range n).filter (fun r => decide (sdO k sv sb (R r) = s))).map R
def ptS (k : Nat) (sv sb : Int32) (R : Nat → Nat → Int32) (S : Nat → FS) (n : Nat) : Nat → FS := fun s => if s = 1 ∨ s = 2 then (ptL k sv sb R s n).foldl (adF k) (clS (S s)) else S s
theorem ptS_succ {k : Nat} {sv sb : Int32} {R : Nat → Nat → Int32} {S : Nat → FS} {n : Nat} (h : ix k sv = true) : ptS k sv sb R S (n + 1) = upG (ptS k sv sb R S n) (sdO k sv sb (R n)) (adF k (ptS k sv sb R S n (sdO k sv sb (R n))) (R n)) := by
  funext s
  by_cases w : s = sdO k sv sb (R n)
  · subst w
    rw [upG_at]
    have h12 := sdO_pos (sb := sb) (x := R n) h
    unfold ptS
    rw [if_pos h12, if_pos h12]
    unfold ptL
    rw [List.range_succ, List.filter_append, List.filter_cons, if_pos (decide_eq_true rfl), List.filter_nil, List.map_append, List.foldl_append]
    rfl
  · rw [upG_ne w]
    unfold ptS ptL
    have e : (List.filter (fun r => decide (sdO k sv sb (R r) = s)) [n]) = [] := by
      rw [List.filter_cons, if_neg (by rw [decide_eq_false (fun q => w q.symm)]; decide), List.filter_nil]
    rw [List.range_succ, List.filter_append, e, List.append_nil]
section P1
variable {l : Launch} {d sz q k n : Nat} {sv sb : Int32} {R : Nat → Nat → Int32} {S : Nat → FS} {G : Nat → Option aE} {h : aH}
theorem tX3_hasVariable {x : Int32} (hk : k < 2 ^ 20) : mt l mX3_hasVariable d 0 0 [.ref q, .int x] (sz, ph q k (n, sv, sb, R, S) G) (rI (b2 (ix k x)) (sz, ph q k (n, sv, sb, R, S) G)) := by
  refine mt_in (lv := [_, _]) (by decide) (Nat.le_of_ble_eq_true rfl) rfl ?_
  refine wp_iload_n (i := 1) (q := 1) dX3_hasVariable_0 rfl rfl rfl ?_
  refine wp_if_lt (t := 16) (q := 4) dX3_hasVariable_1 (by decide) rfl (fun hc => ?_) (fun hc => ?_)
  · rw [show ix k x = false by
      unfold ix
      refine decide_eq_false (fun q => ?_)
      have := Int32.lt_iff_toInt_lt.mp hc
      rw [show (0 : Int32).toInt = 0 from rfl] at this
      omega]
    refine wp_iconst (v := nI 0) (q := 17) dX3_hasVariable_16 (by decide) rfl ?_
    refine wp_zret dX3_hasVariable_17 rfl (by first | exact Or.inl rfl | exact Or.inr rfl | exact b2_01 _ | assumption) ?_
    exact ⟨rfl, rfl⟩
  obtain ⟨j, hj, rfl⟩ := nI_of hc
  rw [ix_nI hj]
  refine wp_iload_n (i := 1) (q := 5) dX3_hasVariable_4 rfl rfl rfl ?_
  refine wp_aload_n (i := 0) (q := 6) dX3_hasVariable_5 rfl rfl rfl ?_
  refine wg3_0 (q := 9) dX3_hasVariable_6 ffX3_9 (by first | exact ph_obj | exact ph_rds | exact ph_rd (by omega) | exact ph_sds | assumption | exact (ph_out (by omega)).trans (by assumption)) rfl ?_ -- size
  refine wp_icmp_ge (t := 16) (q := 12) dX3_hasVariable_9 (by decide) rfl (fun hc2 => ?_) (fun hc2 => ?_)
  · rw [decide_eq_false (Nat.not_lt.mpr ((nI_leI (by omega) (by omega)).mp hc2))]
    refine wp_iconst (v := nI 0) (q := 17) dX3_hasVariable_16 (by decide) rfl ?_
    refine wp_zret dX3_hasVariable_17 rfl (by first | exact Or.inl rfl | exact Or.inr rfl | exact b2_01 _ | assumption) ?_
    exact ⟨rfl, rfl⟩
  · rw [decide_eq_true (Nat.not_le.mp (fun q => hc2 ((nI_leI (by omega) (by omega)).mpr q)))]
    refine wp_iconst (v := nI 1) (q := 13) dX3_hasVariable_12 (by decide) rfl ?_
    refine wp_goto (q := 17) dX3_hasVariable_13 (by decide) ?_
    refine wp_zret dX3_hasVariable_17 rfl (by first | exact Or.inl rfl | exact Or.inr rfl | exact b2_01 _ | assumption) ?_
    exact ⟨rfl, rfl⟩
theorem tX3_sideOf {w mm : Nat} {x : Nat → Int32} (hd : 1 ≤ d) (hk : k < 2 ^ 20) (hw : ph q k (n, sv, sb, R, S) G w = some (iA mm x)) (hm : k ≤ mm) (hm2 : mm < 2 ^ 30) : mt l mX3_sideOf d 0 0 [.ref q, .ref w] (sz, ph q k (n, sv, sb, R, S) G) (rI (nI (sdO k sv sb x)) (sz, ph q k (n, sv, sb, R, S) G)) := by
  refine mt_in (lv := [_, _]) (by decide) (Nat.le_of_ble_eq_true rfl) rfl ?_
  refine wp_aload_n (i := 0) (q := 1) dX3_sideOf_0 rfl rfl rfl ?_
  refine wp_aload_n (i := 0) (q := 2) dX3_sideOf_1 rfl rfl rfl ?_
  refine wg3_4 (q := 5) dX3_sideOf_2 ffX3_32 (by first | exact ph_obj | exact ph_rds | exact ph_rd (by omega) | exact ph_sds | assumption | exact (ph_out (by omega)).trans (by assumption)) rfl ?_ -- splitVariable
  refine wp_Vi (μ' := mX3_hasVariable) (ci := 3) (q := 8) (tX3_hasVariable (d := d - 1) hk) dX3_sideOf_5 okX3_hasVariable lkX3_38 (by first | exact ph_obj | exact ph_rds | exact ph_rd (by omega) | exact ph_sds | assumption | exact (ph_out (by omega)).trans (by assumption)) rfl rfl rfl (Nat.le_of_ble_eq_true rfl) (by omega) rfl ?_
  unfold sdO
  refine wp_if_ne (t := 13) (q := 11) dX3_sideOf_8 (by decide) rfl (fun hv => ?_) (fun hv => ?_)
  · have hv := b2_ne0.mp hv
    rw [if_pos hv]
    obtain ⟨j, hj, rfl⟩ := ix_of hv (by omega)
    rw [nI_clamp (by omega)]
    refine wp_aload_n (i := 1) (q := 14) dX3_sideOf_13 rfl rfl rfl ?_
    refine wp_aload_n (i := 0) (q := 15) dX3_sideOf_14 rfl rfl rfl ?_
    refine wg3_4 (q := 18) dX3_sideOf_15 ffX3_32 (by first | exact ph_obj | exact ph_rds | exact ph_rd (by omega) | exact ph_sds | assumption | exact (ph_out (by omega)).trans (by assumption)) rfl ?_ -- splitVariable
    refine wq_iald (q := 19) dX3_sideOf_18 (by first | exact ph_obj | exact ph_rds | exact ph_rd (by omega) | exact ph_sds | assumption | exact (ph_out (by omega)).trans (by assumption)) rfl (by first | omega | exact ⟨by omega, by omega⟩) rfl ?_
    refine wp_aload_n (i := 0) (q := 20) dX3_sideOf_19 rfl rfl rfl ?_
    refine wg3_5 (q := 23) dX3_sideOf_20 ffX3_35 (by first | exact ph_obj | exact ph_rds | exact ph_rd (by omega) | exact ph_sds | assumption | exact (ph_out (by omega)).trans (by assumption)) rfl ?_ -- splitBound
    refine wp_icmp_lt (t := 30) (q := 26) dX3_sideOf_23 (by decide) rfl (fun hc => ?_) (fun hc => ?_)
    · rw [if_pos hc]
      refine wp_iconst (v := nI 2) (q := 31) dX3_sideOf_30 (by decide) rfl ?_
      refine wp_iret dX3_sideOf_31 rfl ?_
      exact ⟨rfl, rfl⟩
    · rw [if_neg hc]
      refine wp_iconst (v := nI 1) (q := 27) dX3_sideOf_26 (by decide) rfl ?_
      refine wp_goto (q := 31) dX3_sideOf_27 (by decide) ?_
      refine wp_iret dX3_sideOf_31 rfl ?_
      exact ⟨rfl, rfl⟩
  · rw [if_neg (by rw [b2_eq0.mp hv]; decide)]
    refine wp_iconst (v := nI 0) (q := 12) dX3_sideOf_11 (by decide) rfl ?_
    refine wp_iret dX3_sideOf_12 rfl ?_
    exact ⟨rfl, rfl⟩
theorem tX3_keep {w mm : Nat} {x : Nat → Int32} (hd : 1 ≤ d) (hk : k < 2 ^ 20) (hn : n < 40) (hw : G w = some (iA mm x)) (hwo : w < q ∨ q + (9 * k + 94) ≤ w) (hm : k ≤ mm) (hm2 : mm < 2 ^ 30) : mt l mX3_keep d 0 0 [.ref q, .ref w] (sz, ph q k (n, sv, sb, R, S) G) (rV (sz, ph q k (n + 1, sv, sb, upR R n (fun v => if v < k then x v else R n v), S) G)) := by
  refine mt_in (lv := [_, _]) (by decide) (Nat.le_of_ble_eq_true rfl) rfl ?_
  refine wp_aload_n (i := 0) (q := 1) dX3_keep_0 rfl rfl rfl ?_
  refine wg3_3 (q := 4) dX3_keep_1 ffX3_29 (by first | exact ph_obj | exact ph_rds | exact ph_rd (by omega) | exact ph_sds | assumption | exact (ph_out (by omega)).trans (by assumption)) rfl ?_ -- count
  refine wp_bipush (v := nI 40) (q := 6) dX3_keep_4 (by decide) rfl ?_
  refine wp_icmp_ge (t := 32) (q := 9) dX3_keep_6 (by decide) rfl (fun hc => ?_) (fun hc => ?_)
  · exact absurd ((nI_leI (by omega) (by omega)).mp hc) (by omega)
  refine wp_aload_n (i := 1) (q := 10) dX3_keep_9 rfl rfl rfl ?_
  refine wp_aload_n (i := 0) (q := 11) dX3_keep_10 rfl rfl rfl ?_
  refine wg3_1 (q := 14) dX3_keep_11 ffX3_17 (by first | exact ph_obj | exact ph_rds | exact ph_rd (by omega) | exact ph_sds | assumption | exact (ph_out (by omega)).trans (by assumption)) rfl ?_ -- readings
  refine wp_aload_n (i := 0) (q := 15) dX3_keep_14 rfl rfl rfl ?_
  refine wg3_3 (q := 18) dX3_keep_15 ffX3_29 (by first | exact ph_obj | exact ph_rds | exact ph_rd (by omega) | exact ph_sds | assumption | exact (ph_out (by omega)).trans (by assumption)) rfl ?_ -- count
  refine wq_aald (q := 19) dX3_keep_18 (by first | exact ph_obj | exact ph_rds | exact ph_rd (by omega) | exact ph_sds | assumption | exact (ph_out (by omega)).trans (by assumption)) (by decide) rfl (by first | omega | exact ⟨by omega, by omega⟩) (by exact if_pos (by omega)) rfl ?_
  refine wp_SNv (μ' := mX7_copy) (q := 22) (tX7_copy (d := d - 1) (n := mm) (m := k) (f := x) (g := R n) ((ph_out hwo).trans hw) (ph_rd hn) (by omega) (by omega) (by omega)) dX3_keep_19 okX7_copy lkX3_42 rfl rfl (Nat.le_of_ble_eq_true rfl) (by omega) rfl ?_
  rw [ph_sR hn, show min mm k = k by omega]
  refine wp_aload_n (i := 0) (q := 23) dX3_keep_22 rfl rfl rfl ?_
  refine wp_dup (q := 24) dX3_keep_23 rfl rfl ?_
  refine wg3_3 (q := 27) dX3_keep_24 ffX3_29 (by first | exact ph_obj | exact ph_rds | exact ph_rd (by omega) | exact ph_sds | assumption | exact (ph_out (by omega)).trans (by assumption)) rfl ?_ -- count
  refine wp_iconst (v := nI 1) (q := 28) dX3_keep_27 (by decide) rfl ?_
  refine wp_iadd (q := 29) dX3_keep_28 rfl ?_
  rw [nI_add]
  refine wt3_3 (q := 32) dX3_keep_29 ffX3_29 (by first | exact ph_obj | exact ph_rds | exact ph_rd (by omega) | exact ph_sds | assumption | exact (ph_out (by omega)).trans (by assumption)) (by first | exact ph_sO | exact ph_sR (by omega)) rfl ?_ -- count
  refine wp_vret dX3_keep_32 rfl ?_
  exact ⟨rfl, rfl⟩
theorem tX1_clearP {s : Nat} (hd : 1 ≤ d) (hs : s < 3) : mt l mX1_clear d 0 0 [.ref (fA q k s)] (sz, ph q k (n, sv, sb, R, S) G) (rV (sz, ph q k (n, sv, sb, R, upG S s (clS (S s))) G)) := by
  have M := tX1_clear (l := l) (d := d) (sz := sz) (q := fA q k s) (k := k) (c := (S s).1) (T := (S s).2.1) (V := (S s).2.2) (G := ph q k (n, sv, sb, R, S) G) hd
  rw [show ((S s).1, (S s).2.1, (S s).2.2) = S s from rfl, ← ph_fh hs, ph_fh2 hs] at M
  exact M
theorem tX1_addP {s w mm : Nat} {x : Nat → Int32} (hd : 4 ≤ d) (hs : s < 3) (hk : k < 2 ^ 20) (hf : fOK k (S s)) (hc : (S s).1 < 2 ^ 20) (hw : ph q k (n, sv, sb, R, S) G w = some (iA mm x)) (hwo : w < q + 43 ∨ q + (9 * k + 94) ≤ w) (hm : k ≤ mm) (hm2 : mm < 2 ^ 30) : mt l mX1_add d 0 0 [.ref (fA q k s), .ref w] (sz, ph q k (n, sv, sb, R, S) G) (rV (sz, ph q k (n, sv, sb, R, upG S s (adF k (S s) x)) G)) := by
  have hl := fA_lt (q := q) (k := k) hs
  have M := tX1_add (l := l) (d := d) (sz := sz) (q := fA q k s) (k := k) (c := (S s).1) (T := (S s).2.1) (V := (S s).2.2) (G := ph q k (n, sv, sb, R, S) G) (w := w) (mm := mm) (x := x) hd hf.1 hk hc (fun i hi => by have := (hf.2 i hi).1; omega) hw (by omega) hm hm2
  rw [show ((S s).1, (S s).2.1, (S s).2.2) = S s from rfl, ← ph_fh hs, ph_fh2 hs] at M
  exact M
theorem ph_fo {s : Nat} (hs : s < 3) : ∃ F, ph q k (n, sv, sb, R, S) G (fA q k s) = some (.inr (1, F)) := by
  rw [ph_fh hs]
  exact ⟨_, fh_obj (c := (S s).1) (T := (S s).2.1) (V := (S s).2.2)⟩
theorem foldl_ok {k : Nat} : ∀ (xs : List (Nat → Int32)) (S : FS), fOK k S → fOK k (xs.foldl (adF k) S) ∧ (xs.foldl (adF k) S).1 = S.1 + xs.length
  | [], S, h => ⟨h, rfl⟩
  | x :: xs, S, h => by
    have := foldl_ok xs (adF k S x) (fOK_ad h)
    rw [List.foldl_cons]
    refine ⟨this.1, ?_⟩
    rw [this.2, List.length_cons]
    show S.1 + 1 + xs.length = _
    omega
theorem ptS_ok {m s : Nat} (hS : ∀ s, s < 3 → fOK k (S s)) (h0 : (S 0).1 < 2 ^ 19) (hm : m < 2 ^ 19) (hs : s < 3) : fOK k (ptS k sv sb R S m s) ∧ (ptS k sv sb R S m s).1 < 2 ^ 20 := by
  unfold ptS
  by_cases w : s = 1 ∨ s = 2
  · rw [if_pos w]
    have := foldl_ok (k := k) (ptL k sv sb R s m) (clS (S s)) (fOK_cl (hS s hs))
    refine ⟨this.1, ?_⟩
    rw [this.2]
    have h2 : (ptL k sv sb R s m).length ≤ m := by
      unfold ptL
      rw [List.length_map]
      have := List.length_filter_le (fun r => decide (sdO k sv sb (R r) = s)) (List.range m)
      rw [List.length_range] at this
      exact this
    show 0 + _ < _
    omega
  · rw [if_neg w, show s = 0 by omega]
    exact ⟨hS 0 (by omega), by omega⟩
theorem tX3_part {v : Nat} {b : Int32} (hd : 5 ≤ d) (hk : k < 2 ^ 20) (hv : v < k) (hn : n ≤ 40) (hS : ∀ s, s < 3 → fOK k (S s)) (h0 : (S 0).1 < 2 ^ 19) : mt l mX3_part d 0 0 [.ref q, .int (nI v), .int b] (sz, ph q k (n, sv, sb, R, S) G) (rV (sz, ph q k (n, nI v, b, R, ptS k (nI v) b R S n) G)) := by
  have hix : ix k (nI v) = true := by rw [ix_nI (by omega)]; exact decide_eq_true hv
  refine mt_in (lv := [_, _, _, _]) (by decide) (Nat.le_of_ble_eq_true rfl) rfl ?_
  refine wp_aload_n (i := 0) (q := 1) dX3_part_0 rfl rfl rfl ?_
  refine wp_iload_n (i := 1) (q := 2) dX3_part_1 rfl rfl rfl ?_
  refine wt3_4 (q := 5) dX3_part_2 ffX3_32 (by first | exact ph_obj | exact ph_rds | exact ph_rd (by omega) | exact ph_sds | assumption | exact (ph_out (by omega)).trans (by assumption)) (by first | exact ph_sO | exact ph_sR (by omega)) rfl ?_ -- splitVariable
  refine wp_aload_n (i := 0) (q := 6) dX3_part_5 rfl rfl rfl ?_
  refine wp_iload_n (i := 2) (q := 7) dX3_part_6 rfl rfl rfl ?_
  refine wt3_5 (q := 10) dX3_part_7 ffX3_35 (by first | exact ph_obj | exact ph_rds | exact ph_rd (by omega) | exact ph_sds | assumption | exact (ph_out (by omega)).trans (by assumption)) (by first | exact ph_sO | exact ph_sR (by omega)) rfl ?_ -- splitBound
  refine wp_aload_n (i := 0) (q := 11) dX3_part_10 rfl rfl rfl ?_
  refine wg3_2 (q := 14) dX3_part_11 ffX3_22 (by first | exact ph_obj | exact ph_rds | exact ph_rd (by omega) | exact ph_sds | assumption | exact (ph_out (by omega)).trans (by assumption)) rfl ?_ -- sides
  refine wp_iconst (v := nI 1) (q := 15) dX3_part_14 (by decide) rfl ?_
  refine wq_aald (q := 16) dX3_part_15 (by first | exact ph_obj | exact ph_rds | exact ph_rd (by omega) | exact ph_sds | assumption | exact (ph_out (by omega)).trans (by assumption)) (by decide) rfl (by first | omega | exact ⟨by omega, by omega⟩) (by exact if_pos (by omega)) rfl ?_
  obtain ⟨F1, hF1⟩ := ph_fo (q := q) (k := k) (n := n) (sv := nI v) (sb := b) (R := R) (S := S) (G := G) (s := 1) (by omega)
  refine wp_Vv (μ' := mX1_clear) (ci := 1) (q := 19) (tX1_clearP (d := d - 1) (s := 1) (by omega) (by omega)) dX3_part_16 okX1_clear lkX3_46 hF1 rfl rfl rfl (Nat.le_of_ble_eq_true rfl) (by omega) rfl ?_
  refine wp_aload_n (i := 0) (q := 20) dX3_part_19 rfl rfl rfl ?_
  refine wg3_2 (q := 23) dX3_part_20 ffX3_22 (by first | exact ph_obj | exact ph_rds | exact ph_rd (by omega) | exact ph_sds | assumption | exact (ph_out (by omega)).trans (by assumption)) rfl ?_ -- sides
  refine wp_iconst (v := nI 2) (q := 24) dX3_part_23 (by decide) rfl ?_
  refine wq_aald (q := 25) dX3_part_24 (by first | exact ph_obj | exact ph_rds | exact ph_rd (by omega) | exact ph_sds | assumption | exact (ph_out (by omega)).trans (by assumption)) (by decide) rfl (by first | omega | exact ⟨by omega, by omega⟩) (by exact if_pos (by omega)) rfl ?_
  obtain ⟨F2, hF2⟩ := ph_fo (q := q) (k := k) (n := n) (sv := nI v) (sb := b) (R := R) (S := upG S 1 (clS (S 1))) (G := G) (s := 2) (by omega)
  refine wp_Vv (μ' := mX1_clear) (ci := 1) (q := 28) (tX1_clearP (d := d - 1) (s := 2) (by omega) (by omega)) dX3_part_25 okX1_clear lkX3_46 hF2 rfl rfl rfl (Nat.le_of_ble_eq_true rfl) (by omega) rfl ?_
  refine wp_iconst (v := nI 0) (q := 29) dX3_part_28 (by decide) rfl ?_
  refine wp_istore_n (i := 3) (lv' := [_, _, some _, _]) (q := 30) dX3_part_29 rfl (by decide) rfl rfl ?_
  have P : ∀ m r, r + m = n → wp l mX3_part [] d 0 0 (rV (sz, ph q k (n, nI v, b, R, ptS k (nI v) b R S n) G)) (sz, ph q k (n, nI v, b, R, ptS k (nI v) b R S r) G) 30 [some (.ref q), some (.int (nI v)), some (.int b), some (.int (nI r))] [] := by
    intro m
    induction m with
    | zero =>
      intro r hr
      refine wp_iload_n (i := 3) (q := 31) dX3_part_30 rfl rfl rfl ?_
      refine wp_aload_n (i := 0) (q := 32) dX3_part_31 rfl rfl rfl ?_
      refine wg3_3 (q := 35) dX3_part_32 ffX3_29 (by first | exact ph_obj | exact ph_rds | exact ph_rd (by omega) | exact ph_sds | assumption | exact (ph_out (by omega)).trans (by assumption)) rfl ?_ -- count
      refine wp_icmp_ge (t := 68) (q := 38) dX3_part_35 (by decide) rfl (fun hc => ?_) (fun hc => ?_)
      · rw [show r = n by omega]
        refine wp_vret dX3_part_68 rfl ?_
        exact ⟨rfl, rfl⟩
      · exact absurd ((nI_leI (by omega) (by omega)).mpr (by omega)) hc
    | succ m ih =>
      intro r hr
      refine wp_iload_n (i := 3) (q := 31) dX3_part_30 rfl rfl rfl ?_
      refine wp_aload_n (i := 0) (q := 32) dX3_part_31 rfl rfl rfl ?_
      refine wg3_3 (q := 35) dX3_part_32 ffX3_29 (by first | exact ph_obj | exact ph_rds | exact ph_rd (by omega) | exact ph_sds | assumption | exact (ph_out (by omega)).trans (by assumption)) rfl ?_ -- count
      refine wp_icmp_ge (t := 68) (q := 38) dX3_part_35 (by decide) rfl (fun hc => ?_) (fun hc => ?_)
      · exact absurd ((nI_leI (by omega) (by omega)).mp hc) (by omega)
      refine wp_aload_n (i := 0) (q := 39) dX3_part_38 rfl rfl rfl ?_
      refine wg3_2 (q := 42) dX3_part_39 ffX3_22 (by first | exact ph_obj | exact ph_rds | exact ph_rd (by omega) | exact ph_sds | assumption | exact (ph_out (by omega)).trans (by assumption)) rfl ?_ -- sides
      refine wp_aload_n (i := 0) (q := 43) dX3_part_42 rfl rfl rfl ?_
      refine wp_aload_n (i := 0) (q := 44) dX3_part_43 rfl rfl rfl ?_
      refine wg3_1 (q := 47) dX3_part_44 ffX3_17 (by first | exact ph_obj | exact ph_rds | exact ph_rd (by omega) | exact ph_sds | assumption | exact (ph_out (by omega)).trans (by assumption)) rfl ?_ -- readings
      refine wp_iload_n (i := 3) (q := 48) dX3_part_47 rfl rfl rfl ?_
      refine wq_aald (q := 49) dX3_part_48 (by first | exact ph_obj | exact ph_rds | exact ph_rd (by omega) | exact ph_sds | assumption | exact (ph_out (by omega)).trans (by assumption)) (by decide) rfl (by first | omega | exact ⟨by omega, by omega⟩) (by exact if_pos (by omega)) rfl ?_
      have hlt := sdO_lt (k := k) (sv := nI v) (sb := b) (x := R r)
      have hok := ptS_ok (k := k) (sv := nI v) (sb := b) (R := R) (m := r) hS h0 (by omega) hlt
      have hsu := ptS_succ (k := k) (sb := b) (R := R) (S := S) (n := r) hix
      refine wp_Vi (μ' := mX3_sideOf) (ci := 3) (q := 52) (tX3_sideOf (d := d - 1) (by omega) hk (ph_rd (by omega)) (Nat.le_refl k) (by omega)) dX3_part_49 okX3_sideOf lkX3_49 (by first | exact ph_obj | exact ph_rds | exact ph_rd (by omega) | exact ph_sds | assumption | exact (ph_out (by omega)).trans (by assumption)) rfl rfl rfl (Nat.le_of_ble_eq_true rfl) (by omega) rfl ?_
      generalize sdO k (nI v) b (R r) = s at hlt hok hsu
      refine wq_aald (q := 53) dX3_part_52 (by first | exact ph_obj | exact ph_rds | exact ph_rd (by omega) | exact ph_sds | assumption | exact (ph_out (by omega)).trans (by assumption)) (by decide) rfl (by first | omega | exact ⟨by omega, by omega⟩) (by exact if_pos (by omega)) rfl ?_
      refine wp_aload_n (i := 0) (q := 54) dX3_part_53 rfl rfl rfl ?_
      refine wg3_1 (q := 57) dX3_part_54 ffX3_17 (by first | exact ph_obj | exact ph_rds | exact ph_rd (by omega) | exact ph_sds | assumption | exact (ph_out (by omega)).trans (by assumption)) rfl ?_ -- readings
      refine wp_iload_n (i := 3) (q := 58) dX3_part_57 rfl rfl rfl ?_
      refine wq_aald (q := 59) dX3_part_58 (by first | exact ph_obj | exact ph_rds | exact ph_rd (by omega) | exact ph_sds | assumption | exact (ph_out (by omega)).trans (by assumption)) (by decide) rfl (by first | omega | exact ⟨by omega, by omega⟩) (by exact if_pos (by omega)) rfl ?_
      obtain ⟨F3, hF3⟩ := ph_fo (q := q) (k := k) (n := n) (sv := nI v) (sb := b) (R := R) (S := ptS k (nI v) b R S r) (G := G) hlt
      refine wp_Vv (μ' := mX1_add) (ci := 1) (q := 62) (tX1_addP (d := d - 1) (by omega) hlt hk hok.1 hok.2 (ph_rd (by omega)) (by omega) (Nat.le_refl k) (by omega)) dX3_part_59 okX1_add lkX3_53 hF3 rfl rfl rfl (Nat.le_of_ble_eq_true rfl) (by omega) rfl ?_
      rw [← hsu]
      refine wp_iinc (v := _ + nI 1) (lv' := [_, _, some _, _]) (q := 65) dX3_part_62 rfl rfl (by decide) rfl rfl ?_
      refine wp_goto (q := 30) dX3_part_65 (by decide) ?_
      rw [nI_add]
      exact ih (r + 1) (by omega)
  have h00 : ptS k (nI v) b R S 0 = upG (upG S 1 (clS (S 1))) 2 (clS (upG S 1 (clS (S 1)) 2)) := by
    funext s
    unfold ptS
    by_cases w2 : s = 2
    · subst w2
      rw [if_pos (Or.inr rfl), upG_at, upG_ne (by omega)]
      rfl
    · by_cases w1 : s = 1
      · subst w1
        rw [if_pos (Or.inl rfl), upG_ne (by omega), upG_at]
        rfl
      · rw [if_neg (by omega), upG_ne w2, upG_ne w1]
  have := P n 0 (by omega)
  rw [h00] at this
  exact this
end P1
