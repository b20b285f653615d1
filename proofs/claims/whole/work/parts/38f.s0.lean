/-! THE CLASS: Passed, Search (small ones) -/
def slO (k : Int32) : Nat := (k * (-1640531535)).toBitVec.toNat / 2 ^ 22
theorem slO_lt {k : Int32} : slO k < 1024 := by
  unfold slO
  have := (k * (-1640531535)).toBitVec.isLt
  omega
def keF (k : Nat) (x : Nat → Int32) : Nat → Nat → Int32 → Int32
  | 0, _, z => z
  | m + 1, v, z => keF k x m (v + 1) (z * nI 61 + (if v < k then x v + nI 30 else nI 0))
def keO (k pt left : Nat) (x : Nat → Int32) : Int32 := keF k x 4 0 (nI pt * nI 6 + nI left)
/-- the first told guess of a point that numbers break -/
def bkC (D : DS) (pt : Nat) (x : Nat → Int32) : Option Nat := (cls D pt 0 true).find? (fun c => bkN (dF D pt 0).2.2 x (c / 100) (c / 10 % 10) (c % 10))
/-- the told guesses are laid -/
def TC (D : DS) (A : Nat → Nat → Int32) : Prop := ∀ p, p < dNp D → A 17 p = nI (cls D p 0 true).length ∧ fwc (A (11 + p)) (cls D p 0 true)
section S0
variable {l : Launch} {d lo sz b p a : Nat} {g : Nat → Option aE} {D : DS} {I : Nat → Int32} {A : Nat → Nat → Int32} {B : Nat → Int64} {h : aH}
theorem tX2_slotOf {k : Int32} : mt l mX2_slotOf d 0 0 [.int k] h (rI (nI (slO k)) h) := by
  refine mt_in (lv := [_]) (by decide) (Nat.le_of_ble_eq_true rfl) rfl ?_
  refine wp_iload_n (i := 0) (q := 1) dX2_slotOf_0 rfl rfl rfl ?_
  refine wp_ldc (v := (-1640531535)) (q := 3) dX2_slotOf_1 ktX2_20 rfl ?_
  refine wp_imul (q := 4) dX2_slotOf_3 rfl ?_
  refine wp_bipush (v := nI 22) (q := 6) dX2_slotOf_4 (by decide) rfl ?_
  refine wp_iushr (q := 7) dX2_slotOf_6 rfl ?_
  rw [show ((k * (-1640531535)).toUInt32 >>> ((nI 22).toUInt32 &&& Int32.toUInt32 31)).toInt32 = nI (slO k) by
    apply Int32.toBitVec_inj.mp
    apply BitVec.eq_of_toNat_eq
    rw [pk_ushr _ (nI 22) 22 (by decide), pk_tn (Nat.lt_of_lt_of_le slO_lt (by decide))]
    rfl]
  refine wp_iret dX2_slotOf_7 rfl ?_
  exact ⟨rfl, rfl⟩
theorem tX2_forget : mt l mX2_forget d 0 0 [.ref (b + 7)] (sz, ch b I A B D g) (fun rv h' => rv = none ∧ ∃ f, h' = (sz, ch b I (upR A 8 f) B D g) ∧ ∀ j, j < 1024 → f j = -1) := by
  have P : ∀ m j (f : Nat → Int32), j + m = 1024 → (∀ e, e < j → f e = -1) → wp l mX2_forget [] d 0 0 (fun rv h' => rv = none ∧ ∃ f, h' = (sz, ch b I (upR A 8 f) B D g) ∧ ∀ j, j < 1024 → f j = -1) (sz, ch b I (upR A 8 f) B D g) 2 [some (.ref (b + 7)), some (.int (nI j))] [] := by
    intro m
    induction m with
    | zero =>
      intro j f hj hf
      refine wp_iload_n (i := 1) (q := 3) dX2_forget_2 rfl rfl rfl ?_
      refine wp_aload_n (i := 0) (q := 4) dX2_forget_3 rfl rfl rfl ?_
      refine wg2_0 (q := 7) dX2_forget_4 ffX2_9 (by first | exact ch_obj | exact ch_pas | exact ch_8 | exact ch_9 | exact ch_17 | exact ch_25 | exact ch_26 | exact ch_tcs | exact ch_sts | exact ch_t (by omega) | exact ch_s (by omega) | exact ch_prg | exact ch_pts | exact ch_acs | exact ch_4 | exact ch_pul | exact ch_sea | exact ch_27 | exact ch_28 | exact ch_29 | exact ch_30 | exact ch_31 | exact ch_32 | assumption) rfl ?_ -- keys
      refine wq_alen (q := 8) dX2_forget_7 (by first | exact ch_obj | exact ch_pas | exact ch_8 | exact ch_9 | exact ch_17 | exact ch_25 | exact ch_26 | exact ch_tcs | exact ch_sts | exact ch_t (by omega) | exact ch_s (by omega) | exact ch_prg | exact ch_pts | exact ch_acs | exact ch_4 | exact ch_pul | exact ch_sea | exact ch_27 | exact ch_28 | exact ch_29 | exact ch_30 | exact ch_31 | exact ch_32 | assumption) (by decide) rfl ?_
      refine wp_icmp_ge (t := 24) (q := 11) dX2_forget_8 (by decide) rfl (fun hc => ?_) (fun hc => ?_)
      · refine wp_vret dX2_forget_24 rfl ?_
        exact ⟨rfl, f, rfl, fun e he => hf e (by omega)⟩
      · exact absurd ((nI_leI (by omega) (by omega)).mpr (by omega)) hc
    | succ m ih =>
      intro j f hj hf
      refine wp_iload_n (i := 1) (q := 3) dX2_forget_2 rfl rfl rfl ?_
      refine wp_aload_n (i := 0) (q := 4) dX2_forget_3 rfl rfl rfl ?_
      refine wg2_0 (q := 7) dX2_forget_4 ffX2_9 (by first | exact ch_obj | exact ch_pas | exact ch_8 | exact ch_9 | exact ch_17 | exact ch_25 | exact ch_26 | exact ch_tcs | exact ch_sts | exact ch_t (by omega) | exact ch_s (by omega) | exact ch_prg | exact ch_pts | exact ch_acs | exact ch_4 | exact ch_pul | exact ch_sea | exact ch_27 | exact ch_28 | exact ch_29 | exact ch_30 | exact ch_31 | exact ch_32 | assumption) rfl ?_ -- keys
      refine wq_alen (q := 8) dX2_forget_7 (by first | exact ch_obj | exact ch_pas | exact ch_8 | exact ch_9 | exact ch_17 | exact ch_25 | exact ch_26 | exact ch_tcs | exact ch_sts | exact ch_t (by omega) | exact ch_s (by omega) | exact ch_prg | exact ch_pts | exact ch_acs | exact ch_4 | exact ch_pul | exact ch_sea | exact ch_27 | exact ch_28 | exact ch_29 | exact ch_30 | exact ch_31 | exact ch_32 | assumption) (by decide) rfl ?_
      refine wp_icmp_ge (t := 24) (q := 11) dX2_forget_8 (by decide) rfl (fun hc => ?_) (fun hc => ?_)
      · exact absurd ((nI_leI (by omega) (by omega)).mp hc) (by omega)
      refine wp_aload_n (i := 0) (q := 12) dX2_forget_11 rfl rfl rfl ?_
      refine wg2_0 (q := 15) dX2_forget_12 ffX2_9 (by first | exact ch_obj | exact ch_pas | exact ch_8 | exact ch_9 | exact ch_17 | exact ch_25 | exact ch_26 | exact ch_tcs | exact ch_sts | exact ch_t (by omega) | exact ch_s (by omega) | exact ch_prg | exact ch_pts | exact ch_acs | exact ch_4 | exact ch_pul | exact ch_sea | exact ch_27 | exact ch_28 | exact ch_29 | exact ch_30 | exact ch_31 | exact ch_32 | assumption) rfl ?_ -- keys
      refine wp_iload_n (i := 1) (q := 16) dX2_forget_15 rfl rfl rfl ?_
      refine wp_iconst (v := (-1)) (q := 17) dX2_forget_16 (by decide) rfl ?_
      refine wq_iast (q := 18) dX2_forget_17 (by first | exact ch_obj | exact ch_pas | exact ch_8 | exact ch_9 | exact ch_17 | exact ch_25 | exact ch_26 | exact ch_tcs | exact ch_sts | exact ch_t (by omega) | exact ch_s (by omega) | exact ch_prg | exact ch_pts | exact ch_acs | exact ch_4 | exact ch_pul | exact ch_sea | exact ch_27 | exact ch_28 | exact ch_29 | exact ch_30 | exact ch_31 | exact ch_32 | assumption) rfl (by first | omega | exact ⟨by omega, by omega⟩) (by first | exact ch_s8 | exact ch_s9 | exact ch_s17 | exact ch_s25 | exact ch_s26 | exact ch_sI4 | exact ch_sI5 | exact ch_sI6 | exact ch_sI7 | exact ch_sI8) rfl ?_
      refine wp_iinc (v := _ + nI 1) (lv' := [some _, _]) (q := 21) dX2_forget_18 rfl rfl (by decide) rfl rfl ?_
      refine wp_goto (q := 2) dX2_forget_21 (by decide) ?_
      rw [nI_add, upR_upR, upR_at]
      refine ih (j + 1) _ (by omega) (fun e he => ?_)
      by_cases w : e = j
      · rw [w, pk_us]
      · rw [pk_un w]; exact hf e (by omega)
  refine mt_in (lv := [_, _]) (by decide) (Nat.le_of_ble_eq_true rfl) rfl ?_
  refine wp_iconst (v := nI 0) (q := 1) dX2_forget_0 (by decide) rfl ?_
  refine wp_istore_n (i := 1) (lv' := [some _, _]) (q := 2) dX2_forget_1 rfl (by decide) rfl rfl ?_
  have := P 1024 0 (A 8) (by omega) (fun e he => by omega)
  rw [upR_self] at this
  exact this
theorem tX2_rowsOf {k : Int32} (hd : 1 ≤ d) : mt l mX2_rowsOf d 0 0 [.ref (b + 7), .int k] (sz, ch b I A B D g) (rI (if A 8 (slO k) = k then A 9 (slO k) else -1) (sz, ch b I A B D g)) := by
  have hs := slO_lt (k := k)
  refine mt_in (lv := [_, _, _]) (by decide) (Nat.le_of_ble_eq_true rfl) rfl ?_
  refine wp_iload_n (i := 1) (q := 1) dX2_rowsOf_0 rfl rfl rfl ?_
  refine wp_Si (μ' := mX2_slotOf) (q := 4) (tX2_slotOf (d := d - 1)) dX2_rowsOf_1 okX2_slotOf lkX2_16 rfl rfl (Nat.le_of_ble_eq_true rfl) (by omega) rfl ?_
  generalize slO k = s at hs
  refine wp_istore_n (i := 2) (lv' := [_, some _, _]) (q := 5) dX2_rowsOf_4 rfl (by decide) rfl rfl ?_
  refine wp_aload_n (i := 0) (q := 6) dX2_rowsOf_5 rfl rfl rfl ?_
  refine wg2_0 (q := 9) dX2_rowsOf_6 ffX2_9 (by first | exact ch_obj | exact ch_pas | exact ch_8 | exact ch_9 | exact ch_17 | exact ch_25 | exact ch_26 | exact ch_tcs | exact ch_sts | exact ch_t (by omega) | exact ch_s (by omega) | exact ch_prg | exact ch_pts | exact ch_acs | exact ch_4 | exact ch_pul | exact ch_sea | exact ch_27 | exact ch_28 | exact ch_29 | exact ch_30 | exact ch_31 | exact ch_32 | assumption) rfl ?_ -- keys
  refine wp_iload_n (i := 2) (q := 10) dX2_rowsOf_9 rfl rfl rfl ?_
  refine wq_iald (q := 11) dX2_rowsOf_10 (by first | exact ch_obj | exact ch_pas | exact ch_8 | exact ch_9 | exact ch_17 | exact ch_25 | exact ch_26 | exact ch_tcs | exact ch_sts | exact ch_t (by omega) | exact ch_s (by omega) | exact ch_prg | exact ch_pts | exact ch_acs | exact ch_4 | exact ch_pul | exact ch_sea | exact ch_27 | exact ch_28 | exact ch_29 | exact ch_30 | exact ch_31 | exact ch_32 | assumption) rfl (by first | omega | exact ⟨by omega, by omega⟩) rfl ?_
  refine wp_iload_n (i := 1) (q := 12) dX2_rowsOf_11 rfl rfl rfl ?_
  refine wp_icmp_ne (t := 24) (q := 15) dX2_rowsOf_12 (by decide) rfl (fun hc => ?_) (fun hc => ?_)
  · rw [if_neg hc]
    refine wp_iconst (v := (-1)) (q := 25) dX2_rowsOf_24 (by decide) rfl ?_
    refine wp_iret dX2_rowsOf_25 rfl ?_
    exact ⟨rfl, rfl⟩
  · rw [if_pos hc]
    refine wp_aload_n (i := 0) (q := 16) dX2_rowsOf_15 rfl rfl rfl ?_
    refine wg2_1 (q := 19) dX2_rowsOf_16 ffX2_13 (by first | exact ch_obj | exact ch_pas | exact ch_8 | exact ch_9 | exact ch_17 | exact ch_25 | exact ch_26 | exact ch_tcs | exact ch_sts | exact ch_t (by omega) | exact ch_s (by omega) | exact ch_prg | exact ch_pts | exact ch_acs | exact ch_4 | exact ch_pul | exact ch_sea | exact ch_27 | exact ch_28 | exact ch_29 | exact ch_30 | exact ch_31 | exact ch_32 | assumption) rfl ?_ -- rows
    refine wp_iload_n (i := 2) (q := 20) dX2_rowsOf_19 rfl rfl rfl ?_
    refine wq_iald (q := 21) dX2_rowsOf_20 (by first | exact ch_obj | exact ch_pas | exact ch_8 | exact ch_9 | exact ch_17 | exact ch_25 | exact ch_26 | exact ch_tcs | exact ch_sts | exact ch_t (by omega) | exact ch_s (by omega) | exact ch_prg | exact ch_pts | exact ch_acs | exact ch_4 | exact ch_pul | exact ch_sea | exact ch_27 | exact ch_28 | exact ch_29 | exact ch_30 | exact ch_31 | exact ch_32 | assumption) rfl (by first | omega | exact ⟨by omega, by omega⟩) rfl ?_
    refine wp_goto (q := 25) dX2_rowsOf_21 (by decide) ?_
    refine wp_iret dX2_rowsOf_25 rfl ?_
    exact ⟨rfl, rfl⟩
theorem tX2_keep {k n : Int32} (hd : 1 ≤ d) : mt l mX2_keep d 0 0 [.ref (b + 7), .int k, .int n] (sz, ch b I A B D g) (rV (sz, ch b I (upR (upR A 8 (upd (A 8) (slO k) k)) 9 (upd (A 9) (slO k) n)) B D g)) := by
  have hs := slO_lt (k := k)
  refine mt_in (lv := [_, _, _, _]) (by decide) (Nat.le_of_ble_eq_true rfl) rfl ?_
  refine wp_iload_n (i := 1) (q := 1) dX2_keep_0 rfl rfl rfl ?_
  refine wp_Si (μ' := mX2_slotOf) (q := 4) (tX2_slotOf (d := d - 1)) dX2_keep_1 okX2_slotOf lkX2_16 rfl rfl (Nat.le_of_ble_eq_true rfl) (by omega) rfl ?_
  generalize slO k = s at hs
  refine wp_istore_n (i := 3) (lv' := [_, _, some _, _]) (q := 5) dX2_keep_4 rfl (by decide) rfl rfl ?_
  refine wp_aload_n (i := 0) (q := 6) dX2_keep_5 rfl rfl rfl ?_
  refine wg2_0 (q := 9) dX2_keep_6 ffX2_9 (by first | exact ch_obj | exact ch_pas | exact ch_8 | exact ch_9 | exact ch_17 | exact ch_25 | exact ch_26 | exact ch_tcs | exact ch_sts | exact ch_t (by omega) | exact ch_s (by omega) | exact ch_prg | exact ch_pts | exact ch_acs | exact ch_4 | exact ch_pul | exact ch_sea | exact ch_27 | exact ch_28 | exact ch_29 | exact ch_30 | exact ch_31 | exact ch_32 | assumption) rfl ?_ -- keys
  refine wp_iload_n (i := 3) (q := 10) dX2_keep_9 rfl rfl rfl ?_
  refine wp_iload_n (i := 1) (q := 11) dX2_keep_10 rfl rfl rfl ?_
  refine wq_iast (q := 12) dX2_keep_11 (by first | exact ch_obj | exact ch_pas | exact ch_8 | exact ch_9 | exact ch_17 | exact ch_25 | exact ch_26 | exact ch_tcs | exact ch_sts | exact ch_t (by omega) | exact ch_s (by omega) | exact ch_prg | exact ch_pts | exact ch_acs | exact ch_4 | exact ch_pul | exact ch_sea | exact ch_27 | exact ch_28 | exact ch_29 | exact ch_30 | exact ch_31 | exact ch_32 | assumption) rfl (by first | omega | exact ⟨by omega, by omega⟩) (by first | exact ch_s8 | exact ch_s9 | exact ch_s17 | exact ch_s25 | exact ch_s26 | exact ch_sI4 | exact ch_sI5 | exact ch_sI6 | exact ch_sI7 | exact ch_sI8) rfl ?_
  refine wp_aload_n (i := 0) (q := 13) dX2_keep_12 rfl rfl rfl ?_
  refine wg2_1 (q := 16) dX2_keep_13 ffX2_13 (by first | exact ch_obj | exact ch_pas | exact ch_8 | exact ch_9 | exact ch_17 | exact ch_25 | exact ch_26 | exact ch_tcs | exact ch_sts | exact ch_t (by omega) | exact ch_s (by omega) | exact ch_prg | exact ch_pts | exact ch_acs | exact ch_4 | exact ch_pul | exact ch_sea | exact ch_27 | exact ch_28 | exact ch_29 | exact ch_30 | exact ch_31 | exact ch_32 | assumption) rfl ?_ -- rows
  refine wp_iload_n (i := 3) (q := 17) dX2_keep_16 rfl rfl rfl ?_
  refine wp_iload_n (i := 2) (q := 18) dX2_keep_17 rfl rfl rfl ?_
  refine wq_iast (q := 19) dX2_keep_18 (by first | exact ch_obj | exact ch_pas | exact ch_8 | exact ch_9 | exact ch_17 | exact ch_25 | exact ch_26 | exact ch_tcs | exact ch_sts | exact ch_t (by omega) | exact ch_s (by omega) | exact ch_prg | exact ch_pts | exact ch_acs | exact ch_4 | exact ch_pul | exact ch_sea | exact ch_27 | exact ch_28 | exact ch_29 | exact ch_30 | exact ch_31 | exact ch_32 | assumption) rfl (by first | omega | exact ⟨by omega, by omega⟩) (by first | exact ch_s8 | exact ch_s9 | exact ch_s17 | exact ch_s25 | exact ch_s26 | exact ch_sI4 | exact ch_sI5 | exact ch_sI6 | exact ch_sI7 | exact ch_sI8) rfl ?_
  rw [upR_ne (show (9 : Nat) ≠ 8 by decide)]
  refine wp_vret dX2_keep_19 rfl ?_
  exact ⟨rfl, rfl⟩
theorem tX5_keyOf {depth left pt : Nat} (hd : 1 ≤ d) (hW : DW lo sz g D) (hb : b + 33 ≤ lo) (hdp : depth < 6) (hpt : pt < dNp D) (hat : A 25 depth = nI pt) : mt l mX5_keyOf d 0 0 [.ref (b + 6), .int (nI depth), .int (nI left)] (sz, ch b I A B D g) (rI (keO (dK D pt) pt left (A (19 + depth))) (sz, ch b I A B D g)) := by
  have hob := ch_pob (I := I) (A := A) (B := B) hW hb hpt
  have h4 := hW.k4 hpt
  have P : ∀ m v (z : Int32) (y : Option Value), v + m = 4 → keF (dK D pt) (A (19 + depth)) m v z = keO (dK D pt) pt left (A (19 + depth)) → wp l mX5_keyOf [] d 0 0 (rI (keO (dK D pt) pt left (A (19 + depth))) (sz, ch b I A B D g)) (sz, ch b I A B D g) 30 [some (.ref (b + 6)), some (.int (nI depth)), some (.int (nI left)), some (.ref (dPa D pt)), some (.int z), some (.int (nI v)), y] [] := by
    intro m
    induction m with
    | zero =>
      intro v z y hv he
      rw [show keF (dK D pt) (A (19 + depth)) 0 v z = z from rfl] at he
      refine wp_iload (q := 32) dX5_keyOf_30 rfl rfl ?_
      refine wp_iconst (v := nI 4) (q := 33) dX5_keyOf_32 (by decide) rfl ?_
      refine wp_icmp_ge (t := 91) (q := 36) dX5_keyOf_33 (by decide) rfl (fun hc => ?_) (fun hc => ?_)
      · rw [← he]
        refine wp_iload (q := 93) dX5_keyOf_91 rfl rfl ?_
        refine wp_iret dX5_keyOf_93 rfl ?_
        exact ⟨rfl, rfl⟩
      · exact absurd ((nI_leI (by omega) (by omega)).mpr (by omega)) hc
    | succ m ih =>
      intro v z y hv he
      rw [show keF (dK D pt) (A (19 + depth)) (m + 1) v z = keF (dK D pt) (A (19 + depth)) m (v + 1) (z * nI 61 + (if v < dK D pt then A (19 + depth) v + nI 30 else nI 0)) from rfl] at he
      refine wp_iload (q := 32) dX5_keyOf_30 rfl rfl ?_
      refine wp_iconst (v := nI 4) (q := 33) dX5_keyOf_32 (by decide) rfl ?_
      refine wp_icmp_ge (t := 91) (q := 36) dX5_keyOf_33 (by decide) rfl (fun hc => ?_) (fun hc => ?_)
      · exact absurd ((nI_leI (by omega) (by omega)).mp hc) (by omega)
      refine wp_aload_n (i := 3) (q := 37) dX5_keyOf_36 rfl rfl rfl ?_
      refine wp_ifnull (q := 40) dX5_keyOf_37 rfl ?_
      refine wp_aload_n (i := 3) (q := 41) dX5_keyOf_40 rfl rfl rfl ?_
      refine wp_iload (q := 43) dX5_keyOf_41 rfl rfl ?_
      refine wp_Vi (μ' := mX3_hasVariable) (ci := 3) (q := 46) (tX3_hasVariableD (d := d - 1) hW hb hpt) dX5_keyOf_43 okX3_hasVariable lkX5_124 hob rfl rfl rfl (Nat.le_of_ble_eq_true rfl) (by omega) rfl ?_
      rw [ix_nI (by omega)]
      refine wp_if_eq (t := 53) (q := 49) dX5_keyOf_46 (by decide) rfl (fun hz => ?_) (fun hz => ?_)
      · rw [if_neg (of_decide_eq_false (b2_eq0.mp hz))] at he
        refine wp_iconst (v := nI 0) (q := 54) dX5_keyOf_53 (by decide) rfl ?_
        refine wp_istore (lv' := [_, _, _, _, _, some _, _]) (q := 56) dX5_keyOf_54 (by decide) rfl rfl ?_
        refine wp_iload (q := 58) dX5_keyOf_56 rfl rfl ?_
        refine wp_bipush (v := nI 61) (q := 60) dX5_keyOf_58 (by decide) rfl ?_
        refine wp_imul (q := 61) dX5_keyOf_60 rfl ?_
        refine wp_iload (q := 63) dX5_keyOf_61 rfl rfl ?_
        refine wp_if_eq (t := 81) (q := 66) dX5_keyOf_63 (by decide) rfl (fun h0 => ?_) (fun h0 => ?_)
        · refine wp_iconst (v := nI 0) (q := 82) dX5_keyOf_81 (by decide) rfl ?_
          refine wp_iadd (q := 83) dX5_keyOf_82 rfl ?_
          refine wp_istore (lv' := [_, _, _, some _, _, _, _]) (q := 85) dX5_keyOf_83 (by decide) rfl rfl ?_
          refine wp_iinc (v := _ + nI 1) (lv' := [_, _, _, _, some _, _, _]) (q := 88) dX5_keyOf_85 rfl rfl (by decide) rfl rfl ?_
          refine wp_goto (q := 30) dX5_keyOf_88 (by decide) ?_
          rw [nI_add]
          exact ih (v + 1) _ _ (by omega) he
        · exact absurd rfl h0
      · rw [if_pos (of_decide_eq_true (b2_ne0.mp hz))] at he
        refine wp_iconst (v := nI 1) (q := 50) dX5_keyOf_49 (by decide) rfl ?_
        refine wp_goto (q := 54) dX5_keyOf_50 (by decide) ?_
        refine wp_istore (lv' := [_, _, _, _, _, some _, _]) (q := 56) dX5_keyOf_54 (by decide) rfl rfl ?_
        refine wp_iload (q := 58) dX5_keyOf_56 rfl rfl ?_
        refine wp_bipush (v := nI 61) (q := 60) dX5_keyOf_58 (by decide) rfl ?_
        refine wp_imul (q := 61) dX5_keyOf_60 rfl ?_
        refine wp_iload (q := 63) dX5_keyOf_61 rfl rfl ?_
        refine wp_if_eq (t := 81) (q := 66) dX5_keyOf_63 (by decide) rfl (fun h0 => ?_) (fun h0 => ?_)
        · exact absurd h0 (by decide)
        refine wp_aload_n (i := 0) (q := 67) dX5_keyOf_66 rfl rfl rfl ?_
        refine wg5_4 (q := 70) dX5_keyOf_67 ffX5_31 (by first | exact ch_obj | exact ch_pas | exact ch_8 | exact ch_9 | exact ch_17 | exact ch_25 | exact ch_26 | exact ch_tcs | exact ch_sts | exact ch_t (by omega) | exact ch_s (by omega) | exact ch_prg | exact ch_pts | exact ch_acs | exact ch_4 | exact ch_pul | exact ch_sea | exact ch_27 | exact ch_28 | exact ch_29 | exact ch_30 | exact ch_31 | exact ch_32 | assumption) rfl ?_ -- states
        refine wp_iload_n (i := 1) (q := 71) dX5_keyOf_70 rfl rfl rfl ?_
        refine wq_aald (q := 72) dX5_keyOf_71 (by first | exact ch_obj | exact ch_pas | exact ch_8 | exact ch_9 | exact ch_17 | exact ch_25 | exact ch_26 | exact ch_tcs | exact ch_sts | exact ch_t (by omega) | exact ch_s (by omega) | exact ch_prg | exact ch_pts | exact ch_acs | exact ch_4 | exact ch_pul | exact ch_sea | exact ch_27 | exact ch_28 | exact ch_29 | exact ch_30 | exact ch_31 | exact ch_32 | assumption) (by decide) rfl (by first | omega | exact ⟨by omega, by omega⟩) (by exact if_pos (by omega)) rfl ?_
        refine wp_iload (q := 74) dX5_keyOf_72 rfl rfl ?_
        refine wq_iald (q := 75) dX5_keyOf_74 (by first | exact ch_obj | exact ch_pas | exact ch_8 | exact ch_9 | exact ch_17 | exact ch_25 | exact ch_26 | exact ch_tcs | exact ch_sts | exact ch_t (by omega) | exact ch_s (by omega) | exact ch_prg | exact ch_pts | exact ch_acs | exact ch_4 | exact ch_pul | exact ch_sea | exact ch_27 | exact ch_28 | exact ch_29 | exact ch_30 | exact ch_31 | exact ch_32 | assumption) rfl (by first | omega | exact ⟨by omega, by omega⟩) rfl ?_
        refine wp_bipush (v := nI 30) (q := 77) dX5_keyOf_75 (by decide) rfl ?_
        refine wp_iadd (q := 78) dX5_keyOf_77 rfl ?_
        refine wp_goto (q := 82) dX5_keyOf_78 (by decide) ?_
        refine wp_iadd (q := 83) dX5_keyOf_82 rfl ?_
        refine wp_istore (lv' := [_, _, _, some _, _, _, _]) (q := 85) dX5_keyOf_83 (by decide) rfl rfl ?_
        refine wp_iinc (v := _ + nI 1) (lv' := [_, _, _, _, some _, _, _]) (q := 88) dX5_keyOf_85 rfl rfl (by decide) rfl rfl ?_
        refine wp_goto (q := 30) dX5_keyOf_88 (by decide) ?_
        rw [nI_add]
        exact ih (v + 1) _ _ (by omega) he
  refine mt_in (lv := [_, _, _, _, _, _, _]) (by decide) (Nat.le_of_ble_eq_true rfl) rfl ?_
  refine wp_aload_n (i := 0) (q := 1) dX5_keyOf_0 rfl rfl rfl ?_
  refine wg5_0 (q := 4) dX5_keyOf_1 ffX5_9 (by first | exact ch_obj | exact ch_pas | exact ch_8 | exact ch_9 | exact ch_17 | exact ch_25 | exact ch_26 | exact ch_tcs | exact ch_sts | exact ch_t (by omega) | exact ch_s (by omega) | exact ch_prg | exact ch_pts | exact ch_acs | exact ch_4 | exact ch_pul | exact ch_sea | exact ch_27 | exact ch_28 | exact ch_29 | exact ch_30 | exact ch_31 | exact ch_32 | assumption) rfl ?_ -- program
  refine wp_aload_n (i := 0) (q := 5) dX5_keyOf_4 rfl rfl rfl ?_
  refine wg5_5 (q := 8) dX5_keyOf_5 ffX5_34 (by first | exact ch_obj | exact ch_pas | exact ch_8 | exact ch_9 | exact ch_17 | exact ch_25 | exact ch_26 | exact ch_tcs | exact ch_sts | exact ch_t (by omega) | exact ch_s (by omega) | exact ch_prg | exact ch_pts | exact ch_acs | exact ch_4 | exact ch_pul | exact ch_sea | exact ch_27 | exact ch_28 | exact ch_29 | exact ch_30 | exact ch_31 | exact ch_32 | assumption) rfl ?_ -- at
  refine wp_iload_n (i := 1) (q := 9) dX5_keyOf_8 rfl rfl rfl ?_
  refine wq_iald (q := 10) dX5_keyOf_9 (by first | exact ch_obj | exact ch_pas | exact ch_8 | exact ch_9 | exact ch_17 | exact ch_25 | exact ch_26 | exact ch_tcs | exact ch_sts | exact ch_t (by omega) | exact ch_s (by omega) | exact ch_prg | exact ch_pts | exact ch_acs | exact ch_4 | exact ch_pul | exact ch_sea | exact ch_27 | exact ch_28 | exact ch_29 | exact ch_30 | exact ch_31 | exact ch_32 | assumption) rfl (by first | omega | exact ⟨by omega, by omega⟩) rfl ?_
  rw [hat]
  refine wp_Vr (μ' := mX4_pointAt) (ci := 4) (q := 13) (tX4_pointAt (d := d - 1) hW hpt) dX5_keyOf_10 okX4_pointAt lkX5_120 (by first | exact ch_obj | exact ch_pas | exact ch_8 | exact ch_9 | exact ch_17 | exact ch_25 | exact ch_26 | exact ch_tcs | exact ch_sts | exact ch_t (by omega) | exact ch_s (by omega) | exact ch_prg | exact ch_pts | exact ch_acs | exact ch_4 | exact ch_pul | exact ch_sea | exact ch_27 | exact ch_28 | exact ch_29 | exact ch_30 | exact ch_31 | exact ch_32 | assumption) rfl rfl rfl (Nat.le_of_ble_eq_true rfl) (by omega) rfl ?_
  refine wp_astore_n (i := 3) (lv' := [_, _, some _, _, _, _, _]) (q := 14) dX5_keyOf_13 rfl (by decide) rfl rfl ?_
  refine wp_aload_n (i := 0) (q := 15) dX5_keyOf_14 rfl rfl rfl ?_
  refine wg5_5 (q := 18) dX5_keyOf_15 ffX5_34 (by first | exact ch_obj | exact ch_pas | exact ch_8 | exact ch_9 | exact ch_17 | exact ch_25 | exact ch_26 | exact ch_tcs | exact ch_sts | exact ch_t (by omega) | exact ch_s (by omega) | exact ch_prg | exact ch_pts | exact ch_acs | exact ch_4 | exact ch_pul | exact ch_sea | exact ch_27 | exact ch_28 | exact ch_29 | exact ch_30 | exact ch_31 | exact ch_32 | assumption) rfl ?_ -- at
  refine wp_iload_n (i := 1) (q := 19) dX5_keyOf_18 rfl rfl rfl ?_
  refine wq_iald (q := 20) dX5_keyOf_19 (by first | exact ch_obj | exact ch_pas | exact ch_8 | exact ch_9 | exact ch_17 | exact ch_25 | exact ch_26 | exact ch_tcs | exact ch_sts | exact ch_t (by omega) | exact ch_s (by omega) | exact ch_prg | exact ch_pts | exact ch_acs | exact ch_4 | exact ch_pul | exact ch_sea | exact ch_27 | exact ch_28 | exact ch_29 | exact ch_30 | exact ch_31 | exact ch_32 | assumption) rfl (by first | omega | exact ⟨by omega, by omega⟩) rfl ?_
  refine wp_bipush (v := nI 6) (q := 22) dX5_keyOf_20 (by decide) rfl ?_
  rw [hat]
  refine wp_imul (q := 23) dX5_keyOf_22 rfl ?_
  refine wp_iload_n (i := 2) (q := 24) dX5_keyOf_23 rfl rfl rfl ?_
  refine wp_iadd (q := 25) dX5_keyOf_24 rfl ?_
  refine wp_istore (lv' := [_, _, _, some _, _, _, _]) (q := 27) dX5_keyOf_25 (by decide) rfl rfl ?_
  refine wp_iconst (v := nI 0) (q := 28) dX5_keyOf_27 (by decide) rfl ?_
  refine wp_istore (lv' := [_, _, _, _, some _, _, _]) (q := 30) dX5_keyOf_28 (by decide) rfl rfl ?_
  exact P 4 0 _ _ (by omega) rfl
theorem tX5_noteFound {depth : Nat} {pv cv sv : Int32} (hd : 1 ≤ d) (hdp : depth < 6) : mt l mX5_noteFound d 0 0 [.ref (b + 6), .int pv, .int cv, .int (nI depth), .int sv] (sz, ch b I A B D g) (rV (sz, ch b (upd (upd (upd (upd I 5 pv) 6 cv) 7 (nI depth)) 8 sv) (upR (upR A 27 (fun v => if v < 4 then A (19 + depth) v else A 27 v)) 28 (fun v => if v < 5 then A 26 v else A 28 v)) B D g)) := by
  refine mt_in (lv := [_, _, _, _, _]) (by decide) (Nat.le_of_ble_eq_true rfl) rfl ?_
  refine wp_aload_n (i := 0) (q := 1) dX5_noteFound_0 rfl rfl rfl ?_
  refine wp_iload_n (i := 1) (q := 2) dX5_noteFound_1 rfl rfl rfl ?_
  refine wt5_10 (q := 5) dX5_noteFound_2 ffX5_46 (by first | exact ch_obj | exact ch_pas | exact ch_8 | exact ch_9 | exact ch_17 | exact ch_25 | exact ch_26 | exact ch_tcs | exact ch_sts | exact ch_t (by omega) | exact ch_s (by omega) | exact ch_prg | exact ch_pts | exact ch_acs | exact ch_4 | exact ch_pul | exact ch_sea | exact ch_27 | exact ch_28 | exact ch_29 | exact ch_30 | exact ch_31 | exact ch_32 | assumption) (by first | exact ch_s8 | exact ch_s9 | exact ch_s17 | exact ch_s25 | exact ch_s26 | exact ch_sI4 | exact ch_sI5 | exact ch_sI6 | exact ch_sI7 | exact ch_sI8) rfl ?_ -- foundPoint
  refine wp_aload_n (i := 0) (q := 6) dX5_noteFound_5 rfl rfl rfl ?_
  refine wp_iload_n (i := 2) (q := 7) dX5_noteFound_6 rfl rfl rfl ?_
  refine wt5_11 (q := 10) dX5_noteFound_7 ffX5_149 (by first | exact ch_obj | exact ch_pas | exact ch_8 | exact ch_9 | exact ch_17 | exact ch_25 | exact ch_26 | exact ch_tcs | exact ch_sts | exact ch_t (by omega) | exact ch_s (by omega) | exact ch_prg | exact ch_pts | exact ch_acs | exact ch_4 | exact ch_pul | exact ch_sea | exact ch_27 | exact ch_28 | exact ch_29 | exact ch_30 | exact ch_31 | exact ch_32 | assumption) (by first | exact ch_s8 | exact ch_s9 | exact ch_s17 | exact ch_s25 | exact ch_s26 | exact ch_sI4 | exact ch_sI5 | exact ch_sI6 | exact ch_sI7 | exact ch_sI8) rfl ?_ -- foundCode
  refine wp_aload_n (i := 0) (q := 11) dX5_noteFound_10 rfl rfl rfl ?_
  refine wp_iload_n (i := 3) (q := 12) dX5_noteFound_11 rfl rfl rfl ?_
  refine wt5_12 (q := 15) dX5_noteFound_12 ffX5_152 (by first | exact ch_obj | exact ch_pas | exact ch_8 | exact ch_9 | exact ch_17 | exact ch_25 | exact ch_26 | exact ch_tcs | exact ch_sts | exact ch_t (by omega) | exact ch_s (by omega) | exact ch_prg | exact ch_pts | exact ch_acs | exact ch_4 | exact ch_pul | exact ch_sea | exact ch_27 | exact ch_28 | exact ch_29 | exact ch_30 | exact ch_31 | exact ch_32 | assumption) (by first | exact ch_s8 | exact ch_s9 | exact ch_s17 | exact ch_s25 | exact ch_s26 | exact ch_sI4 | exact ch_sI5 | exact ch_sI6 | exact ch_sI7 | exact ch_sI8) rfl ?_ -- foundLength
  refine wp_aload_n (i := 0) (q := 16) dX5_noteFound_15 rfl rfl rfl ?_
  refine wp_iload (q := 18) dX5_noteFound_16 rfl rfl ?_
  refine wt5_13 (q := 21) dX5_noteFound_18 ffX5_155 (by first | exact ch_obj | exact ch_pas | exact ch_8 | exact ch_9 | exact ch_17 | exact ch_25 | exact ch_26 | exact ch_tcs | exact ch_sts | exact ch_t (by omega) | exact ch_s (by omega) | exact ch_prg | exact ch_pts | exact ch_acs | exact ch_4 | exact ch_pul | exact ch_sea | exact ch_27 | exact ch_28 | exact ch_29 | exact ch_30 | exact ch_31 | exact ch_32 | assumption) (by first | exact ch_s8 | exact ch_s9 | exact ch_s17 | exact ch_s25 | exact ch_s26 | exact ch_sI4 | exact ch_sI5 | exact ch_sI6 | exact ch_sI7 | exact ch_sI8) rfl ?_ -- foundSize
  refine wp_aload_n (i := 0) (q := 22) dX5_noteFound_21 rfl rfl rfl ?_
  refine wg5_4 (q := 25) dX5_noteFound_22 ffX5_31 (by first | exact ch_obj | exact ch_pas | exact ch_8 | exact ch_9 | exact ch_17 | exact ch_25 | exact ch_26 | exact ch_tcs | exact ch_sts | exact ch_t (by omega) | exact ch_s (by omega) | exact ch_prg | exact ch_pts | exact ch_acs | exact ch_4 | exact ch_pul | exact ch_sea | exact ch_27 | exact ch_28 | exact ch_29 | exact ch_30 | exact ch_31 | exact ch_32 | assumption) rfl ?_ -- states
  refine wp_iload_n (i := 3) (q := 26) dX5_noteFound_25 rfl rfl rfl ?_
  refine wq_aald (q := 27) dX5_noteFound_26 (by first | exact ch_obj | exact ch_pas | exact ch_8 | exact ch_9 | exact ch_17 | exact ch_25 | exact ch_26 | exact ch_tcs | exact ch_sts | exact ch_t (by omega) | exact ch_s (by omega) | exact ch_prg | exact ch_pts | exact ch_acs | exact ch_4 | exact ch_pul | exact ch_sea | exact ch_27 | exact ch_28 | exact ch_29 | exact ch_30 | exact ch_31 | exact ch_32 | assumption) (by decide) rfl (by first | omega | exact ⟨by omega, by omega⟩) (by exact if_pos (by omega)) rfl ?_
  refine wp_aload_n (i := 0) (q := 28) dX5_noteFound_27 rfl rfl rfl ?_
  refine wg5_8 (q := 31) dX5_noteFound_28 ffX5_40 (by first | exact ch_obj | exact ch_pas | exact ch_8 | exact ch_9 | exact ch_17 | exact ch_25 | exact ch_26 | exact ch_tcs | exact ch_sts | exact ch_t (by omega) | exact ch_s (by omega) | exact ch_prg | exact ch_pts | exact ch_acs | exact ch_4 | exact ch_pul | exact ch_sea | exact ch_27 | exact ch_28 | exact ch_29 | exact ch_30 | exact ch_31 | exact ch_32 | assumption) rfl ?_ -- foundNumbers
  refine wp_SNv (μ' := mX7_copy) (q := 34) (tX7_copy (d := d - 1) (n := 4) (m := 4) (ch_s hdp) ch_27 (by omega) (by omega) (by omega)) dX5_noteFound_31 okX7_copy lkX5_77 rfl rfl (Nat.le_of_ble_eq_true rfl) (by omega) rfl ?_
  rw [ch_s27]
  refine wp_aload_n (i := 0) (q := 35) dX5_noteFound_34 rfl rfl rfl ?_
  refine wg5_6 (q := 38) dX5_noteFound_35 ffX5_37 (by first | exact ch_obj | exact ch_pas | exact ch_8 | exact ch_9 | exact ch_17 | exact ch_25 | exact ch_26 | exact ch_tcs | exact ch_sts | exact ch_t (by omega) | exact ch_s (by omega) | exact ch_prg | exact ch_pts | exact ch_acs | exact ch_4 | exact ch_pul | exact ch_sea | exact ch_27 | exact ch_28 | exact ch_29 | exact ch_30 | exact ch_31 | exact ch_32 | assumption) rfl ?_ -- row
  refine wp_aload_n (i := 0) (q := 39) dX5_noteFound_38 rfl rfl rfl ?_
  refine wg5_9 (q := 42) dX5_noteFound_39 ffX5_43 (by first | exact ch_obj | exact ch_pas | exact ch_8 | exact ch_9 | exact ch_17 | exact ch_25 | exact ch_26 | exact ch_tcs | exact ch_sts | exact ch_t (by omega) | exact ch_s (by omega) | exact ch_prg | exact ch_pts | exact ch_acs | exact ch_4 | exact ch_pul | exact ch_sea | exact ch_27 | exact ch_28 | exact ch_29 | exact ch_30 | exact ch_31 | exact ch_32 | assumption) rfl ?_ -- foundRow
  refine wp_SNv (μ' := mX7_copy) (q := 45) (tX7_copy (d := d - 1) (n := 5) (m := 5) ch_26 ch_28 (by omega) (by omega) (by omega)) dX5_noteFound_42 okX7_copy lkX5_77 rfl rfl (Nat.le_of_ble_eq_true rfl) (by omega) rfl ?_
  rw [ch_s28, upR_ne (show (26 : Nat) ≠ 27 by decide), upR_ne (show (28 : Nat) ≠ 27 by decide)]
  refine wp_vret dX5_noteFound_45 rfl ?_
  exact ⟨rfl, rfl⟩
theorem tX1_isBrokenByD {w sh i j : Nat} {x : Nat → Int32} (hd : 2 ≤ d) (hW : DW lo sz g D) (hK : PK D) (hb : b + 33 ≤ lo) (hp : p < dNp D) (hsh : sh < 10) (hi : i < dK D p) (hj : j < dK D p) (hw : ch b I A B D g w = some (iA 4 x)) (hwl : w < lo) : mt l mX1_isBrokenBy d 0 0 [.ref (dfA D p 0), .ref w, .int (nI sh), .int (nI i), .int (nI j)] (sz, ch b I A B D g) (rI (b2 (bkN (dF D p 0).2.2 x sh i j)) (sz, ch b I A B D g)) := by
  have h4 := hW.k4 hp
  have hk := (hK p hp).2 0 (by omega)
  have hu := hk.1.2 i hi
  have M := tX1_isBrokenBy (l := l) (d := d) (sz := sz) (q := dfA D p 0) (k := dK D p) (c := (dF D p 0).1) (T := (dF D p 0).2.1) (V := (dF D p 0).2.2) (G := ch b I A B D g) (w := w) (mm := 4) (x := x) hd hsh hi hj (by omega) (Nat.lt_of_le_of_lt hu.1 (by decide)) (Nat.lt_of_le_of_lt hu.2 (by decide)) hw (dfA_out hW hp (by omega) hwl) h4 (by omega)
  rw [show ((dF D p 0).1, (dF D p 0).2.1, (dF D p 0).2.2) = dF D p 0 from rfl, ← dw_fh hW hb hp (by omega)] at M
  exact M
theorem tX5_breaksAt {depth pt : Nat} (hd : 3 ≤ d) (hW : DW lo sz g D) (hK : PK D) (hb : b + 33 ≤ lo) (hdp : depth < 6) (hpt : pt < dNp D) (hat : A 25 depth = nI pt) (hT : TC D A) : mt l mX5_breaksAt d 0 0 [.ref (b + 6), .int (nI depth)] (sz, ch b I A B D g) (fun rv h' => (bkC D pt (A (19 + depth)) = none ∧ rv = some (.int (b2 false)) ∧ h' = (sz, ch b I A B D g)) ∨ (∃ c, bkC D pt (A (19 + depth)) = some c ∧ c < 1000 ∧ rv = some (.int (b2 true)) ∧ h' = (sz, ch b (upd (upd (upd (upd I 5 (nI pt)) 6 (nI c)) 7 (nI depth)) 8 (nI (dK D pt))) (upR (upR A 27 (fun v => if v < 4 then A (19 + depth) v else A 27 v)) 28 (fun v => if v < 5 then A 26 v else A 28 v)) B D g))) := by
  have h4 := hW.k4 hpt
  have h6 := hW.np
  obtain ⟨hT1, hT2⟩ := hT pt hpt
  have hll : (cls D pt 0 true).length ≤ 60 := lsF_len h4
  have hlm : ∀ c, c ∈ cls D pt 0 true → c < 1000 ∧ c / 100 < 10 ∧ c / 10 % 10 < dK D pt ∧ c % 10 < dK D pt := fun c hc => by
    obtain ⟨a1, a2, a3, a4, -⟩ := lsF_mem h4 hc
    exact ⟨a1, a2, a3, a4⟩
  obtain ⟨r1, r3, r4, r5, r6, r7, r8, r9, r10, r11, r12, hob, -⟩ := ch_fob (I := I) (A := A) (B := B) hW hb hpt (s := 0) (by omega)
  have hbr : bkC D pt (A (19 + depth)) = (cls D pt 0 true).find? (fun c => bkN (dF D pt 0).2.2 (A (19 + depth)) (c / 100) (c / 10 % 10) (c % 10)) := rfl
  generalize hQ : bkC D pt (A (19 + depth)) = Q0 at hbr ⊢
  generalize hcs : cls D pt 0 true = cs at hT1 hT2 hll hlm hbr
  have P : ∀ m j (y : Option Value), j + m = cs.length → (cs.drop j).find? (fun c => bkN (dF D pt 0).2.2 (A (19 + depth)) (c / 100) (c / 10 % 10) (c % 10)) = Q0 → wp l mX5_breaksAt [] d 0 0 (fun rv h' => (Q0 = none ∧ rv = some (.int (b2 false)) ∧ h' = (sz, ch b I A B D g)) ∨ (∃ c, Q0 = some c ∧ c < 1000 ∧ rv = some (.int (b2 true)) ∧ h' = (sz, ch b (upd (upd (upd (upd I 5 (nI pt)) 6 (nI c)) 7 (nI depth)) 8 (nI (dK D pt))) (upR (upR A 27 (fun v => if v < 4 then A (19 + depth) v else A 27 v)) 28 (fun v => if v < 5 then A 26 v else A 28 v)) B D g))) (sz, ch b I A B D g) 26 [some (.ref (b + 6)), some (.int (nI depth)), some (.int (nI pt)), some (.ref (dfA D pt 0)), some (.int (nI j)), y] [] := by
    intro m
    induction m with
    | zero =>
      intro j y hj he
      refine wp_iload (q := 28) dX5_breaksAt_26 rfl rfl ?_
      refine wp_aload_n (i := 0) (q := 29) dX5_breaksAt_28 rfl rfl rfl ?_
      refine wg5_3 (q := 32) dX5_breaksAt_29 ffX5_27 (by first | exact ch_obj | exact ch_pas | exact ch_8 | exact ch_9 | exact ch_17 | exact ch_25 | exact ch_26 | exact ch_tcs | exact ch_sts | exact ch_t (by omega) | exact ch_s (by omega) | exact ch_prg | exact ch_pts | exact ch_acs | exact ch_4 | exact ch_pul | exact ch_sea | exact ch_27 | exact ch_28 | exact ch_29 | exact ch_30 | exact ch_31 | exact ch_32 | assumption) rfl ?_ -- toldCounts
      refine wp_iload_n (i := 2) (q := 33) dX5_breaksAt_32 rfl rfl rfl ?_
      refine wq_iald (q := 34) dX5_breaksAt_33 (by first | exact ch_obj | exact ch_pas | exact ch_8 | exact ch_9 | exact ch_17 | exact ch_25 | exact ch_26 | exact ch_tcs | exact ch_sts | exact ch_t (by omega) | exact ch_s (by omega) | exact ch_prg | exact ch_pts | exact ch_acs | exact ch_4 | exact ch_pul | exact ch_sea | exact ch_27 | exact ch_28 | exact ch_29 | exact ch_30 | exact ch_31 | exact ch_32 | assumption) rfl (by first | omega | exact ⟨by omega, by omega⟩) rfl ?_
      rw [hT1]
      refine wp_icmp_ge (t := 96) (q := 37) dX5_breaksAt_34 (by decide) rfl (fun hc => ?_) (fun hc => ?_)
      · rw [List.drop_eq_nil_of_le (by omega)] at he
        refine wp_iconst (v := nI 0) (q := 97) dX5_breaksAt_96 (by decide) rfl ?_
        refine wp_zret dX5_breaksAt_97 rfl (by first | exact Or.inl rfl | exact Or.inr rfl | exact b2_01 _ | assumption) ?_
        exact Or.inl ⟨by rw [← he]; rfl, rfl, rfl⟩
      · exact absurd ((nI_leI (by omega) (by omega)).mpr (by omega)) hc
    | succ m ih =>
      intro j y hj he
      have hjl : j < cs.length := by omega
      have hcj : cs[j]? = some cs[j] := List.getElem?_eq_getElem hjl
      obtain ⟨c1, c2, c3, c4⟩ := hlm _ (List.getElem_mem hjl)
      rw [List.drop_eq_getElem_cons hjl] at he
      have hA : A (11 + pt) j = nI cs[j] := hT2 j _ hcj
      generalize cs[j] = c at c1 c2 c3 c4 he hA
      refine wp_iload (q := 28) dX5_breaksAt_26 rfl rfl ?_
      refine wp_aload_n (i := 0) (q := 29) dX5_breaksAt_28 rfl rfl rfl ?_
      refine wg5_3 (q := 32) dX5_breaksAt_29 ffX5_27 (by first | exact ch_obj | exact ch_pas | exact ch_8 | exact ch_9 | exact ch_17 | exact ch_25 | exact ch_26 | exact ch_tcs | exact ch_sts | exact ch_t (by omega) | exact ch_s (by omega) | exact ch_prg | exact ch_pts | exact ch_acs | exact ch_4 | exact ch_pul | exact ch_sea | exact ch_27 | exact ch_28 | exact ch_29 | exact ch_30 | exact ch_31 | exact ch_32 | assumption) rfl ?_ -- toldCounts
      refine wp_iload_n (i := 2) (q := 33) dX5_breaksAt_32 rfl rfl rfl ?_
      refine wq_iald (q := 34) dX5_breaksAt_33 (by first | exact ch_obj | exact ch_pas | exact ch_8 | exact ch_9 | exact ch_17 | exact ch_25 | exact ch_26 | exact ch_tcs | exact ch_sts | exact ch_t (by omega) | exact ch_s (by omega) | exact ch_prg | exact ch_pts | exact ch_acs | exact ch_4 | exact ch_pul | exact ch_sea | exact ch_27 | exact ch_28 | exact ch_29 | exact ch_30 | exact ch_31 | exact ch_32 | assumption) rfl (by first | omega | exact ⟨by omega, by omega⟩) rfl ?_
      rw [hT1]
      refine wp_icmp_ge (t := 96) (q := 37) dX5_breaksAt_34 (by decide) rfl (fun hc => ?_) (fun hc => ?_)
      · exact absurd ((nI_leI (by omega) (by omega)).mp hc) (by omega)
      refine wp_aload_n (i := 0) (q := 38) dX5_breaksAt_37 rfl rfl rfl ?_
      refine wg5_2 (q := 41) dX5_breaksAt_38 ffX5_24 (by first | exact ch_obj | exact ch_pas | exact ch_8 | exact ch_9 | exact ch_17 | exact ch_25 | exact ch_26 | exact ch_tcs | exact ch_sts | exact ch_t (by omega) | exact ch_s (by omega) | exact ch_prg | exact ch_pts | exact ch_acs | exact ch_4 | exact ch_pul | exact ch_sea | exact ch_27 | exact ch_28 | exact ch_29 | exact ch_30 | exact ch_31 | exact ch_32 | assumption) rfl ?_ -- toldCodes
      refine wp_iload_n (i := 2) (q := 42) dX5_breaksAt_41 rfl rfl rfl ?_
      refine wq_aald (q := 43) dX5_breaksAt_42 (by first | exact ch_obj | exact ch_pas | exact ch_8 | exact ch_9 | exact ch_17 | exact ch_25 | exact ch_26 | exact ch_tcs | exact ch_sts | exact ch_t (by omega) | exact ch_s (by omega) | exact ch_prg | exact ch_pts | exact ch_acs | exact ch_4 | exact ch_pul | exact ch_sea | exact ch_27 | exact ch_28 | exact ch_29 | exact ch_30 | exact ch_31 | exact ch_32 | assumption) (by decide) rfl (by first | omega | exact ⟨by omega, by omega⟩) (by exact if_pos (by omega)) rfl ?_
      refine wp_iload (q := 45) dX5_breaksAt_43 rfl rfl ?_
      refine wq_iald (q := 46) dX5_breaksAt_45 (by first | exact ch_obj | exact ch_pas | exact ch_8 | exact ch_9 | exact ch_17 | exact ch_25 | exact ch_26 | exact ch_tcs | exact ch_sts | exact ch_t (by omega) | exact ch_s (by omega) | exact ch_prg | exact ch_pts | exact ch_acs | exact ch_4 | exact ch_pul | exact ch_sea | exact ch_27 | exact ch_28 | exact ch_29 | exact ch_30 | exact ch_31 | exact ch_32 | assumption) rfl (by first | omega | exact ⟨by omega, by omega⟩) rfl ?_
      rw [hA]
      refine wp_istore (lv' := [_, _, _, _, some _, _]) (q := 48) dX5_breaksAt_46 (by decide) rfl rfl ?_
      refine wp_aload_n (i := 3) (q := 49) dX5_breaksAt_48 rfl rfl rfl ?_
      refine wp_aload_n (i := 0) (q := 50) dX5_breaksAt_49 rfl rfl rfl ?_
      refine wg5_4 (q := 53) dX5_breaksAt_50 ffX5_31 (by first | exact ch_obj | exact ch_pas | exact ch_8 | exact ch_9 | exact ch_17 | exact ch_25 | exact ch_26 | exact ch_tcs | exact ch_sts | exact ch_t (by omega) | exact ch_s (by omega) | exact ch_prg | exact ch_pts | exact ch_acs | exact ch_4 | exact ch_pul | exact ch_sea | exact ch_27 | exact ch_28 | exact ch_29 | exact ch_30 | exact ch_31 | exact ch_32 | assumption) rfl ?_ -- states
      refine wp_iload_n (i := 1) (q := 54) dX5_breaksAt_53 rfl rfl rfl ?_
      refine wq_aald (q := 55) dX5_breaksAt_54 (by first | exact ch_obj | exact ch_pas | exact ch_8 | exact ch_9 | exact ch_17 | exact ch_25 | exact ch_26 | exact ch_tcs | exact ch_sts | exact ch_t (by omega) | exact ch_s (by omega) | exact ch_prg | exact ch_pts | exact ch_acs | exact ch_4 | exact ch_pul | exact ch_sea | exact ch_27 | exact ch_28 | exact ch_29 | exact ch_30 | exact ch_31 | exact ch_32 | assumption) (by decide) rfl (by first | omega | exact ⟨by omega, by omega⟩) (by exact if_pos (by omega)) rfl ?_
      refine wp_iload (q := 57) dX5_breaksAt_55 rfl rfl ?_
      refine wp_SNi (μ' := mX7_shapeOf) (q := 60) (tX7_shapeOf (d := d - 1) (by omega)) dX5_breaksAt_57 okX7_shapeOf lkX5_129 rfl rfl (Nat.le_of_ble_eq_true rfl) (by omega) rfl ?_
      refine wp_iload (q := 62) dX5_breaksAt_60 rfl rfl ?_
      refine wp_SNi (μ' := mX7_firstOf) (q := 65) (tX7_firstOf (d := d - 1) (by omega)) dX5_breaksAt_62 okX7_firstOf lkX5_132 rfl rfl (Nat.le_of_ble_eq_true rfl) (by omega) rfl ?_
      refine wp_iload (q := 67) dX5_breaksAt_65 rfl rfl ?_
      refine wp_SNi (μ' := mX7_secondOf) (q := 70) (tX7_secondOf (d := d - 1) (by omega)) dX5_breaksAt_67 okX7_secondOf lkX5_135 rfl rfl (Nat.le_of_ble_eq_true rfl) (by omega) rfl ?_
      refine wp_Vi (μ' := mX1_isBrokenBy) (ci := 1) (q := 73) (tX1_isBrokenByD (d := d - 1) (by omega) hW hK hb hpt c2 c3 c4 (ch_s (by omega)) (by omega)) dX5_breaksAt_70 okX1_isBrokenBy lkX5_138 hob rfl rfl rfl (Nat.le_of_ble_eq_true rfl) (by omega) rfl ?_
      rw [List.find?_cons] at he
      refine wp_if_eq (t := 90) (q := 76) dX5_breaksAt_73 (by decide) rfl (fun hz => ?_) (fun hz => ?_)
      · have hz := b2_eq0.mp hz
        rw [hz] at he
        refine wp_iinc (v := _ + nI 1) (lv' := [_, _, _, some _, _, _]) (q := 93) dX5_breaksAt_90 rfl rfl (by decide) rfl rfl ?_
        refine wp_goto (q := 26) dX5_breaksAt_93 (by decide) ?_
        rw [nI_add]
        exact ih (j + 1) _ (by omega) he
      · have hz := b2_ne0.mp hz
        rw [hz] at he
        refine wp_aload_n (i := 0) (q := 77) dX5_breaksAt_76 rfl rfl rfl ?_
        refine wp_iload_n (i := 2) (q := 78) dX5_breaksAt_77 rfl rfl rfl ?_
        refine wp_iload (q := 80) dX5_breaksAt_78 rfl rfl ?_
        refine wp_iload_n (i := 1) (q := 81) dX5_breaksAt_80 rfl rfl rfl ?_
        refine wp_aload_n (i := 3) (q := 82) dX5_breaksAt_81 rfl rfl rfl ?_
        refine wg1_0 (q := 85) dX5_breaksAt_82 ffX5_142 (by first | exact ch_obj | exact ch_pas | exact ch_8 | exact ch_9 | exact ch_17 | exact ch_25 | exact ch_26 | exact ch_tcs | exact ch_sts | exact ch_t (by omega) | exact ch_s (by omega) | exact ch_prg | exact ch_pts | exact ch_acs | exact ch_4 | exact ch_pul | exact ch_sea | exact ch_27 | exact ch_28 | exact ch_29 | exact ch_30 | exact ch_31 | exact ch_32 | assumption) rfl ?_ -- size
        refine wp_Vv (μ' := mX5_noteFound) (ci := 5) (q := 88) (tX5_noteFound (d := d - 1) (by omega) hdp) dX5_breaksAt_85 okX5_noteFound lkX5_145 (by first | exact ch_obj | exact ch_pas | exact ch_8 | exact ch_9 | exact ch_17 | exact ch_25 | exact ch_26 | exact ch_tcs | exact ch_sts | exact ch_t (by omega) | exact ch_s (by omega) | exact ch_prg | exact ch_pts | exact ch_acs | exact ch_4 | exact ch_pul | exact ch_sea | exact ch_27 | exact ch_28 | exact ch_29 | exact ch_30 | exact ch_31 | exact ch_32 | assumption) rfl rfl rfl (Nat.le_of_ble_eq_true rfl) (by omega) rfl ?_
        refine wp_iconst (v := nI 1) (q := 89) dX5_breaksAt_88 (by decide) rfl ?_
        refine wp_zret dX5_breaksAt_89 rfl (by first | exact Or.inl rfl | exact Or.inr rfl | exact b2_01 _ | assumption) ?_
        exact Or.inr ⟨c, he.symm, c1, rfl, rfl⟩
  refine mt_in (lv := [_, _, _, _, _, _]) (by decide) (Nat.le_of_ble_eq_true rfl) rfl ?_
  refine wp_aload_n (i := 0) (q := 1) dX5_breaksAt_0 rfl rfl rfl ?_
  refine wg5_5 (q := 4) dX5_breaksAt_1 ffX5_34 (by first | exact ch_obj | exact ch_pas | exact ch_8 | exact ch_9 | exact ch_17 | exact ch_25 | exact ch_26 | exact ch_tcs | exact ch_sts | exact ch_t (by omega) | exact ch_s (by omega) | exact ch_prg | exact ch_pts | exact ch_acs | exact ch_4 | exact ch_pul | exact ch_sea | exact ch_27 | exact ch_28 | exact ch_29 | exact ch_30 | exact ch_31 | exact ch_32 | assumption) rfl ?_ -- at
  refine wp_iload_n (i := 1) (q := 5) dX5_breaksAt_4 rfl rfl rfl ?_
  refine wq_iald (q := 6) dX5_breaksAt_5 (by first | exact ch_obj | exact ch_pas | exact ch_8 | exact ch_9 | exact ch_17 | exact ch_25 | exact ch_26 | exact ch_tcs | exact ch_sts | exact ch_t (by omega) | exact ch_s (by omega) | exact ch_prg | exact ch_pts | exact ch_acs | exact ch_4 | exact ch_pul | exact ch_sea | exact ch_27 | exact ch_28 | exact ch_29 | exact ch_30 | exact ch_31 | exact ch_32 | assumption) rfl (by first | omega | exact ⟨by omega, by omega⟩) rfl ?_
  rw [hat]
  refine wp_istore_n (i := 2) (lv' := [_, some _, _, _, _, _]) (q := 7) dX5_breaksAt_6 rfl (by decide) rfl rfl ?_
  refine wp_aload_n (i := 0) (q := 8) dX5_breaksAt_7 rfl rfl rfl ?_
  refine wg5_0 (q := 11) dX5_breaksAt_8 ffX5_9 (by first | exact ch_obj | exact ch_pas | exact ch_8 | exact ch_9 | exact ch_17 | exact ch_25 | exact ch_26 | exact ch_tcs | exact ch_sts | exact ch_t (by omega) | exact ch_s (by omega) | exact ch_prg | exact ch_pts | exact ch_acs | exact ch_4 | exact ch_pul | exact ch_sea | exact ch_27 | exact ch_28 | exact ch_29 | exact ch_30 | exact ch_31 | exact ch_32 | assumption) rfl ?_ -- program
  refine wp_iload_n (i := 2) (q := 12) dX5_breaksAt_11 rfl rfl rfl ?_
  refine wp_iconst (v := nI 0) (q := 13) dX5_breaksAt_12 (by decide) rfl ?_
  refine wp_Vr (μ' := mX4_factsAt) (ci := 4) (q := 16) (tX4_factsAt (d := d - 1) (s := 0) (by omega) hW hb hpt (by omega)) dX5_breaksAt_13 okX4_factsAt lkX5_58 (by first | exact ch_obj | exact ch_pas | exact ch_8 | exact ch_9 | exact ch_17 | exact ch_25 | exact ch_26 | exact ch_tcs | exact ch_sts | exact ch_t (by omega) | exact ch_s (by omega) | exact ch_prg | exact ch_pts | exact ch_acs | exact ch_4 | exact ch_pul | exact ch_sea | exact ch_27 | exact ch_28 | exact ch_29 | exact ch_30 | exact ch_31 | exact ch_32 | assumption) rfl rfl rfl (Nat.le_of_ble_eq_true rfl) (by omega) rfl ?_
  refine wp_astore_n (i := 3) (lv' := [_, _, some _, _, _, _]) (q := 17) dX5_breaksAt_16 rfl (by decide) rfl rfl ?_
  refine wp_aload_n (i := 3) (q := 18) dX5_breaksAt_17 rfl rfl rfl ?_
  refine wp_ifnonnull (q := 23) dX5_breaksAt_18 (by decide) ?_
  refine wp_iconst (v := nI 0) (q := 24) dX5_breaksAt_23 (by decide) rfl ?_
  refine wp_istore (lv' := [_, _, _, some _, _, _]) (q := 26) dX5_breaksAt_24 (by decide) rfl rfl ?_
  exact P cs.length 0 _ (by omega) (by rw [List.drop_zero, ← hbr])
end S0
