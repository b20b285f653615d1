/-! THE CLASS: Search, find; RunLaws, search, broke -/
def gcL (D : DS) (pt : Nat) (xs : List Int32) : Nat → Nat → Nat → Option (Nat × sR_)
  | 0, _, _ => none
  | m + 1, len, cnt => match gcA D len pt xs cnt with
    | (c', some r) => some (c', r)
    | (c', none) => gcL D pt xs m (len + 1) c'
/-- what a search leaves -/
def fiQ (lo sz b : Nat) (I : Nat → Int32) (A : Nat → Nat → Int32) (B : Nat → Int64) (D : DS) (g : Nat → Option aE) (R : Option (Nat × sR_)) (rv : Option Value) (h' : aH) : Prop := match R with
  | none => rv = some (.int (-9)) ∧ qQ lo sz b I A D g h'
  | some (c', r) => rv = some (.int (nI c')) ∧ ∃ I' A', h' = (sz, ch b I' A' B D g) ∧ I' 0 = I 0 ∧ I' 3 = I 3 ∧ A' 4 = A 4 ∧ A' 32 = A 32 ∧ FC D r.1 r I' A'
def cBroke (I : Nat → Int32) (A : Nat → Nat → Int32) (w : Int32) : Int32 := if I 5 < 0 then -9 else if w < 0 then -9 else if ¬ w < nI 10 then (if w.toNatClampNeg - 10 < (I 7).toNatClampNeg then A 28 (w.toNatClampNeg - 10) else -9) else if ¬ w < nI 3 then (if w.toNatClampNeg - 3 < (I 8).toNatClampNeg then A 27 (w.toNatClampNeg - 3) else -9) else if w = nI 2 then I 7 else if w = 0 then I 5 else I 6
def CBk (I : Nat → Int32) : Prop := I 5 < 0 ∨ ∃ L K, I 7 = nI L ∧ L ≤ 5 ∧ I 8 = nI K ∧ K ≤ 4
section S2
variable {l : Launch} {d lo sz b p a : Nat} {g : Nat → Option aE} {D : DS} {I : Nat → Int32} {A : Nat → Nat → Int32} {B : Nat → Int64} {h : aH}
theorem tX5_find {n pt : Nat} (hd : 10 ≤ d) (hW : DW lo sz g D) (hK : PK D) (hb : b + 33 ≤ lo) (hn : n ≤ 5) (hpt : pt < dNp D) (h3 : I 3 = nI pt) (hin : inR (stL (A 4) (dK D pt))) : mt l mX5_find d 0 0 [.ref (b + 6), .int (nI n)] (sz, ch b I A B D g) (fiQ lo sz b I A B D g (gcL D pt (stL (A 4) (dK D pt)) (n + 1) 0 0)) := by
  have h6 := hW.np
  have hk4 := hW.k4 hpt
  generalize hxs : stL (A 4) (dK D pt) = xs at hin
  have P97 : ∀ m len (I1 : Nat → Int32) (A1 : Nat → Nat → Int32) (cnt : Nat) (y : Option Value), len + m = n + 1 → I1 4 = nI cnt → cnt ≤ len * 10 ^ 5 → (∀ o, o ≠ 4 → I1 o = I o) → aEq A A1 → TC D A1 → CP D A1 → A1 25 0 = nI pt → stL (A1 19) (dK D pt) = xs → wp l mX5_find [] d 0 0 (fiQ lo sz b I A B D g (gcL D pt xs m len cnt)) (sz, ch b I1 A1 B D g) 97 [some (.ref (b + 6)), some (.int (nI n)), some (.int (nI len)), y] [] := by
    intro m
    induction m with
    | zero =>
      intro len I1 A1 cnt y hl hI hcb hIo hA hT hC hat hx1
      refine wp_iload_n (i := 2) (q := 98) dX5_find_97 rfl rfl rfl ?_
      refine wp_iload_n (i := 1) (q := 99) dX5_find_98 rfl rfl rfl ?_
      refine wp_icmp_gt (t := 127) (q := 102) dX5_find_99 (by decide) rfl (fun hc => ?_) (fun hc => ?_)
      · refine wp_bipush (v := (-9)) (q := 129) dX5_find_127 (by decide) rfl ?_
        refine wp_iret dX5_find_129 rfl ?_
        exact ⟨rfl, _, _, _, _, _, rfl, hW, fun _ _ => rfl, dEq.rf, hA, ⟨hIo 0 (by decide), hIo 3 (by decide), hIo 5 (by decide), hIo 6 (by decide), hIo 7 (by decide), hIo 8 (by decide)⟩⟩
      · exact absurd ((nI_ltI (by omega) (by omega)).mpr (by omega)) hc
    | succ m ih =>
      intro len I1 A1 cnt y hl hI hcb hIo hA hT hC hat hx1
      have hp5 : 10 ^ len ≤ 10 ^ 5 := Nat.pow_le_pow_right (by decide) (by omega)
      refine wp_iload_n (i := 2) (q := 98) dX5_find_97 rfl rfl rfl ?_
      refine wp_iload_n (i := 1) (q := 99) dX5_find_98 rfl rfl rfl ?_
      refine wp_icmp_gt (t := 127) (q := 102) dX5_find_99 (by decide) rfl (fun hc => ?_) (fun hc => ?_)
      · exact absurd ((nI_ltI (by omega) (by omega)).mp hc) (by omega)
      refine wp_iload_n (i := 2) (q := 103) dX5_find_102 rfl rfl rfl ?_
      refine wp_iconst (v := nI 5) (q := 104) dX5_find_103 (by decide) rfl ?_
      refine wp_icmp_gt (t := 127) (q := 107) dX5_find_104 (by decide) rfl (fun hc => ?_) (fun hc => ?_)
      · exact absurd ((nI_ltI (by omega) (by omega)).mp hc) (by omega)
      refine wp_aload_n (i := 0) (q := 108) dX5_find_107 rfl rfl rfl ?_
      refine wp_iconst (v := nI 0) (q := 109) dX5_find_108 (by decide) rfl ?_
      refine wp_iload_n (i := 2) (q := 110) dX5_find_109 rfl rfl rfl ?_
      have M := tX5_goThrough (l := l) (B := B) hW hK hb len (d - 1) 0 I1 A1 pt cnt xs [] (by omega) (by omega) hpt hat hx1 hin rfl (fun j hj => by omega) hI (by omega) hT hC
      refine wp_V (μ' := mX5_goThrough) (ci := 5) (q := 113) M dX5_find_110 okX5_goThrough lkX5_81 (by first | exact ch_obj | exact ch_pas | exact ch_8 | exact ch_9 | exact ch_17 | exact ch_25 | exact ch_26 | exact ch_tcs | exact ch_sts | exact ch_t (by omega) | exact ch_s (by omega) | exact ch_prg | exact ch_pts | exact ch_acs | exact ch_4 | exact ch_pul | exact ch_sea | exact ch_27 | exact ch_28 | exact ch_29 | exact ch_30 | exact ch_31 | exact ch_32 | assumption | exact ch_aob hW hb (by assumption)) rfl rfl rfl (Nat.le_of_ble_eq_true rfl) (by omega) rfl (fun rv hx hq => ?_)
      have hbd := gcA_bd hW.na len pt xs cnt
      obtain ⟨I2, A2, rfl, hq⟩ := hq
      have hgc : gcL D pt xs (m + 1) len cnt = match gcA D len pt xs cnt with
        | (c', some r) => some (c', r)
        | (c', none) => gcL D pt xs m (len + 1) c' := rfl
      rw [hgc]
      generalize gcA D len pt xs cnt = R at hq hbd
      obtain ⟨c', o⟩ := R
      cases o with
      | none =>
        obtain ⟨rfl, q1, q2, q3, q4⟩ := hq
        show wp _ _ _ _ _ _ _ _ _ _ [.int (b2 false)]
        refine wp_if_eq (t := 121) (q := 116) dX5_find_113 (by decide) rfl (fun hz => ?_) (fun hz => ?_)
        · refine wp_iinc (v := _ + nI 1) (lv' := [_, some _, _, _]) (q := 124) dX5_find_121 rfl rfl (by decide) rfl rfl ?_
          refine wp_goto (q := 97) dX5_find_124 (by decide) ?_
          rw [nI_add]
          exact ih (len + 1) I2 A2 c' _ (by omega) q1 (by dsimp only at hbd; omega) (fun o ho => (q2 o ho).trans (hIo o ho)) (hA.tr ⟨q3.1, q3.2.2.2.1, q3.2.2.2.2.1, q3.2.2.2.2.2.1⟩) (hT.ka h6 q3) q4 ((q3.2.2.2.2.2.2.1 0 (Nat.le_refl _)).1.trans hat) (by rw [show A2 19 = A1 19 from (q3.2.2.2.2.2.2.1 0 (Nat.le_refl _)).2]; exact hx1)
        · exact absurd rfl hz
      | some r =>
        obtain ⟨rfl, q1, q2, q3, q4, q5, q6⟩ := hq
        show wp _ _ _ _ _ _ _ _ _ _ [.int (b2 true)]
        refine wp_if_eq (t := 121) (q := 116) dX5_find_113 (by decide) rfl (fun hz => ?_) (fun hz => ?_)
        · exact absurd hz (by decide)
        · refine wp_aload_n (i := 0) (q := 117) dX5_find_116 rfl rfl rfl ?_
          refine wg5_7 (q := 120) dX5_find_117 ffX5_68 (by first | exact ch_obj | exact ch_pas | exact ch_8 | exact ch_9 | exact ch_17 | exact ch_25 | exact ch_26 | exact ch_tcs | exact ch_sts | exact ch_t (by omega) | exact ch_s (by omega) | exact ch_prg | exact ch_pts | exact ch_acs | exact ch_4 | exact ch_pul | exact ch_sea | exact ch_27 | exact ch_28 | exact ch_29 | exact ch_30 | exact ch_31 | exact ch_32 | assumption | exact ch_aob hW hb (by assumption)) rfl ?_ -- rows
          rw [q1]
          refine wp_iret dX5_find_120 rfl ?_
          exact ⟨rfl, I2, A2, rfl, q2.trans (hIo 0 (by decide)), q3.trans (hIo 3 (by decide)), q5.trans hA.1, q6.trans hA.2.2.2, q4⟩
  refine mt_in (lv := [_, _, _, _]) (by decide) (Nat.le_of_ble_eq_true rfl) rfl ?_
  refine wp_aload_n (i := 0) (q := 1) dX5_find_0 rfl rfl rfl ?_
  refine wg5_1 (q := 4) dX5_find_1 ffX5_18 (by first | exact ch_obj | exact ch_pas | exact ch_8 | exact ch_9 | exact ch_17 | exact ch_25 | exact ch_26 | exact ch_tcs | exact ch_sts | exact ch_t (by omega) | exact ch_s (by omega) | exact ch_prg | exact ch_pts | exact ch_acs | exact ch_4 | exact ch_pul | exact ch_sea | exact ch_27 | exact ch_28 | exact ch_29 | exact ch_30 | exact ch_31 | exact ch_32 | assumption | exact ch_aob hW hb (by assumption)) rfl ?_ -- passed
  refine wp_V (μ' := mX2_forget) (ci := 2) (q := 7) (tX2_forget (d := d - 1)) dX5_find_4 okX2_forget lkX5_50 (by first | exact ch_obj | exact ch_pas | exact ch_8 | exact ch_9 | exact ch_17 | exact ch_25 | exact ch_26 | exact ch_tcs | exact ch_sts | exact ch_t (by omega) | exact ch_s (by omega) | exact ch_prg | exact ch_pts | exact ch_acs | exact ch_4 | exact ch_pul | exact ch_sea | exact ch_27 | exact ch_28 | exact ch_29 | exact ch_30 | exact ch_31 | exact ch_32 | assumption | exact ch_aob hW hb (by assumption)) rfl rfl rfl (Nat.le_of_ble_eq_true rfl) (by omega) rfl (fun rv hx hq => ?_)
  obtain ⟨rfl, f, rfl, hf⟩ := hq
  show wp _ _ _ _ _ _ _ _ _ _ []
  refine wp_iconst (v := nI 0) (q := 8) dX5_find_7 (by decide) rfl ?_
  refine wp_istore_n (i := 2) (lv' := [_, some _, _, _]) (q := 9) dX5_find_8 rfl (by decide) rfl rfl ?_
  have P9 : ∀ m p (A1 : Nat → Nat → Int32) (y : Option Value), p + m = dNp D → aEq A A1 → (∀ j, j < 1024 → A1 8 j = -1) → (∀ q, q < p → A1 17 q = nI (cls D q 0 true).length ∧ fwc (A1 (11 + q)) (cls D q 0 true)) → wp l mX5_find [] d 0 0 (fiQ lo sz b I A B D g (gcL D pt xs (n + 1) 0 0)) (sz, ch b I A1 B D g) 9 [some (.ref (b + 6)), some (.int (nI n)), some (.int (nI p)), y] [] := by
    intro m
    induction m with
    | zero =>
      intro p A1 y hp hA h8 hT
      refine wp_iload_n (i := 2) (q := 10) dX5_find_9 rfl rfl rfl ?_
      refine wp_aload_n (i := 0) (q := 11) dX5_find_10 rfl rfl rfl ?_
      refine wg5_0 (q := 14) dX5_find_11 ffX5_9 (by first | exact ch_obj | exact ch_pas | exact ch_8 | exact ch_9 | exact ch_17 | exact ch_25 | exact ch_26 | exact ch_tcs | exact ch_sts | exact ch_t (by omega) | exact ch_s (by omega) | exact ch_prg | exact ch_pts | exact ch_acs | exact ch_4 | exact ch_pul | exact ch_sea | exact ch_27 | exact ch_28 | exact ch_29 | exact ch_30 | exact ch_31 | exact ch_32 | assumption | exact ch_aob hW hb (by assumption)) rfl ?_ -- program
      refine wg4_4 (q := 17) dX5_find_14 ffX5_53 (by first | exact ch_obj | exact ch_pas | exact ch_8 | exact ch_9 | exact ch_17 | exact ch_25 | exact ch_26 | exact ch_tcs | exact ch_sts | exact ch_t (by omega) | exact ch_s (by omega) | exact ch_prg | exact ch_pts | exact ch_acs | exact ch_4 | exact ch_pul | exact ch_sea | exact ch_27 | exact ch_28 | exact ch_29 | exact ch_30 | exact ch_31 | exact ch_32 | assumption | exact ch_aob hW hb (by assumption)) rfl ?_ -- pointCount
      refine wp_icmp_ge (t := 61) (q := 20) dX5_find_17 (by decide) rfl (fun hc => ?_) (fun hc => ?_)
      · refine wp_aload_n (i := 0) (q := 62) dX5_find_61 rfl rfl rfl ?_
        refine wp_iconst (v := nI 0) (q := 63) dX5_find_62 (by decide) rfl ?_
        refine wt5_7 (q := 66) dX5_find_63 ffX5_68 (by first | exact ch_obj | exact ch_pas | exact ch_8 | exact ch_9 | exact ch_17 | exact ch_25 | exact ch_26 | exact ch_tcs | exact ch_sts | exact ch_t (by omega) | exact ch_s (by omega) | exact ch_prg | exact ch_pts | exact ch_acs | exact ch_4 | exact ch_pul | exact ch_sea | exact ch_27 | exact ch_28 | exact ch_29 | exact ch_30 | exact ch_31 | exact ch_32 | assumption | exact ch_aob hW hb (by assumption)) (by first | exact ch_s8 | exact ch_s9 | exact ch_s17 | exact ch_s25 | exact ch_s26 | exact ch_sI4 | exact ch_sI5 | exact ch_sI6 | exact ch_sI7 | exact ch_sI8) rfl ?_ -- rows
        refine wp_aload_n (i := 0) (q := 67) dX5_find_66 rfl rfl rfl ?_
        refine wg5_5 (q := 70) dX5_find_67 ffX5_34 (by first | exact ch_obj | exact ch_pas | exact ch_8 | exact ch_9 | exact ch_17 | exact ch_25 | exact ch_26 | exact ch_tcs | exact ch_sts | exact ch_t (by omega) | exact ch_s (by omega) | exact ch_prg | exact ch_pts | exact ch_acs | exact ch_4 | exact ch_pul | exact ch_sea | exact ch_27 | exact ch_28 | exact ch_29 | exact ch_30 | exact ch_31 | exact ch_32 | assumption | exact ch_aob hW hb (by assumption)) rfl ?_ -- at
        refine wp_iconst (v := nI 0) (q := 71) dX5_find_70 (by decide) rfl ?_
        refine wp_aload_n (i := 0) (q := 72) dX5_find_71 rfl rfl rfl ?_
        refine wg5_0 (q := 75) dX5_find_72 ffX5_9 (by first | exact ch_obj | exact ch_pas | exact ch_8 | exact ch_9 | exact ch_17 | exact ch_25 | exact ch_26 | exact ch_tcs | exact ch_sts | exact ch_t (by omega) | exact ch_s (by omega) | exact ch_prg | exact ch_pts | exact ch_acs | exact ch_4 | exact ch_pul | exact ch_sea | exact ch_27 | exact ch_28 | exact ch_29 | exact ch_30 | exact ch_31 | exact ch_32 | assumption | exact ch_aob hW hb (by assumption)) rfl ?_ -- program
        refine wg4_6 (q := 78) dX5_find_75 ffX5_71 (by first | exact ch_obj | exact ch_pas | exact ch_8 | exact ch_9 | exact ch_17 | exact ch_25 | exact ch_26 | exact ch_tcs | exact ch_sts | exact ch_t (by omega) | exact ch_s (by omega) | exact ch_prg | exact ch_pts | exact ch_acs | exact ch_4 | exact ch_pul | exact ch_sea | exact ch_27 | exact ch_28 | exact ch_29 | exact ch_30 | exact ch_31 | exact ch_32 | assumption | exact ch_aob hW hb (by assumption)) rfl ?_ -- startPoint
        refine wq_iast (q := 79) dX5_find_78 (by first | exact ch_obj | exact ch_pas | exact ch_8 | exact ch_9 | exact ch_17 | exact ch_25 | exact ch_26 | exact ch_tcs | exact ch_sts | exact ch_t (by omega) | exact ch_s (by omega) | exact ch_prg | exact ch_pts | exact ch_acs | exact ch_4 | exact ch_pul | exact ch_sea | exact ch_27 | exact ch_28 | exact ch_29 | exact ch_30 | exact ch_31 | exact ch_32 | assumption | exact ch_aob hW hb (by assumption)) rfl (by first | omega | exact ⟨by omega, by omega⟩) (by first | exact ch_s8 | exact ch_s9 | exact ch_s17 | exact ch_s25 | exact ch_s26 | exact ch_sI4 | exact ch_sI5 | exact ch_sI6 | exact ch_sI7 | exact ch_sI8) rfl ?_
        refine wp_aload_n (i := 0) (q := 80) dX5_find_79 rfl rfl rfl ?_
        refine wg5_0 (q := 83) dX5_find_80 ffX5_9 (by first | exact ch_obj | exact ch_pas | exact ch_8 | exact ch_9 | exact ch_17 | exact ch_25 | exact ch_26 | exact ch_tcs | exact ch_sts | exact ch_t (by omega) | exact ch_s (by omega) | exact ch_prg | exact ch_pts | exact ch_acs | exact ch_4 | exact ch_pul | exact ch_sea | exact ch_27 | exact ch_28 | exact ch_29 | exact ch_30 | exact ch_31 | exact ch_32 | assumption | exact ch_aob hW hb (by assumption)) rfl ?_ -- program
        refine wg4_2 (q := 86) dX5_find_83 ffX5_74 (by first | exact ch_obj | exact ch_pas | exact ch_8 | exact ch_9 | exact ch_17 | exact ch_25 | exact ch_26 | exact ch_tcs | exact ch_sts | exact ch_t (by omega) | exact ch_s (by omega) | exact ch_prg | exact ch_pts | exact ch_acs | exact ch_4 | exact ch_pul | exact ch_sea | exact ch_27 | exact ch_28 | exact ch_29 | exact ch_30 | exact ch_31 | exact ch_32 | assumption | exact ch_aob hW hb (by assumption)) rfl ?_ -- startNumbers
        refine wp_aload_n (i := 0) (q := 87) dX5_find_86 rfl rfl rfl ?_
        refine wg5_4 (q := 90) dX5_find_87 ffX5_31 (by first | exact ch_obj | exact ch_pas | exact ch_8 | exact ch_9 | exact ch_17 | exact ch_25 | exact ch_26 | exact ch_tcs | exact ch_sts | exact ch_t (by omega) | exact ch_s (by omega) | exact ch_prg | exact ch_pts | exact ch_acs | exact ch_4 | exact ch_pul | exact ch_sea | exact ch_27 | exact ch_28 | exact ch_29 | exact ch_30 | exact ch_31 | exact ch_32 | assumption | exact ch_aob hW hb (by assumption)) rfl ?_ -- states
        refine wp_iconst (v := nI 0) (q := 91) dX5_find_90 (by decide) rfl ?_
        refine wq_aald (q := 92) dX5_find_91 (by first | exact ch_obj | exact ch_pas | exact ch_8 | exact ch_9 | exact ch_17 | exact ch_25 | exact ch_26 | exact ch_tcs | exact ch_sts | exact ch_t (by omega) | exact ch_s (by omega) | exact ch_prg | exact ch_pts | exact ch_acs | exact ch_4 | exact ch_pul | exact ch_sea | exact ch_27 | exact ch_28 | exact ch_29 | exact ch_30 | exact ch_31 | exact ch_32 | assumption | exact ch_aob hW hb (by assumption)) (by decide) rfl (by first | omega | exact ⟨by omega, by omega⟩) (by exact if_pos (by omega)) rfl ?_
        rw [pk_un (show (3 : Nat) ≠ 4 by decide), h3]
        refine wp_SNv (μ' := mX7_copy) (q := 95) (tX7_copy (d := d - 1) (n := 4) (m := 4) ch_4 (ch_s (p := 0) (by omega)) (by omega) (by omega) (by omega)) dX5_find_92 okX7_copy lkX5_77 rfl rfl (Nat.le_of_ble_eq_true rfl) (by omega) rfl ?_
        rw [show b + 19 + 0 = b + 19 from rfl, ch_s19]
        refine wp_iconst (v := nI 0) (q := 96) dX5_find_95 (by decide) rfl ?_
        refine wp_istore_n (i := 2) (lv' := [_, some _, _, _]) (q := 97) dX5_find_96 rfl (by decide) rfl rfl ?_
        refine P97 (n + 1) 0 _ _ 0 _ (by omega) pk_us (by omega) (fun o ho => pk_un ho) ((hA.tr (aEq.up (by decide))).tr (aEq.up (by decide))) ?_ ?_ ?_ ?_
        · intro q hq
          rw [upR_ne (by decide), upR_ne (by decide), upR_ne (by omega), upR_ne (by omega)]
          exact hT q (by omega)
        · intro s hs
          rw [upR_ne (by decide), upR_ne (by decide)]
          exact Or.inl (h8 s hs)
        · rw [upR_ne (by decide), upR_at, pk_us]
        · rw [upR_at, ← hxs]
          refine stL_congr (fun u hu => ?_)
          rw [if_pos (show u < min 4 4 by omega), upR_ne (by decide), hA.1]
      · exact absurd ((nI_leI (by omega) (by omega)).mpr (by omega)) hc
    | succ m ih =>
      intro p A1 y hp hA h8 hT
      have hpn : p < dNp D := by omega
      obtain ⟨r1, r3, r4, r5, r6, r7, r8, r9, r10, r11, r12, hof, -⟩ := ch_fob (I := I) (A := A1) (B := B) hW hb hpn (s := 0) (by omega)
      have hll : (cls D p 0 true).length ≤ 60 := lsF_len (hW.k4 hpn)
      refine wp_iload_n (i := 2) (q := 10) dX5_find_9 rfl rfl rfl ?_
      refine wp_aload_n (i := 0) (q := 11) dX5_find_10 rfl rfl rfl ?_
      refine wg5_0 (q := 14) dX5_find_11 ffX5_9 (by first | exact ch_obj | exact ch_pas | exact ch_8 | exact ch_9 | exact ch_17 | exact ch_25 | exact ch_26 | exact ch_tcs | exact ch_sts | exact ch_t (by omega) | exact ch_s (by omega) | exact ch_prg | exact ch_pts | exact ch_acs | exact ch_4 | exact ch_pul | exact ch_sea | exact ch_27 | exact ch_28 | exact ch_29 | exact ch_30 | exact ch_31 | exact ch_32 | assumption | exact ch_aob hW hb (by assumption)) rfl ?_ -- program
      refine wg4_4 (q := 17) dX5_find_14 ffX5_53 (by first | exact ch_obj | exact ch_pas | exact ch_8 | exact ch_9 | exact ch_17 | exact ch_25 | exact ch_26 | exact ch_tcs | exact ch_sts | exact ch_t (by omega) | exact ch_s (by omega) | exact ch_prg | exact ch_pts | exact ch_acs | exact ch_4 | exact ch_pul | exact ch_sea | exact ch_27 | exact ch_28 | exact ch_29 | exact ch_30 | exact ch_31 | exact ch_32 | assumption | exact ch_aob hW hb (by assumption)) rfl ?_ -- pointCount
      refine wp_icmp_ge (t := 61) (q := 20) dX5_find_17 (by decide) rfl (fun hc => ?_) (fun hc => ?_)
      · exact absurd ((nI_leI (by omega) (by omega)).mp hc) (by omega)
      refine wp_aload_n (i := 0) (q := 21) dX5_find_20 rfl rfl rfl ?_
      refine wg5_0 (q := 24) dX5_find_21 ffX5_9 (by first | exact ch_obj | exact ch_pas | exact ch_8 | exact ch_9 | exact ch_17 | exact ch_25 | exact ch_26 | exact ch_tcs | exact ch_sts | exact ch_t (by omega) | exact ch_s (by omega) | exact ch_prg | exact ch_pts | exact ch_acs | exact ch_4 | exact ch_pul | exact ch_sea | exact ch_27 | exact ch_28 | exact ch_29 | exact ch_30 | exact ch_31 | exact ch_32 | assumption | exact ch_aob hW hb (by assumption)) rfl ?_ -- program
      refine wp_iload_n (i := 2) (q := 25) dX5_find_24 rfl rfl rfl ?_
      refine wp_iconst (v := nI 0) (q := 26) dX5_find_25 (by decide) rfl ?_
      refine wp_Vr (μ' := mX4_factsAt) (ci := 4) (q := 29) (tX4_factsAt (d := d - 1) (s := 0) (by omega) hW hb hpn (by omega)) dX5_find_26 okX4_factsAt lkX5_58 (by first | exact ch_obj | exact ch_pas | exact ch_8 | exact ch_9 | exact ch_17 | exact ch_25 | exact ch_26 | exact ch_tcs | exact ch_sts | exact ch_t (by omega) | exact ch_s (by omega) | exact ch_prg | exact ch_pts | exact ch_acs | exact ch_4 | exact ch_pul | exact ch_sea | exact ch_27 | exact ch_28 | exact ch_29 | exact ch_30 | exact ch_31 | exact ch_32 | assumption | exact ch_aob hW hb (by assumption)) rfl rfl rfl (Nat.le_of_ble_eq_true rfl) (by omega) rfl ?_
      refine wp_astore_n (i := 3) (lv' := [_, _, some _, _]) (q := 30) dX5_find_29 rfl (by decide) rfl rfl ?_
      refine wp_aload_n (i := 0) (q := 31) dX5_find_30 rfl rfl rfl ?_
      refine wg5_3 (q := 34) dX5_find_31 ffX5_27 (by first | exact ch_obj | exact ch_pas | exact ch_8 | exact ch_9 | exact ch_17 | exact ch_25 | exact ch_26 | exact ch_tcs | exact ch_sts | exact ch_t (by omega) | exact ch_s (by omega) | exact ch_prg | exact ch_pts | exact ch_acs | exact ch_4 | exact ch_pul | exact ch_sea | exact ch_27 | exact ch_28 | exact ch_29 | exact ch_30 | exact ch_31 | exact ch_32 | assumption | exact ch_aob hW hb (by assumption)) rfl ?_ -- toldCounts
      refine wp_iload_n (i := 2) (q := 35) dX5_find_34 rfl rfl rfl ?_
      refine wp_aload_n (i := 3) (q := 36) dX5_find_35 rfl rfl rfl ?_
      refine wp_ifnonnull (q := 43) dX5_find_36 (by decide) ?_
      refine wp_aload_n (i := 3) (q := 44) dX5_find_43 rfl rfl rfl ?_
      refine wp_iconst (v := nI 1) (q := 45) dX5_find_44 (by decide) rfl ?_
      refine wp_aload_n (i := 0) (q := 46) dX5_find_45 rfl rfl rfl ?_
      refine wg5_2 (q := 49) dX5_find_46 ffX5_24 (by first | exact ch_obj | exact ch_pas | exact ch_8 | exact ch_9 | exact ch_17 | exact ch_25 | exact ch_26 | exact ch_tcs | exact ch_sts | exact ch_t (by omega) | exact ch_s (by omega) | exact ch_prg | exact ch_pts | exact ch_acs | exact ch_4 | exact ch_pul | exact ch_sea | exact ch_27 | exact ch_28 | exact ch_29 | exact ch_30 | exact ch_31 | exact ch_32 | assumption | exact ch_aob hW hb (by assumption)) rfl ?_ -- toldCodes
      refine wp_iload_n (i := 2) (q := 50) dX5_find_49 rfl rfl rfl ?_
      refine wq_aald (q := 51) dX5_find_50 (by first | exact ch_obj | exact ch_pas | exact ch_8 | exact ch_9 | exact ch_17 | exact ch_25 | exact ch_26 | exact ch_tcs | exact ch_sts | exact ch_t (by omega) | exact ch_s (by omega) | exact ch_prg | exact ch_pts | exact ch_acs | exact ch_4 | exact ch_pul | exact ch_sea | exact ch_27 | exact ch_28 | exact ch_29 | exact ch_30 | exact ch_31 | exact ch_32 | assumption | exact ch_aob hW hb (by assumption)) (by decide) rfl (by first | omega | exact ⟨by omega, by omega⟩) (by exact if_pos (by omega)) rfl ?_
      refine wp_V (μ' := mX1_list) (ci := 1) (q := 54) (tX1_listT (d := d - 1) (p' := p) (by omega) hW hK hb hpn (by omega)) dX5_find_51 okX1_list lkX5_62 hof rfl rfl rfl (Nat.le_of_ble_eq_true rfl) (by omega) rfl (fun rv hx hq => ?_)
      obtain ⟨rfl, f2, rfl, hf2⟩ := hq
      show wp _ _ _ _ _ _ _ _ _ _ [.int (nI (cls D p 0 true).length), .int (nI p), .ref (b + 17)]
      refine wq_iast (q := 55) dX5_find_54 (by first | exact ch_obj | exact ch_pas | exact ch_8 | exact ch_9 | exact ch_17 | exact ch_25 | exact ch_26 | exact ch_tcs | exact ch_sts | exact ch_t (by omega) | exact ch_s (by omega) | exact ch_prg | exact ch_pts | exact ch_acs | exact ch_4 | exact ch_pul | exact ch_sea | exact ch_27 | exact ch_28 | exact ch_29 | exact ch_30 | exact ch_31 | exact ch_32 | assumption | exact ch_aob hW hb (by assumption)) rfl (by first | omega | exact ⟨by omega, by omega⟩) (by first | exact ch_s8 | exact ch_s9 | exact ch_s17 | exact ch_s25 | exact ch_s26 | exact ch_sI4 | exact ch_sI5 | exact ch_sI6 | exact ch_sI7 | exact ch_sI8) rfl ?_
      refine wp_iinc (v := _ + nI 1) (lv' := [_, some _, _, _]) (q := 58) dX5_find_55 rfl rfl (by decide) rfl rfl ?_
      refine wp_goto (q := 9) dX5_find_58 (by decide) ?_
      rw [nI_add]
      refine ih (p + 1) _ _ (by omega) ((hA.tr (aEq.up (by omega))).tr (aEq.up (by decide))) (fun j hj => ?_) (fun q hq => ?_)
      · rw [upR_ne (by decide), upR_ne (by omega)]
        exact h8 j hj
      · rw [upR_at, upR_ne (show 17 ≠ 11 + p by omega), upR_ne (show 11 + q ≠ 17 by omega)]
        by_cases w : q = p
        · subst w
          rw [pk_us, upR_at]
          exact ⟨rfl, hf2⟩
        · rw [pk_un w, upR_ne (by omega)]
          exact hT q (by omega)
  exact P9 (dNp D) 0 _ _ (by omega) (aEq.up (by decide)) (fun j hj => by rw [upR_at]; exact hf j hj) (fun q hq => by omega)
theorem tX7_search {n : Int32} (hd : 11 ≤ d) (hW : DW lo sz g D) (hK : PK D) (hb : b + 33 ≤ lo) (hS : CSt I D) (hin : ∀ p, p < dNp D → I 3 = nI p → inR (stL (A 4) (dK D p))) : mt l mX7_search d 0 0 [.ref b, .int n] (sz, ch b I A B D g) (fun rv h' => (ix 6 n = false ∧ rv = some (.int (-2)) ∧ h' = (sz, ch b I A B D g)) ∨ (ix 6 n = true ∧ I 3 < 0 ∧ rv = some (.int (-3)) ∧ h' = (sz, ch b I A B D g)) ∨ (ix 6 n = true ∧ ¬ I 3 < 0 ∧ fiQ lo sz b I A B D g (gcL D (I 3).toNatClampNeg (stL (A 4) (dK D (I 3).toNatClampNeg)) (n.toNatClampNeg + 1) 0 0) rv h')) := by
  have h6 := hW.np
  have bad : ix 6 n = false → wp l mX7_search [] d 0 0 (fun rv h' => (ix 6 n = false ∧ rv = some (.int (-2)) ∧ h' = (sz, ch b I A B D g)) ∨ (ix 6 n = true ∧ I 3 < 0 ∧ rv = some (.int (-3)) ∧ h' = (sz, ch b I A B D g)) ∨ (ix 6 n = true ∧ ¬ I 3 < 0 ∧ fiQ lo sz b I A B D g (gcL D (I 3).toNatClampNeg (stL (A 4) (dK D (I 3).toNatClampNeg)) (n.toNatClampNeg + 1) 0 0) rv h')) (sz, ch b I A B D g) 9 [some (.ref b), some (.int n)] [] := by
    intro hbad
    refine wp_bipush (v := (-2)) (q := 11) dX7_search_9 (by decide) rfl ?_
    refine wp_iret dX7_search_11 rfl ?_
    exact Or.inl ⟨hbad, rfl, rfl⟩
  refine mt_in (lv := [_, _]) (by decide) (Nat.le_of_ble_eq_true rfl) rfl ?_
  refine wp_iload_n (i := 1) (q := 1) dX7_search_0 rfl rfl rfl ?_
  refine wp_if_lt (t := 9) (q := 4) dX7_search_1 (by decide) rfl (fun hn => ?_) (fun hn => ?_)
  · exact bad (ix_neg hn)
  obtain ⟨n, hn2, rfl⟩ := nI_of hn
  refine wp_iload_n (i := 1) (q := 5) dX7_search_4 rfl rfl rfl ?_
  refine wp_iconst (v := nI 5) (q := 6) dX7_search_5 (by decide) rfl ?_
  refine wp_icmp_le (t := 12) (q := 9) dX7_search_6 (by decide) rfl (fun h5 => ?_) (fun h5 => ?_)
  case _ =>
    have h5 : n ≤ 5 := (nI_leI (by omega) (by omega)).mp h5
    have hok : ix 6 (nI n) = true := by rw [ix_nI hn2]; exact decide_eq_true (by omega)
    refine wp_aload_n (i := 0) (q := 13) dX7_search_12 rfl rfl rfl ?_
    refine wg7_0 (q := 16) dX7_search_13 ffX7_10 (by first | exact ch_obj | exact ch_pas | exact ch_8 | exact ch_9 | exact ch_17 | exact ch_25 | exact ch_26 | exact ch_tcs | exact ch_sts | exact ch_t (by omega) | exact ch_s (by omega) | exact ch_prg | exact ch_pts | exact ch_acs | exact ch_4 | exact ch_pul | exact ch_sea | exact ch_27 | exact ch_28 | exact ch_29 | exact ch_30 | exact ch_31 | exact ch_32 | assumption | exact ch_aob hW hb (by assumption)) rfl ?_ -- program
    refine wp_Vi (μ' := mX4_hasStart) (ci := 4) (q := 19) (tX4_hasStart (d := d - 1)) dX7_search_16 okX4_hasStart lkX7_158 (by first | exact ch_obj | exact ch_pas | exact ch_8 | exact ch_9 | exact ch_17 | exact ch_25 | exact ch_26 | exact ch_tcs | exact ch_sts | exact ch_t (by omega) | exact ch_s (by omega) | exact ch_prg | exact ch_pts | exact ch_acs | exact ch_4 | exact ch_pul | exact ch_sea | exact ch_27 | exact ch_28 | exact ch_29 | exact ch_30 | exact ch_31 | exact ch_32 | assumption | exact ch_aob hW hb (by assumption)) rfl rfl rfl (Nat.le_of_ble_eq_true rfl) (by omega) rfl ?_
    refine wp_if_eq (t := 33) (q := 22) dX7_search_19 (by decide) rfl (fun hz => ?_) (fun hz => ?_)
    · have h3 : I 3 < 0 := by
        have := b2_eq0.mp hz
        simpa using this
      refine wp_bipush (v := (-3)) (q := 35) dX7_search_33 (by decide) rfl ?_
      refine wp_iret dX7_search_35 rfl ?_
      exact Or.inr (Or.inl ⟨hok, h3, rfl, rfl⟩)
    · have h3 : ¬ I 3 < 0 := of_decide_eq_false (by simpa using b2_ne0.mp hz)
      obtain ⟨pt, hpt, hI⟩ : ∃ p, p < dNp D ∧ I 3 = nI p := hS.resolve_left h3
      refine wp_post (Q' := fiQ lo sz b I A B D g (gcL D (I 3).toNatClampNeg (stL (A 4) (dK D (I 3).toNatClampNeg)) ((nI n).toNatClampNeg + 1) 0 0)) (fun rv h' q => Or.inr (Or.inr ⟨hok, h3, q⟩)) ?_
      rw [hI, nI_clamp hn2, nI_clamp (n := pt) (by omega)]
      refine wp_aload_n (i := 0) (q := 23) dX7_search_22 rfl rfl rfl ?_
      refine wg7_1 (q := 26) dX7_search_23 ffX7_21 (by first | exact ch_obj | exact ch_pas | exact ch_8 | exact ch_9 | exact ch_17 | exact ch_25 | exact ch_26 | exact ch_tcs | exact ch_sts | exact ch_t (by omega) | exact ch_s (by omega) | exact ch_prg | exact ch_pts | exact ch_acs | exact ch_4 | exact ch_pul | exact ch_sea | exact ch_27 | exact ch_28 | exact ch_29 | exact ch_30 | exact ch_31 | exact ch_32 | assumption | exact ch_aob hW hb (by assumption)) rfl ?_ -- searcher
      refine wp_iload_n (i := 1) (q := 27) dX7_search_26 rfl rfl rfl ?_
      refine wp_V (μ' := mX5_find) (ci := 5) (q := 30) (tX5_find (d := d - 1) (by omega) hW hK hb h5 hpt hI (hin pt hpt hI)) dX7_search_27 okX5_find lkX7_176 (by first | exact ch_obj | exact ch_pas | exact ch_8 | exact ch_9 | exact ch_17 | exact ch_25 | exact ch_26 | exact ch_tcs | exact ch_sts | exact ch_t (by omega) | exact ch_s (by omega) | exact ch_prg | exact ch_pts | exact ch_acs | exact ch_4 | exact ch_pul | exact ch_sea | exact ch_27 | exact ch_28 | exact ch_29 | exact ch_30 | exact ch_31 | exact ch_32 | assumption | exact ch_aob hW hb (by assumption)) rfl rfl rfl (Nat.le_of_ble_eq_true rfl) (by omega) rfl (fun rv hx hq => ?_)
      generalize gcL D pt (stL (A 4) (dK D pt)) (n + 1) 0 0 = R at hq ⊢
      cases R with
      | none =>
        have hq' := hq
        obtain ⟨rfl, I', A', B', D', g', rfl, q⟩ := hq
        show wp _ _ _ _ _ _ _ _ _ _ [.int (-9)]
        refine wp_goto (q := 35) dX7_search_30 (by decide) ?_
        refine wp_iret dX7_search_35 rfl ?_
        exact hq'
      | some R =>
        obtain ⟨c', r⟩ := R
        have hq' := hq
        obtain ⟨rfl, I', A', rfl, q⟩ := hq
        show wp _ _ _ _ _ _ _ _ _ _ [.int (nI c')]
        refine wp_goto (q := 35) dX7_search_30 (by decide) ?_
        refine wp_iret dX7_search_35 rfl ?_
        exact hq'
  · exact bad (by rw [ix_nI hn2]; exact decide_eq_false (fun q => h5 ((nI_leI (by omega) (by omega)).mpr (by omega))))
theorem tX5_tell {w : Int32} (hC : CBk I) : mt l mX5_tell d 0 0 [.ref (b + 6), .int w] (sz, ch b I A B D g) (rI (cBroke I A w) (sz, ch b I A B D g)) := by
  refine mt_in (lv := [_, _]) (by decide) (Nat.le_of_ble_eq_true rfl) rfl ?_
  refine wp_aload_n (i := 0) (q := 1) dX5_tell_0 rfl rfl rfl ?_
  refine wg5_10 (q := 4) dX5_tell_1 ffX5_46 (by first | exact ch_obj | exact ch_pas | exact ch_8 | exact ch_9 | exact ch_17 | exact ch_25 | exact ch_26 | exact ch_tcs | exact ch_sts | exact ch_t (by omega) | exact ch_s (by omega) | exact ch_prg | exact ch_pts | exact ch_acs | exact ch_4 | exact ch_pul | exact ch_sea | exact ch_27 | exact ch_28 | exact ch_29 | exact ch_30 | exact ch_31 | exact ch_32 | assumption | exact ch_aob hW hb (by assumption)) rfl ?_ -- foundPoint
  unfold cBroke
  refine wp_if_lt (t := 11) (q := 7) dX5_tell_4 (by decide) rfl (fun h5 => ?_) (fun h5 => ?_)
  · rw [if_pos h5]
    refine wp_bipush (v := (-9)) (q := 13) dX5_tell_11 (by decide) rfl ?_
    refine wp_iret dX5_tell_13 rfl ?_
    exact ⟨rfl, rfl⟩
  rw [if_neg h5]
  obtain ⟨L, K, hL, hL5, hK, hK4⟩ := hC.resolve_left h5
  rw [hL, hK, nI_clamp (by omega), nI_clamp (by omega)]
  refine wp_iload_n (i := 1) (q := 8) dX5_tell_7 rfl rfl rfl ?_
  refine wp_if_ge (t := 14) (q := 11) dX5_tell_8 (by decide) rfl (fun hw => ?_) (fun hw => ?_)
  case _ =>
    rw [if_neg (Int32.not_lt.mpr hw)]
    obtain ⟨a, ha, rfl⟩ := nI_of (Int32.not_lt.mpr hw)
    rw [nI_clamp ha]
    refine wp_iload_n (i := 1) (q := 15) dX5_tell_14 rfl rfl rfl ?_
    refine wp_bipush (v := nI 10) (q := 17) dX5_tell_15 (by decide) rfl ?_
    refine wp_icmp_lt (t := 46) (q := 20) dX5_tell_17 (by decide) rfl (fun h10 => ?_) (fun h10 => ?_)
    · rw [if_neg (fun q => q h10)]
      have h10 : a < 10 := (nI_ltI (by omega) (by omega)).mp h10
      refine wp_iload_n (i := 1) (q := 47) dX5_tell_46 rfl rfl rfl ?_
      refine wp_iconst (v := nI 3) (q := 48) dX5_tell_47 (by decide) rfl ?_
      refine wp_icmp_lt (t := 75) (q := 51) dX5_tell_48 (by decide) rfl (fun h3 => ?_) (fun h3 => ?_)
      · rw [if_neg (fun q => q h3)]
        refine wp_iload_n (i := 1) (q := 76) dX5_tell_75 rfl rfl rfl ?_
        refine wp_iconst (v := nI 2) (q := 77) dX5_tell_76 (by decide) rfl ?_
        refine wp_icmp_ne (t := 85) (q := 80) dX5_tell_77 (by decide) rfl (fun h2 => ?_) (fun h2 => ?_)
        · rw [if_neg h2]
          refine wp_iload_n (i := 1) (q := 86) dX5_tell_85 rfl rfl rfl ?_
          refine wp_if_ne (t := 96) (q := 89) dX5_tell_86 (by decide) rfl (fun h0 => ?_) (fun h0 => ?_)
          · rw [if_neg h0]
            refine wp_aload_n (i := 0) (q := 97) dX5_tell_96 rfl rfl rfl ?_
            refine wg5_11 (q := 100) dX5_tell_97 ffX5_149 (by first | exact ch_obj | exact ch_pas | exact ch_8 | exact ch_9 | exact ch_17 | exact ch_25 | exact ch_26 | exact ch_tcs | exact ch_sts | exact ch_t (by omega) | exact ch_s (by omega) | exact ch_prg | exact ch_pts | exact ch_acs | exact ch_4 | exact ch_pul | exact ch_sea | exact ch_27 | exact ch_28 | exact ch_29 | exact ch_30 | exact ch_31 | exact ch_32 | assumption | exact ch_aob hW hb (by assumption)) rfl ?_ -- foundCode
            refine wp_iret dX5_tell_100 rfl ?_
            exact ⟨rfl, rfl⟩
          · rw [if_pos h0]
            refine wp_aload_n (i := 0) (q := 90) dX5_tell_89 rfl rfl rfl ?_
            refine wg5_10 (q := 93) dX5_tell_90 ffX5_46 (by first | exact ch_obj | exact ch_pas | exact ch_8 | exact ch_9 | exact ch_17 | exact ch_25 | exact ch_26 | exact ch_tcs | exact ch_sts | exact ch_t (by omega) | exact ch_s (by omega) | exact ch_prg | exact ch_pts | exact ch_acs | exact ch_4 | exact ch_pul | exact ch_sea | exact ch_27 | exact ch_28 | exact ch_29 | exact ch_30 | exact ch_31 | exact ch_32 | assumption | exact ch_aob hW hb (by assumption)) rfl ?_ -- foundPoint
            refine wp_goto (q := 100) dX5_tell_93 (by decide) ?_
            refine wp_iret dX5_tell_100 rfl ?_
            exact ⟨rfl, rfl⟩
        · rw [if_pos h2]
          refine wp_aload_n (i := 0) (q := 81) dX5_tell_80 rfl rfl rfl ?_
          refine wg5_12 (q := 84) dX5_tell_81 ffX5_152 (by first | exact ch_obj | exact ch_pas | exact ch_8 | exact ch_9 | exact ch_17 | exact ch_25 | exact ch_26 | exact ch_tcs | exact ch_sts | exact ch_t (by omega) | exact ch_s (by omega) | exact ch_prg | exact ch_pts | exact ch_acs | exact ch_4 | exact ch_pul | exact ch_sea | exact ch_27 | exact ch_28 | exact ch_29 | exact ch_30 | exact ch_31 | exact ch_32 | assumption | exact ch_aob hW hb (by assumption)) rfl ?_ -- foundLength
          rw [hL]
          refine wp_iret dX5_tell_84 rfl ?_
          exact ⟨rfl, rfl⟩
      · rw [if_pos h3]
        have h3 : 3 ≤ a := Nat.not_lt.mp (fun q => h3 ((nI_ltI (by omega) (by omega)).mpr q))
        refine wp_iload_n (i := 1) (q := 52) dX5_tell_51 rfl rfl rfl ?_
        refine wp_iconst (v := nI 3) (q := 53) dX5_tell_52 (by decide) rfl ?_
        refine wp_isub (q := 54) dX5_tell_53 rfl ?_
        rw [pk_sub h3]
        refine wp_aload_n (i := 0) (q := 55) dX5_tell_54 rfl rfl rfl ?_
        refine wg5_13 (q := 58) dX5_tell_55 ffX5_155 (by first | exact ch_obj | exact ch_pas | exact ch_8 | exact ch_9 | exact ch_17 | exact ch_25 | exact ch_26 | exact ch_tcs | exact ch_sts | exact ch_t (by omega) | exact ch_s (by omega) | exact ch_prg | exact ch_pts | exact ch_acs | exact ch_4 | exact ch_pul | exact ch_sea | exact ch_27 | exact ch_28 | exact ch_29 | exact ch_30 | exact ch_31 | exact ch_32 | assumption | exact ch_aob hW hb (by assumption)) rfl ?_ -- foundSize
        rw [hK]
        refine wp_icmp_ge (t := 72) (q := 61) dX5_tell_58 (by decide) rfl (fun hc => ?_) (fun hc => ?_)
        · rw [if_neg (Nat.not_lt.mpr ((nI_leI (by omega) (by omega)).mp hc))]
          refine wp_bipush (v := (-9)) (q := 74) dX5_tell_72 (by decide) rfl ?_
          refine wp_iret dX5_tell_74 rfl ?_
          exact ⟨rfl, rfl⟩
        · rw [if_pos (Nat.not_le.mp (fun q => hc ((nI_leI (by omega) (by omega)).mpr q)))]
          have hc : a - 3 < K := Nat.not_le.mp (fun q => hc ((nI_leI (by omega) (by omega)).mpr q))
          refine wp_aload_n (i := 0) (q := 62) dX5_tell_61 rfl rfl rfl ?_
          refine wg5_8 (q := 65) dX5_tell_62 ffX5_40 (by first | exact ch_obj | exact ch_pas | exact ch_8 | exact ch_9 | exact ch_17 | exact ch_25 | exact ch_26 | exact ch_tcs | exact ch_sts | exact ch_t (by omega) | exact ch_s (by omega) | exact ch_prg | exact ch_pts | exact ch_acs | exact ch_4 | exact ch_pul | exact ch_sea | exact ch_27 | exact ch_28 | exact ch_29 | exact ch_30 | exact ch_31 | exact ch_32 | assumption | exact ch_aob hW hb (by assumption)) rfl ?_ -- foundNumbers
          refine wp_iload_n (i := 1) (q := 66) dX5_tell_65 rfl rfl rfl ?_
          refine wp_iconst (v := nI 3) (q := 67) dX5_tell_66 (by decide) rfl ?_
          refine wp_isub (q := 68) dX5_tell_67 rfl ?_
          rw [pk_sub h3]
          refine wq_iald (q := 69) dX5_tell_68 (by first | exact ch_obj | exact ch_pas | exact ch_8 | exact ch_9 | exact ch_17 | exact ch_25 | exact ch_26 | exact ch_tcs | exact ch_sts | exact ch_t (by omega) | exact ch_s (by omega) | exact ch_prg | exact ch_pts | exact ch_acs | exact ch_4 | exact ch_pul | exact ch_sea | exact ch_27 | exact ch_28 | exact ch_29 | exact ch_30 | exact ch_31 | exact ch_32 | assumption | exact ch_aob hW hb (by assumption)) rfl (by first | omega | exact ⟨by omega, by omega⟩) rfl ?_
          refine wp_goto (q := 74) dX5_tell_69 (by decide) ?_
          refine wp_iret dX5_tell_74 rfl ?_
          exact ⟨rfl, rfl⟩
    · rw [if_pos h10]
      have h10 : 10 ≤ a := Nat.not_lt.mp (fun q => h10 ((nI_ltI (by omega) (by omega)).mpr q))
      refine wp_iload_n (i := 1) (q := 21) dX5_tell_20 rfl rfl rfl ?_
      refine wp_bipush (v := nI 10) (q := 23) dX5_tell_21 (by decide) rfl ?_
      refine wp_isub (q := 24) dX5_tell_23 rfl ?_
      rw [pk_sub h10]
      refine wp_aload_n (i := 0) (q := 25) dX5_tell_24 rfl rfl rfl ?_
      refine wg5_12 (q := 28) dX5_tell_25 ffX5_152 (by first | exact ch_obj | exact ch_pas | exact ch_8 | exact ch_9 | exact ch_17 | exact ch_25 | exact ch_26 | exact ch_tcs | exact ch_sts | exact ch_t (by omega) | exact ch_s (by omega) | exact ch_prg | exact ch_pts | exact ch_acs | exact ch_4 | exact ch_pul | exact ch_sea | exact ch_27 | exact ch_28 | exact ch_29 | exact ch_30 | exact ch_31 | exact ch_32 | assumption | exact ch_aob hW hb (by assumption)) rfl ?_ -- foundLength
      rw [hL]
      refine wp_icmp_ge (t := 43) (q := 31) dX5_tell_28 (by decide) rfl (fun hc => ?_) (fun hc => ?_)
      · rw [if_neg (Nat.not_lt.mpr ((nI_leI (by omega) (by omega)).mp hc))]
        refine wp_bipush (v := (-9)) (q := 45) dX5_tell_43 (by decide) rfl ?_
        refine wp_iret dX5_tell_45 rfl ?_
        exact ⟨rfl, rfl⟩
      · rw [if_pos (Nat.not_le.mp (fun q => hc ((nI_leI (by omega) (by omega)).mpr q)))]
        have hc : a - 10 < L := Nat.not_le.mp (fun q => hc ((nI_leI (by omega) (by omega)).mpr q))
        refine wp_aload_n (i := 0) (q := 32) dX5_tell_31 rfl rfl rfl ?_
        refine wg5_9 (q := 35) dX5_tell_32 ffX5_43 (by first | exact ch_obj | exact ch_pas | exact ch_8 | exact ch_9 | exact ch_17 | exact ch_25 | exact ch_26 | exact ch_tcs | exact ch_sts | exact ch_t (by omega) | exact ch_s (by omega) | exact ch_prg | exact ch_pts | exact ch_acs | exact ch_4 | exact ch_pul | exact ch_sea | exact ch_27 | exact ch_28 | exact ch_29 | exact ch_30 | exact ch_31 | exact ch_32 | assumption | exact ch_aob hW hb (by assumption)) rfl ?_ -- foundRow
        refine wp_iload_n (i := 1) (q := 36) dX5_tell_35 rfl rfl rfl ?_
        refine wp_bipush (v := nI 10) (q := 38) dX5_tell_36 (by decide) rfl ?_
        refine wp_isub (q := 39) dX5_tell_38 rfl ?_
        rw [pk_sub h10]
        refine wq_iald (q := 40) dX5_tell_39 (by first | exact ch_obj | exact ch_pas | exact ch_8 | exact ch_9 | exact ch_17 | exact ch_25 | exact ch_26 | exact ch_tcs | exact ch_sts | exact ch_t (by omega) | exact ch_s (by omega) | exact ch_prg | exact ch_pts | exact ch_acs | exact ch_4 | exact ch_pul | exact ch_sea | exact ch_27 | exact ch_28 | exact ch_29 | exact ch_30 | exact ch_31 | exact ch_32 | assumption | exact ch_aob hW hb (by assumption)) rfl (by first | omega | exact ⟨by omega, by omega⟩) rfl ?_
        refine wp_goto (q := 45) dX5_tell_40 (by decide) ?_
        refine wp_iret dX5_tell_45 rfl ?_
        exact ⟨rfl, rfl⟩
  · rw [if_pos (Int32.not_le.mp hw)]
    refine wp_bipush (v := (-9)) (q := 13) dX5_tell_11 (by decide) rfl ?_
    refine wp_iret dX5_tell_13 rfl ?_
    exact ⟨rfl, rfl⟩
theorem tX7_broke {w : Int32} (hd : 1 ≤ d) (hW : DW lo sz g D) (hC : CBk I) : mt l mX7_broke d 0 0 [.ref b, .int w] (sz, ch b I A B D g) (fun rv h' => rv = some (.int (cBroke I A w)) ∧ qQ lo sz b I A D g h') := by
  refine mt_in (lv := [_, _]) (by decide) (Nat.le_of_ble_eq_true rfl) rfl ?_
  refine wp_aload_n (i := 0) (q := 1) dX7_broke_0 rfl rfl rfl ?_
  refine wg7_1 (q := 4) dX7_broke_1 ffX7_21 (by first | exact ch_obj | exact ch_pas | exact ch_8 | exact ch_9 | exact ch_17 | exact ch_25 | exact ch_26 | exact ch_tcs | exact ch_sts | exact ch_t (by omega) | exact ch_s (by omega) | exact ch_prg | exact ch_pts | exact ch_acs | exact ch_4 | exact ch_pul | exact ch_sea | exact ch_27 | exact ch_28 | exact ch_29 | exact ch_30 | exact ch_31 | exact ch_32 | assumption | exact ch_aob hW hb (by assumption)) rfl ?_ -- searcher
  refine wp_iload_n (i := 1) (q := 5) dX7_broke_4 rfl rfl rfl ?_
  refine wp_Vi (μ' := mX5_tell) (ci := 5) (q := 8) (tX5_tell (d := d - 1) hC) dX7_broke_5 okX5_tell lkX7_179 (by first | exact ch_obj | exact ch_pas | exact ch_8 | exact ch_9 | exact ch_17 | exact ch_25 | exact ch_26 | exact ch_tcs | exact ch_sts | exact ch_t (by omega) | exact ch_s (by omega) | exact ch_prg | exact ch_pts | exact ch_acs | exact ch_4 | exact ch_pul | exact ch_sea | exact ch_27 | exact ch_28 | exact ch_29 | exact ch_30 | exact ch_31 | exact ch_32 | assumption | exact ch_aob hW hb (by assumption)) rfl rfl rfl (Nat.le_of_ble_eq_true rfl) (by omega) rfl ?_
  refine wp_iret dX7_broke_8 rfl ?_
  exact ⟨rfl, qQ.rf hW⟩
end S2
