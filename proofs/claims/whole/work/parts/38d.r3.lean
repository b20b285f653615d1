/-! THE CLASS: RunLaws, readings -/
theorem C1_mem {k : Nat} {q : Nat × Nat × Nat} (h : q ∈ C1 k 0) : q.1 < 10 ∧ q.2.1 < k ∧ q.2.2 < k := by
  unfold C1 at h
  obtain ⟨s, hs, h⟩ := List.mem_flatMap.mp h
  unfold C2 at h
  obtain ⟨i, hi, h⟩ := List.mem_flatMap.mp h
  unfold C3 at h
  obtain ⟨j, hj, rfl⟩ := List.mem_map.mp h
  have h1 := List.mem_range'_1.mp hs
  have h2 := List.mem_range'_1.mp hi
  have h3 := List.mem_range'_1.mp hj
  exact ⟨show s < 10 by omega, show i < k by omega, show j < k by omega⟩
theorem lsF_mem {c k e : Nat} {V : Nat → VS} {tA : Bool} (hk : k ≤ 4) (h : e ∈ lsF c V tA (C1 k 0)) : e < 1000 ∧ e / 100 < 10 ∧ e / 10 % 10 < k ∧ e % 10 < k ∧ okC c V tA (e / 100, e / 10 % 10, e % 10) = true := by
  unfold lsF at h
  obtain ⟨q, hq, rfl⟩ := List.mem_map.mp h
  obtain ⟨h1, h2⟩ := List.mem_filter.mp hq
  obtain ⟨m1, m2, m3⟩ := C1_mem h1
  unfold cdG
  have e1 : (100 * q.1 + 10 * q.2.1 + q.2.2) / 100 = q.1 := by omega
  have e2 : (100 * q.1 + 10 * q.2.1 + q.2.2) / 10 % 10 = q.2.1 := by omega
  have e3 : (100 * q.1 + 10 * q.2.1 + q.2.2) % 10 = q.2.2 := by omega
  rw [e1, e2, e3]
  exact ⟨by omega, m1, m2, m3, h2⟩
def ddB (S : FS) (c : Nat) : Bool := !stN S.1 S.2.2 (c / 100) (c / 10 % 10) (c % 10)
/-- of the codes cs those that do not hold any more of S -/
def ddL (side : Nat) (S : FS) (cs : List Nat) : List Nat := (cs.filter (ddB S)).map (fun c => 1000 * side + c)
section R3
variable {l : Launch} {d lo sz b p a : Nat} {g : Nat → Option aE} {D : DS} {I : Nat → Int32} {A : Nat → Nat → Int32} {B : Nat → Int64}
theorem tX7_noteDead {side : Nat} {cs acc : List Nat} (hd : 2 ≤ d) (hW : DW lo sz g D) (hK : PK D) (hb : b + 33 ≤ lo) (hp : p < dNp D) (hs : side < 3) (hcs : fwc (A 31) cs) (hl : cs.length ≤ 60) (hcm : ∀ c, c ∈ cs → c < 1000 ∧ c / 100 < 10 ∧ c / 10 % 10 < dK D p ∧ c % 10 < dK D p) (h0 : I 0 = nI acc.length) (hacc : fwc (A 32) acc) (hal : acc.length + cs.length ≤ 180) : mt l mX7_noteDead d 0 0 [.ref b, .int (nI side), .ref (dfA D p side), .int (nI cs.length)] (sz, ch b I A B D g) (fun rv h' => rv = none ∧ ∃ f, h' = (sz, ch b (upd I 0 (nI (acc ++ ddL side (dF D p side) cs).length)) (upR A 32 f) B D g) ∧ fwc f (acc ++ ddL side (dF D p side) cs)) := by
  have P : ∀ m j, j + m = cs.length → ∀ (I1 : Nat → Int32) (A1 : Nat → Nat → Int32) (acc1 : List Nat) (y : Option Value), I1 = upd I 0 (nI acc1.length) → (∀ o, o ≠ 32 → A1 o = A o) → fwc (A1 32) acc1 → acc1.length + (cs.length - j) ≤ 180 → acc1 ++ ddL side (dF D p side) (cs.drop j) = acc ++ ddL side (dF D p side) cs → wp l mX7_noteDead [] d 0 0 (fun rv h' => rv = none ∧ ∃ f, h' = (sz, ch b (upd I 0 (nI (acc ++ ddL side (dF D p side) cs).length)) (upR A 32 f) B D g) ∧ fwc f (acc ++ ddL side (dF D p side) cs)) (sz, ch b I1 A1 B D g) 3 [some (.ref b), some (.int (nI side)), some (.ref (dfA D p side)), some (.int (nI cs.length)), some (.int (nI j)), y] [] := by
    intro m
    induction m with
    | zero =>
      intro j hj I1 A1 acc1 y hI hA hf hlen he
      refine wp_iload (q := 5) dX7_noteDead_3 rfl rfl ?_
      refine wp_iload_n (i := 3) (q := 6) dX7_noteDead_5 rfl rfl rfl ?_
      refine wp_icmp_ge (t := 85) (q := 9) dX7_noteDead_6 (by decide) rfl (fun hc => ?_) (fun hc => ?_)
      · rw [List.drop_eq_nil_of_le (by omega)] at he
        have he : acc1 = acc ++ ddL side (dF D p side) cs := by rw [← he]; simp [ddL]
        subst he
        refine wp_vret dX7_noteDead_85 rfl ?_
        refine ⟨rfl, A1 32, ?_, hf⟩
        rw [hI]
        have : A1 = upR A 32 (A1 32) := by
          funext o
          by_cases w : o = 32
          · subst w; rw [upR_at]
          · rw [upR_ne w]; exact hA o w
        rw [← this]
      · exact absurd ((nI_leI (by omega) (by omega)).mpr (by omega)) hc
    | succ m ih =>
      intro j hj I1 A1 acc1 y hI hA hf hlen he
      have hjl : j < cs.length := by omega
      have hcj : cs[j]? = some cs[j] := List.getElem?_eq_getElem hjl
      obtain ⟨c1, c2, c3, c4⟩ := hcm _ (List.getElem_mem hjl)
      rw [List.drop_eq_getElem_cons hjl] at he
      have hA31 : A1 31 j = nI cs[j] := by rw [hA 31 (by decide)]; exact hcs j _ hcj
      generalize cs[j] = c at c1 c2 c3 c4 he hA31
      obtain ⟨r1, r3, r4, r5, r6, r7, r8, r9, r10, r11, r12, hob, -⟩ := ch_fob (I := I1) (A := A1) (B := B) hW hb hp hs
      refine wp_iload (q := 5) dX7_noteDead_3 rfl rfl ?_
      refine wp_iload_n (i := 3) (q := 6) dX7_noteDead_5 rfl rfl rfl ?_
      refine wp_icmp_ge (t := 85) (q := 9) dX7_noteDead_6 (by decide) rfl (fun hc => ?_) (fun hc => ?_)
      · exact absurd ((nI_leI (by omega) (by omega)).mp hc) (by omega)
      refine wp_aload_n (i := 0) (q := 10) dX7_noteDead_9 rfl rfl rfl ?_
      refine wg7_4 (q := 13) dX7_noteDead_10 ffX7_32 (by first | exact ch_obj | exact ch_prg | exact ch_pts | exact ch_acs | exact ch_4 | exact ch_pul | exact ch_sea | exact ch_27 | exact ch_28 | exact ch_29 | exact ch_30 | exact ch_31 | exact ch_32 | assumption) rfl ?_ -- codes
      refine wp_iload (q := 15) dX7_noteDead_13 rfl rfl ?_
      refine wq_iald (q := 16) dX7_noteDead_15 (by first | exact ch_obj | exact ch_prg | exact ch_pts | exact ch_acs | exact ch_4 | exact ch_pul | exact ch_sea | exact ch_27 | exact ch_28 | exact ch_29 | exact ch_30 | exact ch_31 | exact ch_32 | assumption) rfl (by first | omega | exact ⟨by omega, by omega⟩) rfl ?_
      rw [hA31]
      refine wp_istore (lv' := [_, _, _, _, some _, _]) (q := 18) dX7_noteDead_16 (by decide) rfl rfl ?_
      refine wp_aload_n (i := 0) (q := 19) dX7_noteDead_18 rfl rfl rfl ?_
      refine wg7_6 (q := 22) dX7_noteDead_19 ffX7_38 (by first | exact ch_obj | exact ch_prg | exact ch_pts | exact ch_acs | exact ch_4 | exact ch_pul | exact ch_sea | exact ch_27 | exact ch_28 | exact ch_29 | exact ch_30 | exact ch_31 | exact ch_32 | assumption) rfl ?_ -- deadCount
      rw [show I1 0 = nI acc1.length by rw [hI]; exact pk_us]
      refine wp_aload_n (i := 0) (q := 23) dX7_noteDead_22 rfl rfl rfl ?_
      refine wg7_5 (q := 26) dX7_noteDead_23 ffX7_35 (by first | exact ch_obj | exact ch_prg | exact ch_pts | exact ch_acs | exact ch_4 | exact ch_pul | exact ch_sea | exact ch_27 | exact ch_28 | exact ch_29 | exact ch_30 | exact ch_31 | exact ch_32 | assumption) rfl ?_ -- dead
      refine wq_alen (q := 27) dX7_noteDead_26 (by first | exact ch_obj | exact ch_prg | exact ch_pts | exact ch_acs | exact ch_4 | exact ch_pul | exact ch_sea | exact ch_27 | exact ch_28 | exact ch_29 | exact ch_30 | exact ch_31 | exact ch_32 | assumption) (by decide) rfl ?_
      refine wp_icmp_ge (t := 79) (q := 30) dX7_noteDead_27 (by decide) rfl (fun hroom => ?_) (fun hroom => ?_)
      · exact absurd ((nI_leI (by omega) (by omega)).mp hroom) (by omega)
      refine wp_aload_n (i := 2) (q := 31) dX7_noteDead_30 rfl rfl rfl ?_
      refine wp_iload (q := 33) dX7_noteDead_31 rfl rfl ?_
      refine wp_Si (μ' := mX7_shapeOf) (q := 36) (tX7_shapeOf (d := d - 1) (by omega)) dX7_noteDead_33 okX7_shapeOf lkX7_220 rfl rfl (Nat.le_of_ble_eq_true rfl) (by omega) rfl ?_
      refine wp_iload (q := 38) dX7_noteDead_36 rfl rfl ?_
      refine wp_Si (μ' := mX7_firstOf) (q := 41) (tX7_firstOf (d := d - 1) (by omega)) dX7_noteDead_38 okX7_firstOf lkX7_223 rfl rfl (Nat.le_of_ble_eq_true rfl) (by omega) rfl ?_
      refine wp_iload (q := 43) dX7_noteDead_41 rfl rfl ?_
      refine wp_Si (μ' := mX7_secondOf) (q := 46) (tX7_secondOf (d := d - 1) (by omega)) dX7_noteDead_43 okX7_secondOf lkX7_226 rfl rfl (Nat.le_of_ble_eq_true rfl) (by omega) rfl ?_
      refine wp_Vi (μ' := mX1_stands) (ci := 1) (q := 49) (tX1_standsD (d := d - 1) (by omega) hW hK hb hp hs c2 c3 c4) dX7_noteDead_46 okX1_stands lkX7_105 hob rfl rfl rfl (Nat.le_of_ble_eq_true rfl) (by omega) rfl ?_
      refine wp_if_ne (t := 79) (q := 52) dX7_noteDead_49 (by decide) rfl (fun hz => ?_) (fun hz => ?_)
      · have hz := b2_ne0.mp hz
        refine wp_iinc (v := _ + nI 1) (lv' := [_, _, _, some _, _, _]) (q := 82) dX7_noteDead_79 rfl rfl (by decide) rfl rfl ?_
        refine wp_goto (q := 3) dX7_noteDead_82 (by decide) ?_
        rw [nI_add]
        refine ih (j + 1) (by omega) I1 A1 acc1 _ hI hA hf (by omega) ?_
        rw [← he]
        unfold ddL
        rw [List.filter_cons, if_neg (by unfold ddB; rw [hz]; decide)]
      · have hz := b2_eq0.mp hz
        refine wp_aload_n (i := 0) (q := 53) dX7_noteDead_52 rfl rfl rfl ?_
        refine wg7_5 (q := 56) dX7_noteDead_53 ffX7_35 (by first | exact ch_obj | exact ch_prg | exact ch_pts | exact ch_acs | exact ch_4 | exact ch_pul | exact ch_sea | exact ch_27 | exact ch_28 | exact ch_29 | exact ch_30 | exact ch_31 | exact ch_32 | assumption) rfl ?_ -- dead
        refine wp_aload_n (i := 0) (q := 57) dX7_noteDead_56 rfl rfl rfl ?_
        refine wg7_6 (q := 60) dX7_noteDead_57 ffX7_38 (by first | exact ch_obj | exact ch_prg | exact ch_pts | exact ch_acs | exact ch_4 | exact ch_pul | exact ch_sea | exact ch_27 | exact ch_28 | exact ch_29 | exact ch_30 | exact ch_31 | exact ch_32 | assumption) rfl ?_ -- deadCount
        refine wp_sipush (v := nI 1000) (q := 63) dX7_noteDead_60 (by decide) rfl ?_
        refine wp_iload_n (i := 1) (q := 64) dX7_noteDead_63 rfl rfl rfl ?_
        rw [show I1 0 = nI acc1.length by rw [hI]; exact pk_us]
        refine wp_imul (q := 65) dX7_noteDead_64 rfl ?_
        refine wp_iload (q := 67) dX7_noteDead_65 rfl rfl ?_
        refine wp_iadd (q := 68) dX7_noteDead_67 rfl ?_
        rw [pk_mul, nI_add]
        refine wq_iast (q := 69) dX7_noteDead_68 (by first | exact ch_obj | exact ch_prg | exact ch_pts | exact ch_acs | exact ch_4 | exact ch_pul | exact ch_sea | exact ch_27 | exact ch_28 | exact ch_29 | exact ch_30 | exact ch_31 | exact ch_32 | assumption) rfl (by first | omega | exact ⟨by omega, by omega⟩) (by exact ch_s32) rfl ?_
        refine wp_aload_n (i := 0) (q := 70) dX7_noteDead_69 rfl rfl rfl ?_
        refine wp_dup (q := 71) dX7_noteDead_70 rfl rfl ?_
        refine wg7_6 (q := 74) dX7_noteDead_71 ffX7_38 (by first | exact ch_obj | exact ch_prg | exact ch_pts | exact ch_acs | exact ch_4 | exact ch_pul | exact ch_sea | exact ch_27 | exact ch_28 | exact ch_29 | exact ch_30 | exact ch_31 | exact ch_32 | assumption) rfl ?_ -- deadCount
        refine wp_iconst (v := nI 1) (q := 75) dX7_noteDead_74 (by decide) rfl ?_
        refine wp_iadd (q := 76) dX7_noteDead_75 rfl ?_
        rw [show I1 0 = nI acc1.length by rw [hI]; exact pk_us, nI_add]
        refine wt7_6 (q := 79) dX7_noteDead_76 ffX7_38 (by first | exact ch_obj | exact ch_prg | exact ch_pts | exact ch_acs | exact ch_4 | exact ch_pul | exact ch_sea | exact ch_27 | exact ch_28 | exact ch_29 | exact ch_30 | exact ch_31 | exact ch_32 | assumption) (by exact ch_sI0) rfl ?_ -- deadCount
        refine wp_iinc (v := _ + nI 1) (lv' := [_, _, _, some _, _, _]) (q := 82) dX7_noteDead_79 rfl rfl (by decide) rfl rfl ?_
        refine wp_goto (q := 3) dX7_noteDead_82 (by decide) ?_
        rw [nI_add]
        have hlen1 : (acc1 ++ [1000 * side + c]).length = acc1.length + 1 := by rw [List.length_append, List.length_singleton]
        refine ih (j + 1) (by omega) _ _ (acc1 ++ [1000 * side + c]) _ ?_ ?_ ?_ (by rw [hlen1]; omega) ?_
        · rw [hlen1, hI]
          funext o
          unfold upd
          by_cases w : o = 0
          · rw [if_pos w, if_pos w]
          · rw [if_neg w, if_neg w, if_neg w]
        · intro o ho
          rw [upR_ne ho]
          exact hA o ho
        · rw [upR_at]
          exact fwc_app hf
        · rw [← he]
          unfold ddL
          rw [List.filter_cons, if_pos (by unfold ddB; rw [hz]; rfl), List.map_cons, List.append_assoc]
          rfl
  refine mt_in (lv := [_, _, _, _, _, _]) (by decide) (Nat.le_of_ble_eq_true rfl) rfl ?_
  refine wp_iconst (v := nI 0) (q := 1) dX7_noteDead_0 (by decide) rfl ?_
  refine wp_istore (lv' := [_, _, _, some _, _, _]) (q := 3) dX7_noteDead_1 (by decide) rfl rfl ?_
  refine P cs.length 0 (by omega) I A acc none ?_ (fun _ _ => rfl) hacc (by omega) (by rw [List.drop_zero])
  funext o
  unfold upd
  by_cases w : o = 0
  · rw [if_pos w, w, h0]
  · rw [if_neg w]
/-- the point behind a reading: sides below s are through -/
def trS (D : DS) (p : Nat) (x : Nat → Int32) (s : Nat) : Nat → FS := fun t => if t < s ∧ (t = 0 ∨ t = sdO (dK D p) (dP D p).2.1 (dP D p).2.2.1 x) then adF (dK D p) (dF D p t) x else dF D p t
def trD (D : DS) (p : Nat) (x : Nat → Int32) (s : Nat) : DS := dsP D p ((dP D p).1, (dP D p).2.1, (dP D p).2.2.1, (dP D p).2.2.2.1, trS D p x s)
def dcS (D : DS) (p : Nat) (x : Nat → Int32) (t : Nat) : List Nat := ddL t (adF (dK D p) (dF D p t) x) (cls D p t false)
def dcL (D : DS) (p : Nat) (x : Nat → Int32) (s : Nat) : List Nat := ((List.range s).filter (fun t => decide (t = 0 ∨ t = sdO (dK D p) (dP D p).2.1 (dP D p).2.2.1 x))).flatMap (dcS D p x)
/-- the point with the reading -/
def rdD (D : DS) (p : Nat) (x : Nat → Int32) : DS := dsP D p ((dP D p).1 + 1, (dP D p).2.1, (dP D p).2.2.1, upR (dP D p).2.2.2.1 (dP D p).1 (fun v => if v < dK D p then x v else (dP D p).2.2.2.1 (dP D p).1 v), trS D p x 3)
theorem dcL_succ {x : Nat → Int32} {s : Nat} : dcL D p x (s + 1) = dcL D p x s ++ (if s = 0 ∨ s = sdO (dK D p) (dP D p).2.1 (dP D p).2.2.1 x then dcS D p x s else []) := by
  unfold dcL
  rw [List.range_succ, List.filter_append, List.flatMap_append]
  congr 1
  by_cases w : s = 0 ∨ s = sdO (dK D p) (dP D p).2.1 (dP D p).2.2.1 x
  · rw [if_pos w, List.filter_cons, if_pos (decide_eq_true w), List.filter_nil, List.flatMap_cons, List.flatMap_nil, List.append_nil]
  · rw [if_neg w, List.filter_cons, if_neg (by rw [decide_eq_false w]; decide), List.filter_nil, List.flatMap_nil]
theorem dcS_len {x : Nat → Int32} {t : Nat} (h : dK D p ≤ 4) : (dcS D p x t).length ≤ 60 := by
  unfold dcS ddL
  rw [List.length_map]
  exact Nat.le_trans (List.length_filter_le _ _) (lsF_len h)
theorem dcL_len {x : Nat → Int32} (h : dK D p ≤ 4) : ∀ s, (dcL D p x s).length ≤ 60 * s
  | 0 => by simp [dcL]
  | s + 1 => by
    rw [dcL_succ, List.length_append]
    have h1 := dcL_len (x := x) h s
    have h2 := dcS_len (D := D) (p := p) (x := x) (t := s) h
    split
    · omega
    · rw [List.length_nil]; omega
theorem dsP_dsP {P P' : PS} : dsP (dsP D p P) p P' = dsP D p P' := by
  unfold dsP
  dsimp only
  rw [upG_upG]
theorem dP_at {P : PS} : dP (dsP D p P) p = P := upG_at
theorem dF_tr {x : Nat → Int32} {s t : Nat} : dF (trD D p x s) p t = trS D p x s t := by
  unfold dF trD
  rw [dP_at]
theorem trD_0 {x : Nat → Int32} : trD D p x 0 = D := by
  unfold trD
  have e : trS D p x 0 = (dP D p).2.2.2.2 := by
    funext t
    unfold trS
    rw [if_neg (by omega)]
  rw [e]
  show dsP D p (dP D p) = D
  unfold dsP
  rw [show upG D.2.2.2.2.2.2.2.1 p (dP D p) = D.2.2.2.2.2.2.2.1 from upG_self]
theorem trD_succ {x : Nat → Int32} {s : Nat} : trD D p x (s + 1) = if s = 0 ∨ s = sdO (dK D p) (dP D p).2.1 (dP D p).2.2.1 x then dsF (trD D p x s) p s (adF (dK D p) (dF D p s) x) else trD D p x s := by
  by_cases w : s = 0 ∨ s = sdO (dK D p) (dP D p).2.1 (dP D p).2.2.1 x
  · rw [if_pos w]
    unfold dsF
    have e : dP (trD D p x s) p = ((dP D p).1, (dP D p).2.1, (dP D p).2.2.1, (dP D p).2.2.2.1, trS D p x s) := dP_at
    rw [e]
    unfold trD
    rw [dsP_dsP]
    have e2 : trS D p x (s + 1) = upG (trS D p x s) s (adF (dK D p) (dF D p s) x) := by
      funext t
      by_cases w2 : t = s
      · subst w2
        rw [upG_at]
        unfold trS
        rw [if_pos ⟨by omega, w⟩]
      · rw [upG_ne w2]
        unfold trS
        by_cases w3 : t < s ∧ (t = 0 ∨ t = sdO (dK D p) (dP D p).2.1 (dP D p).2.2.1 x)
        · rw [if_pos w3, if_pos ⟨by omega, w3.2⟩]
        · rw [if_neg w3, if_neg (fun q => w3 ⟨by omega, q.2⟩)]
    rw [e2]
  · rw [if_neg w]
    unfold trD
    have e2 : trS D p x (s + 1) = trS D p x s := by
      funext t
      unfold trS
      by_cases w3 : t < s ∧ (t = 0 ∨ t = sdO (dK D p) (dP D p).2.1 (dP D p).2.2.1 x)
      · rw [if_pos w3, if_pos ⟨by omega, w3.2⟩]
      · rw [if_neg w3, if_neg (fun q => w3 ⟨by
          rcases Nat.lt_or_ge t s with q2 | q2
          · exact q2
          · exact absurd (show s = 0 ∨ s = _ by rw [show s = t by omega]; exact q.2) w, q.2⟩)]
    rw [e2]
theorem PK_tr {x : Nat → Int32} {s : Nat} (hK : PK D) (hp : p < dNp D) (hc : ∀ t, t < 3 → (dF D p t).1 < 40) : PK (trD D p x s) := by
  intro p' hp'
  have hp' : p' < dNp D := hp'
  by_cases w : p' = p
  · subst w
    rw [show dP (trD D p' x s) p' = ((dP D p').1, (dP D p').2.1, (dP D p').2.2.1, (dP D p').2.2.2.1, trS D p' x s) from dP_at]
    refine ⟨(hK p' hp).1, fun t ht => ?_⟩
    show fOK (dK D p') (trS D p' x s t) ∧ (trS D p' x s t).1 ≤ 40
    unfold trS
    have h1 := (hK p' hp).2 t ht
    split
    · exact ⟨fOK_ad h1.1, by show (dF D p' t).1 + 1 ≤ 40; have := hc t ht; omega⟩
    · exact h1
  · rw [show dP (trD D p x s) p' = dP D p' from upG_ne w]
    exact hK p' hp'
theorem tr_np {x : Nat → Int32} {s : Nat} : dNp (trD D p x s) = dNp D := rfl
theorem tr_K {x : Nat → Int32} {s : Nat} : dK (trD D p x s) = dK D := rfl
theorem tr_pa {x : Nat → Int32} {s : Nat} : dPa (trD D p x s) = dPa D := rfl
theorem tr_cls {x : Nat → Int32} {s : Nat} : cls (trD D p x s) p s false = cls D p s false := by
  unfold cls
  rw [dF_tr, tr_K, show trS D p x s s = dF D p s from if_neg (by omega)]
theorem tX1_addD {s : Nat} (hd : 4 ≤ d) (hW : DW lo sz g D) (hK : PK D) (hb : b + 33 ≤ lo) (hp : p < dNp D) (hs : s < 3) : mt l mX1_add d 0 0 [.ref (dfA D p s), .ref (b + 29)] (sz, ch b I A B D g) (fun rv h' => rv = none ∧ ∃ g', h' = (sz, ch b I A B (dsF D p s (adF (dK D p) (dF D p s) (A 29))) g') ∧ DW lo sz g' (dsF D p s (adF (dK D p) (dF D p s) (A 29))) ∧ ∀ x, x < lo → g' x = g x) := by
  have h4 := hW.k4 hp
  have hk := (hK p hp).2 s hs
  have M := tX1_add (l := l) (d := d) (sz := sz) (q := dfA D p s) (k := dK D p) (c := (dF D p s).1) (T := (dF D p s).2.1) (V := (dF D p s).2.2) (G := ch b I A B D g) (w := b + 29) (mm := 4) (x := A 29) hd hk.1.1 (by omega) (Nat.lt_of_le_of_lt hk.2 (by decide)) (fun i hi => Nat.lt_of_le_of_lt (hk.1.2 i hi).1 (by decide)) ch_29 (dfA_out hW hp hs (by omega)) (by omega) (by omega)
  rw [show ((dF D p s).1, (dF D p s).2.1, (dF D p s).2.2) = dF D p s from rfl, ← dw_fh hW hb hp hs] at M
  refine mt_post M (fun rv h' q => ⟨q.1, ?_⟩)
  obtain ⟨g2, e2, hW2, hlo2⟩ := dw_fh2 (I := I) (A := A) (B := B) (s := s) (S' := adF (dK D p) (dF D p s) (A 29)) hW hb hp hs
  exact ⟨g2, by rw [q.2, e2], hW2, hlo2⟩
theorem tX3_sideOfD (hd : 1 ≤ d) (hW : DW lo sz g D) (hb : b + 33 ≤ lo) (hp : p < dNp D) : mt l mX3_sideOf d 0 0 [.ref (dPa D p), .ref (b + 29)] (sz, ch b I A B D g) (rI (nI (sdO (dK D p) (dP D p).2.1 (dP D p).2.2.1 (A 29))) (sz, ch b I A B D g)) := by
  have h4 := hW.k4 hp
  have M := tX3_sideOf (l := l) (d := d) (sz := sz) (q := dPa D p) (k := dK D p) (n := (dP D p).1) (sv := (dP D p).2.1) (sb := (dP D p).2.2.1) (R := (dP D p).2.2.2.1) (S := (dP D p).2.2.2.2) (G := ch b I A B D g) (w := b + 29) (mm := 4) (x := A 29) hd (by omega) (by rw [show ((dP D p).1, (dP D p).2.1, (dP D p).2.2.1, (dP D p).2.2.2.1, (dP D p).2.2.2.2) = dP D p from rfl, ← dw_ph hW hb hp]; exact ch_29) h4 (by omega)
  rw [show ((dP D p).1, (dP D p).2.1, (dP D p).2.2.1, (dP D p).2.2.2.1, (dP D p).2.2.2.2) = dP D p from rfl, ← dw_ph hW hb hp] at M
  exact M
theorem tX3_keepD (hd : 1 ≤ d) (hW : DW lo sz g D) (hb : b + 33 ≤ lo) (hp : p < dNp D) (hn : (dP D p).1 < 40) : mt l mX3_keep d 0 0 [.ref (dPa D p), .ref (b + 29)] (sz, ch b I A B D g) (fun rv h' => rv = none ∧ ∃ g', h' = (sz, ch b I A B (dsP D p ((dP D p).1 + 1, (dP D p).2.1, (dP D p).2.2.1, upR (dP D p).2.2.2.1 (dP D p).1 (fun v => if v < dK D p then A 29 v else (dP D p).2.2.2.1 (dP D p).1 v), (dP D p).2.2.2.2)) g') ∧ DW lo sz g' (dsP D p ((dP D p).1 + 1, (dP D p).2.1, (dP D p).2.2.1, upR (dP D p).2.2.2.1 (dP D p).1 (fun v => if v < dK D p then A 29 v else (dP D p).2.2.2.1 (dP D p).1 v), (dP D p).2.2.2.2)) ∧ ∀ x, x < lo → g' x = g x) := by
  have h4 := hW.k4 hp
  have hl := hW.pl hp
  have M := tX3_keep (l := l) (d := d) (sz := sz) (q := dPa D p) (k := dK D p) (n := (dP D p).1) (sv := (dP D p).2.1) (sb := (dP D p).2.2.1) (R := (dP D p).2.2.2.1) (S := (dP D p).2.2.2.2) (G := ch b I A B D g) (w := b + 29) (mm := 4) (x := A 29) hd (by omega) hn ch_29 (by omega) h4 (by omega)
  rw [show ((dP D p).1, (dP D p).2.1, (dP D p).2.2.1, (dP D p).2.2.2.1, (dP D p).2.2.2.2) = dP D p from rfl, ← dw_ph hW hb hp, dw_ph2 hW hb hp] at M
  exact mt_post M (fun rv h' q => ⟨q.1, _, q.2, dw_setP hW hp, fun x hx => dw_lowP hW hp hx⟩)
/-- what a reading leaves -/
def tkQ (lo sz b : Nat) (I : Nat → Int32) (A : Nat → Nat → Int32) (D : DS) (g : Nat → Option aE) (p : Nat) (x : Nat → Int32) (rv : Option Value) (h' : aH) : Prop :=
  rv = some (.int (nI (dcL D p x 3).length)) ∧ ∃ I' A' B' g', h' = (sz, ch b I' A' B' (rdD D p x) g') ∧ DW lo sz g' (rdD D p x) ∧ (∀ y, y < lo → g' y = g y) ∧ (∀ o, o ≠ 0 → I' o = I o) ∧ A' 4 = A 4 ∧ A' 27 = A 27 ∧ A' 28 = A 28 ∧ I' 0 = nI (dcL D p x 3).length ∧ fwc (A' 32) (dcL D p x 3)
theorem tX7_takeReading (hd : 5 ≤ d) (hW : DW lo sz g D) (hK : PK D) (hb : b + 33 ≤ lo) (hp : p < dNp D) (hc : (dP D p).1 < 40 → ∀ t, t < 3 → (dF D p t).1 < 40) : mt l mX7_takeReading d 0 0 [.ref b, .ref (dPa D p), .ref (b + 29)] (sz, ch b I A B D g) (fun rv h' => ((dP D p).1 = 40 ∧ rv = some (.int (-4)) ∧ h' = (sz, ch b I A B D g)) ∨ ((dP D p).1 < 40 ∧ tkQ lo sz b I A D g p (A 29) rv h')) := by
  have h40 := (hK p hp).1
  have h4 := hW.k4 hp
  have hob := ch_pob (I := I) (A := A) (B := B) hW hb hp
  refine mt_in (lv := [_, _, _, _, _, _, _]) (by decide) (Nat.le_of_ble_eq_true rfl) rfl ?_
  refine wp_aload_n (i := 1) (q := 1) dX7_takeReading_0 rfl rfl rfl ?_
  refine wg3_3 (q := 4) dX7_takeReading_1 ffX7_88 (by first | exact ch_obj | exact ch_prg | exact ch_pts | exact ch_acs | exact ch_4 | exact ch_pul | exact ch_sea | exact ch_27 | exact ch_28 | exact ch_29 | exact ch_30 | exact ch_31 | exact ch_32 | assumption) rfl ?_ -- count
  refine wp_bipush (v := nI 40) (q := 6) dX7_takeReading_4 (by decide) rfl ?_
  refine wp_icmp_lt (t := 12) (q := 9) dX7_takeReading_6 (by decide) rfl (fun hlt => ?_) (fun hlt => ?_)
  case _ =>
    have hlt := (nI_ltI (by omega) (by omega)).mp hlt
    have hc := hc hlt
    refine wp_post (Q' := tkQ lo sz b I A D g p (A 29)) (fun rv h' q => Or.inr ⟨hlt, q⟩) ?_
    generalize hx : A 29 = x
    have hso := tX3_sideOfD (l := l) (d := d - 1) (I := upd I 0 (nI 0)) (A := A) (B := B) (by omega) hW hb hp
    have hob0 := ch_pob (I := upd I 0 (nI 0)) (A := A) (B := B) hW hb hp
    rw [hx] at hso
    have hown := sdO_lt (k := dK D p) (sv := (dP D p).2.1) (sb := (dP D p).2.2.1) (x := x)
    refine wp_aload_n (i := 0) (q := 13) dX7_takeReading_12 rfl rfl rfl ?_
    refine wp_iconst (v := nI 0) (q := 14) dX7_takeReading_13 (by decide) rfl ?_
    refine wt7_6 (q := 17) dX7_takeReading_14 ffX7_38 (by first | exact ch_obj | exact ch_prg | exact ch_pts | exact ch_acs | exact ch_4 | exact ch_pul | exact ch_sea | exact ch_27 | exact ch_28 | exact ch_29 | exact ch_30 | exact ch_31 | exact ch_32 | assumption) (by exact ch_sI0) rfl ?_ -- deadCount
    refine wp_aload_n (i := 1) (q := 18) dX7_takeReading_17 rfl rfl rfl ?_
    refine wp_aload_n (i := 2) (q := 19) dX7_takeReading_18 rfl rfl rfl ?_
    refine wp_Vi (μ' := mX3_sideOf) (ci := 3) (q := 22) hso dX7_takeReading_19 okX3_sideOf lkX7_205 hob0 rfl rfl rfl (Nat.le_of_ble_eq_true rfl) (by omega) rfl ?_
    refine wp_istore_n (i := 3) (lv' := [_, _, some _, _, _, _, _]) (q := 23) dX7_takeReading_22 rfl (by decide) rfl rfl ?_
    refine wp_iconst (v := nI 0) (q := 24) dX7_takeReading_23 (by decide) rfl ?_
    refine wp_istore (lv' := [_, _, _, some _, _, _, _]) (q := 26) dX7_takeReading_24 (by decide) rfl rfl ?_
    have P : ∀ m s, s + m = 3 → ∀ (I1 : Nat → Int32) (A1 : Nat → Nat → Int32) (g1 : Nat → Option aE) (y5 y6 : Option Value), DW lo sz g1 (trD D p x s) → (∀ y, y < lo → g1 y = g y) → I1 = upd I 0 (nI (dcL D p x s).length) → (∀ o, o ≠ 31 → o ≠ 32 → A1 o = A o) → fwc (A1 32) (dcL D p x s) → wp l mX7_takeReading [] d 0 0 (tkQ lo sz b I A D g p x) (sz, ch b I1 A1 B (trD D p x s) g1) 26 [some (.ref b), some (.ref (dPa D p)), some (.ref (b + 29)), some (.int (nI (sdO (dK D p) (dP D p).2.1 (dP D p).2.2.1 x))), some (.int (nI s)), y5, y6] [] := by
      intro m
      induction m with
      | zero =>
        intro s hs I1 A1 g1 y5 y6 hW1 hlo hI hA hf
        have hs : s = 3 := by omega
        subst hs
        have hp1 : p < dNp (trD D p x 3) := by rw [tr_np]; exact hp
        have hob1 := ch_pob (I := I1) (A := A1) (B := B) hW1 hb hp1
        rw [tr_pa, tr_K] at hob1
        have eP : dP (trD D p x 3) p = ((dP D p).1, (dP D p).2.1, (dP D p).2.2.1, (dP D p).2.2.2.1, trS D p x 3) := dP_at
        have M := tX3_keepD (l := l) (d := d - 1) (I := I1) (A := A1) (B := B) (by omega) hW1 hb hp1 (by rw [eP]; exact hlt)
        rw [eP, hA 29 (by decide) (by decide), hx, tr_pa, tr_K] at M
        have eD : dsP (trD D p x 3) p ((dP D p).1 + 1, (dP D p).2.1, (dP D p).2.2.1, upR (dP D p).2.2.2.1 (dP D p).1 (fun v => if v < dK D p then x v else (dP D p).2.2.2.1 (dP D p).1 v), trS D p x 3) = rdD D p x := by unfold trD rdD; rw [dsP_dsP]
        dsimp only at M
        rw [eD] at M
        refine wp_iload (q := 28) dX7_takeReading_26 rfl rfl ?_
        refine wp_iconst (v := nI 3) (q := 29) dX7_takeReading_28 (by decide) rfl ?_
        refine wp_icmp_ge (t := 86) (q := 32) dX7_takeReading_29 (by decide) rfl (fun h3 => ?_) (fun h3 => ?_)
        · refine wp_aload_n (i := 1) (q := 87) dX7_takeReading_86 rfl rfl rfl ?_
          refine wp_aload_n (i := 2) (q := 88) dX7_takeReading_87 rfl rfl rfl ?_
          refine wp_V (μ' := mX3_keep) (ci := 3) (q := 91) M dX7_takeReading_88 okX3_keep lkX7_217 hob1 rfl rfl rfl (Nat.le_of_ble_eq_true rfl) (by omega) rfl (fun rv hx hq => ?_)
          obtain ⟨rfl, g2, rfl, hW2, hlo2⟩ := hq
          show wp _ _ _ _ _ _ _ _ _ _ []
          refine wp_aload_n (i := 0) (q := 92) dX7_takeReading_91 rfl rfl rfl ?_
          refine wg7_6 (q := 95) dX7_takeReading_92 ffX7_38 (by first | exact ch_obj | exact ch_prg | exact ch_pts | exact ch_acs | exact ch_4 | exact ch_pul | exact ch_sea | exact ch_27 | exact ch_28 | exact ch_29 | exact ch_30 | exact ch_31 | exact ch_32 | assumption) rfl ?_ -- deadCount
          rw [show I1 0 = nI (dcL D p x 3).length by rw [hI]; exact pk_us]
          refine wp_iret dX7_takeReading_95 rfl ?_
          refine ⟨rfl, I1, A1, B, g2, rfl, hW2, fun y hy => (hlo2 y hy).trans (hlo y hy), fun o ho => by rw [hI]; exact pk_un ho, hA 4 (by decide) (by decide), hA 27 (by decide) (by decide), hA 28 (by decide) (by decide), by rw [hI]; exact pk_us, hf⟩
        · exact absurd (by decide) h3
      | succ m ih =>
        intro s hs I1 A1 g1 y5 y6 hW1 hlo hI hA hf
        have hs3 : s < 3 := by omega
        have hp1 : p < dNp (trD D p x s) := by rw [tr_np]; exact hp
        have hlen := dcL_len (D := D) (p := p) (x := x) h4 s
        refine wp_iload (q := 28) dX7_takeReading_26 rfl rfl ?_
        refine wp_iconst (v := nI 3) (q := 29) dX7_takeReading_28 (by decide) rfl ?_
        refine wp_icmp_ge (t := 86) (q := 32) dX7_takeReading_29 (by decide) rfl (fun h3 => ?_) (fun h3 => ?_)
        · exact absurd ((nI_leI (by omega) (by omega)).mp h3) (by omega)
        have nxt : ¬ (s = 0 ∨ s = sdO (dK D p) (dP D p).2.1 (dP D p).2.2.1 x) → wp l mX7_takeReading [] d 0 0 (tkQ lo sz b I A D g p x) (sz, ch b I1 A1 B (trD D p x s) g1) 80 [some (.ref b), some (.ref (dPa D p)), some (.ref (b + 29)), some (.int (nI (sdO (dK D p) (dP D p).2.1 (dP D p).2.2.1 x))), some (.int (nI s)), y5, y6] [] := by
          intro hn
          refine wp_iinc (v := _ + nI 1) (lv' := [_, _, _, some _, _, _, _]) (q := 83) dX7_takeReading_80 rfl rfl (by decide) rfl rfl ?_
          refine wp_goto (q := 26) dX7_takeReading_83 (by decide) ?_
          rw [nI_add]
          have e1 := trD_succ (D := D) (p := p) (x := x) (s := s)
          have e2 := dcL_succ (D := D) (p := p) (x := x) (s := s)
          rw [if_neg hn] at e1 e2
          rw [List.append_nil] at e2
          have := ih (s + 1) (by omega) I1 A1 g1 y5 y6 (by rw [e1]; exact hW1) hlo (by rw [e2]; exact hI) hA (by rw [e2]; exact hf)
          rw [e1] at this
          exact this
        have act : (s = 0 ∨ s = sdO (dK D p) (dP D p).2.1 (dP D p).2.2.1 x) → wp l mX7_takeReading [] d 0 0 (tkQ lo sz b I A D g p x) (sz, ch b I1 A1 B (trD D p x s) g1) 43 [some (.ref b), some (.ref (dPa D p)), some (.ref (b + 29)), some (.int (nI (sdO (dK D p) (dP D p).2.1 (dP D p).2.2.1 x))), some (.int (nI s)), y5, y6] [] := by
          intro hn
          have e1 := trD_succ (D := D) (p := p) (x := x) (s := s)
          have e2 := dcL_succ (D := D) (p := p) (x := x) (s := s)
          rw [if_pos hn] at e1 e2
          have hKs := PK_tr (x := x) (s := s) hK hp hc
          have hob1 := ch_pob (I := I1) (A := A1) (B := B) hW1 hb hp1
          have hsd1 := ch_psd (I := I1) (A := A1) (B := B) hW1 hb hp1
          obtain ⟨r1, r3, r4, r5, r6, r7, r8, r9, r10, r11, r12, hof1, -⟩ := ch_fob (I := I1) (A := A1) (B := B) hW1 hb hp1 hs3
          rw [tr_pa, tr_K] at hob1 hsd1
          unfold dfA at hof1
          rw [tr_pa, tr_K] at hof1
          have M0 := tX1_listD (l := l) (d := d - 1) (I := I1) (A := A1) (B := B) (tA := false) (by omega) hW1 hKs hb hp1 hs3
          unfold dfA at M0
          rw [tr_pa, tr_K, tr_cls] at M0
          refine wp_aload_n (i := 1) (q := 44) dX7_takeReading_43 rfl rfl rfl ?_
          refine wg3_2 (q := 47) dX7_takeReading_44 ffX7_64 (by first | exact ch_obj | exact ch_prg | exact ch_pts | exact ch_acs | exact ch_4 | exact ch_pul | exact ch_sea | exact ch_27 | exact ch_28 | exact ch_29 | exact ch_30 | exact ch_31 | exact ch_32 | assumption) rfl ?_ -- sides
          refine wp_iload (q := 49) dX7_takeReading_47 rfl rfl ?_
          refine wq_aald (q := 50) dX7_takeReading_49 (by first | exact ch_obj | exact ch_prg | exact ch_pts | exact ch_acs | exact ch_4 | exact ch_pul | exact ch_sea | exact ch_27 | exact ch_28 | exact ch_29 | exact ch_30 | exact ch_31 | exact ch_32 | assumption) (by decide) rfl (by first | omega | exact ⟨by omega, by omega⟩) (by exact if_pos (by omega)) rfl ?_
          refine wp_astore (lv' := [_, _, _, _, some _, _, _]) (q := 52) dX7_takeReading_50 (by decide) rfl rfl ?_
          refine wp_aload (q := 54) dX7_takeReading_52 rfl rfl ?_
          refine wp_iconst (v := nI 0) (q := 55) dX7_takeReading_54 (by decide) rfl ?_
          refine wp_aload_n (i := 0) (q := 56) dX7_takeReading_55 rfl rfl rfl ?_
          refine wg7_4 (q := 59) dX7_takeReading_56 ffX7_32 (by first | exact ch_obj | exact ch_prg | exact ch_pts | exact ch_acs | exact ch_4 | exact ch_pul | exact ch_sea | exact ch_27 | exact ch_28 | exact ch_29 | exact ch_30 | exact ch_31 | exact ch_32 | assumption) rfl ?_ -- codes
          refine wp_V (μ' := mX1_list) (ci := 1) (q := 62) M0 dX7_takeReading_59 okX1_list lkX7_112 hof1 rfl rfl rfl (Nat.le_of_ble_eq_true rfl) (by omega) rfl (fun rv hx hq => ?_)
          obtain ⟨rfl, f, rfl, hfc⟩ := hq
          have eF : dF (trD D p x s) p s = dF D p s := by
            rw [dF_tr]
            unfold trS
            rw [if_neg (by omega)]
          show wp _ _ _ _ _ _ _ _ _ _ [.int (nI (cls D p s false).length)]
          obtain ⟨r1, r3, r4, r5, r6, r7, r8, r9, r10, r11, r12, hof2, -⟩ := ch_fob (I := I1) (A := upR A1 31 f) (B := B) hW1 hb hp1 hs3
          unfold dfA at hof2
          rw [tr_pa, tr_K] at hof2
          refine wp_istore (lv' := [_, _, _, _, _, some _, _]) (q := 64) dX7_takeReading_62 (by decide) rfl rfl ?_
          refine wp_aload (q := 66) dX7_takeReading_64 rfl rfl ?_
          refine wp_aload_n (i := 2) (q := 67) dX7_takeReading_66 rfl rfl rfl ?_
          have M := tX1_addD (l := l) (d := d - 1) (I := I1) (A := upR A1 31 f) (B := B) (by omega) hW1 hKs hb hp1 hs3
          unfold dfA at M
          rw [upR_ne (by decide), hA 29 (by decide) (by decide), hx, eF, tr_K, tr_pa, ← e1] at M
          refine wp_V (μ' := mX1_add) (ci := 1) (q := 70) M dX7_takeReading_67 okX1_add lkX7_209 hof2 rfl rfl rfl (Nat.le_of_ble_eq_true rfl) (by omega) rfl (fun rv hx hq => ?_)
          obtain ⟨rfl, g2, rfl, hW2, hlo2⟩ := hq
          show wp _ _ _ _ _ _ _ _ _ _ []
          have hp2 : p < dNp (trD D p x (s + 1)) := by rw [tr_np]; exact hp
          have hK2 := PK_tr (x := x) (s := s + 1) hK hp hc
          have hll : (cls D p s false).length ≤ 60 := lsF_len h4
          have N := tX7_noteDead (l := l) (d := d - 1) (I := I1) (A := upR A1 31 f) (B := B) (side := s) (cs := cls D p s false) (acc := dcL D p x s) (by omega) hW2 hK2 hb hp2 hs3 (by rw [upR_at]; exact hfc) hll (fun c hc => by
            obtain ⟨a1, a2, a3, a4, -⟩ := lsF_mem h4 hc
            rw [tr_K]
            exact ⟨a1, a2, a3, a4⟩) (by rw [hI]; exact pk_us) (by rw [upR_ne (by decide)]; exact hf) (by omega)
          have eF2 : dF (trD D p x (s + 1)) p s = adF (dK D p) (dF D p s) x := by
            rw [dF_tr]
            unfold trS
            rw [if_pos ⟨by omega, hn⟩]
          unfold dfA at N
          rw [eF2, tr_pa, tr_K] at N
          refine wp_aload_n (i := 0) (q := 71) dX7_takeReading_70 rfl rfl rfl ?_
          refine wp_iload (q := 73) dX7_takeReading_71 rfl rfl ?_
          refine wp_aload (q := 75) dX7_takeReading_73 rfl rfl ?_
          refine wp_iload (q := 77) dX7_takeReading_75 rfl rfl ?_
          refine wp_V (μ' := mX7_noteDead) (ci := 7) (q := 80) N dX7_takeReading_77 okX7_noteDead lkX7_213 (by first | exact ch_obj | exact ch_prg | exact ch_pts | exact ch_acs | exact ch_4 | exact ch_pul | exact ch_sea | exact ch_27 | exact ch_28 | exact ch_29 | exact ch_30 | exact ch_31 | exact ch_32 | assumption) rfl rfl rfl (Nat.le_of_ble_eq_true rfl) (by omega) rfl (fun rv hx hq => ?_)
          obtain ⟨rfl, f2, rfl, hf2⟩ := hq
          show wp _ _ _ _ _ _ _ _ _ _ []
          rw [show ddL s (adF (dK D p) (dF D p s) x) (cls D p s false) = dcS D p x s from rfl, ← e2] at hf2 ⊢
          refine wp_iinc (v := _ + nI 1) (lv' := [_, _, _, some _, _, _, _]) (q := 83) dX7_takeReading_80 rfl rfl (by decide) rfl rfl ?_
          refine wp_goto (q := 26) dX7_takeReading_83 (by decide) ?_
          rw [nI_add]
          refine ih (s + 1) (by omega) _ _ g2 _ _ hW2 (fun y hy => (hlo2 y hy).trans (hlo y hy)) ?_ ?_ ?_
          · rw [hI]
            funext o
            unfold upd
            by_cases w : o = 0
            · rw [if_pos w, if_pos w]
            · rw [if_neg w, if_neg w, if_neg w]
          · intro o h1 h2
            rw [upR_ne h2, upR_ne h1]
            exact hA o h1 h2
          · rw [upR_at]
            exact hf2
        refine wp_iload (q := 34) dX7_takeReading_32 rfl rfl ?_
        refine wp_if_eq (t := 43) (q := 37) dX7_takeReading_34 (by decide) rfl (fun h0 => ?_) (fun h0 => ?_)
        · exact act (Or.inl ((nI_eq (b := 0) (by omega) (by omega)).mp h0))
        have h0 : ¬ s = 0 := fun q => h0 (by rw [q]; rfl)
        refine wp_iload (q := 39) dX7_takeReading_37 rfl rfl ?_
        refine wp_iload_n (i := 3) (q := 40) dX7_takeReading_39 rfl rfl rfl ?_
        refine wp_icmp_ne (t := 80) (q := 43) dX7_takeReading_40 (by decide) rfl (fun he => ?_) (fun he => ?_)
        · exact nxt (fun q => q.elim h0 (fun q => he (by rw [← q])))
        · exact act (Or.inr ((nI_eq (by omega) (by omega)).mp he))
    have := P 3 0 (by omega) (upd I 0 (nI 0)) A g none none (by rw [trD_0]; exact hW) (fun _ _ => rfl) (by unfold dcL; rfl) (fun _ _ _ => rfl) (fun j c h => by unfold dcL at h; simp at h)
    rw [trD_0] at this
    exact this
  · have hge : (dP D p).1 = 40 := by
      rcases Nat.lt_or_ge (dP D p).1 40 with q | q
      · exact absurd ((nI_ltI (by omega) (by omega)).mpr q) hlt
      · omega
    refine wp_bipush (v := (-4)) (q := 11) dX7_takeReading_9 (by decide) rfl ?_
    refine wp_iret dX7_takeReading_11 rfl ?_
    exact Or.inl ⟨hge, rfl, rfl⟩
theorem tX7_read {x v0 v1 v2 v3 : Int32} (hd : 6 ≤ d) (hW : DW lo sz g D) (hK : PK D) (hb : b + 33 ≤ lo) (hc : ∀ p, p < dNp D → (dP D p).1 < 40 → ∀ t, t < 3 → (dF D p t).1 < 40) : mt l mX7_read d 0 0 [.ref b, .int x, .int v0, .int v1, .int v2, .int v3] (sz, ch b I A B D g) (fun rv h' =>
    (ix (dNp D) x = false ∧ rv = some (.int (-1)) ∧ qQ lo sz b I A D g h') ∨ (ix (dNp D) x = true ∧ cWi (dK D x.toNatClampNeg) (nI 30) (fill4 (A 29) v0 v1 v2 v3) = false ∧ rv = some (.int (-2)) ∧ qQ lo sz b I A D g h') ∨ (ix (dNp D) x = true ∧ cWi (dK D x.toNatClampNeg) (nI 30) (fill4 (A 29) v0 v1 v2 v3) = true ∧ (dP D x.toNatClampNeg).1 = 40 ∧ rv = some (.int (-4)) ∧ qQ lo sz b I A D g h') ∨
    (ix (dNp D) x = true ∧ cWi (dK D x.toNatClampNeg) (nI 30) (fill4 (A 29) v0 v1 v2 v3) = true ∧ (dP D x.toNatClampNeg).1 < 40 ∧ tkQ lo sz b I A D g x.toNatClampNeg (fill4 (A 29) v0 v1 v2 v3) rv h')) := by
  have h6 := hW.np
  refine mt_in (lv := [_, _, _, _, _, _, _]) (by decide) (Nat.le_of_ble_eq_true rfl) rfl ?_
  refine wp_aload_n (i := 0) (q := 1) dX7_read_0 rfl rfl rfl ?_
  refine wg7_0 (q := 4) dX7_read_1 ffX7_10 (by first | exact ch_obj | exact ch_prg | exact ch_pts | exact ch_acs | exact ch_4 | exact ch_pul | exact ch_sea | exact ch_27 | exact ch_28 | exact ch_29 | exact ch_30 | exact ch_31 | exact ch_32 | assumption) rfl ?_ -- program
  refine wp_iload_n (i := 1) (q := 5) dX7_read_4 rfl rfl rfl ?_
  by_cases w : ix (dNp D) x = true
  · obtain ⟨p, hp, rfl⟩ := ix_of w (by omega)
    rw [nI_clamp (by omega)]
    have hob := ch_pob (I := I) (A := upR A 29 (fill4 (A 29) v0 v1 v2 v3)) (B := B) hW hb hp
    have h4 := hW.k4 hp
    refine wp_Vr (μ' := mX4_pointAt) (ci := 4) (q := 8) (tX4_pointAt (d := d - 1) hW hp) dX7_read_5 okX4_pointAt lkX7_46 (by first | exact ch_obj | exact ch_prg | exact ch_pts | exact ch_acs | exact ch_4 | exact ch_pul | exact ch_sea | exact ch_27 | exact ch_28 | exact ch_29 | exact ch_30 | exact ch_31 | exact ch_32 | assumption) rfl rfl rfl (Nat.le_of_ble_eq_true rfl) (by omega) rfl ?_
    refine wp_astore (lv' := [_, _, _, _, _, some _, _]) (q := 10) dX7_read_8 (by decide) rfl rfl ?_
    refine wp_aload (q := 12) dX7_read_10 rfl rfl ?_
    refine wp_ifnonnull (q := 17) dX7_read_12 (by decide) ?_
    refine wp_aload_n (i := 0) (q := 18) dX7_read_17 rfl rfl rfl ?_
    refine wg7_2 (q := 21) dX7_read_18 ffX7_25 (by first | exact ch_obj | exact ch_prg | exact ch_pts | exact ch_acs | exact ch_4 | exact ch_pul | exact ch_sea | exact ch_27 | exact ch_28 | exact ch_29 | exact ch_30 | exact ch_31 | exact ch_32 | assumption) rfl ?_ -- given
    refine wp_iload_n (i := 2) (q := 22) dX7_read_21 rfl rfl rfl ?_
    refine wp_iload_n (i := 3) (q := 23) dX7_read_22 rfl rfl rfl ?_
    refine wp_iload (q := 25) dX7_read_23 rfl rfl ?_
    refine wp_iload (q := 27) dX7_read_25 rfl rfl ?_
    refine wp_Sv (μ' := mX7_fill) (q := 30) (tX7_fill (d := d - 1) ch_29 (by omega) (by omega)) dX7_read_27 okX7_fill lkX7_73 rfl rfl (Nat.le_of_ble_eq_true rfl) (by omega) rfl ?_
    rw [ch_s29]
    refine wp_aload_n (i := 0) (q := 31) dX7_read_30 rfl rfl rfl ?_
    refine wg7_2 (q := 34) dX7_read_31 ffX7_25 (by first | exact ch_obj | exact ch_prg | exact ch_pts | exact ch_acs | exact ch_4 | exact ch_pul | exact ch_sea | exact ch_27 | exact ch_28 | exact ch_29 | exact ch_30 | exact ch_31 | exact ch_32 | assumption) rfl ?_ -- given
    refine wp_aload (q := 36) dX7_read_34 rfl rfl ?_
    refine wg3_0 (q := 39) dX7_read_36 ffX7_77 (by first | exact ch_obj | exact ch_prg | exact ch_pts | exact ch_acs | exact ch_4 | exact ch_pul | exact ch_sea | exact ch_27 | exact ch_28 | exact ch_29 | exact ch_30 | exact ch_31 | exact ch_32 | assumption) rfl ?_ -- size
    refine wp_bipush (v := nI 30) (q := 41) dX7_read_39 (by decide) rfl ?_
    refine wp_Si (μ' := mX7_areWithin) (q := 44) (tX7_areWithin (d := d - 1) (n := 4) (by omega) ch_29 (by omega) (by omega)) dX7_read_41 okX7_areWithin lkX7_80 rfl rfl (Nat.le_of_ble_eq_true rfl) (by omega) rfl ?_
    rw [upR_at]
    show wp _ _ _ _ _ _ _ _ _ _ [.int (b2 (cWi (dK D p) (nI 30) (fill4 (A 29) v0 v1 v2 v3)))]
    refine wp_if_ne (t := 50) (q := 47) dX7_read_44 (by decide) rfl (fun hz => ?_) (fun hz => ?_)
    · have hz := b2_ne0.mp hz
      refine wp_aload_n (i := 0) (q := 51) dX7_read_50 rfl rfl rfl ?_
      refine wp_aload (q := 53) dX7_read_51 rfl rfl ?_
      refine wp_aload_n (i := 0) (q := 54) dX7_read_53 rfl rfl rfl ?_
      refine wg7_2 (q := 57) dX7_read_54 ffX7_25 (by first | exact ch_obj | exact ch_prg | exact ch_pts | exact ch_acs | exact ch_4 | exact ch_pul | exact ch_sea | exact ch_27 | exact ch_28 | exact ch_29 | exact ch_30 | exact ch_31 | exact ch_32 | assumption) rfl ?_ -- given
      refine wp_V (μ' := mX7_takeReading) (ci := 7) (q := 60) (tX7_takeReading (d := d - 1) (by omega) hW hK hb hp (hc p hp)) dX7_read_57 okX7_takeReading lkX7_84 (by first | exact ch_obj | exact ch_prg | exact ch_pts | exact ch_acs | exact ch_4 | exact ch_pul | exact ch_sea | exact ch_27 | exact ch_28 | exact ch_29 | exact ch_30 | exact ch_31 | exact ch_32 | assumption) rfl rfl rfl (Nat.le_of_ble_eq_true rfl) (by omega) rfl (fun rv hx hq => ?_)
      rw [upR_at] at hq
      rcases hq with ⟨q1, rfl, rfl⟩ | ⟨q1, q2⟩
      · show wp _ _ _ _ _ _ _ _ _ _ [.int (-4)]
        refine wp_iret dX7_read_60 rfl ?_
        exact Or.inr (Or.inr (Or.inl ⟨w, hz, q1, rfl, _, _, _, _, _, rfl, hW, fun _ _ => rfl, dEq.rf, aEq.up (by decide), iEq.rf⟩))
      · have q3 := q2
        obtain ⟨rfl, I', A', B', g', rfl, a1, a2, a3, a4, a5, a6, a7, a8⟩ := q2
        show wp _ _ _ _ _ _ _ _ _ _ [.int (nI (dcL D p (fill4 (A 29) v0 v1 v2 v3) 3).length)]
        refine wp_iret dX7_read_60 rfl ?_
        exact Or.inr (Or.inr (Or.inr ⟨w, hz, q1, rfl, I', A', B', g', rfl, a1, a2, a3, a4.trans (upR_ne (by decide)), a5.trans (upR_ne (by decide)), a6.trans (upR_ne (by decide)), a7, a8⟩))
    · have hz := b2_eq0.mp hz
      refine wp_bipush (v := (-2)) (q := 49) dX7_read_47 (by decide) rfl ?_
      refine wp_iret dX7_read_49 rfl ?_
      exact Or.inr (Or.inl ⟨w, hz, rfl, _, _, _, _, _, rfl, hW, fun _ _ => rfl, dEq.rf, aEq.up (by decide), iEq.rf⟩)
  · refine wp_Vr (μ' := mX4_pointAt) (ci := 4) (q := 8) (tX4_pointAtN (d := d - 1) hW (Bool.eq_false_iff.mpr w)) dX7_read_5 okX4_pointAt lkX7_46 (by first | exact ch_obj | exact ch_prg | exact ch_pts | exact ch_acs | exact ch_4 | exact ch_pul | exact ch_sea | exact ch_27 | exact ch_28 | exact ch_29 | exact ch_30 | exact ch_31 | exact ch_32 | assumption) rfl rfl rfl (Nat.le_of_ble_eq_true rfl) (by omega) rfl ?_
    refine wp_astoreN (lv' := [_, _, _, _, _, some _, _]) (q := 10) dX7_read_8 (by decide) rfl rfl ?_
    refine wp_aloadN (q := 12) dX7_read_10 rfl rfl ?_
    refine wp_ifnonnullN (q := 15) dX7_read_12 rfl ?_
    refine wp_iconst (v := (-1)) (q := 16) dX7_read_15 (by decide) rfl ?_
    refine wp_iret dX7_read_16 rfl ?_
    exact Or.inl ⟨Bool.eq_false_iff.mpr w, rfl, qQ.rf hW⟩
end R3
