/-! THE REFERENCE: a reading, a run's end: what held ahead of it, what died -/
def mkOK (k : Nat) (a b c d e : Int32) : Bool := (((inB a (-9) (nI 9) && (decide (k ≤ 1) || inB b (-9) (nI 9))) && (decide (k ≤ 2) || inB c (-9) (nI 9))) && (decide (k ≤ 3) || inB d (-9) (nI 9))) && inB e (-99) (nI 99)
def aMakes (A : Nat → Nat → Int32) (na : Nat) (k v a b c d e : Int32) : Int32 := if noMd A na k v = true then -1 else if mkOK (kA A (frA A k.toNatClampNeg)) a b c d e = false then -2 else nI 1
def mkA (A : Nat → Nat → Int32) (k v : Nat) (a b c d e : Int32) : Nat → Nat → Int32 :=
  up2 (up2 (up2 (up2 (up2 A 19 (20 * k + 5 * v) a) 19 (20 * k + 5 * v + 1) (if kA A (frA A k) ≤ 1 then nI 0 else b)) 19 (20 * k + 5 * v + 2) (if kA A (frA A k) ≤ 2 then nI 0 else c)) 19 (20 * k + 5 * v + 3) (if kA A (frA A k) ≤ 3 then nI 0 else d)) 19 (20 * k + 5 * v + 4) e
def aMakesA (A : Nat → Nat → Int32) (na : Nat) (k v a b c d e : Int32) : Nat → Nat → Int32 := if (!noMd A na k v && mkOK (kA A (frA A k.toNatClampNeg)) a b c d e) = true then mkA A k.toNatClampNeg v.toNatClampNeg a b c d e else A
/-- what held ahead of a reading: sides and codes -/
def hdS (A : Nat → Nat → Int32) (p s : Nat) : List (Nat × Nat) := (gl A p s false).map (fun c => (s, c))
def hdF (A : Nat → Nat → Int32) (p s : Nat) : List (Nat × Nat) := (List.range' s (3 - s)).flatMap (hdS A p)
theorem hdF_end {A : Nat → Nat → Int32} {p s : Nat} (h : 3 ≤ s) : hdF A p s = [] := by
  unfold hdF
  rw [show 3 - s = 0 by omega]
  rfl
theorem hdF_step {A : Nat → Nat → Int32} {p s : Nat} (h : s < 3) : hdF A p s = hdS A p s ++ hdF A p (s + 1) := by
  unfold hdF
  rw [show 3 - s = (3 - (s + 1)) + 1 by omega, List.range'_succ, List.flatMap_cons]
theorem hdS_len {A : Nat → Nat → Int32} {p s : Nat} (h : kA A p ≤ 4) : (hdS A p s).length ≤ 88 := by
  unfold hdS
  rw [List.length_map]
  exact gl_len h
theorem hdF_len {A : Nat → Nat → Int32} {p : Nat} (h : kA A p ≤ 4) : (hdF A p 0).length ≤ 264 := by
  have e : hdF A p 0 = hdS A p 0 ++ (hdS A p 1 ++ (hdS A p 2 ++ [])) := by rw [hdF_step (by decide), hdF_step (by decide), hdF_step (by decide), hdF_end (by decide)]
  rw [e]
  have h0 := hdS_len (A := A) (p := p) (s := 0) h
  have h1 := hdS_len (A := A) (p := p) (s := 1) h
  have h2 := hdS_len (A := A) (p := p) (s := 2) h
  simp only [List.length_append, List.length_nil]
  omega
def fwp (f1 f2 : Nat → Int32) (s : List (Nat × Nat)) : Prop := ∀ (j : Nat) (q : Nat × Nat), s[j]? = some q → f1 j = nI q.1 ∧ f2 j = nI q.2
theorem fwp_app {f1 f2 : Nat → Int32} {s : List (Nat × Nat)} {q : Nat × Nat} (h : fwp f1 f2 s) : fwp (fun k => if k = s.length then nI q.1 else f1 k) (fun k => if k = s.length then nI q.2 else f2 k) (s ++ [q]) := by
  intro j x hj
  by_cases e : j < s.length
  · rw [List.getElem?_append_left e] at hj
    show (if j = s.length then _ else _) = _ ∧ (if j = s.length then _ else _) = _
    rw [if_neg (by omega), if_neg (by omega)]
    exact h j x hj
  · rw [List.getElem?_append_right (by omega)] at hj
    have h0 : j - s.length < 1 := (List.getElem?_eq_some_iff.mp hj).1
    rw [show j - s.length = 0 by omega] at hj
    simp at hj
    show (if j = s.length then _ else _) = _ ∧ (if j = s.length then _ else _) = _
    rw [if_pos (by omega), if_pos (by omega), hj]
    exact ⟨rfl, rfl⟩
theorem L1_mem {k : Nat} {q : Nat × Nat × Nat} (hk : k ≤ 4) (h : q ∈ L1 k 0) : q.1 < 10 ∧ q.2.1 < k ∧ q.2.2 < jlG k q.1 := by
  unfold L1 at h
  obtain ⟨sh, h1, h2⟩ := List.mem_flatMap.mp h
  unfold L2 at h2
  obtain ⟨i, h3, h4⟩ := List.mem_flatMap.mp h2
  unfold L3 at h4
  obtain ⟨j, h5, rfl⟩ := List.mem_map.mp h4
  have := List.mem_range'_1.mp h1
  have := List.mem_range'_1.mp h3
  have := List.mem_range'_1.mp h5
  show sh < 10 ∧ i < k ∧ j < jlG k sh
  exact ⟨by omega, by omega, by omega⟩
theorem jlG_le {k sh : Nat} (hk : k ≤ 4) : jlG k sh ≤ 4 := by unfold jlG; split <;> omega
theorem gl_mem {A : Nat → Nat → Int32} {p side c : Nat} {tA : Bool} (hk : kA A p ≤ 4) (h : c ∈ gl A p side tA) : ∃ sh i j, c = 100 * sh + 10 * i + j ∧ sh < 10 ∧ i < kA A p ∧ j < jlG (kA A p) sh ∧ okG A p side tA (sh, i, j) = true := by
  unfold gl at h
  split at h
  · simp at h
  · obtain ⟨q, h1, rfl⟩ := List.mem_map.mp h
    obtain ⟨h2, h3⟩ := List.mem_filter.mp h1
    obtain ⟨a, b, c⟩ := L1_mem hk h2
    exact ⟨q.1, q.2.1, q.2.2, rfl, a, b, c, h3⟩
theorem hdF_mem {A : Nat → Nat → Int32} {p : Nat} {q : Nat × Nat} (hk : kA A p ≤ 4) (h : q ∈ hdF A p 0) : q.1 < 3 ∧ q.2 / 100 < 10 ∧ q.2 / 10 % 10 < kA A p ∧ q.2 % 10 < 4 ∧ q.2 < 1000 := by
  unfold hdF at h
  obtain ⟨s, h1, h2⟩ := List.mem_flatMap.mp h
  obtain ⟨c, h3, rfl⟩ := List.mem_map.mp h2
  obtain ⟨sh, i, j, rfl, h4, h5, h6, -⟩ := gl_mem hk h3
  have := List.mem_range'_1.mp h1
  have := jlG_le (sh := sh) hk
  show s < 3 ∧ (100 * sh + 10 * i + j) / 100 < 10 ∧ (100 * sh + 10 * i + j) / 10 % 10 < kA A p ∧ (100 * sh + 10 * i + j) % 10 < 4 ∧ (100 * sh + 10 * i + j) < 1000
  exact ⟨by omega, by omega, by omega, by omega, by omega⟩
/-- the rows behind a reading -/
def rwA (A : Nat → Nat → Int32) (p : Nat) (a b c d : Int32) : Nat → Nat → Int32 := up2 (up2 (up2 (up2 (up2 A 6 (160 * p + 4 * nA A p) a) 6 (160 * p + 4 * nA A p + 1) b) 6 (160 * p + 4 * nA A p + 2) c) 6 (160 * p + 4 * nA A p + 3) d) 2 p (nI (nA A p + 1))
def dyB (A : Nat → Nat → Int32) (p : Nat) (q : Nat × Nat) : Bool := !isSoB A p q.1 (q.2 / 100) (q.2 / 10 % 10) (q.2 % 10)
def dlF (A2 : Nat → Nat → Int32) (p : Nat) (s : List (Nat × Nat)) : List Nat := (s.filter (dyB A2 p)).map (fun q => 1000 * q.1 + q.2)
/-- what a reading lets die -/
def dl (A : Nat → Nat → Int32) (p : Nat) (a b c d : Int32) : List Nat := dlF (rwA A p a b c d) p (hdF A p 0)
theorem dl_len {A : Nat → Nat → Int32} {p : Nat} {a b c d : Int32} (h : kA A p ≤ 4) : (dl A p a b c d).length ≤ 264 := by
  unfold dl dlF
  rw [List.length_map]
  exact Nat.le_trans (List.length_filter_le _ _) (hdF_len h)
theorem rwA_MP {A : Nat → Nat → Int32} {p : Nat} {a b c d : Int32} (hM : MP A p) (hn : nA A p < 40) : MP (rwA A p a b c d) p := by
  unfold MP kA nA at hM ⊢
  have e1 : rwA A p a b c d 1 = A 1 := by unfold rwA; rw [up2_ne (by decide), up2_ne (by decide), up2_ne (by decide), up2_ne (by decide), up2_ne (by decide)]
  have e3 : rwA A p a b c d 3 = A 3 := by unfold rwA; rw [up2_ne (by decide), up2_ne (by decide), up2_ne (by decide), up2_ne (by decide), up2_ne (by decide)]
  have e4 : rwA A p a b c d 4 = A 4 := by unfold rwA; rw [up2_ne (by decide), up2_ne (by decide), up2_ne (by decide), up2_ne (by decide), up2_ne (by decide)]
  have e2 : rwA A p a b c d 2 p = nI (nA A p + 1) := by simp [rwA, up2]
  rw [e1, e2, e3, e4]
  unfold nA at hn
  refine ⟨hM.1, hM.2.1, ?_, ?_, hM.2.2.2.2⟩
  · rw [nI_clamp (by unfold nA; omega)]
  · rw [nI_clamp (by unfold nA; omega)]; unfold nA; omega
section M9
variable {l : Launch} {d sz b p side r i j m shape np na : Nat} {I : Nat → Int32} {L : Int64} {A : Nat → Nat → Int32} {B : Nat → Nat → Int64} {g : Nat → Option aE}
theorem tX8_noteHeld (hd : 6 ≤ d) (hp : p < 6) (hM : MP A p) : mt l mX8_noteHeld d 0 0 [.ref b, .int (nI p)] (sz, mh b I L A B g) (fun rv h' => rv = none ∧ ∃ I' A', h' = (sz, mh b I' L A' B g) ∧ SC [7, 9, 11] [7, 8, 9, 10] I A I' A' ∧ I' 11 = nI (hdF A p 0).length ∧ fwp (A' 9) (A' 10) (hdF A p 0)) := by
  have m2 := hM.2.1
  have hlen := hdF_len (A := A) (p := p) m2
  refine mt_in (lv := [_, _, _, _]) (by decide) (Nat.le_of_ble_eq_true rfl) rfl ?_
  refine wp_aload_n (i := 0) (q := 1) dX8_noteHeld_0 rfl rfl rfl ?_
  refine wp_iconst (v := nI 0) (q := 2) dX8_noteHeld_1 (by decide) rfl ?_
  refine wm_putI (k := 11) (q := 5) dX8_noteHeld_2 ffX8_191 rfl rfl ?_ -- held
  refine wp_iconst (v := nI 0) (q := 6) dX8_noteHeld_5 (by decide) rfl ?_
  refine wp_istore_n (i := 2) (lv' := [_, some _, _, _]) (q := 7) dX8_noteHeld_6 rfl (by decide) rfl rfl ?_
  have P7 : ∀ n s, s + n = 3 → ∀ (I1 : Nat → Int32) (A1 : Nat → Nat → Int32) (acc : List (Nat × Nat)) (j3 : Option Value), SC [7, 9, 11] [7, 8, 9, 10] I A I1 A1 → I1 11 = nI acc.length → fwp (A1 9) (A1 10) acc → acc ++ hdF A p s = hdF A p 0 → wp l mX8_noteHeld [] d 0 0 (fun rv h' => rv = none ∧ ∃ I' A', h' = (sz, mh b I' L A' B g) ∧ SC [7, 9, 11] [7, 8, 9, 10] I A I' A' ∧ I' 11 = nI (hdF A p 0).length ∧ fwp (A' 9) (A' 10) (hdF A p 0)) (sz, mh b I1 L A1 B g) 7 [some (.ref b), some (.int (nI p)), some (.int (nI s)), j3] [] := by
    intro n
    induction n with
    | zero =>
      intro s hn I1 A1 acc j3 hS h11 hf he
      refine wp_iload_n (i := 2) (q := 8) dX8_noteHeld_7 rfl rfl rfl ?_
      refine wp_iconst (v := nI 3) (q := 9) dX8_noteHeld_8 (by decide) rfl ?_
      refine wp_icmp_ge (t := 76) (q := 12) dX8_noteHeld_9 (by decide) rfl (fun hc => ?_) (fun hc => ?_)
      · refine wp_vret dX8_noteHeld_76 rfl ?_
        rw [hdF_end (by omega), List.append_nil] at he
        subst he
        exact ⟨rfl, I1, A1, rfl, hS, h11, hf⟩
      · exact absurd ((nI_leI (by omega) (by omega)).mpr (by omega)) hc
    | succ n ih =>
      intro s hn I1 A1 acc j3 hS h11 hf he
      have hag := ag_of hS (by decide)
      refine wp_iload_n (i := 2) (q := 8) dX8_noteHeld_7 rfl rfl rfl ?_
      refine wp_iconst (v := nI 3) (q := 9) dX8_noteHeld_8 (by decide) rfl ?_
      refine wp_icmp_ge (t := 76) (q := 12) dX8_noteHeld_9 (by decide) rfl (fun hc => ?_) (fun hc => ?_)
      · exact absurd ((nI_leI (by omega) (by omega)).mp hc) (by omega)
      refine wp_aload_n (i := 0) (q := 13) dX8_noteHeld_12 rfl rfl rfl ?_
      refine wp_iload_n (i := 1) (q := 14) dX8_noteHeld_13 rfl rfl rfl ?_
      refine wp_iload_n (i := 2) (q := 15) dX8_noteHeld_14 rfl rfl rfl ?_
      refine wp_iconst (v := nI 0) (q := 16) dX8_noteHeld_15 (by decide) rfl ?_
      refine wp_V (μ' := mX8_findGuesses) (ci := 8) (q := 19) (tX8_findGuesses (d := d - 1) (tA := false) (by omega) hp (by omega) (MP_ag hag hM)) dX8_noteHeld_16 okX8_findGuesses lkX8_187 mh_obj rfl rfl rfl (Nat.le_of_ble_eq_true rfl) (by omega) rfl (fun rv hx hq => ?_)
      obtain ⟨rfl, I2, A2, rfl, hS2, h9, hf8⟩ := hq
      rw [gl_ag hag] at h9 hf8
      have hgl := gl_len (A := A) (p := p) (side := s) (tA := false) m2
      rw [hdF_step (by omega)] at he
      have hl2 : acc.length + (hdS A p s).length ≤ 264 := by
        have := congrArg List.length he
        simp only [List.length_append] at this
        omega
      have hdl : (hdS A p s).length = (gl A p s false).length := by unfold hdS; rw [List.length_map]
      refine wp_iconst (v := nI 0) (q := 20) dX8_noteHeld_19 (by decide) rfl ?_
      refine wp_istore_n (i := 3) (lv' := [_, _, some _, _]) (q := 21) dX8_noteHeld_20 rfl (by decide) rfl rfl ?_
      have P21 : ∀ n k, k + n = (gl A p s false).length → ∀ (I3 : Nat → Int32) (A3 : Nat → Nat → Int32), SC [7, 9, 11] [7, 8, 9, 10] I A I3 A3 → I3 9 = nI (gl A p s false).length → fwc (A3 8) (gl A p s false) → I3 11 = nI (acc ++ (hdS A p s).take k).length → fwp (A3 9) (A3 10) (acc ++ (hdS A p s).take k) → wp l mX8_noteHeld [] d 0 0 (fun rv h' => rv = none ∧ ∃ I' A', h' = (sz, mh b I' L A' B g) ∧ SC [7, 9, 11] [7, 8, 9, 10] I A I' A' ∧ I' 11 = nI (hdF A p 0).length ∧ fwp (A' 9) (A' 10) (hdF A p 0)) (sz, mh b I3 L A3 B g) 21 [some (.ref b), some (.int (nI p)), some (.int (nI s)), some (.int (nI k))] [] := by
        intro n
        induction n with
        | zero =>
          intro k hk I3 A3 hS3 h93 hf3 h113 hfp
          refine wp_iload_n (i := 3) (q := 22) dX8_noteHeld_21 rfl rfl rfl ?_
          refine wp_aload_n (i := 0) (q := 23) dX8_noteHeld_22 rfl rfl rfl ?_
          refine wm_getI (k := 9) (q := 26) dX8_noteHeld_23 ffX8_181 rfl rfl ?_ -- told
          rw [h93]
          refine wp_icmp_ge (t := 70) (q := 29) dX8_noteHeld_26 (by decide) rfl (fun hc => ?_) (fun hc => ?_)
          · refine wp_iinc (v := _ + nI 1) (lv' := [_, some _, _, _]) (q := 73) dX8_noteHeld_70 rfl rfl (by decide) rfl rfl ?_
            refine wp_goto (q := 7) dX8_noteHeld_73 (by decide) ?_
            rw [nI_add]
            rw [List.take_of_length_le (by omega)] at h113 hfp
            exact ih (s + 1) (by omega) I3 A3 _ _ hS3 h113 hfp (by rw [List.append_assoc]; exact he)
          · exact absurd ((nI_leI (by omega) (by omega)).mpr (by omega)) hc
        | succ n ih21 =>
          intro k hk I3 A3 hS3 h93 hf3 h113 hfp
          have hkl : k < (gl A p s false).length := by omega
          have hgk := hf3 k _ (List.getElem?_eq_getElem hkl)
          have htl : (acc ++ (hdS A p s).take k).length = acc.length + k := by simp; omega
          rw [htl] at h113
          refine wp_iload_n (i := 3) (q := 22) dX8_noteHeld_21 rfl rfl rfl ?_
          refine wp_aload_n (i := 0) (q := 23) dX8_noteHeld_22 rfl rfl rfl ?_
          refine wm_getI (k := 9) (q := 26) dX8_noteHeld_23 ffX8_181 rfl rfl ?_ -- told
          rw [h93]
          refine wp_icmp_ge (t := 70) (q := 29) dX8_noteHeld_26 (by decide) rfl (fun hc => ?_) (fun hc => ?_)
          · exact absurd ((nI_leI (by omega) (by omega)).mp hc) (by omega)
          refine wp_aload_n (i := 0) (q := 30) dX8_noteHeld_29 rfl rfl rfl ?_
          refine wm_getA (k := 12) (o := 9) (q := 33) dX8_noteHeld_30 ffX8_35 rfl rfl rfl ?_ -- heldSide
          refine wp_aload_n (i := 0) (q := 34) dX8_noteHeld_33 rfl rfl rfl ?_
          refine wm_getI (k := 11) (q := 37) dX8_noteHeld_34 ffX8_191 rfl rfl ?_ -- held
          refine wp_iload_n (i := 2) (q := 38) dX8_noteHeld_37 rfl rfl rfl ?_
          rw [h113]
          refine wm_iastN (q := 39) dX8_noteHeld_38 ⟨by decide, by decide, rfl⟩ rfl (by simp only [mlen]; omega) (by decide) rfl ?_
          refine wp_aload_n (i := 0) (q := 40) dX8_noteHeld_39 rfl rfl rfl ?_
          refine wm_getA (k := 13) (o := 10) (q := 43) dX8_noteHeld_40 ffX8_38 rfl rfl rfl ?_ -- heldCode
          refine wp_aload_n (i := 0) (q := 44) dX8_noteHeld_43 rfl rfl rfl ?_
          refine wm_getI (k := 11) (q := 47) dX8_noteHeld_44 ffX8_191 rfl rfl ?_ -- held
          refine wp_aload_n (i := 0) (q := 48) dX8_noteHeld_47 rfl rfl rfl ?_
          refine wm_getA (k := 10) (o := 8) (q := 51) dX8_noteHeld_48 ffX8_32 rfl rfl rfl ?_ -- code
          refine wp_iload_n (i := 3) (q := 52) dX8_noteHeld_51 rfl rfl rfl ?_
          refine wm_ialdN (q := 53) dX8_noteHeld_52 ⟨by decide, by decide, rfl⟩ rfl (by simp only [mlen]; omega) (by decide) rfl ?_
          rw [h113, up2_ne (show 8 ≠ 9 by decide), hgk]
          refine wm_iastN (q := 54) dX8_noteHeld_53 ⟨by decide, by decide, rfl⟩ rfl (by simp only [mlen]; omega) (by decide) rfl ?_
          refine wp_aload_n (i := 0) (q := 55) dX8_noteHeld_54 rfl rfl rfl ?_
          refine wp_dup (q := 56) dX8_noteHeld_55 rfl rfl ?_
          refine wm_getI (k := 11) (q := 59) dX8_noteHeld_56 ffX8_191 rfl rfl ?_ -- held
          refine wp_iconst (v := nI 1) (q := 60) dX8_noteHeld_59 (by decide) rfl ?_
          refine wp_iadd (q := 61) dX8_noteHeld_60 rfl ?_
          rw [h113, nI_add]
          refine wm_putI (k := 11) (q := 64) dX8_noteHeld_61 ffX8_191 rfl rfl ?_ -- held
          refine wp_iinc (v := _ + nI 1) (lv' := [_, _, some _, _]) (q := 67) dX8_noteHeld_64 rfl rfl (by decide) rfl rfl ?_
          refine wp_goto (q := 21) dX8_noteHeld_67 (by decide) ?_
          rw [nI_add]
          have hget : (hdS A p s)[k]? = some (s, (gl A p s false)[k]) := by unfold hdS; rw [List.getElem?_map, List.getElem?_eq_getElem hkl]; rfl
          have htk : (hdS A p s).take (k + 1) = (hdS A p s).take k ++ [(s, (gl A p s false)[k])] := by rw [List.take_add_one, hget]; rfl
          refine ih21 (k + 1) (by omega) _ _ (hS3.tr ((SC.u2 (by decide)).tr ((SC.u2 (by decide)).tr (SC.uI (by decide))))) (by simp [upd, h93]) (by rw [up2_ne (show 8 ≠ 10 by decide), up2_ne (show 8 ≠ 9 by decide)]; exact hf3) ?_ ?_
          · rw [htk, ← List.append_assoc, List.length_append, htl]
            simp [upd]
          · rw [htk, ← List.append_assoc, up2_ne (show 9 ≠ 10 by decide), up2_row, up2_row, up2_ne (show 10 ≠ 9 by decide)]
            have := fwp_app (q := (s, (gl A p s false)[k])) hfp
            rw [htl] at this
            exact this
      exact P21 _ 0 (Nat.zero_add _) I2 A2 (hS.tr (hS2.mo (by decide) (by decide))) h9 hf8 (by rw [List.take_zero, List.append_nil, hS2.1 11 (by decide)]; exact h11) (by rw [List.take_zero, List.append_nil, hS2.2 9 (by decide), hS2.2 10 (by decide)]; exact hf)
  exact P7 3 0 (by decide) _ A [] _ (SC.uI (by decide)) (by simp [upd]) (fun j c h => by simp at h) (List.nil_append _)
theorem tX8_readRow {v0 v1 v2 v3 : Int32} (hd : 7 ≤ d) (hp : p < 6) (hM : MP A p) (hn : nA A p < 40) : mt l mX8_readRow d 0 0 [.ref b, .int (nI p), .int v0, .int v1, .int v2, .int v3] (sz, mh b I L A B g) (fun rv h' => rv = some (.int (nI (dl A p v0 v1 v2 v3).length)) ∧ ∃ I' A', h' = (sz, mh b I' L A' B g) ∧ SC [7, 9, 11, 14] [7, 8, 9, 10, 11] I (rwA A p v0 v1 v2 v3) I' A' ∧ I' 14 = nI (dl A p v0 v1 v2 v3).length ∧ fwc (A' 11) (dl A p v0 v1 v2 v3)) := by
  have m1 := hM.1
  have m2 := hM.2.1
  have m3 := hM.2.2.1
  have hlen := hdF_len (A := A) (p := p) m2
  have hMw := rwA_MP (a := v0) (b := v1) (c := v2) (d := v3) hM hn
  refine mt_in (lv := [_, _, _, _, _, _, _, _, _]) (by decide) (Nat.le_of_ble_eq_true rfl) rfl ?_
  refine wp_aload_n (i := 0) (q := 1) dX8_readRow_0 rfl rfl rfl ?_
  refine wp_iload_n (i := 1) (q := 2) dX8_readRow_1 rfl rfl rfl ?_
  refine wp_V (μ' := mX8_noteHeld) (ci := 8) (q := 5) (tX8_noteHeld (d := d - 1) (by omega) hp hM) dX8_readRow_2 okX8_noteHeld lkX8_194 mh_obj rfl rfl rfl (Nat.le_of_ble_eq_true rfl) (by omega) rfl (fun rv hx hq => ?_)
  obtain ⟨rfl, I1, A1, rfl, hS, h11, hf⟩ := hq
  have hag := ag_of hS (by decide)
  refine wp_sipush (v := nI 160) (q := 8) dX8_readRow_5 (by decide) rfl ?_
  refine wp_iload_n (i := 1) (q := 9) dX8_readRow_8 rfl rfl rfl ?_
  refine wp_imul (q := 10) dX8_readRow_9 rfl ?_
  refine wp_iconst (v := nI 4) (q := 11) dX8_readRow_10 (by decide) rfl ?_
  refine wp_aload_n (i := 0) (q := 12) dX8_readRow_11 rfl rfl rfl ?_
  refine wm_getA (k := 2) (o := 2) (q := 15) dX8_readRow_12 ffX8_13 rfl rfl rfl ?_ -- many
  refine wp_iload_n (i := 1) (q := 16) dX8_readRow_15 rfl rfl rfl ?_
  refine wm_ialdN (q := 17) dX8_readRow_16 ⟨by decide, by decide, rfl⟩ rfl (by simp only [mlen]; omega) (by decide) rfl ?_
  rw [hag.2.1, m3, pk_mul]
  refine wp_imul (q := 18) dX8_readRow_17 rfl ?_
  rw [pk_mul]
  refine wp_iadd (q := 19) dX8_readRow_18 rfl ?_
  rw [nI_add]
  refine wp_istore (lv' := [_, _, _, _, _, some _, _, _, _]) (q := 21) dX8_readRow_19 (by decide) rfl rfl ?_
  refine wp_aload_n (i := 0) (q := 22) dX8_readRow_21 rfl rfl rfl ?_
  refine wm_getA (k := 6) (o := 6) (q := 25) dX8_readRow_22 ffX8_26 rfl rfl rfl ?_ -- numbers
  refine wp_iload (q := 27) dX8_readRow_25 rfl rfl ?_
  refine wp_iload_n (i := 2) (q := 28) dX8_readRow_27 rfl rfl rfl ?_
  refine wm_iastN (q := 29) dX8_readRow_28 ⟨by decide, by decide, rfl⟩ rfl (by simp only [mlen]; omega) (by decide) rfl ?_
  refine wp_aload_n (i := 0) (q := 30) dX8_readRow_29 rfl rfl rfl ?_
  refine wm_getA (k := 6) (o := 6) (q := 33) dX8_readRow_30 ffX8_26 rfl rfl rfl ?_ -- numbers
  refine wp_iload (q := 35) dX8_readRow_33 rfl rfl ?_
  refine wp_iconst (v := nI 1) (q := 36) dX8_readRow_35 (by decide) rfl ?_
  refine wp_iadd (q := 37) dX8_readRow_36 rfl ?_
  refine wp_iload_n (i := 3) (q := 38) dX8_readRow_37 rfl rfl rfl ?_
  rw [nI_add]
  refine wm_iastN (q := 39) dX8_readRow_38 ⟨by decide, by decide, rfl⟩ rfl (by simp only [mlen]; omega) (by decide) rfl ?_
  refine wp_aload_n (i := 0) (q := 40) dX8_readRow_39 rfl rfl rfl ?_
  refine wm_getA (k := 6) (o := 6) (q := 43) dX8_readRow_40 ffX8_26 rfl rfl rfl ?_ -- numbers
  refine wp_iload (q := 45) dX8_readRow_43 rfl rfl ?_
  refine wp_iconst (v := nI 2) (q := 46) dX8_readRow_45 (by decide) rfl ?_
  refine wp_iadd (q := 47) dX8_readRow_46 rfl ?_
  refine wp_iload (q := 49) dX8_readRow_47 rfl rfl ?_
  rw [nI_add]
  refine wm_iastN (q := 50) dX8_readRow_49 ⟨by decide, by decide, rfl⟩ rfl (by simp only [mlen]; omega) (by decide) rfl ?_
  refine wp_aload_n (i := 0) (q := 51) dX8_readRow_50 rfl rfl rfl ?_
  refine wm_getA (k := 6) (o := 6) (q := 54) dX8_readRow_51 ffX8_26 rfl rfl rfl ?_ -- numbers
  refine wp_iload (q := 56) dX8_readRow_54 rfl rfl ?_
  refine wp_iconst (v := nI 3) (q := 57) dX8_readRow_56 (by decide) rfl ?_
  refine wp_iadd (q := 58) dX8_readRow_57 rfl ?_
  refine wp_iload (q := 60) dX8_readRow_58 rfl rfl ?_
  rw [nI_add]
  refine wm_iastN (q := 61) dX8_readRow_60 ⟨by decide, by decide, rfl⟩ rfl (by simp only [mlen]; omega) (by decide) rfl ?_
  refine wp_aload_n (i := 0) (q := 62) dX8_readRow_61 rfl rfl rfl ?_
  refine wm_getA (k := 2) (o := 2) (q := 65) dX8_readRow_62 ffX8_13 rfl rfl rfl ?_ -- many
  refine wp_iload_n (i := 1) (q := 66) dX8_readRow_65 rfl rfl rfl ?_
  refine wp_dup2 (q := 67) dX8_readRow_66 rfl rfl rfl ?_
  refine wm_ialdN (q := 68) dX8_readRow_67 ⟨by decide, by decide, rfl⟩ rfl (by simp only [mlen]; omega) (by decide) rfl ?_
  refine wp_iconst (v := nI 1) (q := 69) dX8_readRow_68 (by decide) rfl ?_
  refine wp_iadd (q := 70) dX8_readRow_69 rfl ?_
  rw [up2_ne (show 2 ≠ 6 by decide), up2_ne (show 2 ≠ 6 by decide), up2_ne (show 2 ≠ 6 by decide), up2_ne (show 2 ≠ 6 by decide), hag.2.1, m3, nI_add]
  refine wm_iastN (q := 71) dX8_readRow_70 ⟨by decide, by decide, rfl⟩ rfl (by simp only [mlen]; omega) (by decide) rfl ?_
  refine wp_aload_n (i := 0) (q := 72) dX8_readRow_71 rfl rfl rfl ?_
  refine wp_iconst (v := nI 0) (q := 73) dX8_readRow_72 (by decide) rfl ?_
  refine wm_putI (k := 14) (q := 76) dX8_readRow_73 ffX8_197 rfl rfl ?_ -- deaths
  refine wp_iconst (v := nI 0) (q := 77) dX8_readRow_76 (by decide) rfl ?_
  refine wp_istore (lv' := [_, _, _, _, _, _, some _, _, _]) (q := 79) dX8_readRow_77 (by decide) rfl rfl ?_
  have hSw : SC [7, 9, 11, 14] [7, 8, 9, 10, 11] I (rwA A p v0 v1 v2 v3) (upd I1 14 (nI 0)) (up2 (up2 (up2 (up2 (up2 A1 6 (160 * p + 4 * nA A p) v0) 6 (160 * p + 4 * nA A p + 1) v1) 6 (160 * p + 4 * nA A p + 2) v2) 6 (160 * p + 4 * nA A p + 3) v3) 2 p (nI (nA A p + 1))) := by
    refine ⟨fun k hk => ?_, fun o ho => ?_⟩
    · have hk14 : k ≠ 14 := fun q => hk (by rw [q]; decide)
      rw [show upd I1 14 (nI 0) k = I1 k by simp [upd, hk14]]
      exact hS.1 k (fun q => hk (by simp at q ⊢; omega))
    · have hAo : A1 o = A o := hS.2 o (fun q => ho (by simp at q ⊢; omega))
      unfold rwA
      funext z
      simp only [up2, hAo]
  have e9 : ∀ o, o ≠ 6 → o ≠ 2 → (up2 (up2 (up2 (up2 (up2 A1 6 (160 * p + 4 * nA A p) v0) 6 (160 * p + 4 * nA A p + 1) v1) 6 (160 * p + 4 * nA A p + 2) v2) 6 (160 * p + 4 * nA A p + 3) v3) 2 p (nI (nA A p + 1))) o = A1 o := fun o h6 h2 => by rw [up2_ne h2, up2_ne h6, up2_ne h6, up2_ne h6, up2_ne h6]
  have hf9 : fwp (up2 (up2 (up2 (up2 (up2 A1 6 (160 * p + 4 * nA A p) v0) 6 (160 * p + 4 * nA A p + 1) v1) 6 (160 * p + 4 * nA A p + 2) v2) 6 (160 * p + 4 * nA A p + 3) v3) 2 p (nI (nA A p + 1)) 9) (up2 (up2 (up2 (up2 (up2 A1 6 (160 * p + 4 * nA A p) v0) 6 (160 * p + 4 * nA A p + 1) v1) 6 (160 * p + 4 * nA A p + 2) v2) 6 (160 * p + 4 * nA A p + 3) v3) 2 p (nI (nA A p + 1)) 10) (hdF A p 0) := by
    rw [e9 9 (by decide) (by decide), e9 10 (by decide) (by decide)]
    exact hf
  have P79 : ∀ n k, k + n = (hdF A p 0).length → ∀ (I2 : Nat → Int32) (A2 : Nat → Nat → Int32) (acc : List Nat) (j8 : Option Value), SC [7, 9, 11, 14] [7, 8, 9, 10, 11] I (rwA A p v0 v1 v2 v3) I2 A2 → I2 11 = nI (hdF A p 0).length → fwp (A2 9) (A2 10) (hdF A p 0) → I2 14 = nI acc.length → fwc (A2 11) acc → acc.length ≤ k → acc ++ dlF (rwA A p v0 v1 v2 v3) p ((hdF A p 0).drop k) = dl A p v0 v1 v2 v3 → wp l mX8_readRow [] d 0 0 (fun rv h' => rv = some (.int (nI (dl A p v0 v1 v2 v3).length)) ∧ ∃ I' A', h' = (sz, mh b I' L A' B g) ∧ SC [7, 9, 11, 14] [7, 8, 9, 10, 11] I (rwA A p v0 v1 v2 v3) I' A' ∧ I' 14 = nI (dl A p v0 v1 v2 v3).length ∧ fwc (A' 11) (dl A p v0 v1 v2 v3)) (sz, mh b I2 L A2 B g) 79 [some (.ref b), some (.int (nI p)), some (.int v0), some (.int v1), some (.int v2), some (.int v3), some (.int (nI (160 * p + 4 * nA A p))), some (.int (nI k)), j8] [] := by
    intro n
    induction n with
    | zero =>
      intro k hk I2 A2 acc j8 hS2 h112 hf2 h14 hfc hak he
      refine wp_iload (q := 81) dX8_readRow_79 rfl rfl ?_
      refine wp_aload_n (i := 0) (q := 82) dX8_readRow_81 rfl rfl rfl ?_
      refine wm_getI (k := 11) (q := 85) dX8_readRow_82 ffX8_191 rfl rfl ?_ -- held
      rw [h112]
      refine wp_icmp_ge (t := 169) (q := 88) dX8_readRow_85 (by decide) rfl (fun hc => ?_) (fun hc => ?_)
      · refine wp_aload_n (i := 0) (q := 170) dX8_readRow_169 rfl rfl rfl ?_
        refine wm_getI (k := 14) (q := 173) dX8_readRow_170 ffX8_197 rfl rfl ?_ -- deaths
        rw [h14]
        rw [List.drop_of_length_le (by omega), show dlF (rwA A p v0 v1 v2 v3) p [] = [] from rfl, List.append_nil] at he
        subst he
        refine wp_iret dX8_readRow_173 rfl ?_
        exact ⟨rfl, I2, A2, rfl, hS2, h14, hfc⟩
      · exact absurd ((nI_leI (by omega) (by omega)).mpr (by omega)) hc
    | succ n ih =>
      intro k hk I2 A2 acc j8 hS2 h112 hf2 h14 hfc hak he
      have hkl : k < (hdF A p 0).length := by omega
      obtain ⟨f9, f10⟩ := hf2 k _ (List.getElem?_eq_getElem hkl)
      have hmem := hdF_mem (A := A) (p := p) m2 (List.getElem_mem hkl)
      rw [List.drop_eq_getElem_cons hkl] at he
      generalize hqq : (hdF A p 0)[k] = qq at f9 f10 hmem he
      obtain ⟨s, c⟩ := qq
      dsimp only at f9 f10 hmem
      obtain ⟨e1, e2, e3, e4, e5⟩ := hmem
      have hag2 := ag_of hS2 (by decide)
      refine wp_iload (q := 81) dX8_readRow_79 rfl rfl ?_
      refine wp_aload_n (i := 0) (q := 82) dX8_readRow_81 rfl rfl rfl ?_
      refine wm_getI (k := 11) (q := 85) dX8_readRow_82 ffX8_191 rfl rfl ?_ -- held
      rw [h112]
      refine wp_icmp_ge (t := 169) (q := 88) dX8_readRow_85 (by decide) rfl (fun hc => ?_) (fun hc => ?_)
      · exact absurd ((nI_leI (by omega) (by omega)).mp hc) (by omega)
      refine wp_aload_n (i := 0) (q := 89) dX8_readRow_88 rfl rfl rfl ?_
      refine wm_getA (k := 13) (o := 10) (q := 92) dX8_readRow_89 ffX8_38 rfl rfl rfl ?_ -- heldCode
      refine wp_iload (q := 94) dX8_readRow_92 rfl rfl ?_
      refine wm_ialdN (q := 95) dX8_readRow_94 ⟨by decide, by decide, rfl⟩ rfl (by simp only [mlen]; omega) (by decide) rfl ?_
      rw [f10]
      refine wp_istore (lv' := [_, _, _, _, _, _, _, some _, _]) (q := 97) dX8_readRow_95 (by decide) rfl rfl ?_
      refine wp_aload_n (i := 0) (q := 98) dX8_readRow_97 rfl rfl rfl ?_
      refine wp_iload_n (i := 1) (q := 99) dX8_readRow_98 rfl rfl rfl ?_
      refine wp_aload_n (i := 0) (q := 100) dX8_readRow_99 rfl rfl rfl ?_
      refine wm_getA (k := 12) (o := 9) (q := 103) dX8_readRow_100 ffX8_35 rfl rfl rfl ?_ -- heldSide
      refine wp_iload (q := 105) dX8_readRow_103 rfl rfl ?_
      refine wm_ialdN (q := 106) dX8_readRow_105 ⟨by decide, by decide, rfl⟩ rfl (by simp only [mlen]; omega) (by decide) rfl ?_
      rw [f9]
      refine wp_iload (q := 108) dX8_readRow_106 rfl rfl ?_
      refine wp_bipush (v := nI 100) (q := 110) dX8_readRow_108 (by decide) rfl ?_
      refine wp_idiv (q := 111) dX8_readRow_110 (by exact nI_ne0 (by decide) (by decide)) rfl ?_
      refine wp_iload (q := 113) dX8_readRow_111 rfl rfl ?_
      refine wp_bipush (v := nI 10) (q := 115) dX8_readRow_113 (by decide) rfl ?_
      refine wp_idiv (q := 116) dX8_readRow_115 (by exact nI_ne0 (by decide) (by decide)) rfl ?_
      refine wp_bipush (v := nI 10) (q := 118) dX8_readRow_116 (by decide) rfl ?_
      refine wp_irem (q := 119) dX8_readRow_118 (by exact nI_ne0 (by decide) (by decide)) rfl ?_
      refine wp_iload (q := 121) dX8_readRow_119 rfl rfl ?_
      refine wp_bipush (v := nI 10) (q := 123) dX8_readRow_121 (by decide) rfl ?_
      refine wp_irem (q := 124) dX8_readRow_123 (by exact nI_ne0 (by decide) (by decide)) rfl ?_
      rw [pk_rem (a := c) (d := 10) (by omega) (by decide) (by decide), pk_div (a := c) (d := 100) (by omega) (by decide) (by decide), pk_div (a := c) (d := 10) (by omega) (by decide) (by decide), pk_rem (a := c / 10) (d := 10) (by omega) (by decide) (by decide)]
      refine wp_V (μ' := mX8_isSo) (ci := 8) (q := 127) (tX8_isSo (d := d - 1) (j := c % 10) (by omega) hp e1 (by omega) (fun _ _ => ⟨rfl, e4⟩) e2 (MP_ag hag2 hMw)) dX8_readRow_124 okX8_isSo lkX8_174 mh_obj rfl rfl rfl (Nat.le_of_ble_eq_true rfl) (by omega) rfl (fun rv hx hq => ?_)
      obtain ⟨rfl, I3, A3, rfl, hS3⟩ := hq
      rw [isSoB_ag hag2]
      show wp _ _ _ _ _ _ _ _ _ _ [.int (b2 (isSoB (rwA A p v0 v1 v2 v3) p s (c / 100) (c / 10 % 10) (c % 10)))]
      have h113 : I3 11 = nI (hdF A p 0).length := (hS3.1 11 (by decide)).trans h112
      have hf3 : fwp (A3 9) (A3 10) (hdF A p 0) := by rw [hS3.2 9 (by decide), hS3.2 10 (by decide)]; exact hf2
      have h143 : I3 14 = nI acc.length := (hS3.1 14 (by decide)).trans h14
      have hfc3 : fwc (A3 11) acc := by rw [hS3.2 11 (by decide)]; exact hfc
      have hS3 : SC [7, 9, 11, 14] [7, 8, 9, 10, 11] I (rwA A p v0 v1 v2 v3) I3 A3 := hS2.tr (hS3.mo (by decide) (by decide))
      obtain ⟨f93, f103⟩ := hf3 k _ (List.getElem?_eq_getElem hkl)
      rw [hqq] at f93
      refine wp_if_ne (t := 163) (q := 130) dX8_readRow_127 (by decide) rfl (fun hso => ?_) (fun hso => ?_)
      · have hk0 : dyB (rwA A p v0 v1 v2 v3) p (s, c) = false := by unfold dyB; rw [show isSoB (rwA A p v0 v1 v2 v3) p s (c / 100) (c / 10 % 10) (c % 10) = true from b2_ne0.mp hso]; rfl
        refine wp_iinc (v := _ + nI 1) (lv' := [_, _, _, _, _, _, some _, _, _]) (q := 166) dX8_readRow_163 rfl rfl (by decide) rfl rfl ?_
        refine wp_goto (q := 79) dX8_readRow_166 (by decide) ?_
        rw [nI_add]
        refine ih (k + 1) (by omega) I3 A3 acc _ hS3 h113 hf3 h143 hfc3 (by omega) ?_
        rw [← he]
        unfold dlF
        rw [List.filter_cons, if_neg (by rw [hk0]; decide)]
      · have hk0 : dyB (rwA A p v0 v1 v2 v3) p (s, c) = true := by unfold dyB; rw [show isSoB (rwA A p v0 v1 v2 v3) p s (c / 100) (c / 10 % 10) (c % 10) = false from b2_eq0.mp hso]; rfl
        refine wp_aload_n (i := 0) (q := 131) dX8_readRow_130 rfl rfl rfl ?_
        refine wm_getA (k := 15) (o := 11) (q := 134) dX8_readRow_131 ffX8_41 rfl rfl rfl ?_ -- death
        refine wp_aload_n (i := 0) (q := 135) dX8_readRow_134 rfl rfl rfl ?_
        refine wm_getI (k := 14) (q := 138) dX8_readRow_135 ffX8_197 rfl rfl ?_ -- deaths
        refine wp_sipush (v := nI 1000) (q := 141) dX8_readRow_138 (by decide) rfl ?_
        refine wp_aload_n (i := 0) (q := 142) dX8_readRow_141 rfl rfl rfl ?_
        refine wm_getA (k := 12) (o := 9) (q := 145) dX8_readRow_142 ffX8_35 rfl rfl rfl ?_ -- heldSide
        refine wp_iload (q := 147) dX8_readRow_145 rfl rfl ?_
        refine wm_ialdN (q := 148) dX8_readRow_147 ⟨by decide, by decide, rfl⟩ rfl (by simp only [mlen]; omega) (by decide) rfl ?_
        rw [f93]
        refine wp_imul (q := 149) dX8_readRow_148 rfl ?_
        refine wp_iload (q := 151) dX8_readRow_149 rfl rfl ?_
        refine wp_iadd (q := 152) dX8_readRow_151 rfl ?_
        rw [h143, pk_mul, nI_add]
        refine wm_iastN (q := 153) dX8_readRow_152 ⟨by decide, by decide, rfl⟩ rfl (by simp only [mlen]; omega) (by decide) rfl ?_
        refine wp_aload_n (i := 0) (q := 154) dX8_readRow_153 rfl rfl rfl ?_
        refine wp_dup (q := 155) dX8_readRow_154 rfl rfl ?_
        refine wm_getI (k := 14) (q := 158) dX8_readRow_155 ffX8_197 rfl rfl ?_ -- deaths
        refine wp_iconst (v := nI 1) (q := 159) dX8_readRow_158 (by decide) rfl ?_
        refine wp_iadd (q := 160) dX8_readRow_159 rfl ?_
        rw [h143, nI_add]
        refine wm_putI (k := 14) (q := 163) dX8_readRow_160 ffX8_197 rfl rfl ?_ -- deaths
        refine wp_iinc (v := _ + nI 1) (lv' := [_, _, _, _, _, _, some _, _, _]) (q := 166) dX8_readRow_163 rfl rfl (by decide) rfl rfl ?_
        refine wp_goto (q := 79) dX8_readRow_166 (by decide) ?_
        rw [nI_add]
        refine ih (k + 1) (by omega) _ _ (acc ++ [1000 * s + c]) _ (hS3.tr ((SC.u2 (by decide)).tr (SC.uI (by decide)))) (by simp [upd, h113]) (by rw [up2_ne (show 9 ≠ 11 by decide), up2_ne (show 10 ≠ 11 by decide)]; exact hf3) (by simp [upd]) ?_ (by simp; omega) ?_
        · rw [up2_row]
          exact fwc_app hfc3
        · rw [← he]
          unfold dlF
          rw [List.filter_cons, if_pos hk0, List.map_cons, List.append_assoc]
          rfl
  exact P79 _ 0 (Nat.zero_add _) _ _ [] _ hSw (by simp [upd, h11]) hf9 (by simp [upd]) (fun j c h => by simp at h) (by simp) rfl
theorem tX8_read {x v0 v1 v2 v3 : Int32} (hd : 8 ≤ d) (hM : MM I A np) : mt l mX8_read d 0 0 [.ref b, .int x, .int v0, .int v1, .int v2, .int v3] (sz, mh b I L A B g) (fun rv h' =>
    (ix np x = false ∧ rv = some (.int (-1)) ∧ h' = (sz, mh b I L A B g)) ∨ (ix np x = true ∧ arB (kA A x.toNatClampNeg) v0 v1 v2 v3 = false ∧ rv = some (.int (-2)) ∧ h' = (sz, mh b I L A B g)) ∨ (ix np x = true ∧ arB (kA A x.toNatClampNeg) v0 v1 v2 v3 = true ∧ nA A x.toNatClampNeg = 40 ∧ rv = some (.int (-4)) ∧ h' = (sz, mh b I L A B g)) ∨
    (ix np x = true ∧ arB (kA A x.toNatClampNeg) v0 v1 v2 v3 = true ∧ nA A x.toNatClampNeg < 40 ∧ rv = some (.int (nI (dl A x.toNatClampNeg v0 v1 v2 v3).length)) ∧ ∃ I' A', h' = (sz, mh b I' L A' B g) ∧ SC [7, 9, 11, 14] [7, 8, 9, 10, 11] I (rwA A x.toNatClampNeg v0 v1 v2 v3) I' A' ∧ I' 14 = nI (dl A x.toNatClampNeg v0 v1 v2 v3).length ∧ fwc (A' 11) (dl A x.toNatClampNeg v0 v1 v2 v3))) := by
  obtain ⟨hn, h0, hP, -⟩ := hM
  refine mt_in (lv := [_, _, _, _, _, _]) (by decide) (Nat.le_of_ble_eq_true rfl) rfl ?_
  refine wp_aload_n (i := 0) (q := 1) dX8_read_0 rfl rfl rfl ?_
  refine wp_iload_n (i := 1) (q := 2) dX8_read_1 rfl rfl rfl ?_
  refine wp_Vi (μ' := mX8_noPoint) (ci := 8) (q := 5) (tX8_noPoint (d := d - 1) (by omega) hn h0) dX8_read_2 okX8_noPoint lkX8_119 mh_obj rfl rfl rfl (Nat.le_of_ble_eq_true rfl) (by omega) rfl ?_
  refine wp_if_eq (t := 10) (q := 8) dX8_read_5 (by decide) rfl (fun hc => ?_) (fun hc => ?_)
  · have hc := b2n_eq0.mp hc
    obtain ⟨p, hp, rfl⟩ := ix_of hc (by omega)
    have hMp := hP p (by omega)
    have m3 := hMp.2.2.1
    have m4 := hMp.2.2.2.1
    rw [nI_clamp (by omega)]
    refine wp_aload_n (i := 0) (q := 11) dX8_read_10 rfl rfl rfl ?_
    refine wp_iload_n (i := 1) (q := 12) dX8_read_11 rfl rfl rfl ?_
    refine wp_iload_n (i := 2) (q := 13) dX8_read_12 rfl rfl rfl ?_
    refine wp_iload_n (i := 3) (q := 14) dX8_read_13 rfl rfl rfl ?_
    refine wp_iload (q := 16) dX8_read_14 rfl rfl ?_
    refine wp_iload (q := 18) dX8_read_16 rfl rfl ?_
    refine wp_Vi (μ' := mX8_areIn) (ci := 8) (q := 21) (tX8_areIn (d := d - 1) (by omega) (by omega) hMp) dX8_read_18 okX8_areIn lkX8_200 mh_obj rfl rfl rfl (Nat.le_of_ble_eq_true rfl) (by omega) rfl ?_
    refine wp_if_ne (t := 27) (q := 24) dX8_read_21 (by decide) rfl (fun ha => ?_) (fun ha => ?_)
    · have ha := b2_ne0.mp ha
      refine wp_aload_n (i := 0) (q := 28) dX8_read_27 rfl rfl rfl ?_
      refine wm_getA (k := 2) (o := 2) (q := 31) dX8_read_28 ffX8_13 rfl rfl rfl ?_ -- many
      refine wp_iload_n (i := 1) (q := 32) dX8_read_31 rfl rfl rfl ?_
      refine wm_ialdN (q := 33) dX8_read_32 ⟨by decide, by decide, rfl⟩ rfl (by simp only [mlen]; omega) (by decide) rfl ?_
      refine wp_bipush (v := nI 40) (q := 35) dX8_read_33 (by decide) rfl ?_
      rw [m3]
      refine wp_icmp_ne (t := 43) (q := 38) dX8_read_35 (by decide) rfl (fun hf => ?_) (fun hf => ?_)
      · have hlt : nA A p < 40 := by
          have : ¬ nA A p = 40 := fun q => hf (by rw [q])
          omega
        refine wp_aload_n (i := 0) (q := 44) dX8_read_43 rfl rfl rfl ?_
        refine wp_iload_n (i := 1) (q := 45) dX8_read_44 rfl rfl rfl ?_
        refine wp_iload_n (i := 2) (q := 46) dX8_read_45 rfl rfl rfl ?_
        refine wp_iload_n (i := 3) (q := 47) dX8_read_46 rfl rfl rfl ?_
        refine wp_iload (q := 49) dX8_read_47 rfl rfl ?_
        refine wp_iload (q := 51) dX8_read_49 rfl rfl ?_
        refine wp_V (μ' := mX8_readRow) (ci := 8) (q := 54) (tX8_readRow (d := d - 1) (by omega) (by omega) hMp hlt) dX8_read_51 okX8_readRow lkX8_203 mh_obj rfl rfl rfl (Nat.le_of_ble_eq_true rfl) (by omega) rfl (fun rv hx hq => ?_)
        obtain ⟨rfl, I', A', rfl, hq⟩ := hq
        show wp _ _ _ _ _ _ _ _ _ _ [.int (nI (dl A p v0 v1 v2 v3).length)]
        refine wp_iret dX8_read_54 rfl ?_
        exact Or.inr (Or.inr (Or.inr ⟨hc, ha, hlt, rfl, I', A', rfl, hq⟩))
      · have h40 : nA A p = 40 := (nI_eq (by omega) (by decide)).mp hf
        refine wp_bipush (v := (-4)) (q := 40) dX8_read_38 (by decide) rfl ?_
        refine wp_goto (q := 54) dX8_read_40 (by decide) ?_
        refine wp_iret dX8_read_54 rfl ?_
        exact Or.inr (Or.inr (Or.inl ⟨hc, ha, h40, rfl, rfl⟩))
    · refine wp_bipush (v := (-2)) (q := 26) dX8_read_24 (by decide) rfl ?_
      refine wp_iret dX8_read_26 rfl ?_
      exact Or.inr (Or.inl ⟨hc, b2_eq0.mp ha, rfl, rfl⟩)
  · refine wp_iconst (v := (-1)) (q := 9) dX8_read_8 (by decide) rfl ?_
    refine wp_iret dX8_read_9 rfl ?_
    exact Or.inl ⟨b2n_ne0.mp hc, rfl, rfl⟩
end M9
