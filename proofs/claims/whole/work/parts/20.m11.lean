/-! THE REFERENCE: runs -/
def stL (x : Nat → Int32) (n : Nat) : List Int32 := (List.range n).map x
def gt_ (xs : List Int32) (u : Nat) : Int32 := xs.getD u 0
theorem gt_stL {x : Nat → Int32} {n u : Nat} (h : u < n) : gt_ (stL x n) u = x u := by
  unfold gt_ stL
  rw [List.getD_eq_getElem?_getD, List.getElem?_map, List.getElem?_range h]
  rfl
theorem stL_congr {x y : Nat → Int32} {n : Nat} (h : ∀ u, u < n → y u = x u) : stL y n = stL x n := List.map_congr_left (fun u hu => h u (List.mem_range.mp hu))
theorem ldV_congr {A A' : Nat → Nat → Int32} {k v : Nat} {x y : Nat → Int32} (h9 : A' 19 = A 19) (hk : kA A' (frA A' k) = kA A (frA A k)) (h : ∀ u, u < kA A (frA A k) → y u = x u) : ldV A' k y v = ldV A k x v := by
  unfold ldV
  rw [hk]
  exact ldS_congr h9 _ h
theorem ldG_congr {A A' : Nat → Nat → Int32} {k n : Nat} {x y : Nat → Int32} (h : ∀ v, ldV A' k y v = ldV A k x v) : ldG A' k y n = ldG A k x n := by
  unfold ldG
  congr 1
  funext v
  rw [h v]
def rnF (A : Nat → Nat → Int32) (na : Nat) : Nat → Nat → Nat → List Int32 → Int32 ⊕ (Nat × List Int32)
  | 0, _, pt, xs => .inr (pt, xs)
  | m + 1, n, pt, xs => if na ≤ n % 10 ∨ ¬ frA A (n % 10) = pt then .inl (-1) else if ldG A (n % 10) (gt_ xs) (kA A (toA A (n % 10))) = false then .inl (-9) else rnF A na m (n / 10) (toA A (n % 10)) (stL (ldV A (n % 10) (gt_ xs)) (kA A (toA A (n % 10))))
theorem rwA_ag {A A' : Nat → Nat → Int32} {p : Nat} {a b c d : Int32} (h : ag A A') : ag (rwA A p a b c d) (rwA A' p a b c d) := by
  obtain ⟨h1, h2, h3, h4, h5, h6⟩ := id h
  have hn := nA_ag h (p := p)
  unfold rwA
  rw [hn]
  refine ⟨?_, ?_, ?_, ?_, ?_, ?_⟩ <;> (funext z; simp only [up2, h1, h2, h3, h4, h5, h6])
theorem hdF_ag {A A' : Nat → Nat → Int32} (h : ag A A') : hdF A' = hdF A := by
  funext p s
  unfold hdF
  congr 1
  funext s
  unfold hdS
  rw [gl_ag h]
theorem dyB_ag {A A' : Nat → Nat → Int32} (h : ag A A') : dyB A' = dyB A := by
  funext p q
  unfold dyB
  rw [isSoB_ag h]
theorem dl_ag {A A' : Nat → Nat → Int32} {p : Nat} {a b c d : Int32} (h : ag A A') : dl A' p a b c d = dl A p a b c d := by
  unfold dl dlF
  rw [hdF_ag h, dyB_ag (rwA_ag h)]
/-- what a reading leaves, be it read or run -/
def rdQ (sz b : Nat) (L : Int64) (B : Nat → Nat → Int64) (g : Nat → Option aE) (I : Nat → Int32) (A : Nat → Nat → Int32) (p : Nat) (v0 v1 v2 v3 : Int32) (rv : Option Value) (h' : aH) : Prop :=
  rv = some (.int (nI (dl A p v0 v1 v2 v3).length)) ∧ ∃ I' A', h' = (sz, mh b I' L A' B g) ∧ SC [7, 9, 11, 14] [7, 8, 9, 10, 11, 22, 23] I (rwA A p v0 v1 v2 v3) I' A' ∧ I' 14 = nI (dl A p v0 v1 v2 v3).length ∧ fwc (A' 11) (dl A p v0 v1 v2 v3)
def MSt (I : Nat → Int32) (np : Nat) : Prop := I 25 < 0 ∨ (I 25 = nI (I 25).toNatClampNeg ∧ (I 25).toNatClampNeg < np)
def runQ (sz b : Nat) (L : Int64) (B : Nat → Nat → Int64) (g : Nat → Option aE) (I : Nat → Int32) (A : Nat → Nat → Int32) (R : Int32 ⊕ (Nat × List Int32)) (rv : Option Value) (h' : aH) : Prop := match R with
  | .inl e => rv = some (.int e) ∧ ∃ A', h' = (sz, mh b I L A' B g) ∧ SC [] [22, 23] I A I A'
  | .inr (p, xs) => (nA A p = 40 ∧ rv = some (.int (-4)) ∧ ∃ A', h' = (sz, mh b I L A' B g) ∧ SC [] [22, 23] I A I A') ∨ (nA A p < 40 ∧ ∃ v0 v1 v2 v3 : Int32, stL (fun u => if u = 0 then v0 else if u = 1 then v1 else if u = 2 then v2 else v3) (kA A p) = xs ∧ rdQ sz b L B g I A p v0 v1 v2 v3 rv h')
def aRunOK (m n : Int32) : Bool := ix 10 m && !decide (n < 0)
section M11
variable {l : Launch} {d sz b p side r i j m shape np na : Nat} {I : Nat → Int32} {L : Int64} {A : Nat → Nat → Int32} {B : Nat → Nat → Int64} {g : Nat → Option aE}
theorem tX8_run {n m : Int32} (hd : 8 ≤ d) (hM : MM I A np) (hA : MA I A np na) (hSt : MSt I np) : mt l mX8_run d 0 0 [.ref b, .int n, .int m] (sz, mh b I L A B g) (fun rv h' =>
    (aRunOK m n = false ∧ rv = some (.int (-2)) ∧ h' = (sz, mh b I L A B g)) ∨ (aRunOK m n = true ∧ I 25 < 0 ∧ rv = some (.int (-3)) ∧ h' = (sz, mh b I L A B g)) ∨
    (aRunOK m n = true ∧ ¬ I 25 < 0 ∧ runQ sz b L B g I A (rnF A na m.toNatClampNeg n.toNatClampNeg (I 25).toNatClampNeg (stL (A 16) (kA A (I 25).toNatClampNeg))) rv h')) := by
  have hM0 := hM
  have hA0 := hA
  obtain ⟨hn, h0, hP, -⟩ := hM
  obtain ⟨a1, a2, a3⟩ := hA
  have bad : aRunOK m n = false → wp l mX8_run [] d 0 0 (fun rv h' =>
    (aRunOK m n = false ∧ rv = some (.int (-2)) ∧ h' = (sz, mh b I L A B g)) ∨ (aRunOK m n = true ∧ I 25 < 0 ∧ rv = some (.int (-3)) ∧ h' = (sz, mh b I L A B g)) ∨
    (aRunOK m n = true ∧ ¬ I 25 < 0 ∧ runQ sz b L B g I A (rnF A na m.toNatClampNeg n.toNatClampNeg (I 25).toNatClampNeg (stL (A 16) (kA A (I 25).toNatClampNeg))) rv h')) (sz, mh b I L A B g) 14 [some (.ref b), some (.int n), some (.int m), none, none, none] [] := by
    intro e
    refine wp_bipush (v := (-2)) (q := 16) dX8_run_14 (by decide) rfl ?_
    refine wp_iret dX8_run_16 rfl ?_
    exact Or.inl ⟨e, rfl, rfl⟩
  refine mt_in (lv := [_, _, _, _, _, _]) (by decide) (Nat.le_of_ble_eq_true rfl) rfl ?_
  refine wp_iload_n (i := 2) (q := 1) dX8_run_0 rfl rfl rfl ?_
  refine wp_iconst (v := nI 0) (q := 2) dX8_run_1 (by decide) rfl ?_
  refine wp_bipush (v := nI 9) (q := 4) dX8_run_2 (by decide) rfl ?_
  refine wp_Si (μ' := mX8_in) (q := 7) (tX8_in (d := d - 1)) dX8_run_4 okX8_in lkX8_115 rfl rfl (Nat.le_of_ble_eq_true rfl) (by omega) rfl ?_
  rw [inB_le (by decide)]
  refine wp_if_eq (t := 14) (q := 10) dX8_run_7 (by decide) rfl (fun hm => ?_) (fun hm => ?_)
  · exact bad (by unfold aRunOK; rw [show ix 10 m = false from b2_eq0.mp hm]; rfl)
  have hm : ix 10 m = true := b2_ne0.mp hm
  refine wp_iload_n (i := 1) (q := 11) dX8_run_10 rfl rfl rfl ?_
  refine wp_if_ge (t := 17) (q := 14) dX8_run_11 (by decide) rfl (fun hneg => ?_) (fun hneg => ?_)
  · have hneg : ¬ n < 0 := Int32.not_lt.mpr hneg
    have hok : aRunOK m n = true := by unfold aRunOK; rw [hm, decide_eq_false hneg]; rfl
    refine wp_aload_n (i := 0) (q := 18) dX8_run_17 rfl rfl rfl ?_
    refine wm_getI (k := 25) (q := 21) dX8_run_18 ffX8_109 rfl rfl ?_ -- startAt
    refine wp_if_ge (t := 27) (q := 24) dX8_run_21 (by decide) rfl (fun hs => ?_) (fun hs => ?_)
    · have hs : ¬ I 25 < 0 := Int32.not_lt.mpr hs
      obtain ⟨s1, s2⟩ := hSt.resolve_left hs
      obtain ⟨m, hm10, rfl⟩ := ix_of hm (by decide)
      obtain ⟨n0, hn31, rfl⟩ := nI_of hneg
      rw [nI_clamp (by omega), nI_clamp (by omega)]
      generalize hst : (I 25).toNatClampNeg = st at s1 s2 ⊢
      refine wp_aload_n (i := 0) (q := 28) dX8_run_27 rfl rfl rfl ?_
      refine wp_V (μ' := mX8_begin) (ci := 8) (q := 31) (tX8_begin (d := d - 1)) dX8_run_28 okX8_begin lkX8_281 mh_obj rfl rfl rfl (Nat.le_of_ble_eq_true rfl) (by omega) rfl (fun rv hx hq => ?_)
      obtain ⟨rfl, A1, rfl, hS, hw, hx⟩ := hq
      refine wp_iload_n (i := 1) (q := 32) dX8_run_31 rfl rfl rfl ?_
      refine wp_istore_n (i := 3) (lv' := [_, _, some _, _, _, _]) (q := 33) dX8_run_32 rfl (by decide) rfl rfl ?_
      refine wp_iconst (v := nI 0) (q := 34) dX8_run_33 (by decide) rfl ?_
      refine wp_istore (lv' := [_, _, _, some _, _, _]) (q := 36) dX8_run_34 (by decide) rfl rfl ?_
      have hSm : ∀ A2 : Nat → Nat → Int32, SC [] [22, 23] I A I A2 → MM I A2 np ∧ MA I A2 np na ∧ ag A A2 ∧ A2 19 = A 19 ∧ frA A2 = frA A ∧ toA A2 = toA A := by
        intro A2 hS2
        have hag := ag_of hS2 (by decide)
        have efr : frA A2 = frA A := by funext a; unfold frA; rw [hS2.2 17 (by decide)]
        have eto : toA A2 = toA A := by funext a; unfold toA; rw [hS2.2 18 (by decide)]
        refine ⟨⟨hn, h0, fun p hp => MP_ag hag (hP p hp), fun p hp => by rw [kA_ag hag]; exact hM0.2.2.2 p hp⟩, ⟨a1, a2, fun a ha => by rw [hS2.2 17 (by decide), hS2.2 18 (by decide), efr, eto]; exact a3 a ha⟩, hag, hS2.2 19 (by decide), efr, eto⟩
      have H : ∀ q at_, at_ + q = m → ∀ (A2 : Nat → Nat → Int32) (n pt : Nat) (j5 : Option Value), n < 2 ^ 31 → SC [] [22, 23] I A I A2 → A2 22 at_ = nI pt → pt < np → rnF A na q n pt (stL (fun u => A2 23 (4 * at_ + u)) (kA A pt)) = rnF A na m n0 st (stL (A 16) (kA A st)) → wp l mX8_run [] d 0 0 (fun rv h' =>
    (aRunOK (nI m) (nI n0) = false ∧ rv = some (.int (-2)) ∧ h' = (sz, mh b I L A B g)) ∨ (aRunOK (nI m) (nI n0) = true ∧ I 25 < 0 ∧ rv = some (.int (-3)) ∧ h' = (sz, mh b I L A B g)) ∨
    (aRunOK (nI m) (nI n0) = true ∧ ¬ I 25 < 0 ∧ runQ sz b L B g I A (rnF A na m n0 st (stL (A 16) (kA A st))) rv h')) (sz, mh b I L A2 B g) 36 [some (.ref b), some (.int (nI n0)), some (.int (nI m)), some (.int (nI n)), some (.int (nI at_)), j5] [] := by
        intro q
        induction q with
        | zero =>
          intro at_ hat A2 n pt j5 hn2 hS2 h22 hpt he
          obtain ⟨hM2, hA2, hag, e19, efr, eto⟩ := hSm A2 hS2
          obtain ⟨p1, p2, p3, p4, -⟩ := hP pt (by omega)
          have hat : at_ = m := by omega
          subst hat
          refine wp_iload (q := 38) dX8_run_36 rfl rfl ?_
          refine wp_iload_n (i := 2) (q := 39) dX8_run_38 rfl rfl rfl ?_
          refine wp_icmp_ge (t := 101) (q := 42) dX8_run_39 (by decide) rfl (fun hc => ?_) (fun hc => ?_)
          · rw [← he]
            refine wp_aload_n (i := 0) (q := 102) dX8_run_101 rfl rfl rfl ?_
            refine wm_getA (k := 33) (o := 22) (q := 105) dX8_run_102 ffX8_75 rfl rfl rfl ?_ -- wayPoint
            refine wp_iload_n (i := 2) (q := 106) dX8_run_105 rfl rfl rfl ?_
            refine wm_ialdN (q := 107) dX8_run_106 ⟨by decide, by decide, rfl⟩ rfl (by simp only [mlen]; omega) (by decide) rfl ?_
            rw [h22]
            refine wp_istore (lv' := [_, _, _, some _, _, _]) (q := 109) dX8_run_107 (by decide) rfl rfl ?_
            refine wp_aload_n (i := 0) (q := 110) dX8_run_109 rfl rfl rfl ?_
            refine wm_getA (k := 2) (o := 2) (q := 113) dX8_run_110 ffX8_13 rfl rfl rfl ?_ -- many
            refine wp_iload (q := 115) dX8_run_113 rfl rfl ?_
            refine wm_ialdN (q := 116) dX8_run_115 ⟨by decide, by decide, rfl⟩ rfl (by simp only [mlen]; omega) (by decide) rfl ?_
            refine wp_bipush (v := nI 40) (q := 118) dX8_run_116 (by decide) rfl ?_
            rw [hag.2.1, p3]
            refine wp_icmp_ne (t := 126) (q := 121) dX8_run_118 (by decide) rfl (fun hf => ?_) (fun hf => ?_)
            · have hlt : nA A pt < 40 := by
                have : ¬ nA A pt = 40 := fun q => hf (by rw [q])
                omega
              refine wp_aload_n (i := 0) (q := 127) dX8_run_126 rfl rfl rfl ?_
              refine wp_iload (q := 129) dX8_run_127 rfl rfl ?_
              refine wp_aload_n (i := 0) (q := 130) dX8_run_129 rfl rfl rfl ?_
              refine wm_getA (k := 34) (o := 23) (q := 133) dX8_run_130 ffX8_78 rfl rfl rfl ?_ -- wayNumber
              refine wp_iconst (v := nI 4) (q := 134) dX8_run_133 (by decide) rfl ?_
              refine wp_iload_n (i := 2) (q := 135) dX8_run_134 rfl rfl rfl ?_
              refine wp_imul (q := 136) dX8_run_135 rfl ?_
              rw [pk_mul]
              refine wm_ialdN (q := 137) dX8_run_136 ⟨by decide, by decide, rfl⟩ rfl (by simp only [mlen]; omega) (by decide) rfl ?_
              refine wp_aload_n (i := 0) (q := 138) dX8_run_137 rfl rfl rfl ?_
              refine wm_getA (k := 34) (o := 23) (q := 141) dX8_run_138 ffX8_78 rfl rfl rfl ?_ -- wayNumber
              refine wp_iconst (v := nI 4) (q := 142) dX8_run_141 (by decide) rfl ?_
              refine wp_iload_n (i := 2) (q := 143) dX8_run_142 rfl rfl rfl ?_
              refine wp_imul (q := 144) dX8_run_143 rfl ?_
              refine wp_iconst (v := nI 1) (q := 145) dX8_run_144 (by decide) rfl ?_
              refine wp_iadd (q := 146) dX8_run_145 rfl ?_
              rw [pk_mul, nI_add]
              refine wm_ialdN (q := 147) dX8_run_146 ⟨by decide, by decide, rfl⟩ rfl (by simp only [mlen]; omega) (by decide) rfl ?_
              refine wp_aload_n (i := 0) (q := 148) dX8_run_147 rfl rfl rfl ?_
              refine wm_getA (k := 34) (o := 23) (q := 151) dX8_run_148 ffX8_78 rfl rfl rfl ?_ -- wayNumber
              refine wp_iconst (v := nI 4) (q := 152) dX8_run_151 (by decide) rfl ?_
              refine wp_iload_n (i := 2) (q := 153) dX8_run_152 rfl rfl rfl ?_
              refine wp_imul (q := 154) dX8_run_153 rfl ?_
              refine wp_iconst (v := nI 2) (q := 155) dX8_run_154 (by decide) rfl ?_
              refine wp_iadd (q := 156) dX8_run_155 rfl ?_
              rw [pk_mul, nI_add]
              refine wm_ialdN (q := 157) dX8_run_156 ⟨by decide, by decide, rfl⟩ rfl (by simp only [mlen]; omega) (by decide) rfl ?_
              refine wp_aload_n (i := 0) (q := 158) dX8_run_157 rfl rfl rfl ?_
              refine wm_getA (k := 34) (o := 23) (q := 161) dX8_run_158 ffX8_78 rfl rfl rfl ?_ -- wayNumber
              refine wp_iconst (v := nI 4) (q := 162) dX8_run_161 (by decide) rfl ?_
              refine wp_iload_n (i := 2) (q := 163) dX8_run_162 rfl rfl rfl ?_
              refine wp_imul (q := 164) dX8_run_163 rfl ?_
              refine wp_iconst (v := nI 3) (q := 165) dX8_run_164 (by decide) rfl ?_
              refine wp_iadd (q := 166) dX8_run_165 rfl ?_
              rw [pk_mul, nI_add]
              refine wm_ialdN (q := 167) dX8_run_166 ⟨by decide, by decide, rfl⟩ rfl (by simp only [mlen]; omega) (by decide) rfl ?_
              refine wp_V (μ' := mX8_readRow) (ci := 8) (q := 170) (tX8_readRow (d := d - 1) (by omega) (by omega) (MP_ag hag (hP pt (by omega))) (by rw [nA_ag hag]; exact hlt)) dX8_run_167 okX8_readRow lkX8_203 mh_obj rfl rfl rfl (Nat.le_of_ble_eq_true rfl) (by omega) rfl (fun rv hx hq => ?_)
              obtain ⟨rfl, I3, A3, rfl, hS3, h14, h11⟩ := hq
              rw [dl_ag hag] at h14 h11 ⊢
              show wp _ _ _ _ _ _ _ _ _ _ [.int (nI (dl A pt _ _ _ _).length)]
              refine wp_iret dX8_run_170 rfl ?_
              refine Or.inr (Or.inr ⟨hok, hs, Or.inr ⟨hlt, _, _, _, _, ?_, rfl, I3, A3, rfl, ?_, h14, h11⟩⟩)
              · refine stL_congr (fun u hu => ?_)
                rcases (show u = 0 ∨ u = 1 ∨ u = 2 ∨ u = 3 by omega) with rfl | rfl | rfl | rfl <;> rfl
              · refine SC.tr ⟨fun _ _ => rfl, fun o ho => ?_⟩ (hS3.mo (by decide) (by decide))
                have hAo : A2 o = A o := hS2.2 o (fun q => ho (by simp at q ⊢; omega))
                unfold rwA
                rw [nA_ag hag]
                funext z
                simp only [up2, hAo]
            · have h40 : nA A pt = 40 := (nI_eq (by omega) (by decide)).mp hf
              refine wp_bipush (v := (-4)) (q := 123) dX8_run_121 (by decide) rfl ?_
              refine wp_goto (q := 170) dX8_run_123 (by decide) ?_
              refine wp_iret dX8_run_170 rfl ?_
              exact Or.inr (Or.inr ⟨hok, hs, Or.inl ⟨h40, rfl, A2, rfl, hS2⟩⟩)
          · exact absurd ((nI_leI (by omega) (by omega)).mpr (by omega)) hc
        | succ q ih =>
          intro at_ hat A2 n pt j5 hn2 hS2 h22 hpt he
          obtain ⟨hM2, hA2, hag, e19, efr, eto⟩ := hSm A2 hS2
          refine wp_iload (q := 38) dX8_run_36 rfl rfl ?_
          refine wp_iload_n (i := 2) (q := 39) dX8_run_38 rfl rfl rfl ?_
          refine wp_icmp_ge (t := 101) (q := 42) dX8_run_39 (by decide) rfl (fun hc => ?_) (fun hc => ?_)
          · exact absurd ((nI_leI (by omega) (by omega)).mp hc) (by omega)
          refine wp_iload_n (i := 3) (q := 43) dX8_run_42 rfl rfl rfl ?_
          refine wp_bipush (v := nI 10) (q := 45) dX8_run_43 (by decide) rfl ?_
          refine wp_irem (q := 46) dX8_run_45 (by exact nI_ne0 (by decide) (by decide)) rfl ?_
          rw [pk_rem (a := n) (d := 10) (by omega) (by decide) (by decide)]
          refine wp_istore (lv' := [_, _, _, _, some _, _]) (q := 48) dX8_run_46 (by decide) rfl rfl ?_
          refine wp_iload_n (i := 3) (q := 49) dX8_run_48 rfl rfl rfl ?_
          refine wp_bipush (v := nI 10) (q := 51) dX8_run_49 (by decide) rfl ?_
          refine wp_idiv (q := 52) dX8_run_51 (by exact nI_ne0 (by decide) (by decide)) rfl ?_
          rw [pk_div (a := n) (d := 10) (by omega) (by decide) (by decide)]
          refine wp_istore_n (i := 3) (lv' := [_, _, some _, _, _, _]) (q := 53) dX8_run_52 rfl (by decide) rfl rfl ?_
          refine wp_iload (q := 55) dX8_run_53 rfl rfl ?_
          refine wp_aload_n (i := 0) (q := 56) dX8_run_55 rfl rfl rfl ?_
          refine wm_getI (k := 27) (q := 59) dX8_run_56 ffX8_241 rfl rfl ?_ -- acts
          rw [a2]
          rw [rnF] at he
          have bad1 : (na ≤ n % 10 ∨ ¬ frA A (n % 10) = pt) → wp l mX8_run [] d 0 0 (fun rv h' =>
    (aRunOK (nI m) (nI n0) = false ∧ rv = some (.int (-2)) ∧ h' = (sz, mh b I L A B g)) ∨ (aRunOK (nI m) (nI n0) = true ∧ I 25 < 0 ∧ rv = some (.int (-3)) ∧ h' = (sz, mh b I L A B g)) ∨
    (aRunOK (nI m) (nI n0) = true ∧ ¬ I 25 < 0 ∧ runQ sz b L B g I A (rnF A na m n0 st (stL (A 16) (kA A st))) rv h')) (sz, mh b I L A2 B g) 79 [some (.ref b), some (.int (nI n0)), some (.int (nI m)), some (.int (nI (n / 10))), some (.int (nI at_)), some (.int (nI (n % 10)))] [] := by
            intro hb
            rw [if_pos hb] at he
            rw [← he]
            refine wp_iconst (v := (-1)) (q := 80) dX8_run_79 (by decide) rfl ?_
            refine wp_iret dX8_run_80 rfl ?_
            exact Or.inr (Or.inr ⟨hok, hs, rfl, A2, rfl, hS2⟩)
          refine wp_icmp_ge (t := 79) (q := 62) dX8_run_59 (by decide) rfl (fun hna => ?_) (fun hna => ?_)
          · exact bad1 (Or.inl ((nI_leI (by omega) (by omega)).mp hna))
          have hna : n % 10 < na := by
            rcases Nat.lt_or_ge (n % 10) na with q | q
            · exact q
            · exact absurd ((nI_leI (by omega) (by omega)).mpr q) hna
          obtain ⟨e1, e2, e3, e4⟩ := a3 (n % 10) hna
          have f2 := (hP (frA A (n % 10)) (by omega)).2.1
          have t2 := (hP (toA A (n % 10)) (by omega)).2.1
          refine wp_aload_n (i := 0) (q := 63) dX8_run_62 rfl rfl rfl ?_
          refine wm_getA (k := 28) (o := 17) (q := 66) dX8_run_63 ffX8_60 rfl rfl rfl ?_ -- from
          refine wp_iload (q := 68) dX8_run_66 rfl rfl ?_
          refine wm_ialdN (q := 69) dX8_run_68 ⟨by decide, by decide, rfl⟩ rfl (by simp only [mlen]; omega) (by decide) rfl ?_
          refine wp_aload_n (i := 0) (q := 70) dX8_run_69 rfl rfl rfl ?_
          refine wm_getA (k := 33) (o := 22) (q := 73) dX8_run_70 ffX8_75 rfl rfl rfl ?_ -- wayPoint
          refine wp_iload (q := 75) dX8_run_73 rfl rfl ?_
          refine wm_ialdN (q := 76) dX8_run_75 ⟨by decide, by decide, rfl⟩ rfl (by simp only [mlen]; omega) (by decide) rfl ?_
          rw [hS2.2 17 (by decide), e1, h22]
          refine wp_icmp_eq (t := 81) (q := 79) dX8_run_76 (by decide) rfl (fun hfr => ?_) (fun hfr => ?_)
          · have hfr : frA A (n % 10) = pt := (nI_eq (by omega) (by omega)).mp hfr
            rw [if_neg (by omega)] at he
            refine wp_aload_n (i := 0) (q := 82) dX8_run_81 rfl rfl rfl ?_
            refine wp_iload (q := 84) dX8_run_82 rfl rfl ?_
            refine wp_iload (q := 86) dX8_run_84 rfl rfl ?_
            refine wp_V (μ' := mX8_leads) (ci := 8) (q := 89) (tX8_leads (d := d - 1) (by omega) hM2 hA2 hna (by omega)) dX8_run_86 okX8_leads lkX8_265 mh_obj rfl rfl rfl (Nat.le_of_ble_eq_true rfl) (by omega) rfl (fun rv hx hq => ?_)
            obtain ⟨rfl, A3, rfl, hS3, h3a, h3b, h3c⟩ := hq
            have eV : ∀ v, ldV A2 (n % 10) (fun u => A2 23 (4 * at_ + u)) v = ldV A (n % 10) (gt_ (stL (fun u => A2 23 (4 * at_ + u)) (kA A pt))) v := fun v => ldV_congr e19 (by rw [kA_ag hag, efr]) (fun u hu => by rw [gt_stL (by rw [← hfr]; exact hu)])
            rw [eto, kA_ag hag, ldG_congr eV]
            rw [eto, kA_ag hag] at h3b
            show wp _ _ _ _ _ _ _ _ _ _ [.int (b2 (ldG A (n % 10) (gt_ (stL (fun u => A2 23 (4 * at_ + u)) (kA A pt))) (kA A (toA A (n % 10)))))]
            have hS4 := hS2.tr hS3
            refine wp_if_ne (t := 95) (q := 92) dX8_run_89 (by decide) rfl (fun hg => ?_) (fun hg => ?_)
            · rw [if_neg (by rw [b2_ne0.mp hg]; decide)] at he
              refine wp_iinc (v := _ + nI 1) (lv' := [_, _, _, some _, _, _]) (q := 98) dX8_run_95 rfl rfl (by decide) rfl rfl ?_
              refine wp_goto (q := 36) dX8_run_98 (by decide) ?_
              rw [nI_add]
              refine ih (at_ + 1) (by omega) A3 (n / 10) (toA A (n % 10)) _ (by omega) hS4 (by rw [h3a, eto]; simp [upd]) e4 ?_
              rw [← he]
              congr 1
              refine stL_congr (fun u hu => ?_)
              rw [← eV u, ← h3b u hu]
              rfl
            · rw [if_pos (b2_eq0.mp hg)] at he
              rw [← he]
              refine wp_bipush (v := (-9)) (q := 94) dX8_run_92 (by decide) rfl ?_
              refine wp_iret dX8_run_94 rfl ?_
              exact Or.inr (Or.inr ⟨hok, hs, rfl, A3, rfl, hS4⟩)
          · exact bad1 (Or.inr (fun q => hfr (by rw [q])))
      refine H m 0 (by omega) A1 n0 st _ hn31 hS (by rw [hw]; exact s1) s2 ?_
      congr 1
      refine stL_congr (fun u hu => ?_)
      have k4 := (hP st (by omega)).2.1
      rw [← hx u (by omega), Nat.mul_zero, Nat.zero_add]
    · have hs : I 25 < 0 := Int32.not_le.mp hs
      refine wp_bipush (v := (-3)) (q := 26) dX8_run_24 (by decide) rfl ?_
      refine wp_iret dX8_run_26 rfl ?_
      exact Or.inr (Or.inl ⟨hok, hs, rfl, rfl⟩)
  · have hneg : n < 0 := Int32.not_le.mp hneg
    exact bad (by unfold aRunOK; rw [decide_eq_true hneg, Bool.not_true, Bool.and_false])
end M11
