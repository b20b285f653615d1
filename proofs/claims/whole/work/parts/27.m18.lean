/-! THE REFERENCE: the rows of the basis -/
theorem gcN_cg {row row' : Nat → Int64} : ∀ m c d, (∀ j, c ≤ j → j < c + m → row j = row' j) → gcN row m c d = gcN row' m c d
  | 0, _, _, _ => rfl
  | m + 1, c, d, h => by
    unfold gcN
    rw [h c (by omega) (by omega)]
    exact gcN_cg m (c + 1) _ (fun j h1 h2 => h j (by omega) (by omega))
theorem dvF_cg {row row' : Nat → Int64} {n f : Nat} (hf : f < n) (h : ∀ j, j < n → row j = row' j) : dvF row n f = dvF row' n f := by
  unfold dvF
  rw [h f hf, gcN_cg n 0 0 (fun j _ h2 => h j (by omega))]
/-- a row of the basis before it is shortened, r rows taken in -/
def bS (t : Nat → Int64) (fs : List Nat) (y : Int64) (f : Nat) : Nat → Nat → Int64
  | 0, c => if c = f then y else 0
  | r + 1, c => if c = fs.getD r 0 then -t (5 * r + f) else bS t fs y f r c
theorem bS_f {t : Nat → Int64} {fs : List Nat} {y : Int64} {f : Nat} (h : f ∉ fs) : ∀ r, r ≤ fs.length → bS t fs y f r f = y
  | 0, _ => by unfold bS; rw [if_pos rfl]
  | r + 1, hr => by
    unfold bS
    have hm : fs.getD r 0 ∈ fs := by
      rw [List.getD_eq_getElem?_getD, List.getElem?_eq_getElem (by omega)]
      exact List.getElem_mem _
    have hne : ¬ f = fs.getD r 0 := fun q => h (by rw [q]; exact hm)
    rw [if_neg hne]
    exact bS_f h r (by omega)
/-- a row of the basis -/
def bR (n : Nat) (s : brT) (f c : Nat) : Int64 := bS s.1 s.2.1 s.2.2 f s.2.1.length c / dvF (bS s.1 s.2.1 s.2.2 f s.2.1.length) n f
def fcF (n : Nat) (fs : List Nat) (f : Nat) : List Nat := (List.range' f (n - f)).filter (frF fs)
theorem fcF_end {n f : Nat} {fs : List Nat} (h : n ≤ f) : fcF n fs f = [] := by
  unfold fcF
  rw [show n - f = 0 by omega]
  rfl
theorem fcF_step {n f : Nat} {fs : List Nat} (h : f < n) : fcF n fs f = if frF fs f = true then f :: fcF n fs (f + 1) else fcF n fs (f + 1) := by
  unfold fcF
  rw [show n - f = (n - (f + 1)) + 1 by omega, List.range'_succ, List.filter_cons]
/-- the free places, none while no reading is laid -/
def fcL (n rows : Nat) (fs : List Nat) : List Nat := if rows = 0 then [] else fcF n fs 0
def baF (n : Nat) (s : brT) (acc : List Nat) (t : Nat → Int64) : Nat → Int64 := fun z => if z / 5 < acc.length ∧ z % 5 < n then bR n s (acc.getD (z / 5) 0) (z % 5) else t z
def rwF (T : Nat → Int64) (s : brT) (k n f r : Nat) : Nat → Int64 := fun z => if z / 5 = k ∧ z % 5 < n then bS s.1 s.2.1 s.2.2 f r (z % 5) else T z
theorem frF_nm {fs : List Nat} {c : Nat} (h : frF fs c = true) : c ∉ fs := by
  unfold frF at h
  simpa using h
theorem rwF_sh {T : Nat → Int64} {s : brT} {n f : Nat} {acc : List Nat} (hf : f < n) (hn : n ≤ 5) : shF (rwF (baF n s acc T) s acc.length n f s.2.1.length) acc.length n f n = baF n s (acc ++ [f]) T := by
  funext z
  unfold shF
  rw [dvF_cg (row' := bS s.1 s.2.1 s.2.2 f s.2.1.length) hf (fun j hj => by unfold rwF; rw [if_pos ⟨by omega, by omega⟩, show (5 * acc.length + j) % 5 = j by omega])]
  by_cases w : z / 5 = acc.length ∧ z % 5 < n
  · rw [if_pos w]
    unfold rwF baF bR
    rw [if_pos w, List.length_append, List.length_singleton, if_pos ⟨by omega, w.2⟩]
    have hget : (acc ++ [f]).getD (z / 5) 0 = f := by rw [w.1]; simp [List.getD_eq_getElem?_getD]
    rw [hget]
  · rw [if_neg w]
    unfold rwF baF
    rw [if_neg w, List.length_append, List.length_singleton]
    by_cases w2 : z / 5 < acc.length ∧ z % 5 < n
    · rw [if_pos w2, if_pos ⟨by omega, w2.2⟩]
      rw [List.getD_eq_getElem?_getD, List.getD_eq_getElem?_getD, List.getElem?_append_left w2.1]
    · rw [if_neg w2, if_neg (by omega)]
section M18
variable {l : Launch} {d sz b np na p side : Nat} {I : Nat → Int32} {L : Int64} {A : Nat → Nat → Int32} {B : Nat → Nat → Int64} {g : Nat → Option aE}
/-- what findBasis leaves -/
def BT (A : Nat → Nat → Int32) (p side : Nat) (B : Nat → Nat → Int64) (I' : Nat → Int32) (L' : Int64) (A' : Nat → Nat → Int32) (B' : Nat → Nat → Int64) : Prop := LT A p side (B 12) I' L' A' B' ∧ I' 23 = nI (fcL (kA A p + 1) (rs A p side).length (slv A p side (B 12)).2.1).length ∧ B' 15 = baF (kA A p + 1) (slv A p side (B 12)) (fcL (kA A p + 1) (rs A p side).length (slv A p side (B 12)).2.1) (B 15)
theorem slv_inv (hM : MP A p) {t : Nat → Int64} : (∀ x ∈ (slv A p side t).2.1, x < kA A p + 1) ∧ (slv A p side t).2.1.length ≤ kA A p + 1 ∧ (slv A p side t).2.1.length ≤ (rs A p side).length ∧ ¬ (slv A p side t).2.2 = 0 :=
  brF_inv (by have := hM.2.1; omega) (kA A p + 1) 0 _ (by omega) (fun x hx => by simp at hx) (by simp) (by simp) (by show ¬ (1 : Int64) = 0; decide)
theorem tX8_findBasis (hd : 3 ≤ d) (hp : p < 6) (hs : side < 3) (hM : MP A p) : mt l mX8_findBasis d 0 0 [.ref b, .int (nI p), .int (nI side)] (sz, mh b I L A B g) (fun rv h' => rv = none ∧ ∃ I' L' A' B', h' = (sz, mh b I' L' A' B' g) ∧ SC [16, 17, 18, 23] [13, 14] I A I' A' ∧ SB [12, 15] B B' ∧ BT A p side B I' L' A' B') := by
  refine mt_in (lv := [_, _, _, _, _]) (by decide) (Nat.le_of_ble_eq_true rfl) rfl ?_
  refine wp_aload_n (i := 0) (q := 1) dX8_findBasis_0 rfl rfl rfl ?_
  refine wp_iload_n (i := 1) (q := 2) dX8_findBasis_1 rfl rfl rfl ?_
  refine wp_iload_n (i := 2) (q := 3) dX8_findBasis_2 rfl rfl rfl ?_
  refine wp_V (μ' := mX8_layTable) (ci := 8) (q := 6) (tX8_layTable (d := d - 1) (by omega) hp hs hM) dX8_findBasis_3 okX8_layTable lkX8_227 mh_obj rfl rfl rfl (Nat.le_of_ble_eq_true rfl) (by omega) rfl (fun rv hx hq => ?_)
  obtain ⟨rfl, I1, L1, A1, B1, rfl, hS, hB, t16, t17, t18, rfl, t12, t13, t14⟩ := hq
  obtain ⟨v1, v2, v3, v4⟩ := slv_inv (side := side) hM (t := B 12)
  have hk4 := hM.2.1
  have hrl := rs_len (A := A) (p := p) (side := side) hM.2.2.2.1
  have hB15 : B1 15 = B 15 := hB 15 (by decide)
  generalize hs0 : slv A p side (B 12) = s at *
  obtain ⟨t, fs, y⟩ := s
  dsimp only at t18 t12 t13 t14 v1 v2 v3 v4
  generalize hn0 : kA A p + 1 = n at *
  generalize hr0 : (rs A p side).length = rows at *
  show wp _ _ _ _ _ _ _ _ _ _ []
  refine wp_aload_n (i := 0) (q := 7) dX8_findBasis_6 rfl rfl rfl ?_
  refine wp_iconst (v := nI 0) (q := 8) dX8_findBasis_7 (by decide) rfl ?_
  refine wm_putI (k := 23) (q := 11) dX8_findBasis_8 ffX8_230 rfl rfl ?_ -- basis
  refine wp_iconst (v := nI 0) (q := 12) dX8_findBasis_11 (by decide) rfl ?_
  refine wp_istore_n (i := 3) (lv' := [_, _, some _, _, _]) (q := 13) dX8_findBasis_12 rfl (by decide) rfl rfl ?_
  have K : ∀ m f (acc : List Nat) (j4 : Option Value), f + m = n → acc ++ (if rows = 0 then [] else fcF n fs f) = fcL n rows fs → acc.length ≤ f → wp l mX8_findBasis [] d 0 0 (fun rv h' => rv = none ∧ ∃ I' L' A' B', h' = (sz, mh b I' L' A' B' g) ∧ SC [16, 17, 18, 23] [13, 14] I A I' A' ∧ SB [12, 15] B B' ∧ BT A p side B I' L' A' B') (sz, mh b (upd I1 23 (nI acc.length)) y A1 (upR B1 15 (baF n (t, fs, y) acc (B 15))) g) 13 [some (.ref b), some (.int (nI p)), some (.int (nI side)), some (.int (nI f)), j4] [] := by
    have hend : ∀ acc : List Nat, acc = fcL n rows fs → ∃ I' L' A' B', (sz, mh b (upd I1 23 (nI acc.length)) y A1 (upR B1 15 (baF n (t, fs, y) acc (B 15))) g) = (sz, mh b I' L' A' B' g) ∧ SC [16, 17, 18, 23] [13, 14] I A I' A' ∧ SB [12, 15] B B' ∧ BT A p side B I' L' A' B' := by
      intro acc ha
      refine ⟨_, _, _, _, rfl, SC.tr (hS.mo (by decide) (by decide)) (SC.uI (by decide)), SB.tr (hB.mo (by decide)) (SB.uR (by decide)), ?_⟩
      unfold BT LT
      rw [hs0, hn0, hr0]
      refine ⟨⟨by simpa [upd] using t16, by simpa [upd] using t17, by simpa [upd] using t18, rfl, by rw [upR_ne (by decide)]; exact t12, t13, t14⟩, ?_, ?_⟩
      · rw [ha]; simp [upd]
      · rw [upR_at, ha]
    have e17 : ∀ x, upd I1 23 x 17 = nI n := by intro x; simpa [upd] using t17
    have e16 : ∀ x, upd I1 23 x 16 = nI rows := by intro x; simpa [upd] using t16
    have e18 : ∀ x, upd I1 23 x 18 = nI fs.length := by intro x; simpa [upd] using t18
    have e23 : ∀ x, upd I1 23 x 23 = x := by intro x; simp [upd]
    intro m
    induction m with
    | zero =>
      intro f acc j4 hf he hal
      refine wp_iload_n (i := 3) (q := 14) dX8_findBasis_13 rfl rfl rfl ?_
      refine wp_aload_n (i := 0) (q := 15) dX8_findBasis_14 rfl rfl rfl ?_
      refine wm_getI (k := 17) (q := 18) dX8_findBasis_15 ffX8_214 rfl rfl ?_ -- columns
      rw [e17]
      refine wp_icmp_ge (t := 161) (q := 21) dX8_findBasis_18 (by decide) rfl (fun hc => ?_) (fun hc => ?_)
      · refine wp_vret dX8_findBasis_161 rfl ?_
        refine ⟨rfl, hend acc ?_⟩
        rw [fcF_end (by omega)] at he
        simpa using he
      · exact absurd ((nI_leI (by omega) (by omega)).mpr (by omega)) hc
    | succ m ih =>
      intro f acc j4 hf he hal
      refine wp_iload_n (i := 3) (q := 14) dX8_findBasis_13 rfl rfl rfl ?_
      refine wp_aload_n (i := 0) (q := 15) dX8_findBasis_14 rfl rfl rfl ?_
      refine wm_getI (k := 17) (q := 18) dX8_findBasis_15 ffX8_214 rfl rfl ?_ -- columns
      rw [e17]
      refine wp_icmp_ge (t := 161) (q := 21) dX8_findBasis_18 (by decide) rfl (fun hc => ?_) (fun hc => ?_)
      · exact absurd ((nI_leI (by omega) (by omega)).mp hc) (by omega)
      refine wp_aload_n (i := 0) (q := 22) dX8_findBasis_21 rfl rfl rfl ?_
      refine wm_getI (k := 16) (q := 25) dX8_findBasis_22 ffX8_217 rfl rfl ?_ -- rows
      rw [e16]
      refine wp_if_le (t := 161) (q := 28) dX8_findBasis_25 (by decide) rfl (fun hr => ?_) (fun hr => ?_)
      · refine wp_vret dX8_findBasis_161 rfl ?_
        refine ⟨rfl, hend acc ?_⟩
        have : rows = 0 := by
          have := (nI_leI (a := rows) (b := 0) (by omega) (by omega)).mp hr
          omega
        rw [if_pos this] at he
        simpa using he
      have hr1 : ¬ rows = 0 := fun q => hr (by rw [q]; decide)
      rw [if_neg hr1, fcF_step (by omega)] at he
      refine wp_aload_n (i := 0) (q := 29) dX8_findBasis_28 rfl rfl rfl ?_
      refine wm_getA (k := 21) (o := 14) (q := 32) dX8_findBasis_29 ffX8_51 rfl rfl rfl ?_ -- isFree
      refine wp_iload_n (i := 3) (q := 33) dX8_findBasis_32 rfl rfl rfl ?_
      refine wm_zaldN (q := 34) dX8_findBasis_33 ⟨by decide, by decide, rfl⟩ rfl (by simp only [mlen]; omega) (by decide) rfl ?_
      rw [t14 f (by omega)]
      refine wp_if_eq (t := 155) (q := 37) dX8_findBasis_34 (by decide) rfl (fun hfr => ?_) (fun hfr => ?_)
      · rw [if_neg (by rw [b2_eq0.mp hfr]; decide)] at he
        refine wp_iinc (v := _ + nI 1) (lv' := [_, _, some _, _, _]) (q := 158) dX8_findBasis_155 rfl rfl (by decide) rfl rfl ?_
        refine wp_goto (q := 13) dX8_findBasis_158 (by decide) ?_
        rw [nI_add]
        exact ih (f + 1) acc _ (by omega) (by rw [if_neg hr1]; exact he) (by omega)
      have hfree := b2_ne0.mp hfr
      rw [if_pos hfree] at he
      refine wp_iconst (v := nI 0) (q := 38) dX8_findBasis_37 (by decide) rfl ?_
      refine wp_istore (lv' := [_, _, _, some _, _]) (q := 40) dX8_findBasis_38 (by decide) rfl rfl ?_
      have P90 : ∀ m r, r + m = fs.length → wp l mX8_findBasis [] d 0 0 (fun rv h' => rv = none ∧ ∃ I' L' A' B', h' = (sz, mh b I' L' A' B' g) ∧ SC [16, 17, 18, 23] [13, 14] I A I' A' ∧ SB [12, 15] B B' ∧ BT A p side B I' L' A' B') (sz, mh b (upd I1 23 (nI acc.length)) y A1 (upR B1 15 (rwF (baF n (t, fs, y) acc (B 15)) (t, fs, y) acc.length n f r)) g) 90 [some (.ref b), some (.int (nI p)), some (.int (nI side)), some (.int (nI f)), some (.int (nI r))] [] := by
        intro m
        induction m with
        | zero =>
          intro r hrr
          have hrr : r = fs.length := by omega
          subst hrr
          refine wp_iload (q := 92) dX8_findBasis_90 rfl rfl ?_
          refine wp_aload_n (i := 0) (q := 93) dX8_findBasis_92 rfl rfl rfl ?_
          refine wm_getI (k := 18) (q := 96) dX8_findBasis_93 ffX8_207 rfl rfl ?_ -- rank
          rw [e18]
          refine wp_icmp_ge (t := 136) (q := 99) dX8_findBasis_96 (by decide) rfl (fun hc2 => ?_) (fun hc2 => ?_)
          · refine wp_aload_n (i := 0) (q := 137) dX8_findBasis_136 rfl rfl rfl ?_
            refine wp_aload_n (i := 0) (q := 138) dX8_findBasis_137 rfl rfl rfl ?_
            refine wm_getI (k := 23) (q := 141) dX8_findBasis_138 ffX8_230 rfl rfl ?_ -- basis
            refine wp_iload_n (i := 3) (q := 142) dX8_findBasis_141 rfl rfl rfl ?_
            rw [e23]
            refine wp_Vv (μ' := mX8_shorten) (ci := 8) (q := 145) (tX8_shorten (d := d - 1) (n := n) (k := acc.length) (f := f) (by omega) (by omega) (by omega) (e17 _) (by rw [upR_at]; unfold rwF; rw [if_pos ⟨by omega, by omega⟩, show (5 * acc.length + f) % 5 = f by omega]; dsimp only; rw [bS_f (frF_nm hfree) _ (Nat.le_refl _)]; exact v4)) dX8_findBasis_142 okX8_shorten lkX8_233 mh_obj rfl rfl rfl (Nat.le_of_ble_eq_true rfl) (by omega) rfl ?_
            rw [upR_upR, upR_at, rwF_sh (s := (t, fs, y)) (by omega) (by omega)]
            refine wp_aload_n (i := 0) (q := 146) dX8_findBasis_145 rfl rfl rfl ?_
            refine wp_dup (q := 147) dX8_findBasis_146 rfl rfl ?_
            refine wm_getI (k := 23) (q := 150) dX8_findBasis_147 ffX8_230 rfl rfl ?_ -- basis
            refine wp_iconst (v := nI 1) (q := 151) dX8_findBasis_150 (by decide) rfl ?_
            refine wp_iadd (q := 152) dX8_findBasis_151 rfl ?_
            rw [e23, nI_add]
            refine wm_putI (k := 23) (q := 155) dX8_findBasis_152 ffX8_230 rfl rfl ?_ -- basis
            refine wp_iinc (v := _ + nI 1) (lv' := [_, _, some _, _, _]) (q := 158) dX8_findBasis_155 rfl rfl (by decide) rfl rfl ?_
            refine wp_goto (q := 13) dX8_findBasis_158 (by decide) ?_
            rw [nI_add, upd_upd]
            have := ih (f + 1) (acc ++ [f]) (some (.int (nI fs.length))) (by omega) (by rw [if_neg hr1, List.append_assoc]; exact he) (by simp; omega)
            rw [show (acc ++ [f]).length = acc.length + 1 by simp] at this
            exact this
          · exact absurd ((nI_leI (by omega) (by omega)).mpr (by omega)) hc2
        | succ m ihr =>
          intro r hrr
          refine wp_iload (q := 92) dX8_findBasis_90 rfl rfl ?_
          refine wp_aload_n (i := 0) (q := 93) dX8_findBasis_92 rfl rfl rfl ?_
          refine wm_getI (k := 18) (q := 96) dX8_findBasis_93 ffX8_207 rfl rfl ?_ -- rank
          rw [e18]
          refine wp_icmp_ge (t := 136) (q := 99) dX8_findBasis_96 (by decide) rfl (fun hc2 => ?_) (fun hc2 => ?_)
          · exact absurd ((nI_leI (by omega) (by omega)).mp hc2) (by omega)
          have hfr : A1 13 r = nI (fs.getD r 0) := t13 r _ (by rw [List.getD_eq_getElem?_getD, List.getElem?_eq_getElem (by omega : r < fs.length)]; rfl)
          have hlt : fs.getD r 0 < n := v1 _ (by rw [List.getD_eq_getElem?_getD, List.getElem?_eq_getElem (by omega : r < fs.length)]; exact List.getElem_mem _)
          refine wp_aload_n (i := 0) (q := 100) dX8_findBasis_99 rfl rfl rfl ?_
          refine wm_getA (k := 24) (o := 15) (q := 103) dX8_findBasis_100 ffX8_54 rfl rfl rfl ?_ -- base
          refine wp_iconst (v := nI 5) (q := 104) dX8_findBasis_103 (by decide) rfl ?_
          refine wp_aload_n (i := 0) (q := 105) dX8_findBasis_104 rfl rfl rfl ?_
          refine wm_getI (k := 23) (q := 108) dX8_findBasis_105 ffX8_230 rfl rfl ?_ -- basis
          refine wp_imul (q := 109) dX8_findBasis_108 rfl ?_
          refine wp_aload_n (i := 0) (q := 110) dX8_findBasis_109 rfl rfl rfl ?_
          refine wm_getA (k := 20) (o := 13) (q := 113) dX8_findBasis_110 ffX8_48 rfl rfl rfl ?_ -- first
          refine wp_iload (q := 115) dX8_findBasis_113 rfl rfl ?_
          refine wm_ialdN (q := 116) dX8_findBasis_115 ⟨by decide, by decide, rfl⟩ rfl (by simp only [mlen]; omega) (by decide) rfl ?_
          refine wp_iadd (q := 117) dX8_findBasis_116 rfl ?_
          rw [e23, pk_mul, hfr, nI_add]
          refine wp_aload_n (i := 0) (q := 118) dX8_findBasis_117 rfl rfl rfl ?_
          refine wm_getA (k := 19) (o := 12) (q := 121) dX8_findBasis_118 ffX8_44 rfl rfl rfl ?_ -- table
          refine wp_iconst (v := nI 5) (q := 122) dX8_findBasis_121 (by decide) rfl ?_
          refine wp_iload (q := 124) dX8_findBasis_122 rfl rfl ?_
          refine wp_imul (q := 125) dX8_findBasis_124 rfl ?_
          refine wp_iload_n (i := 3) (q := 126) dX8_findBasis_125 rfl rfl rfl ?_
          refine wp_iadd (q := 127) dX8_findBasis_126 rfl ?_
          rw [pk_mul, nI_add]
          refine wm_laldN (q := 128) dX8_findBasis_127 ⟨by decide, by decide, rfl⟩ rfl (by simp only [mlen]; omega) (by decide) rfl ?_
          refine wp_lneg (q := 129) dX8_findBasis_128 rfl ?_
          refine wm_lastN (q := 130) dX8_findBasis_129 ⟨by decide, by decide, rfl⟩ rfl (by simp only [mlen]; omega) (by decide) rfl ?_
          refine wp_iinc (v := _ + nI 1) (lv' := [_, _, _, some _, _]) (q := 133) dX8_findBasis_130 rfl rfl (by decide) rfl rfl ?_
          refine wp_goto (q := 90) dX8_findBasis_133 (by decide) ?_
          rw [nI_add, up2_upR, upR_ne (by decide : (12 : Nat) ≠ 15), t12]
          have e : (fun k => if k = 5 * acc.length + fs.getD r 0 then -t (5 * r + f) else rwF (baF n (t, fs, y) acc (B 15)) (t, fs, y) acc.length n f r k) = rwF (baF n (t, fs, y) acc (B 15)) (t, fs, y) acc.length n f (r + 1) := by
            funext z
            unfold rwF
            dsimp only
            by_cases w : z = 5 * acc.length + fs.getD r 0
            · rw [if_pos w, if_pos (by omega)]
              unfold bS
              rw [if_pos (by omega)]
            · rw [if_neg w]
              by_cases w2 : z / 5 = acc.length ∧ z % 5 < n
              · rw [if_pos w2, if_pos w2]
                conv => rhs; unfold bS
                rw [if_neg (by omega)]
              · rw [if_neg w2, if_neg w2]
          rw [e]
          exact ihr (r + 1) (by omega)
      have P40 : ∀ m c, c + m = n → wp l mX8_findBasis [] d 0 0 (fun rv h' => rv = none ∧ ∃ I' L' A' B', h' = (sz, mh b I' L' A' B' g) ∧ SC [16, 17, 18, 23] [13, 14] I A I' A' ∧ SB [12, 15] B B' ∧ BT A p side B I' L' A' B') (sz, mh b (upd I1 23 (nI acc.length)) y A1 (upR B1 15 (fun z => if z / 5 = acc.length ∧ z % 5 < c then 0 else baF n (t, fs, y) acc (B 15) z)) g) 40 [some (.ref b), some (.int (nI p)), some (.int (nI side)), some (.int (nI f)), some (.int (nI c))] [] := by
        intro m
        induction m with
        | zero =>
          intro c hcc
          have hcc : c = n := by omega
          subst hcc
          refine wp_iload (q := 42) dX8_findBasis_40 rfl rfl ?_
          refine wp_aload_n (i := 0) (q := 43) dX8_findBasis_42 rfl rfl rfl ?_
          refine wm_getI (k := 17) (q := 46) dX8_findBasis_43 ffX8_214 rfl rfl ?_ -- columns
          rw [e17]
          refine wp_icmp_ge (t := 70) (q := 49) dX8_findBasis_46 (by decide) rfl (fun hc2 => ?_) (fun hc2 => ?_)
          · refine wp_aload_n (i := 0) (q := 71) dX8_findBasis_70 rfl rfl rfl ?_
            refine wm_getA (k := 24) (o := 15) (q := 74) dX8_findBasis_71 ffX8_54 rfl rfl rfl ?_ -- base
            refine wp_iconst (v := nI 5) (q := 75) dX8_findBasis_74 (by decide) rfl ?_
            refine wp_aload_n (i := 0) (q := 76) dX8_findBasis_75 rfl rfl rfl ?_
            refine wm_getI (k := 23) (q := 79) dX8_findBasis_76 ffX8_230 rfl rfl ?_ -- basis
            refine wp_imul (q := 80) dX8_findBasis_79 rfl ?_
            refine wp_iload_n (i := 3) (q := 81) dX8_findBasis_80 rfl rfl rfl ?_
            refine wp_iadd (q := 82) dX8_findBasis_81 rfl ?_
            rw [e23, pk_mul, nI_add]
            refine wp_aload_n (i := 0) (q := 83) dX8_findBasis_82 rfl rfl rfl ?_
            refine wm_getL (k := 22) (q := 86) dX8_findBasis_83 ffX8_210 rfl rfl ?_ -- by
            refine wm_lastN (q := 87) dX8_findBasis_86 ⟨by decide, by decide, rfl⟩ rfl (by simp only [mlen]; omega) (by decide) rfl ?_
            refine wp_iconst (v := nI 0) (q := 88) dX8_findBasis_87 (by decide) rfl ?_
            refine wp_istore (lv' := [_, _, _, some _, _]) (q := 90) dX8_findBasis_88 (by decide) rfl rfl ?_
            rw [up2_upR]
            have e : (fun k => if k = 5 * acc.length + f then y else if k / 5 = acc.length ∧ k % 5 < c then 0 else baF c (t, fs, y) acc (B 15) k) = rwF (baF c (t, fs, y) acc (B 15)) (t, fs, y) acc.length c f 0 := by
              funext z
              unfold rwF bS
              dsimp only
              by_cases w : z = 5 * acc.length + f
              · rw [if_pos w, if_pos (by omega), if_pos (by omega)]
              · rw [if_neg w]
                by_cases w2 : z / 5 = acc.length ∧ z % 5 < c
                · rw [if_pos w2, if_pos w2, if_neg (by omega)]
                · rw [if_neg w2, if_neg w2]
            rw [e]
            exact P90 fs.length 0 (by omega)
          · exact absurd ((nI_leI (by omega) (by omega)).mpr (by omega)) hc2
        | succ m ihc =>
          intro c hcc
          refine wp_iload (q := 42) dX8_findBasis_40 rfl rfl ?_
          refine wp_aload_n (i := 0) (q := 43) dX8_findBasis_42 rfl rfl rfl ?_
          refine wm_getI (k := 17) (q := 46) dX8_findBasis_43 ffX8_214 rfl rfl ?_ -- columns
          rw [e17]
          refine wp_icmp_ge (t := 70) (q := 49) dX8_findBasis_46 (by decide) rfl (fun hc2 => ?_) (fun hc2 => ?_)
          · exact absurd ((nI_leI (by omega) (by omega)).mp hc2) (by omega)
          refine wp_aload_n (i := 0) (q := 50) dX8_findBasis_49 rfl rfl rfl ?_
          refine wm_getA (k := 24) (o := 15) (q := 53) dX8_findBasis_50 ffX8_54 rfl rfl rfl ?_ -- base
          refine wp_iconst (v := nI 5) (q := 54) dX8_findBasis_53 (by decide) rfl ?_
          refine wp_aload_n (i := 0) (q := 55) dX8_findBasis_54 rfl rfl rfl ?_
          refine wm_getI (k := 23) (q := 58) dX8_findBasis_55 ffX8_230 rfl rfl ?_ -- basis
          refine wp_imul (q := 59) dX8_findBasis_58 rfl ?_
          refine wp_iload (q := 61) dX8_findBasis_59 rfl rfl ?_
          refine wp_iadd (q := 62) dX8_findBasis_61 rfl ?_
          rw [e23, pk_mul, nI_add]
          refine wp_lconst (v := 0) (q := 63) dX8_findBasis_62 (by decide) rfl ?_
          refine wm_lastN (q := 64) dX8_findBasis_63 ⟨by decide, by decide, rfl⟩ rfl (by simp only [mlen]; omega) (by decide) rfl ?_
          refine wp_iinc (v := _ + nI 1) (lv' := [_, _, _, some _, _]) (q := 67) dX8_findBasis_64 rfl rfl (by decide) rfl rfl ?_
          refine wp_goto (q := 40) dX8_findBasis_67 (by decide) ?_
          rw [nI_add, up2_upR]
          have e : (fun k => if k = 5 * acc.length + c then (0 : Int64) else if k / 5 = acc.length ∧ k % 5 < c then 0 else baF n (t, fs, y) acc (B 15) k) = (fun z => if z / 5 = acc.length ∧ z % 5 < c + 1 then 0 else baF n (t, fs, y) acc (B 15) z) := by
            funext z
            by_cases w : z = 5 * acc.length + c
            · rw [if_pos w, if_pos (by omega)]
            · rw [if_neg w]
              by_cases w2 : z / 5 = acc.length ∧ z % 5 < c
              · rw [if_pos w2, if_pos (by omega)]
              · rw [if_neg w2, if_neg (by omega)]
          rw [e]
          exact ihc (c + 1) (by omega)
      have := P40 n 0 (by omega)
      rw [show (fun z => if z / 5 = acc.length ∧ z % 5 < 0 then (0 : Int64) else baF n (t, fs, y) acc (B 15) z) = baF n (t, fs, y) acc (B 15) by funext z; rw [if_neg (by omega)]] at this
      exact this
  have := K n 0 [] none (by omega) (by unfold fcL; simp) (by simp)
  rw [show baF n (t, fs, y) [] (B 15) = B 15 by funext z; unfold baF; rw [if_neg (by simp)], ← hB15, upR_self] at this
  exact this
end M18
