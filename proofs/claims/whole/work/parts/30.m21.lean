/-! THE REFERENCE: are the sums kept -/
def stS (A : Nat → Nat → Int32) (sm : Nat → Int64) : Nat → Nat → Int64 → Int64
  | 0, _, z => z
  | m + 1, v, z => stS A sm m (v + 1) (z + sm v * (A 16 v).toInt64)
/-- row s of the basis of point p -/
def bRow (A : Nat → Nat → Int32) (p s : Nat) : Nat → Int64 := bR (kA A p + 1) (sl A p 0) ((fl8 A p 0).getD s 0)
def stB (A : Nat → Nat → Int32) (p s : Nat) : Bool := decide (stS A (bRow A p s) (kA A p) 0 (bRow A p s (kA A p)) = 0)
def acB (A : Nat → Nat → Int32) (a s : Nat) : Bool := isT (mkR A a (bRow A (toA A a) s)) (kA A (frA A a) + 1) (rs A (frA A a) 0).length (sl A (frA A a) 0)
def kpF (A : Nat → Nat → Int32) : Nat → Nat → Int32
  | 0, _ => nI 1
  | m + 1, a => match (List.range' 0 (fl8 A (toA A a) 0).length).find? (fun s => !acB A a s) with
    | some s => -120 - nI 100 * nI a - nI s
    | none => kpF A m (a + 1)
def aKept (I : Nat → Int32) (A : Nat → Nat → Int32) (na : Nat) : Int32 := if I 25 < 0 then -3 else match (List.range' 0 (fl8 A (I 25).toNatClampNeg 0).length).find? (fun s => !stB A (I 25).toNatClampNeg s) with
  | some s => -20 - nI s
  | none => kpF A na 0
theorem find_step {n k : Nat} {P : Nat → Bool} (h : k < n) : (List.range' k (n - k)).find? P = if P k = true then some k else (List.range' (k + 1) (n - (k + 1))).find? P := by
  rw [show n - k = (n - (k + 1)) + 1 by omega, List.range'_succ, List.find?_cons]
  cases P k <;> rfl
theorem find_end {n k : Nat} {P : Nat → Bool} (h : n ≤ k) : (List.range' k (n - k)).find? P = none := by
  rw [show n - k = 0 by omega]; rfl
theorem mkS_cg {A : Nat → Nat → Int32} {a u n m : Nat} {sm sm' : Nat → Int64} : ∀ k v z, v + k ≤ m → (∀ v, v ≤ m → sm v = sm' v) → mkS A a u n sm k v z = mkS A a u n sm' k v z
  | 0, _, _, _, _ => rfl
  | k + 1, v, z, h, he => by
    unfold mkS
    rw [he v (by omega)]
    exact mkS_cg k (v + 1) _ (by omega) he
theorem mkR_cg {A : Nat → Nat → Int32} {a : Nat} {sm sm' : Nat → Int64} (he : ∀ v, v ≤ kA A (toA A a) → sm v = sm' v) : mkR A a sm = mkR A a sm' := by
  funext u
  unfold mkR
  rw [he _ (Nat.le_refl _), mkS_cg _ _ _ (by omega) he]
theorem stS_cg {A : Nat → Nat → Int32} {m : Nat} {sm sm' : Nat → Int64} : ∀ k v z, v + k ≤ m → (∀ v, v ≤ m → sm v = sm' v) → stS A sm k v z = stS A sm' k v z
  | 0, _, _, _, _ => rfl
  | k + 1, v, z, h, he => by
    unfold stS
    rw [he v (by omega)]
    exact stS_cg k (v + 1) _ (by omega) he
theorem suF_cr {row row' t : Nat → Int64} {fs : List Nat} {r n : Nat} (h : ∀ c, c < n → row c = row' c) : ∀ m f z, f + m ≤ n → suF row t fs r m f z = suF row' t fs r m f z
  | 0, _, _, _ => rfl
  | m + 1, f, z, hf => by
    unfold suF
    rw [h f (by omega)]
    exact suF_cr h m (f + 1) _ (by omega)
theorem isT_cr {row row' : Nat → Int64} {n rows : Nat} {s : brT} (h : ∀ c, c < n → row c = row' c) (hf : ∀ x ∈ s.2.1, x < n) : isT row n rows s = isT row' n rows s := by
  unfold isT
  by_cases e : rows = 0
  · rw [if_pos e, if_pos e, Bool.eq_iff_iff, List.all_eq_true, List.all_eq_true]
    constructor
    · intro q c hc
      have hc2 := List.mem_range'_1.mp hc
      rw [← h c (by omega)]; exact q c hc
    · intro q c hc
      have hc2 := List.mem_range'_1.mp hc
      rw [h c (by omega)]; exact q c hc
  · rw [if_neg e, if_neg e, Bool.eq_iff_iff, List.all_eq_true, List.all_eq_true]
    constructor
    · intro q r hr
      have hr2 := List.mem_range'_1.mp hr
      rw [← suF_cr h _ _ _ (by omega), ← h _ (hf _ (getD_mem (by omega : r < s.2.1.length)))]; exact q r hr
    · intro q r hr
      have hr2 := List.mem_range'_1.mp hr
      rw [suF_cr h _ _ _ (by omega), h _ (hf _ (getD_mem (by omega : r < s.2.1.length)))]; exact q r hr
theorem ag_SC {ks : List Nat} {os : List Nat} {I I' : Nat → Int32} {A A' : Nat → Nat → Int32} (h : SC ks os I A I' A') (ho : ∀ o ∈ os, 6 < o) : ag A A' :=
  ⟨h.2 1 (fun q => absurd (ho 1 q) (by omega)), h.2 2 (fun q => absurd (ho 2 q) (by omega)), h.2 3 (fun q => absurd (ho 3 q) (by omega)), h.2 4 (fun q => absurd (ho 4 q) (by omega)), h.2 5 (fun q => absurd (ho 5 q) (by omega)), h.2 6 (fun q => absurd (ho 6 q) (by omega))⟩
theorem sl_ag {A A' : Nat → Nat → Int32} (h : ag A A') {p side : Nat} : sl A' p side = sl A p side := by
  have e : rs A' p side = rs A p side := by unfold rs; rw [rsF_ag h]
  unfold sl slv lyF
  rw [kA_ag h, e, xA_ag h]
theorem fl8_ag {A A' : Nat → Nat → Int32} (h : ag A A') {p side : Nat} : fl8 A' p side = fl8 A p side := by
  unfold fl8 rs
  rw [kA_ag h, rsF_ag h, sl_ag h]
theorem bRow_ag {A A' : Nat → Nat → Int32} (h : ag A A') {p s : Nat} : bRow A' p s = bRow A p s := by
  unfold bRow
  rw [kA_ag h, fl8_ag h, sl_ag h]
theorem mkS_ag {A A' : Nat → Nat → Int32} {a u n : Nat} {sm : Nat → Int64} (h : A' 19 = A 19) : ∀ k v z, mkS A' a u n sm k v z = mkS A a u n sm k v z
  | 0, _, _ => rfl
  | k + 1, v, z => by
    unfold mkS
    rw [h]
    exact mkS_ag h k (v + 1) _
section M21
variable {l : Launch} {d sz b np na p side : Nat} {I : Nat → Int32} {L : Int64} {A : Nat → Nat → Int32} {B : Nat → Nat → Int64} {g : Nat → Option aE}
theorem tX8_kept (hd : 4 ≤ d) (hM : MM I A np) (hA : MA I A np na) (hSt : MSt I np) : mt l mX8_kept d 0 0 [.ref b] (sz, mh b I L A B g) (fun rv h' => rv = some (.int (aKept I A na)) ∧ ∃ I' L' A' B', h' = (sz, mh b I' L' A' B' g) ∧ SC [16, 17, 18, 23] [13, 14] I A I' A' ∧ SB [12, 15, 20, 21] B B') := by
  have hM0 := hM
  have hA0 := hA
  obtain ⟨hn, h0, hP, -⟩ := hM
  obtain ⟨hna, h27, hA⟩ := hA
  refine mt_in (lv := [_, _, _, _, _]) (by decide) (Nat.le_of_ble_eq_true rfl) rfl ?_
  refine wp_aload_n (i := 0) (q := 1) dX8_kept_0 rfl rfl rfl ?_
  refine wm_getI (k := 25) (q := 4) dX8_kept_1 ffX8_109 rfl rfl ?_ -- startAt
  unfold aKept
  refine wp_if_ge (t := 10) (q := 7) dX8_kept_4 (by decide) rfl (fun hst => ?_) (fun hst => ?_)
  · rw [if_neg (by exact Int32.not_lt.mpr hst)]
    obtain ⟨q1, q2⟩ : I 25 = nI (I 25).toNatClampNeg ∧ (I 25).toNatClampNeg < np := hSt.resolve_left (Int32.not_lt.mpr hst)
    generalize (I 25).toNatClampNeg = st at q1 q2
    have hMs := hP st (by omega)
    have hks := hMs.2.1
    have hls : (fl8 A st 0).length ≤ kA A st + 1 := fcL_len
    refine wp_aload_n (i := 0) (q := 11) dX8_kept_10 rfl rfl rfl ?_
    refine wp_aload_n (i := 0) (q := 12) dX8_kept_11 rfl rfl rfl ?_
    refine wm_getI (k := 25) (q := 15) dX8_kept_12 ffX8_109 rfl rfl ?_ -- startAt
    refine wp_iconst (v := nI 0) (q := 16) dX8_kept_15 (by decide) rfl ?_
    rw [q1]
    refine wp_V (μ' := mX8_findBasis) (ci := 8) (q := 19) (tX8_findBasis (d := d - 1) (side := 0) (by omega) (by omega) (by omega) hMs) dX8_kept_16 okX8_findBasis lkX8_236 mh_obj rfl rfl rfl (Nat.le_of_ble_eq_true rfl) (by omega) rfl (fun rv hx hq => ?_)
    obtain ⟨rfl, I1, L1, A1, B1, rfl, hS, hB, hT⟩ := hq
    obtain ⟨-, -, t3, t4⟩ := BT_sl hMs hT
    show wp _ _ _ _ _ _ _ _ _ _ []
    have G : ∀ (I1 : Nat → Int32) (L1 : Int64) (A1 : Nat → Nat → Int32) (B1 : Nat → Nat → Int64) m a (y2 y3 y4 : Option Value), a + m = na → SC [16, 17, 18, 23] [13, 14] I A I1 A1 → SB [12, 15, 20, 21] B B1 → wp l mX8_kept [] d 0 0 (fun rv h' => rv = some (.int (kpF A m a)) ∧ ∃ I' L' A' B', h' = (sz, mh b I' L' A' B' g) ∧ SC [16, 17, 18, 23] [13, 14] I A I' A' ∧ SB [12, 15, 20, 21] B B') (sz, mh b I1 L1 A1 B1 g) 113 [some (.ref b), some (.int (nI a)), y2, y3, y4] [] := by
      intro I1 L1 A1 B1 m
      induction m generalizing I1 L1 A1 B1 with
      | zero =>
        intro a y2 y3 y4 ha hS1 hB1
        refine wp_iload_n (i := 1) (q := 114) dX8_kept_113 rfl rfl rfl ?_
        refine wp_aload_n (i := 0) (q := 115) dX8_kept_114 rfl rfl rfl ?_
        refine wm_getI (k := 27) (q := 118) dX8_kept_115 ffX8_241 rfl rfl ?_ -- acts
        rw [hS1.1 27 (by decide), h27]
        refine wp_icmp_ge (t := 211) (q := 121) dX8_kept_118 (by decide) rfl (fun hc => ?_) (fun hc => ?_)
        · refine wp_iconst (v := nI 1) (q := 212) dX8_kept_211 (by decide) rfl ?_
          refine wp_iret dX8_kept_212 rfl ?_
          exact ⟨rfl, I1, L1, A1, B1, rfl, hS1, hB1⟩
        · exact absurd ((nI_leI (by omega) (by omega)).mpr (by omega)) hc
      | succ m ih =>
        intro a y2 y3 y4 ha hS1 hB1
        refine wp_iload_n (i := 1) (q := 114) dX8_kept_113 rfl rfl rfl ?_
        refine wp_aload_n (i := 0) (q := 115) dX8_kept_114 rfl rfl rfl ?_
        refine wm_getI (k := 27) (q := 118) dX8_kept_115 ffX8_241 rfl rfl ?_ -- acts
        rw [hS1.1 27 (by decide), h27]
        refine wp_icmp_ge (t := 211) (q := 121) dX8_kept_118 (by decide) rfl (fun hc => ?_) (fun hc => ?_)
        · exact absurd ((nI_leI (by omega) (by omega)).mp hc) (by omega)
        obtain ⟨a1, a2, a3, a4⟩ := hA a (by omega)
        have hag := ag_SC hS1 (by decide)
        have hMt := MP_ag hag (hP (toA A a) (by omega))
        have hkt := hMt.2.1
        rw [kA_ag hag] at hkt
        have hlt : (fl8 A (toA A a) 0).length ≤ kA A (toA A a) + 1 := fcL_len
        refine wp_aload_n (i := 0) (q := 122) dX8_kept_121 rfl rfl rfl ?_
        refine wp_aload_n (i := 0) (q := 123) dX8_kept_122 rfl rfl rfl ?_
        refine wm_getA (k := 29) (o := 18) (q := 126) dX8_kept_123 ffX8_63 rfl rfl rfl ?_ -- to
        refine wp_iload_n (i := 1) (q := 127) dX8_kept_126 rfl rfl rfl ?_
        refine wm_ialdN (q := 128) dX8_kept_127 ⟨by decide, by decide, rfl⟩ rfl (by simp only [mlen]; omega) (by decide) rfl ?_
        rw [hS1.2 18 (by decide), a3]
        refine wp_iconst (v := nI 0) (q := 129) dX8_kept_128 (by decide) rfl ?_
        refine wp_V (μ' := mX8_findBasis) (ci := 8) (q := 132) (tX8_findBasis (d := d - 1) (side := 0) (by omega) (by omega) (by omega) hMt) dX8_kept_129 okX8_findBasis lkX8_236 mh_obj rfl rfl rfl (Nat.le_of_ble_eq_true rfl) (by omega) rfl (fun rv hx hq => ?_)
        obtain ⟨rfl, I2, L2, A2, B2, rfl, hS2, hB2, hT2⟩ := hq
        obtain ⟨-, -, r3, r4⟩ := BT_sl hMt hT2
        rw [fl8_ag hag] at r3
        rw [fl8_ag hag, kA_ag hag, sl_ag hag] at r4
        have hS12 := hS1.tr (hS2.mo (by decide) (by decide))
        have hB12 := hB1.tr (hB2.mo (by decide))
        show wp _ _ _ _ _ _ _ _ _ _ []
        refine wp_aload_n (i := 0) (q := 133) dX8_kept_132 rfl rfl rfl ?_
        refine wm_getI (k := 23) (q := 136) dX8_kept_133 ffX8_230 rfl rfl ?_ -- basis
        refine wp_istore_n (i := 2) (lv' := [_, some _, _, _, _]) (q := 137) dX8_kept_136 rfl (by decide) rfl rfl ?_
        refine wp_iconst (v := nI 0) (q := 138) dX8_kept_137 (by decide) rfl ?_
        refine wp_istore_n (i := 3) (lv' := [_, _, some _, _, _]) (q := 139) dX8_kept_138 rfl (by decide) rfl rfl ?_
        rw [r3]
        have P139 : ∀ k i, i + k = 25 → wp l mX8_kept [] d 0 0 (fun rv h' => rv = some (.int (kpF A (m + 1) a)) ∧ ∃ I' L' A' B', h' = (sz, mh b I' L' A' B' g) ∧ SC [16, 17, 18, 23] [13, 14] I A I' A' ∧ SB [12, 15, 20, 21] B B') (sz, mh b I2 L2 A2 (upR B2 21 (fun z => if z < i then B2 15 z else B2 21 z)) g) 139 [some (.ref b), some (.int (nI a)), some (.int (nI (fl8 A (toA A a) 0).length)), some (.int (nI i)), y4] [] := by
          intro k
          induction k with
          | zero =>
            intro i hi
            have hi : i = 25 := by omega
            subst hi
            refine wp_iload_n (i := 3) (q := 140) dX8_kept_139 rfl rfl rfl ?_
            refine wp_bipush (v := nI 25) (q := 142) dX8_kept_140 (by decide) rfl ?_
            refine wp_icmp_ge (t := 163) (q := 145) dX8_kept_142 (by decide) rfl (fun hc2 => ?_) (fun hc2 => ?_)
            · refine wp_iconst (v := nI 0) (q := 164) dX8_kept_163 (by decide) rfl ?_
              refine wp_istore_n (i := 3) (lv' := [_, _, some _, _, _]) (q := 165) dX8_kept_164 rfl (by decide) rfl rfl ?_
              have P165 : ∀ (I3 : Nat → Int32) (L3 : Int64) (A3 : Nat → Nat → Int32) (B3 : Nat → Nat → Int64) k s, s + k = (fl8 A (toA A a) 0).length → SC [16, 17, 18, 23] [13, 14] I A I3 A3 → SB [12, 15, 20, 21] B B3 → (∀ s c, s < (fl8 A (toA A a) 0).length → c < kA A (toA A a) + 1 → B3 21 (5 * s + c) = bRow A (toA A a) s c) → (match (List.range' s ((fl8 A (toA A a) 0).length - s)).find? (fun s => !acB A a s) with | some s => -120 - nI 100 * nI a - nI s | none => kpF A m (a + 1)) = kpF A (m + 1) a → wp l mX8_kept [] d 0 0 (fun rv h' => rv = some (.int (kpF A (m + 1) a)) ∧ ∃ I' L' A' B', h' = (sz, mh b I' L' A' B' g) ∧ SC [16, 17, 18, 23] [13, 14] I A I' A' ∧ SB [12, 15, 20, 21] B B') (sz, mh b I3 L3 A3 B3 g) 165 [some (.ref b), some (.int (nI a)), some (.int (nI (fl8 A (toA A a) 0).length)), some (.int (nI s)), y4] [] := by
                intro I3 L3 A3 B3 k
                induction k generalizing I3 L3 A3 B3 with
                | zero =>
                  intro s hs hS3 hB3 h21 he
                  refine wp_iload_n (i := 3) (q := 166) dX8_kept_165 rfl rfl rfl ?_
                  refine wp_iload_n (i := 2) (q := 167) dX8_kept_166 rfl rfl rfl ?_
                  refine wp_icmp_ge (t := 205) (q := 170) dX8_kept_167 (by decide) rfl (fun hc3 => ?_) (fun hc3 => ?_)
                  · rw [find_end (by omega)] at he
                    rw [← he]
                    refine wp_iinc (v := _ + nI 1) (lv' := [some _, _, _, _, _]) (q := 208) dX8_kept_205 rfl rfl (by decide) rfl rfl ?_
                    refine wp_goto (q := 113) dX8_kept_208 (by decide) ?_
                    rw [nI_add]
                    exact ih I3 L3 A3 B3 (a + 1) _ _ _ (by omega) hS3 hB3
                  · exact absurd ((nI_leI (by omega) (by omega)).mpr (by omega)) hc3
                | succ k ihs =>
                  intro s hs hS3 hB3 h21 he
                  refine wp_iload_n (i := 3) (q := 166) dX8_kept_165 rfl rfl rfl ?_
                  refine wp_iload_n (i := 2) (q := 167) dX8_kept_166 rfl rfl rfl ?_
                  refine wp_icmp_ge (t := 205) (q := 170) dX8_kept_167 (by decide) rfl (fun hc3 => ?_) (fun hc3 => ?_)
                  · exact absurd ((nI_leI (by omega) (by omega)).mp hc3) (by omega)
                  rw [find_step (by omega)] at he
                  have hag3 := ag_SC hS3 (by decide)
                  have e17 : A3 17 = A 17 := hS3.2 17 (by decide)
                  have e18 : A3 18 = A 18 := hS3.2 18 (by decide)
                  have e19 : A3 19 = A 19 := hS3.2 19 (by decide)
                  have ef : frA A3 = frA A := by unfold frA; rw [e17]
                  have et : toA A3 = toA A := by unfold toA; rw [e18]
                  have hM3 : MM I3 A3 np := ⟨hn, by rw [hS3.1 0 (by decide)]; exact h0, fun p hp => MP_ag hag3 (hP p hp), fun p hp => by rw [kA_ag hag3]; exact hM0.2.2.2 p hp⟩
                  have hA3 : MA I3 A3 np na := ⟨hna, by rw [hS3.1 27 (by decide)]; exact h27, fun a ha => by rw [ef, et, e17, e18]; exact hA a ha⟩
                  refine wp_aload_n (i := 0) (q := 171) dX8_kept_170 rfl rfl rfl ?_
                  refine wp_iload_n (i := 1) (q := 172) dX8_kept_171 rfl rfl rfl ?_
                  refine wp_iload_n (i := 3) (q := 173) dX8_kept_172 rfl rfl rfl ?_
                  refine wp_Vv (μ' := mX8_layRow) (ci := 8) (q := 176) (tX8_layRow (d := d - 1) (a := a) (s := s) (by omega) (by omega) hM3 hA3) dX8_kept_173 okX8_layRow lkX8_247 mh_obj rfl rfl rfl (Nat.le_of_ble_eq_true rfl) (by omega) rfl ?_
                  refine wp_aload_n (i := 0) (q := 177) dX8_kept_176 rfl rfl rfl ?_
                  refine wp_aload_n (i := 0) (q := 178) dX8_kept_177 rfl rfl rfl ?_
                  refine wm_getA (k := 28) (o := 17) (q := 181) dX8_kept_178 ffX8_60 rfl rfl rfl ?_ -- from
                  refine wp_iload_n (i := 1) (q := 182) dX8_kept_181 rfl rfl rfl ?_
                  refine wm_ialdN (q := 183) dX8_kept_182 ⟨by decide, by decide, rfl⟩ rfl (by simp only [mlen]; omega) (by decide) rfl ?_
                  rw [e17, a1]
                  refine wp_V (μ' := mX8_isSum) (ci := 8) (q := 186) (tX8_isSum (d := d - 1) (p := frA A a) (by omega) (by omega) (hM3.2.2.1 _ (by omega))) dX8_kept_183 okX8_isSum lkX8_250 mh_obj rfl rfl rfl (Nat.le_of_ble_eq_true rfl) (by omega) rfl (fun rv hx hq => ?_)
                  obtain ⟨rfl, I4, L4, A4, B4, rfl, hS4, hB4⟩ := hq
                  have e : isT (upR B3 20 (fun z => if z ≤ kA A3 (frA A3 a) then mkR A3 a (fun v => B3 21 (5 * s + v)) z else B3 20 z) 20) (kA A3 (frA A a) + 1) (rs A3 (frA A a) 0).length (sl A3 (frA A a) 0) = acB A a s := by
                    unfold acB
                    rw [upR_at, ef, kA_ag hag3, show rs A3 (frA A a) 0 = rs A (frA A a) 0 by unfold rs; rw [rsF_ag hag3], sl_ag hag3]
                    refine isT_cr (fun c hc => ?_) (fun x hx => (slv_inv (side := 0) (hP (frA A a) (by omega)) (t := fun _ => 0)).1 x hx)
                    rw [if_pos (by omega)]
                    have e2 : mkR A3 a (fun v => B3 21 (5 * s + v)) = mkR A a (fun v => B3 21 (5 * s + v)) := by
                      funext u
                      unfold mkR
                      rw [mkS_ag e19, ef, et, kA_ag hag3, kA_ag hag3]
                    rw [e2, mkR_cg (fun v hv => h21 s v (by omega) (by omega))]
                  rw [e]
                  show wp _ _ _ _ _ _ _ _ _ _ [_]
                  have hS4 := hS3.tr (hS4.mo (by decide) (by decide))
                  have hB4' := hB3.tr ((SB.uR (by decide)).tr (hB4.mo (by decide)))
                  refine wp_if_ne (t := 199) (q := 189) dX8_kept_186 (by decide) rfl (fun hg => ?_) (fun hg => ?_)
                  · rw [if_neg (by rw [b2_ne0.mp hg]; decide)] at he
                    refine wp_iinc (v := _ + nI 1) (lv' := [_, _, some _, _, _]) (q := 202) dX8_kept_199 rfl rfl (by decide) rfl rfl ?_
                    refine wp_goto (q := 165) dX8_kept_202 (by decide) ?_
                    rw [nI_add]
                    refine ihs I4 L4 A4 B4 (s + 1) (by omega) hS4 hB4' ?_ he
                    intro s' c hs' hc'
                    rw [hB4 21 (by decide), upR_ne (by decide)]
                    exact h21 s' c hs' hc'
                  · rw [if_pos (by rw [b2_eq0.mp hg]; rfl)] at he
                    rw [← he]
                    refine wp_bipush (v := (-120)) (q := 191) dX8_kept_189 (by decide) rfl ?_
                    refine wp_bipush (v := nI 100) (q := 193) dX8_kept_191 (by decide) rfl ?_
                    refine wp_iload_n (i := 1) (q := 194) dX8_kept_193 rfl rfl rfl ?_
                    refine wp_imul (q := 195) dX8_kept_194 rfl ?_
                    refine wp_isub (q := 196) dX8_kept_195 rfl ?_
                    refine wp_iload_n (i := 3) (q := 197) dX8_kept_196 rfl rfl rfl ?_
                    refine wp_isub (q := 198) dX8_kept_197 rfl ?_
                    refine wp_iret dX8_kept_198 rfl ?_
                    exact ⟨rfl, I4, L4, A4, B4, rfl, hS4, hB4'⟩
              refine P165 I2 L2 A2 _ (fl8 A (toA A a) 0).length 0 (by omega) hS12 (hB12.tr (SB.uR (by decide))) ?_ rfl
              intro s c hs hc
              rw [upR_at, if_pos (by omega), r4 s c hs hc]
              rfl
            · exact absurd (by decide) hc2
          | succ k ihk =>
            intro i hi
            refine wp_iload_n (i := 3) (q := 140) dX8_kept_139 rfl rfl rfl ?_
            refine wp_bipush (v := nI 25) (q := 142) dX8_kept_140 (by decide) rfl ?_
            refine wp_icmp_ge (t := 163) (q := 145) dX8_kept_142 (by decide) rfl (fun hc2 => ?_) (fun hc2 => ?_)
            · exact absurd ((nI_leI (by omega) (by omega)).mp hc2) (by omega)
            refine wp_aload_n (i := 0) (q := 146) dX8_kept_145 rfl rfl rfl ?_
            refine wm_getA (k := 32) (o := 21) (q := 149) dX8_kept_146 ffX8_72 rfl rfl rfl ?_ -- kept
            refine wp_iload_n (i := 3) (q := 150) dX8_kept_149 rfl rfl rfl ?_
            refine wp_aload_n (i := 0) (q := 151) dX8_kept_150 rfl rfl rfl ?_
            refine wm_getA (k := 24) (o := 15) (q := 154) dX8_kept_151 ffX8_54 rfl rfl rfl ?_ -- base
            refine wp_iload_n (i := 3) (q := 155) dX8_kept_154 rfl rfl rfl ?_
            refine wm_laldN (q := 156) dX8_kept_155 ⟨by decide, by decide, rfl⟩ rfl (by simp only [mlen]; omega) (by decide) rfl ?_
            refine wm_lastN (q := 157) dX8_kept_156 ⟨by decide, by decide, rfl⟩ rfl (by simp only [mlen]; omega) (by decide) rfl ?_
            refine wp_iinc (v := _ + nI 1) (lv' := [_, _, some _, _, _]) (q := 160) dX8_kept_157 rfl rfl (by decide) rfl rfl ?_
            refine wp_goto (q := 139) dX8_kept_160 (by decide) ?_
            rw [nI_add, up2_upR, upR_ne (by decide : (15 : Nat) ≠ 21)]
            rw [show (fun k => if k = i then B2 15 i else if k < i then B2 15 k else B2 21 k) = (fun z => if z < i + 1 then B2 15 z else B2 21 z) by
              funext z
              by_cases w : z = i
              · rw [if_pos w, if_pos (by omega), w]
              · rw [if_neg w]
                by_cases w2 : z < i
                · rw [if_pos w2, if_pos (by omega)]
                · rw [if_neg w2, if_neg (by omega)]]
            exact ihk (i + 1) (by omega)
        have := P139 25 0 (by omega)
        rw [show (fun z => if z < 0 then B2 15 z else B2 21 z) = B2 21 by funext z; rw [if_neg (by omega)], upR_self] at this
        exact this
    refine wp_iconst (v := nI 0) (q := 20) dX8_kept_19 (by decide) rfl ?_
    refine wp_istore_n (i := 1) (lv' := [some _, _, _, _, _]) (q := 21) dX8_kept_20 rfl (by decide) rfl rfl ?_
    have hBB : SB [12, 15, 20, 21] B B1 := hB.mo (by decide)
    have P21 : ∀ k s (y2 y3 y4 : Option Value), s + k = (fl8 A st 0).length → wp l mX8_kept [] d 0 0 (fun rv h' => rv = some (.int (match (List.range' s ((fl8 A st 0).length - s)).find? (fun s => !stB A st s) with | some s => -20 - nI s | none => kpF A na 0)) ∧ ∃ I' L' A' B', h' = (sz, mh b I' L' A' B' g) ∧ SC [16, 17, 18, 23] [13, 14] I A I' A' ∧ SB [12, 15, 20, 21] B B') (sz, mh b I1 L1 A1 B1 g) 21 [some (.ref b), some (.int (nI s)), y2, y3, y4] [] := by
      intro k
      induction k with
      | zero =>
        intro s y2 y3 y4 hs
        refine wp_iload_n (i := 1) (q := 22) dX8_kept_21 rfl rfl rfl ?_
        refine wp_aload_n (i := 0) (q := 23) dX8_kept_22 rfl rfl rfl ?_
        refine wm_getI (k := 23) (q := 26) dX8_kept_23 ffX8_230 rfl rfl ?_ -- basis
        rw [t3]
        refine wp_icmp_ge (t := 111) (q := 29) dX8_kept_26 (by decide) rfl (fun hc => ?_) (fun hc => ?_)
        · rw [find_end (by omega)]
          refine wp_iconst (v := nI 0) (q := 112) dX8_kept_111 (by decide) rfl ?_
          refine wp_istore_n (i := 1) (lv' := [some _, _, _, _, _]) (q := 113) dX8_kept_112 rfl (by decide) rfl rfl ?_
          exact G I1 L1 A1 B1 na 0 _ _ _ (by omega) hS hBB
        · exact absurd ((nI_leI (by omega) (by omega)).mpr (by omega)) hc
      | succ k ih =>
        intro s y2 y3 y4 hs
        refine wp_iload_n (i := 1) (q := 22) dX8_kept_21 rfl rfl rfl ?_
        refine wp_aload_n (i := 0) (q := 23) dX8_kept_22 rfl rfl rfl ?_
        refine wm_getI (k := 23) (q := 26) dX8_kept_23 ffX8_230 rfl rfl ?_ -- basis
        rw [t3]
        refine wp_icmp_ge (t := 111) (q := 29) dX8_kept_26 (by decide) rfl (fun hc => ?_) (fun hc => ?_)
        · exact absurd ((nI_leI (by omega) (by omega)).mp hc) (by omega)
        rw [find_step (by omega)]
        refine wp_aload_n (i := 0) (q := 30) dX8_kept_29 rfl rfl rfl ?_
        refine wm_getA (k := 24) (o := 15) (q := 33) dX8_kept_30 ffX8_54 rfl rfl rfl ?_ -- base
        refine wp_iconst (v := nI 5) (q := 34) dX8_kept_33 (by decide) rfl ?_
        refine wp_iload_n (i := 1) (q := 35) dX8_kept_34 rfl rfl rfl ?_
        refine wp_imul (q := 36) dX8_kept_35 rfl ?_
        refine wp_aload_n (i := 0) (q := 37) dX8_kept_36 rfl rfl rfl ?_
        refine wm_getA (k := 1) (o := 1) (q := 40) dX8_kept_37 ffX8_7 rfl rfl rfl ?_ -- size
        refine wp_aload_n (i := 0) (q := 41) dX8_kept_40 rfl rfl rfl ?_
        refine wm_getI (k := 25) (q := 44) dX8_kept_41 ffX8_109 rfl rfl ?_ -- startAt
        rw [hS.1 25 (by decide), q1]
        refine wm_ialdN (q := 45) dX8_kept_44 ⟨by decide, by decide, rfl⟩ rfl (by simp only [mlen]; omega) (by decide) rfl ?_
        rw [hS.2 1 (by decide), hMs.1]
        refine wp_iadd (q := 46) dX8_kept_45 rfl ?_
        rw [pk_mul, nI_add]
        refine wm_laldN (q := 47) dX8_kept_46 ⟨by decide, by decide, rfl⟩ rfl (by simp only [mlen]; omega) (by decide) rfl ?_
        refine wp_lstore_n (i := 2) (lv' := [_, some _, _, _, _]) (q := 48) dX8_kept_47 rfl (by decide) rfl rfl ?_
        refine wp_iconst (v := nI 0) (q := 49) dX8_kept_48 (by decide) rfl ?_
        refine wp_istore (lv' := [_, _, _, _, _]) (q := 51) dX8_kept_49 (by decide) rfl rfl ?_
        rw [t4 s (kA A st) (by omega) (by omega)]
        have P51 : ∀ k v (z : Int64), v + k = kA A st → stS A (bRow A st s) k v z = stS A (bRow A st s) (kA A st) 0 (bRow A st s (kA A st)) → wp l mX8_kept [] d 0 0 (fun rv h' => rv = some (.int (match (if (!stB A st s) = true then some s else (List.range' (s + 1) ((fl8 A st 0).length - (s + 1))).find? (fun s => !stB A st s)) with | some s => -20 - nI s | none => kpF A na 0)) ∧ ∃ I' L' A' B', h' = (sz, mh b I' L' A' B' g) ∧ SC [16, 17, 18, 23] [13, 14] I A I' A' ∧ SB [12, 15, 20, 21] B B') (sz, mh b I1 L1 A1 B1 g) 51 [some (.ref b), some (.int (nI s)), some (.long z), none, some (.int (nI v))] [] := by
          intro k
          induction k with
          | zero =>
            intro v z hv hz
            refine wp_iload (q := 53) dX8_kept_51 rfl rfl ?_
            refine wp_aload_n (i := 0) (q := 54) dX8_kept_53 rfl rfl rfl ?_
            refine wm_getA (k := 1) (o := 1) (q := 57) dX8_kept_54 ffX8_7 rfl rfl rfl ?_ -- size
            refine wp_aload_n (i := 0) (q := 58) dX8_kept_57 rfl rfl rfl ?_
            refine wm_getI (k := 25) (q := 61) dX8_kept_58 ffX8_109 rfl rfl ?_ -- startAt
            rw [hS.1 25 (by decide), q1]
            refine wm_ialdN (q := 62) dX8_kept_61 ⟨by decide, by decide, rfl⟩ rfl (by simp only [mlen]; omega) (by decide) rfl ?_
            rw [hS.2 1 (by decide), hMs.1]
            refine wp_icmp_ge (t := 94) (q := 65) dX8_kept_62 (by decide) rfl (fun hc2 => ?_) (fun hc2 => ?_)
            · rw [show stS A (bRow A st s) 0 v z = z from rfl] at hz
              refine wp_lload_n (i := 2) (q := 95) dX8_kept_94 rfl rfl rfl ?_
              refine wp_lconst (v := 0) (q := 96) dX8_kept_95 (by decide) rfl ?_
              refine wp_lcmp (q := 97) dX8_kept_96 rfl ?_
              refine wp_if_eq (t := 105) (q := 100) dX8_kept_97 (by decide) rfl (fun hz0 => ?_) (fun hz0 => ?_)
              · have : stB A st s = true := by unfold stB; rw [← hz]; exact decide_eq_true (lg_cmp0.mp hz0)
                rw [if_neg (by rw [this]; decide)]
                refine wp_iinc (v := _ + nI 1) (lv' := [some _, _, _, _, _]) (q := 108) dX8_kept_105 rfl rfl (by decide) rfl rfl ?_
                refine wp_goto (q := 21) dX8_kept_108 (by decide) ?_
                rw [nI_add]
                exact ih (s + 1) _ _ _ (by omega)
              · have : stB A st s = false := by unfold stB; rw [← hz]; exact decide_eq_false (fun q => hz0 (lg_cmp0.mpr q))
                rw [if_pos (by rw [this]; rfl)]
                refine wp_bipush (v := (-20)) (q := 102) dX8_kept_100 (by decide) rfl ?_
                refine wp_iload_n (i := 1) (q := 103) dX8_kept_102 rfl rfl rfl ?_
                refine wp_isub (q := 104) dX8_kept_103 rfl ?_
                refine wp_iret dX8_kept_104 rfl ?_
                exact ⟨rfl, I1, L1, A1, B1, rfl, hS, hBB⟩
            · exact absurd ((nI_leI (by omega) (by omega)).mpr (by omega)) hc2
          | succ k ihv =>
            intro v z hv hz
            rw [show stS A (bRow A st s) (k + 1) v z = stS A (bRow A st s) k (v + 1) (z + bRow A st s v * (A 16 v).toInt64) from rfl] at hz
            refine wp_iload (q := 53) dX8_kept_51 rfl rfl ?_
            refine wp_aload_n (i := 0) (q := 54) dX8_kept_53 rfl rfl rfl ?_
            refine wm_getA (k := 1) (o := 1) (q := 57) dX8_kept_54 ffX8_7 rfl rfl rfl ?_ -- size
            refine wp_aload_n (i := 0) (q := 58) dX8_kept_57 rfl rfl rfl ?_
            refine wm_getI (k := 25) (q := 61) dX8_kept_58 ffX8_109 rfl rfl ?_ -- startAt
            rw [hS.1 25 (by decide), q1]
            refine wm_ialdN (q := 62) dX8_kept_61 ⟨by decide, by decide, rfl⟩ rfl (by simp only [mlen]; omega) (by decide) rfl ?_
            rw [hS.2 1 (by decide), hMs.1]
            refine wp_icmp_ge (t := 94) (q := 65) dX8_kept_62 (by decide) rfl (fun hc2 => ?_) (fun hc2 => ?_)
            · exact absurd ((nI_leI (by omega) (by omega)).mp hc2) (by omega)
            refine wp_lload_n (i := 2) (q := 66) dX8_kept_65 rfl rfl rfl ?_
            refine wp_aload_n (i := 0) (q := 67) dX8_kept_66 rfl rfl rfl ?_
            refine wm_getA (k := 24) (o := 15) (q := 70) dX8_kept_67 ffX8_54 rfl rfl rfl ?_ -- base
            refine wp_iconst (v := nI 5) (q := 71) dX8_kept_70 (by decide) rfl ?_
            refine wp_iload_n (i := 1) (q := 72) dX8_kept_71 rfl rfl rfl ?_
            refine wp_imul (q := 73) dX8_kept_72 rfl ?_
            refine wp_iload (q := 75) dX8_kept_73 rfl rfl ?_
            refine wp_iadd (q := 76) dX8_kept_75 rfl ?_
            rw [pk_mul, nI_add]
            refine wm_laldN (q := 77) dX8_kept_76 ⟨by decide, by decide, rfl⟩ rfl (by simp only [mlen]; omega) (by decide) rfl ?_
            refine wp_aload_n (i := 0) (q := 78) dX8_kept_77 rfl rfl rfl ?_
            refine wm_getA (k := 26) (o := 16) (q := 81) dX8_kept_78 ffX8_57 rfl rfl rfl ?_ -- start
            refine wp_iload (q := 83) dX8_kept_81 rfl rfl ?_
            refine wm_ialdN (q := 84) dX8_kept_83 ⟨by decide, by decide, rfl⟩ rfl (by simp only [mlen]; omega) (by decide) rfl ?_
            refine wp_i2l (q := 85) dX8_kept_84 rfl ?_
            refine wp_lmul (q := 86) dX8_kept_85 rfl ?_
            refine wp_ladd (q := 87) dX8_kept_86 rfl ?_
            refine wp_lstore_n (i := 2) (lv' := [_, some _, _, _, _]) (q := 88) dX8_kept_87 rfl (by decide) rfl rfl ?_
            refine wp_iinc (v := _ + nI 1) (lv' := [_, _, _, _, _]) (q := 91) dX8_kept_88 rfl rfl (by decide) rfl rfl ?_
            refine wp_goto (q := 51) dX8_kept_91 (by decide) ?_
            rw [nI_add, t4 s v (by omega) (by omega), hS.2 16 (by decide)]
            exact ihv (v + 1) _ (by omega) hz
        exact P51 (kA A st) 0 _ (by omega) rfl
    exact P21 (fl8 A st 0).length 0 none none none (by omega)
  · rw [if_pos (Int32.not_le.mp hst)]
    refine wp_bipush (v := (-3)) (q := 9) dX8_kept_7 (by decide) rfl ?_
    refine wp_iret dX8_kept_9 rfl ?_
    exact ⟨rfl, I, L, A, B, rfl, SC.rf, SB.rf⟩
end M21
