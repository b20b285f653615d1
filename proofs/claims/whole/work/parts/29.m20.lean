/-! THE REFERENCE: is a row a sum of the readings; the row that an act makes of a sum -/
def suF (row t : Nat → Int64) (fs : List Nat) (r : Nat) : Nat → Nat → Int64 → Int64
  | 0, _, z => z
  | m + 1, f, z => suF row t fs r m (f + 1) (z + if frF fs f = true then row f * t (5 * r + f) else 0)
theorem suF_cg {rows n : Nat} {row t t' : Nat → Int64} {fs : List Nat} {r : Nat} (h : eqT rows n t t') (hr : r < rows) : ∀ m f z, f + m ≤ n → suF row t fs r m f z = suF row t' fs r m f z
  | 0, _, _, _ => rfl
  | m + 1, f, z, hf => by
    unfold suF
    rw [h r f hr (by omega), suF_cg h hr m (f + 1) _ (by omega)]
def isT (row : Nat → Int64) (n rows : Nat) (s : brT) : Bool := if rows = 0 then (List.range' 0 n).all (fun c => decide (row c = 0)) else (List.range' 0 s.2.1.length).all (fun r => decide (suF row s.1 s.2.1 r n 0 (s.2.2 * row (s.2.1.getD r 0)) = 0))
theorem isT_sl {A : Nat → Nat → Int32} {p side : Nat} {t row : Nat → Int64} (hM : MP A p) : isT row (kA A p + 1) (rs A p side).length (slv A p side t) = isT row (kA A p + 1) (rs A p side).length (sl A p side) := by
  obtain ⟨h1, h2⟩ := slv_sl (side := side) (t := t) hM
  have h3 := (slv_inv (side := side) hM (t := t)).2.2.1
  unfold isT
  rw [h2] at h3 ⊢
  by_cases e : (rs A p side).length = 0
  · rw [if_pos e, if_pos e]
  · rw [if_neg e, if_neg e]
    rw [Bool.eq_iff_iff, List.all_eq_true, List.all_eq_true]
    constructor
    · intro h r hr
      have hr2 := List.mem_range'_1.mp hr
      rw [← suF_cg h1 (by omega : r < (rs A p side).length) _ _ _ (by omega)]
      exact h r hr
    · intro h r hr
      have hr2 := List.mem_range'_1.mp hr
      rw [suF_cg h1 (by omega : r < (rs A p side).length) _ _ _ (by omega)]
      exact h r hr
theorem all_step {n k : Nat} {P : Nat → Bool} (h : k < n) : (List.range' k (n - k)).all P = (P k && (List.range' (k + 1) (n - (k + 1))).all P) := by
  rw [show n - k = (n - (k + 1)) + 1 by omega, List.range'_succ, List.all_cons]
theorem all_end {n k : Nat} {P : Nat → Bool} (h : n ≤ k) : (List.range' k (n - k)).all P = true := by
  rw [show n - k = 0 by omega]; rfl
section M20
variable {l : Launch} {d sz b np na p side : Nat} {I : Nat → Int32} {L : Int64} {A : Nat → Nat → Int32} {B : Nat → Nat → Int64} {g : Nat → Option aE}
theorem tX8_isSum (hd : 3 ≤ d) (hp : p < 6) (hM : MP A p) : mt l mX8_isSum d 0 0 [.ref b, .int (nI p)] (sz, mh b I L A B g) (fun rv h' => rv = some (.int (b2 (isT (B 20) (kA A p + 1) (rs A p 0).length (sl A p 0)))) ∧ ∃ I' L' A' B', h' = (sz, mh b I' L' A' B' g) ∧ SC [16, 17, 18] [13, 14] I A I' A' ∧ SB [12] B B') := by
  rw [← isT_sl (t := B 12) hM]
  refine mt_in (lv := [_, _, _, _, _, _, _]) (by decide) (Nat.le_of_ble_eq_true rfl) rfl ?_
  refine wp_aload_n (i := 0) (q := 1) dX8_isSum_0 rfl rfl rfl ?_
  refine wp_iload_n (i := 1) (q := 2) dX8_isSum_1 rfl rfl rfl ?_
  refine wp_iconst (v := nI 0) (q := 3) dX8_isSum_2 (by decide) rfl ?_
  refine wp_V (μ' := mX8_layTable) (ci := 8) (q := 6) (tX8_layTable (d := d - 1) (side := 0) (by omega) hp (by omega) hM) dX8_isSum_3 okX8_layTable lkX8_227 mh_obj rfl rfl rfl (Nat.le_of_ble_eq_true rfl) (by omega) rfl (fun rv hx hq => ?_)
  obtain ⟨rfl, I1, L1, A1, B1, rfl, hS, hB, t16, t17, t18, rfl, t12, t13, t14⟩ := hq
  obtain ⟨v1, v2, v3, v4⟩ := slv_inv (side := 0) hM (t := B 12)
  have hk4 := hM.2.1
  have hrl := rs_len (A := A) (p := p) (side := 0) hM.2.2.2.1
  have hB20 : B1 20 = B 20 := hB 20 (by decide)
  generalize hs0 : slv A p 0 (B 12) = s at *
  obtain ⟨t, fs, y⟩ := s
  dsimp only at t18 t12 t13 t14 v1 v2 v3 v4
  generalize hn0 : kA A p + 1 = n at *
  generalize hr0 : (rs A p 0).length = rows at *
  show wp _ _ _ _ _ _ _ _ _ _ []
  refine wp_iconst (v := nI 1) (q := 7) dX8_isSum_6 (by decide) rfl ?_
  refine wp_istore_n (i := 2) (lv' := [_, some _, _, _, _, _, _]) (q := 8) dX8_isSum_7 rfl (by decide) rfl rfl ?_
  refine wp_iconst (v := nI 0) (q := 9) dX8_isSum_8 (by decide) rfl ?_
  refine wp_istore_n (i := 3) (lv' := [_, _, some _, _, _, _, _]) (q := 10) dX8_isSum_9 rfl (by decide) rfl rfl ?_
  have P54 : ∀ m r (gd : Bool) (y4 y5 y6 : Option Value), r + m = fs.length → (gd && (if rows = 0 then true else (List.range' r (fs.length - r)).all (fun r => decide (suF (B 20) t fs r n 0 (y * B 20 (fs.getD r 0)) = 0)))) = isT (B 20) n rows (t, fs, y) → wp l mX8_isSum [] d 0 0 (fun rv h' => rv = some (.int (b2 (isT (B 20) n rows (t, fs, y)))) ∧ ∃ I' L' A' B', h' = (sz, mh b I' L' A' B' g) ∧ SC [16, 17, 18] [13, 14] I A I' A' ∧ SB [12] B B') (sz, mh b I1 y A1 B1 g) 54 [some (.ref b), some (.int (nI p)), some (.int (b2 gd)), some (.int (nI r)), y4, y5, y6] [] := by
    intro m
    induction m with
    | zero =>
      intro r gd y4 y5 y6 hr he
      refine wp_iload_n (i := 3) (q := 55) dX8_isSum_54 rfl rfl rfl ?_
      refine wp_aload_n (i := 0) (q := 56) dX8_isSum_55 rfl rfl rfl ?_
      refine wm_getI (k := 18) (q := 59) dX8_isSum_56 ffX8_207 rfl rfl ?_ -- rank
      rw [t18]
      refine wp_icmp_ge (t := 166) (q := 62) dX8_isSum_59 (by decide) rfl (fun hc => ?_) (fun hc => ?_)
      · refine wp_iload_n (i := 2) (q := 167) dX8_isSum_166 rfl rfl rfl ?_
        rw [show gd = isT (B 20) n rows (t, fs, y) by rw [all_end (by omega), ite_self, Bool.and_true] at he; exact he]
        refine wp_zret dX8_isSum_167 rfl (by first | exact Or.inl rfl | exact Or.inr rfl | exact b2_01 _ | assumption) ?_
        exact ⟨rfl, I1, y, A1, B1, rfl, hS, hB⟩
      · exact absurd ((nI_leI (by omega) (by omega)).mpr (by omega)) hc
    | succ m ih =>
      intro r gd y4 y5 y6 hr he
      refine wp_iload_n (i := 3) (q := 55) dX8_isSum_54 rfl rfl rfl ?_
      refine wp_aload_n (i := 0) (q := 56) dX8_isSum_55 rfl rfl rfl ?_
      refine wm_getI (k := 18) (q := 59) dX8_isSum_56 ffX8_207 rfl rfl ?_ -- rank
      rw [t18]
      refine wp_icmp_ge (t := 166) (q := 62) dX8_isSum_59 (by decide) rfl (fun hc => ?_) (fun hc => ?_)
      · exact absurd ((nI_leI (by omega) (by omega)).mp hc) (by omega)
      refine wp_aload_n (i := 0) (q := 63) dX8_isSum_62 rfl rfl rfl ?_
      refine wm_getI (k := 16) (q := 66) dX8_isSum_63 ffX8_217 rfl rfl ?_ -- rows
      rw [t16]
      refine wp_if_le (t := 166) (q := 69) dX8_isSum_66 (by decide) rfl (fun hr0 => ?_) (fun hr0 => ?_)
      · have : rows = 0 := by
          have := (nI_leI (a := rows) (b := 0) (by omega) (by omega)).mp hr0
          omega
        rw [if_pos this, Bool.and_true] at he
        refine wp_iload_n (i := 2) (q := 167) dX8_isSum_166 rfl rfl rfl ?_
        rw [he]
        refine wp_zret dX8_isSum_167 rfl (by first | exact Or.inl rfl | exact Or.inr rfl | exact b2_01 _ | assumption) ?_
        exact ⟨rfl, I1, y, A1, B1, rfl, hS, hB⟩
      have hr1 : ¬ rows = 0 := fun q => hr0 (by rw [q]; decide)
      have hfr : A1 13 r = nI (fs.getD r 0) := t13 r _ (by rw [List.getD_eq_getElem?_getD, List.getElem?_eq_getElem (by omega : r < fs.length)]; rfl)
      have hlt : fs.getD r 0 < n := v1 _ (getD_mem (by omega))
      rw [if_neg hr1, all_step (by omega)] at he
      refine wp_aload_n (i := 0) (q := 70) dX8_isSum_69 rfl rfl rfl ?_
      refine wm_getL (k := 22) (q := 73) dX8_isSum_70 ffX8_210 rfl rfl ?_ -- by
      refine wp_aload_n (i := 0) (q := 74) dX8_isSum_73 rfl rfl rfl ?_
      refine wm_getA (k := 31) (o := 20) (q := 77) dX8_isSum_74 ffX8_69 rfl rfl rfl ?_ -- row
      refine wp_aload_n (i := 0) (q := 78) dX8_isSum_77 rfl rfl rfl ?_
      refine wm_getA (k := 20) (o := 13) (q := 81) dX8_isSum_78 ffX8_48 rfl rfl rfl ?_ -- first
      refine wp_iload_n (i := 3) (q := 82) dX8_isSum_81 rfl rfl rfl ?_
      refine wm_ialdN (q := 83) dX8_isSum_82 ⟨by decide, by decide, rfl⟩ rfl (by simp only [mlen]; omega) (by decide) rfl ?_
      rw [hfr]
      refine wm_laldN (q := 84) dX8_isSum_83 ⟨by decide, by decide, rfl⟩ rfl (by simp only [mlen]; omega) (by decide) rfl ?_
      refine wp_lmul (q := 85) dX8_isSum_84 rfl ?_
      refine wp_lstore (lv' := [_, _, _, some _, _, _, _]) (q := 87) dX8_isSum_85 (by decide) rfl rfl ?_
      refine wp_iconst (v := nI 0) (q := 88) dX8_isSum_87 (by decide) rfl ?_
      refine wp_istore (lv' := [_, _, _, _, _, _, _]) (q := 90) dX8_isSum_88 (by decide) rfl rfl ?_
      rw [hB20]
      have P90 : ∀ m f (z : Int64), f + m = n → suF (B 20) t fs r m f z = suF (B 20) t fs r n 0 (y * B 20 (fs.getD r 0)) → wp l mX8_isSum [] d 0 0 (fun rv h' => rv = some (.int (b2 (isT (B 20) n rows (t, fs, y)))) ∧ ∃ I' L' A' B', h' = (sz, mh b I' L' A' B' g) ∧ SC [16, 17, 18] [13, 14] I A I' A' ∧ SB [12] B B') (sz, mh b I1 y A1 B1 g) 90 [some (.ref b), some (.int (nI p)), some (.int (b2 gd)), some (.int (nI r)), some (.long z), none, some (.int (nI f))] [] := by
        intro m
        induction m with
        | zero =>
          intro f z hf hz
          refine wp_iload (q := 92) dX8_isSum_90 rfl rfl ?_
          refine wp_aload_n (i := 0) (q := 93) dX8_isSum_92 rfl rfl rfl ?_
          refine wm_getI (k := 17) (q := 96) dX8_isSum_93 ffX8_214 rfl rfl ?_ -- columns
          rw [t17]
          refine wp_icmp_ge (t := 143) (q := 99) dX8_isSum_96 (by decide) rfl (fun hc2 => ?_) (fun hc2 => ?_)
          · rw [show suF (B 20) t fs r 0 f z = z from rfl] at hz
            refine wp_iload_n (i := 2) (q := 144) dX8_isSum_143 rfl rfl rfl ?_
            have K159 : ∀ c : Bool, c = (gd && decide (z = 0)) → wp l mX8_isSum [] d 0 0 (fun rv h' => rv = some (.int (b2 (isT (B 20) n rows (t, fs, y)))) ∧ ∃ I' L' A' B', h' = (sz, mh b I' L' A' B' g) ∧ SC [16, 17, 18] [13, 14] I A I' A' ∧ SB [12] B B') (sz, mh b I1 y A1 B1 g) 159 [some (.ref b), some (.int (nI p)), some (.int (b2 gd)), some (.int (nI r)), some (.long z), none, some (.int (nI f))] [.int (b2 c)] := by
              intro c hcz
              refine wp_istore_n (i := 2) (lv' := [_, some _, _, _, _, _, _]) (q := 160) dX8_isSum_159 rfl (by decide) rfl rfl ?_
              refine wp_iinc (v := _ + nI 1) (lv' := [_, _, some _, _, _, _, _]) (q := 163) dX8_isSum_160 rfl rfl (by decide) rfl rfl ?_
              refine wp_goto (q := 54) dX8_isSum_163 (by decide) ?_
              rw [nI_add]
              refine ih (r + 1) c _ _ _ (by omega) ?_
              rw [if_neg hr1, hcz, hz, Bool.and_assoc]
              exact he
            refine wp_if_eq (t := 158) (q := 147) dX8_isSum_144 (by decide) rfl (fun hg => ?_) (fun hg => ?_)
            · refine wp_iconst (v := nI 0) (q := 159) dX8_isSum_158 (by decide) rfl ?_
              exact K159 false (by rw [b2_eq0.mp hg, Bool.false_and])
            refine wp_lload (q := 149) dX8_isSum_147 rfl rfl ?_
            refine wp_lconst (v := 0) (q := 150) dX8_isSum_149 (by decide) rfl ?_
            refine wp_lcmp (q := 151) dX8_isSum_150 rfl ?_
            refine wp_if_ne (t := 158) (q := 154) dX8_isSum_151 (by decide) rfl (fun hz0 => ?_) (fun hz0 => ?_)
            · refine wp_iconst (v := nI 0) (q := 159) dX8_isSum_158 (by decide) rfl ?_
              exact K159 false (by rw [decide_eq_false (fun q => hz0 (lg_cmp0.mpr q)), Bool.and_false])
            · refine wp_iconst (v := nI 1) (q := 155) dX8_isSum_154 (by decide) rfl ?_
              refine wp_goto (q := 159) dX8_isSum_155 (by decide) ?_
              exact K159 true (by rw [b2_ne0.mp hg, decide_eq_true (lg_cmp0.mp hz0)]; rfl)
          · exact absurd ((nI_leI (by omega) (by omega)).mpr (by omega)) hc2
        | succ m ihf =>
          intro f z hf hz
          refine wp_iload (q := 92) dX8_isSum_90 rfl rfl ?_
          refine wp_aload_n (i := 0) (q := 93) dX8_isSum_92 rfl rfl rfl ?_
          refine wm_getI (k := 17) (q := 96) dX8_isSum_93 ffX8_214 rfl rfl ?_ -- columns
          rw [t17]
          refine wp_icmp_ge (t := 143) (q := 99) dX8_isSum_96 (by decide) rfl (fun hc2 => ?_) (fun hc2 => ?_)
          · exact absurd ((nI_leI (by omega) (by omega)).mp hc2) (by omega)
          refine wp_lload (q := 101) dX8_isSum_99 rfl rfl ?_
          refine wp_aload_n (i := 0) (q := 102) dX8_isSum_101 rfl rfl rfl ?_
          refine wm_getA (k := 21) (o := 14) (q := 105) dX8_isSum_102 ffX8_51 rfl rfl rfl ?_ -- isFree
          refine wp_iload (q := 107) dX8_isSum_105 rfl rfl ?_
          refine wm_zaldN (q := 108) dX8_isSum_107 ⟨by decide, by decide, rfl⟩ rfl (by simp only [mlen]; omega) (by decide) rfl ?_
          rw [t14 f (by omega)]
          rw [show suF (B 20) t fs r (m + 1) f z = suF (B 20) t fs r m (f + 1) (z + if frF fs f = true then B 20 f * t (5 * r + f) else 0) from rfl] at hz
          refine wp_if_eq (t := 133) (q := 111) dX8_isSum_108 (by decide) rfl (fun hfree => ?_) (fun hfree => ?_)
          · rw [if_neg (by rw [b2_eq0.mp hfree]; decide)] at hz
            refine wp_lconst (v := 0) (q := 134) dX8_isSum_133 (by decide) rfl ?_
            refine wp_ladd (q := 135) dX8_isSum_134 rfl ?_
            refine wp_lstore (lv' := [_, _, _, some _, _, _, _]) (q := 137) dX8_isSum_135 (by decide) rfl rfl ?_
            refine wp_iinc (v := _ + nI 1) (lv' := [_, _, _, _, _, _, _]) (q := 140) dX8_isSum_137 rfl rfl (by decide) rfl rfl ?_
            refine wp_goto (q := 90) dX8_isSum_140 (by decide) ?_
            rw [nI_add]
            exact ihf (f + 1) _ (by omega) hz
          · rw [if_pos (b2_ne0.mp hfree)] at hz
            refine wp_aload_n (i := 0) (q := 112) dX8_isSum_111 rfl rfl rfl ?_
            refine wm_getA (k := 31) (o := 20) (q := 115) dX8_isSum_112 ffX8_69 rfl rfl rfl ?_ -- row
            refine wp_iload (q := 117) dX8_isSum_115 rfl rfl ?_
            refine wm_laldN (q := 118) dX8_isSum_117 ⟨by decide, by decide, rfl⟩ rfl (by simp only [mlen]; omega) (by decide) rfl ?_
            refine wp_aload_n (i := 0) (q := 119) dX8_isSum_118 rfl rfl rfl ?_
            refine wm_getA (k := 19) (o := 12) (q := 122) dX8_isSum_119 ffX8_44 rfl rfl rfl ?_ -- table
            refine wp_iconst (v := nI 5) (q := 123) dX8_isSum_122 (by decide) rfl ?_
            refine wp_iload_n (i := 3) (q := 124) dX8_isSum_123 rfl rfl rfl ?_
            refine wp_imul (q := 125) dX8_isSum_124 rfl ?_
            refine wp_iload (q := 127) dX8_isSum_125 rfl rfl ?_
            refine wp_iadd (q := 128) dX8_isSum_127 rfl ?_
            rw [pk_mul, nI_add]
            refine wm_laldN (q := 129) dX8_isSum_128 ⟨by decide, by decide, rfl⟩ rfl (by simp only [mlen]; omega) (by decide) rfl ?_
            refine wp_lmul (q := 130) dX8_isSum_129 rfl ?_
            refine wp_goto (q := 134) dX8_isSum_130 (by decide) ?_
            refine wp_ladd (q := 135) dX8_isSum_134 rfl ?_
            refine wp_lstore (lv' := [_, _, _, some _, _, _, _]) (q := 137) dX8_isSum_135 (by decide) rfl rfl ?_
            refine wp_iinc (v := _ + nI 1) (lv' := [_, _, _, _, _, _, _]) (q := 140) dX8_isSum_137 rfl rfl (by decide) rfl rfl ?_
            refine wp_goto (q := 90) dX8_isSum_140 (by decide) ?_
            rw [nI_add, t12, hB20]
            exact ihf (f + 1) _ (by omega) hz
      exact P90 n 0 _ (by omega) rfl
  have P10 : ∀ m c (gd : Bool) (y4 y5 y6 : Option Value), c + m = n → (if rows = 0 then (gd && (List.range' c (n - c)).all (fun c => decide (B 20 c = 0))) = isT (B 20) n rows (t, fs, y) else gd = true) → wp l mX8_isSum [] d 0 0 (fun rv h' => rv = some (.int (b2 (isT (B 20) n rows (t, fs, y)))) ∧ ∃ I' L' A' B', h' = (sz, mh b I' L' A' B' g) ∧ SC [16, 17, 18] [13, 14] I A I' A' ∧ SB [12] B B') (sz, mh b I1 y A1 B1 g) 10 [some (.ref b), some (.int (nI p)), some (.int (b2 gd)), some (.int (nI c)), y4, y5, y6] [] := by
    intro m
    induction m with
    | zero =>
      intro c gd y4 y5 y6 hcm he
      refine wp_iload_n (i := 3) (q := 11) dX8_isSum_10 rfl rfl rfl ?_
      refine wp_aload_n (i := 0) (q := 12) dX8_isSum_11 rfl rfl rfl ?_
      refine wm_getI (k := 17) (q := 15) dX8_isSum_12 ffX8_214 rfl rfl ?_ -- columns
      rw [t17]
      refine wp_icmp_ge (t := 52) (q := 18) dX8_isSum_15 (by decide) rfl (fun hc => ?_) (fun hc => ?_)
      · refine wp_iconst (v := nI 0) (q := 53) dX8_isSum_52 (by decide) rfl ?_
        refine wp_istore_n (i := 3) (lv' := [_, _, some _, _, _, _, _]) (q := 54) dX8_isSum_53 rfl (by decide) rfl rfl ?_
        refine P54 fs.length 0 gd _ _ _ (by omega) ?_
        by_cases e : rows = 0
        · rw [if_pos e, Bool.and_true]
          rw [if_pos e, all_end (by omega), Bool.and_true] at he
          exact he
        · rw [if_neg e]
          rw [if_neg e] at he
          rw [he, Bool.true_and]
          unfold isT
          rw [if_neg e]
          rfl
      · exact absurd ((nI_leI (by omega) (by omega)).mpr (by omega)) hc
    | succ m ih =>
      intro c gd y4 y5 y6 hcm he
      refine wp_iload_n (i := 3) (q := 11) dX8_isSum_10 rfl rfl rfl ?_
      refine wp_aload_n (i := 0) (q := 12) dX8_isSum_11 rfl rfl rfl ?_
      refine wm_getI (k := 17) (q := 15) dX8_isSum_12 ffX8_214 rfl rfl ?_ -- columns
      rw [t17]
      refine wp_icmp_ge (t := 52) (q := 18) dX8_isSum_15 (by decide) rfl (fun hc => ?_) (fun hc => ?_)
      · exact absurd ((nI_leI (by omega) (by omega)).mp hc) (by omega)
      refine wp_aload_n (i := 0) (q := 19) dX8_isSum_18 rfl rfl rfl ?_
      refine wm_getI (k := 16) (q := 22) dX8_isSum_19 ffX8_217 rfl rfl ?_ -- rows
      rw [t16]
      refine wp_if_ne (t := 52) (q := 25) dX8_isSum_22 (by decide) rfl (fun hr => ?_) (fun hr => ?_)
      · have e : ¬ rows = 0 := fun q => hr (by rw [q]; rfl)
        refine wp_iconst (v := nI 0) (q := 53) dX8_isSum_52 (by decide) rfl ?_
        refine wp_istore_n (i := 3) (lv' := [_, _, some _, _, _, _, _]) (q := 54) dX8_isSum_53 rfl (by decide) rfl rfl ?_
        refine P54 fs.length 0 gd _ _ _ (by omega) ?_
        rw [if_neg e]
        rw [if_neg e] at he
        rw [he, Bool.true_and]
        unfold isT
        rw [if_neg e]
        rfl
      have e : rows = 0 := (nI_eq (b := 0) (by omega) (by decide)).mp hr
      rw [if_pos e, all_step (by omega)] at he
      have K45 : ∀ x : Bool, x = (gd && decide (B 20 c = 0)) → wp l mX8_isSum [] d 0 0 (fun rv h' => rv = some (.int (b2 (isT (B 20) n rows (t, fs, y)))) ∧ ∃ I' L' A' B', h' = (sz, mh b I' L' A' B' g) ∧ SC [16, 17, 18] [13, 14] I A I' A' ∧ SB [12] B B') (sz, mh b I1 y A1 B1 g) 45 [some (.ref b), some (.int (nI p)), some (.int (b2 gd)), some (.int (nI c)), y4, y5, y6] [.int (b2 x)] := by
        intro x hx
        refine wp_istore_n (i := 2) (lv' := [_, some _, _, _, _, _, _]) (q := 46) dX8_isSum_45 rfl (by decide) rfl rfl ?_
        refine wp_iinc (v := _ + nI 1) (lv' := [_, _, some _, _, _, _, _]) (q := 49) dX8_isSum_46 rfl rfl (by decide) rfl rfl ?_
        refine wp_goto (q := 10) dX8_isSum_49 (by decide) ?_
        rw [nI_add]
        refine ih (c + 1) x _ _ _ (by omega) ?_
        rw [if_pos e, hx, Bool.and_assoc]
        exact he
      refine wp_iload_n (i := 2) (q := 26) dX8_isSum_25 rfl rfl rfl ?_
      refine wp_if_eq (t := 44) (q := 29) dX8_isSum_26 (by decide) rfl (fun hg => ?_) (fun hg => ?_)
      · refine wp_iconst (v := nI 0) (q := 45) dX8_isSum_44 (by decide) rfl ?_
        exact K45 false (by rw [b2_eq0.mp hg, Bool.false_and])
      refine wp_aload_n (i := 0) (q := 30) dX8_isSum_29 rfl rfl rfl ?_
      refine wm_getA (k := 31) (o := 20) (q := 33) dX8_isSum_30 ffX8_69 rfl rfl rfl ?_ -- row
      refine wp_iload_n (i := 3) (q := 34) dX8_isSum_33 rfl rfl rfl ?_
      refine wm_laldN (q := 35) dX8_isSum_34 ⟨by decide, by decide, rfl⟩ rfl (by simp only [mlen]; omega) (by decide) rfl ?_
      refine wp_lconst (v := 0) (q := 36) dX8_isSum_35 (by decide) rfl ?_
      refine wp_lcmp (q := 37) dX8_isSum_36 rfl ?_
      rw [hB20]
      refine wp_if_ne (t := 44) (q := 40) dX8_isSum_37 (by decide) rfl (fun hz0 => ?_) (fun hz0 => ?_)
      · refine wp_iconst (v := nI 0) (q := 45) dX8_isSum_44 (by decide) rfl ?_
        exact K45 false (by rw [decide_eq_false (fun q => hz0 (lg_cmp0.mpr q)), Bool.and_false])
      · refine wp_iconst (v := nI 1) (q := 41) dX8_isSum_40 (by decide) rfl ?_
        refine wp_goto (q := 45) dX8_isSum_41 (by decide) ?_
        exact K45 true (by rw [b2_ne0.mp hg, decide_eq_true (lg_cmp0.mp hz0)]; rfl)
  refine P10 n 0 true _ _ _ (by omega) ?_
  by_cases e : rows = 0
  · rw [if_pos e]
    unfold isT
    rw [if_pos e]
    rfl
  · rw [if_neg e]
/-- the row that act a makes of a sum, at place u: v numbers still to come -/
def mkS (A : Nat → Nat → Int32) (a u n : Nat) (sm : Nat → Int64) : Nat → Nat → Int64 → Int64
  | 0, _, z => z
  | m + 1, v, z => mkS A a u n sm m (v + 1) (z + sm v * (A 19 (20 * a + 5 * v + (if u = n then 4 else u))).toInt64)
/-- the row that act a makes of the sum sm of its to-point -/
def mkR (A : Nat → Nat → Int32) (a : Nat) (sm : Nat → Int64) (u : Nat) : Int64 := mkS A a u (kA A (frA A a)) sm (kA A (toA A a)) 0 (if u = kA A (frA A a) then sm (kA A (toA A a)) else 0)
theorem tX8_layRow {a s : Nat} (ha : a < na) (hs : s < 5) (hM : MM I A np) (hA : MA I A np na) : mt l mX8_layRow d 0 0 [.ref b, .int (nI a), .int (nI s)] (sz, mh b I L A B g) (rV (sz, mh b I L A (upR B 20 (fun z => if z ≤ kA A (frA A a) then mkR A a (fun v => B 21 (5 * s + v)) z else B 20 z)) g)) := by
  obtain ⟨hn, h0, hP, -⟩ := hM
  obtain ⟨hna, -, hA⟩ := hA
  obtain ⟨a1, a2, a3, a4⟩ := hA a ha
  obtain ⟨f1, f2, -⟩ := hP (frA A a) (by omega)
  obtain ⟨g1, g2, -⟩ := hP (toA A a) (by omega)
  generalize hmk : (fun z => mkR A a (fun v => B 21 (5 * s + v)) z) = MK
  have hmk2 : ∀ z, mkR A a (fun v => B 21 (5 * s + v)) z = MK z := fun z => congrFun hmk z
  generalize hn0 : kA A (frA A a) = n at *
  generalize hm0 : kA A (toA A a) = m at *
  refine mt_in (lv := [_, _, _, _, _, _, _]) (by decide) (Nat.le_of_ble_eq_true rfl) rfl ?_
  refine wp_aload_n (i := 0) (q := 1) dX8_layRow_0 rfl rfl rfl ?_
  refine wm_getA (k := 1) (o := 1) (q := 4) dX8_layRow_1 ffX8_7 rfl rfl rfl ?_ -- size
  refine wp_aload_n (i := 0) (q := 5) dX8_layRow_4 rfl rfl rfl ?_
  refine wm_getA (k := 28) (o := 17) (q := 8) dX8_layRow_5 ffX8_60 rfl rfl rfl ?_ -- from
  refine wp_iload_n (i := 1) (q := 9) dX8_layRow_8 rfl rfl rfl ?_
  refine wm_ialdN (q := 10) dX8_layRow_9 ⟨by decide, by decide, rfl⟩ rfl (by simp only [mlen]; omega) (by decide) rfl ?_
  rw [a1]
  refine wm_ialdN (q := 11) dX8_layRow_10 ⟨by decide, by decide, rfl⟩ rfl (by simp only [mlen]; omega) (by decide) rfl ?_
  rw [f1]
  refine wp_istore_n (i := 3) (lv' := [_, _, some _, _, _, _, _]) (q := 12) dX8_layRow_11 rfl (by decide) rfl rfl ?_
  refine wp_aload_n (i := 0) (q := 13) dX8_layRow_12 rfl rfl rfl ?_
  refine wm_getA (k := 1) (o := 1) (q := 16) dX8_layRow_13 ffX8_7 rfl rfl rfl ?_ -- size
  refine wp_aload_n (i := 0) (q := 17) dX8_layRow_16 rfl rfl rfl ?_
  refine wm_getA (k := 29) (o := 18) (q := 20) dX8_layRow_17 ffX8_63 rfl rfl rfl ?_ -- to
  refine wp_iload_n (i := 1) (q := 21) dX8_layRow_20 rfl rfl rfl ?_
  refine wm_ialdN (q := 22) dX8_layRow_21 ⟨by decide, by decide, rfl⟩ rfl (by simp only [mlen]; omega) (by decide) rfl ?_
  rw [a3]
  refine wm_ialdN (q := 23) dX8_layRow_22 ⟨by decide, by decide, rfl⟩ rfl (by simp only [mlen]; omega) (by decide) rfl ?_
  rw [g1]
  refine wp_istore (lv' := [_, _, _, some _, _, _, _]) (q := 25) dX8_layRow_23 (by decide) rfl rfl ?_
  refine wp_iconst (v := nI 0) (q := 26) dX8_layRow_25 (by decide) rfl ?_
  refine wp_istore (lv' := [_, _, _, _, some _, _, _]) (q := 28) dX8_layRow_26 (by decide) rfl rfl ?_
  have P28 : ∀ q u (y6 : Option Value), u + q = n + 1 → wp l mX8_layRow [] d 0 0 (rV (sz, mh b I L A (upR B 20 (fun z => if z ≤ n then MK z else B 20 z)) g)) (sz, mh b I L A (upR B 20 (fun z => if z < u then MK z else B 20 z)) g) 28 [some (.ref b), some (.int (nI a)), some (.int (nI s)), some (.int (nI n)), some (.int (nI m)), some (.int (nI u)), y6] [] := by
    intro q
    induction q with
    | zero =>
      intro u y6 hu
      refine wp_iload (q := 30) dX8_layRow_28 rfl rfl ?_
      refine wp_iload_n (i := 3) (q := 31) dX8_layRow_30 rfl rfl rfl ?_
      refine wp_icmp_gt (t := 134) (q := 34) dX8_layRow_31 (by decide) rfl (fun hc => ?_) (fun hc => ?_)
      · rw [show (fun z => if z < u then MK z else B 20 z) = (fun z => if z ≤ n then MK z else B 20 z) by funext z; by_cases w : z < u; (rw [if_pos w, if_pos (by omega)]); (rw [if_neg w, if_neg (by omega)])]
        refine wp_vret dX8_layRow_134 rfl ?_
        exact ⟨rfl, rfl⟩
      · exact absurd ((nI_ltI (by omega) (by omega)).mpr (by omega)) hc
    | succ q ih =>
      intro u y6 hu
      refine wp_iload (q := 30) dX8_layRow_28 rfl rfl ?_
      refine wp_iload_n (i := 3) (q := 31) dX8_layRow_30 rfl rfl rfl ?_
      refine wp_icmp_gt (t := 134) (q := 34) dX8_layRow_31 (by decide) rfl (fun hc => ?_) (fun hc => ?_)
      · exact absurd ((nI_ltI (by omega) (by omega)).mp hc) (by omega)
      have P65 : ∀ k v (z0 : Int64), v + k = m → mkS A a u n (fun v => B 21 (5 * s + v)) k v z0 = MK u → wp l mX8_layRow [] d 0 0 (rV (sz, mh b I L A (upR B 20 (fun z => if z ≤ n then MK z else B 20 z)) g)) (sz, mh b I L A (upR B 20 (fun z => if z = u then z0 else if z < u then MK z else B 20 z)) g) 65 [some (.ref b), some (.int (nI a)), some (.int (nI s)), some (.int (nI n)), some (.int (nI m)), some (.int (nI u)), some (.int (nI v))] [] := by
        intro k
        induction k with
        | zero =>
          intro v z0 hv hz
          refine wp_iload (q := 67) dX8_layRow_65 rfl rfl ?_
          refine wp_iload (q := 69) dX8_layRow_67 rfl rfl ?_
          refine wp_icmp_ge (t := 128) (q := 72) dX8_layRow_69 (by decide) rfl (fun hc2 => ?_) (fun hc2 => ?_)
          · rw [show mkS A a u n (fun v => B 21 (5 * s + v)) 0 v z0 = z0 from rfl] at hz
            refine wp_iinc (v := _ + nI 1) (lv' := [_, _, _, _, some _, _, _]) (q := 131) dX8_layRow_128 rfl rfl (by decide) rfl rfl ?_
            refine wp_goto (q := 28) dX8_layRow_131 (by decide) ?_
            rw [nI_add, show (fun z => if z = u then z0 else if z < u then MK z else B 20 z) = (fun z => if z < u + 1 then MK z else B 20 z) by
              funext z
              by_cases w : z = u
              · rw [if_pos w, if_pos (by omega), hz, w]
              · rw [if_neg w]
                by_cases w2 : z < u
                · rw [if_pos w2, if_pos (by omega)]
                · rw [if_neg w2, if_neg (by omega)]]
            exact ih (u + 1) _ (by omega)
          · exact absurd ((nI_leI (by omega) (by omega)).mpr (by omega)) hc2
        | succ k ihk =>
          intro v z0 hv hz
          rw [show mkS A a u n (fun v => B 21 (5 * s + v)) (k + 1) v z0 = mkS A a u n (fun v => B 21 (5 * s + v)) k (v + 1) (z0 + B 21 (5 * s + v) * (A 19 (20 * a + 5 * v + (if u = n then 4 else u))).toInt64) from rfl] at hz
          refine wp_iload (q := 67) dX8_layRow_65 rfl rfl ?_
          refine wp_iload (q := 69) dX8_layRow_67 rfl rfl ?_
          refine wp_icmp_ge (t := 128) (q := 72) dX8_layRow_69 (by decide) rfl (fun hc2 => ?_) (fun hc2 => ?_)
          · exact absurd ((nI_leI (by omega) (by omega)).mp hc2) (by omega)
          refine wp_aload_n (i := 0) (q := 73) dX8_layRow_72 rfl rfl rfl ?_
          refine wm_getA (k := 31) (o := 20) (q := 76) dX8_layRow_73 ffX8_69 rfl rfl rfl ?_ -- row
          refine wp_iload (q := 78) dX8_layRow_76 rfl rfl ?_
          refine wp_dup2 (q := 79) dX8_layRow_78 rfl rfl rfl ?_
          refine wm_laldN (q := 80) dX8_layRow_79 ⟨by decide, by decide, rfl⟩ rfl (by simp only [mlen]; omega) (by decide) rfl ?_
          refine wp_aload_n (i := 0) (q := 81) dX8_layRow_80 rfl rfl rfl ?_
          refine wm_getA (k := 32) (o := 21) (q := 84) dX8_layRow_81 ffX8_72 rfl rfl rfl ?_ -- kept
          refine wp_iconst (v := nI 5) (q := 85) dX8_layRow_84 (by decide) rfl ?_
          refine wp_iload_n (i := 2) (q := 86) dX8_layRow_85 rfl rfl rfl ?_
          refine wp_imul (q := 87) dX8_layRow_86 rfl ?_
          refine wp_iload (q := 89) dX8_layRow_87 rfl rfl ?_
          refine wp_iadd (q := 90) dX8_layRow_89 rfl ?_
          rw [pk_mul, nI_add]
          refine wm_laldN (q := 91) dX8_layRow_90 ⟨by decide, by decide, rfl⟩ rfl (by simp only [mlen]; omega) (by decide) rfl ?_
          refine wp_aload_n (i := 0) (q := 92) dX8_layRow_91 rfl rfl rfl ?_
          refine wm_getA (k := 30) (o := 19) (q := 95) dX8_layRow_92 ffX8_66 rfl rfl rfl ?_ -- made
          refine wp_bipush (v := nI 20) (q := 97) dX8_layRow_95 (by decide) rfl ?_
          refine wp_iload_n (i := 1) (q := 98) dX8_layRow_97 rfl rfl rfl ?_
          refine wp_imul (q := 99) dX8_layRow_98 rfl ?_
          refine wp_iconst (v := nI 5) (q := 100) dX8_layRow_99 (by decide) rfl ?_
          refine wp_iload (q := 102) dX8_layRow_100 rfl rfl ?_
          refine wp_imul (q := 103) dX8_layRow_102 rfl ?_
          refine wp_iadd (q := 104) dX8_layRow_103 rfl ?_
          refine wp_iload (q := 106) dX8_layRow_104 rfl rfl ?_
          refine wp_iload_n (i := 3) (q := 107) dX8_layRow_106 rfl rfl rfl ?_
          rw [pk_mul, pk_mul, nI_add, upR_ne (by decide : (21 : Nat) ≠ 20), upR_at, if_pos rfl]
          have K116 : ∀ w : Nat, w = (if u = n then 4 else u) → w < 5 → wp l mX8_layRow [] d 0 0 (rV (sz, mh b I L A (upR B 20 (fun z => if z ≤ n then MK z else B 20 z)) g)) (sz, mh b I L A (upR B 20 (fun z => if z = u then z0 else if z < u then MK z else B 20 z)) g) 116 [some (.ref b), some (.int (nI a)), some (.int (nI s)), some (.int (nI n)), some (.int (nI m)), some (.int (nI u)), some (.int (nI v))] [.int (nI w), .int (nI (20 * a + 5 * v)), .ref (b + 19), .long (B 21 (5 * s + v)), .long z0, .int (nI u), .ref (b + 20)] := by
            intro w hw hw5
            refine wp_iadd (q := 117) dX8_layRow_116 rfl ?_
            rw [nI_add]
            refine wm_ialdN (q := 118) dX8_layRow_117 ⟨by decide, by decide, rfl⟩ rfl (by simp only [mlen]; omega) (by decide) rfl ?_
            refine wp_i2l (q := 119) dX8_layRow_118 rfl ?_
            refine wp_lmul (q := 120) dX8_layRow_119 rfl ?_
            refine wp_ladd (q := 121) dX8_layRow_120 rfl ?_
            refine wm_lastN (q := 122) dX8_layRow_121 ⟨by decide, by decide, rfl⟩ rfl (by simp only [mlen]; omega) (by decide) rfl ?_
            refine wp_iinc (v := _ + nI 1) (lv' := [_, _, _, _, _, some _, _]) (q := 125) dX8_layRow_122 rfl rfl (by decide) rfl rfl ?_
            refine wp_goto (q := 65) dX8_layRow_125 (by decide) ?_
            rw [nI_add, up2_upR]
            have := ihk (v + 1) _ (by omega) hz
            rw [← hw] at this
            rw [show (fun k => if k = u then z0 + B 21 (5 * s + v) * (A 19 (20 * a + 5 * v + w)).toInt64 else if k = u then z0 else if k < u then MK k else B 20 k) = (fun z => if z = u then z0 + B 21 (5 * s + v) * (A 19 (20 * a + 5 * v + w)).toInt64 else if z < u then MK z else B 20 z) by
              funext z
              by_cases w : z = u
              · rw [if_pos w, if_pos w]
              · rw [if_neg w, if_neg w, if_neg w]]
            exact this
          refine wp_icmp_ne (t := 114) (q := 110) dX8_layRow_107 (by decide) rfl (fun hun => ?_) (fun hun => ?_)
          · have hun : ¬ u = n := fun q => hun (by rw [q])
            refine wp_iload (q := 116) dX8_layRow_114 rfl rfl ?_
            exact K116 u (by rw [if_neg hun]) (by omega)
          · have hun : u = n := (nI_eq (by omega) (by omega)).mp hun
            refine wp_iconst (v := nI 4) (q := 111) dX8_layRow_110 (by decide) rfl ?_
            refine wp_goto (q := 116) dX8_layRow_111 (by decide) ?_
            exact K116 4 (by rw [if_pos hun]) (by omega)
      have K61 : ∀ z0 : Int64, z0 = (if u = n then B 21 (5 * s + m) else 0) → wp l mX8_layRow [] d 0 0 (rV (sz, mh b I L A (upR B 20 (fun z => if z ≤ n then MK z else B 20 z)) g)) (sz, mh b I L A (upR B 20 (fun z => if z < u then MK z else B 20 z)) g) 61 [some (.ref b), some (.int (nI a)), some (.int (nI s)), some (.int (nI n)), some (.int (nI m)), some (.int (nI u)), y6] [.long z0, .int (nI u), .ref (b + 20)] := by
        intro z0 hz0
        refine wm_lastN (q := 62) dX8_layRow_61 ⟨by decide, by decide, rfl⟩ rfl (by simp only [mlen]; omega) (by decide) rfl ?_
        refine wp_iconst (v := nI 0) (q := 63) dX8_layRow_62 (by decide) rfl ?_
        refine wp_istore (lv' := [_, _, _, _, _, some _, _]) (q := 65) dX8_layRow_63 (by decide) rfl rfl ?_
        rw [up2_upR]
        refine P65 m 0 z0 (by omega) ?_
        rw [← hmk2 u, hz0]
        unfold mkR
        rw [hn0, hm0]
      refine wp_aload_n (i := 0) (q := 35) dX8_layRow_34 rfl rfl rfl ?_
      refine wm_getA (k := 31) (o := 20) (q := 38) dX8_layRow_35 ffX8_69 rfl rfl rfl ?_ -- row
      refine wp_iload (q := 40) dX8_layRow_38 rfl rfl ?_
      refine wp_iload (q := 42) dX8_layRow_40 rfl rfl ?_
      refine wp_iload_n (i := 3) (q := 43) dX8_layRow_42 rfl rfl rfl ?_
      refine wp_icmp_ne (t := 60) (q := 46) dX8_layRow_43 (by decide) rfl (fun hun => ?_) (fun hun => ?_)
      · have hun : ¬ u = n := fun q => hun (by rw [q])
        refine wp_lconst (v := 0) (q := 61) dX8_layRow_60 (by decide) rfl ?_
        exact K61 0 (by rw [if_neg hun])
      · have hun : u = n := (nI_eq (by omega) (by omega)).mp hun
        refine wp_aload_n (i := 0) (q := 47) dX8_layRow_46 rfl rfl rfl ?_
        refine wm_getA (k := 32) (o := 21) (q := 50) dX8_layRow_47 ffX8_72 rfl rfl rfl ?_ -- kept
        refine wp_iconst (v := nI 5) (q := 51) dX8_layRow_50 (by decide) rfl ?_
        refine wp_iload_n (i := 2) (q := 52) dX8_layRow_51 rfl rfl rfl ?_
        refine wp_imul (q := 53) dX8_layRow_52 rfl ?_
        refine wp_iload (q := 55) dX8_layRow_53 rfl rfl ?_
        refine wp_iadd (q := 56) dX8_layRow_55 rfl ?_
        rw [pk_mul, nI_add]
        refine wm_laldN (q := 57) dX8_layRow_56 ⟨by decide, by decide, rfl⟩ rfl (by simp only [mlen]; omega) (by decide) rfl ?_
        refine wp_goto (q := 61) dX8_layRow_57 (by decide) ?_
        rw [upR_ne (by decide : (21 : Nat) ≠ 20)]
        exact K61 _ (by rw [if_pos hun])
  have := P28 (n + 1) 0 none (by omega)
  rw [show (fun z => if z < 0 then MK z else B 20 z) = B 20 by funext z; rw [if_neg (by omega)], upR_self] at this
  rw [show (fun z => if z ≤ n then mkR A a (fun v => B 21 (5 * s + v)) z else B 20 z) = (fun z => if z ≤ n then MK z else B 20 z) by funext z; rw [hmk2]]
  exact this
end M20
