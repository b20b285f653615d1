/-! THE REFERENCE: the basis of sums -/
theorem brC_inv {n rows c : Nat} {s : brT} (h1 : ∀ x ∈ s.2.1, x < c) (h2 : s.2.1.length ≤ c) (h3 : s.2.1.length ≤ rows) (h4 : ¬ s.2.2 = 0) (hc : c < n) (hn : n ≤ 5) : (∀ x ∈ (brC n rows c s).2.1, x < c + 1) ∧ (brC n rows c s).2.1.length ≤ c + 1 ∧ (brC n rows c s).2.1.length ≤ rows ∧ ¬ (brC n rows c s).2.2 = 0 := by
  obtain ⟨t, fs, y⟩ := s
  dsimp only at h1 h2 h3 h4
  unfold brC
  dsimp only
  have hpv := pvF_ge (t := t) (c := c) (rows - fs.length) fs.length
  split
  · next hr =>
    refine ⟨fun x hx => ?_, by simp; omega, by simp; omega, ?_⟩
    · rcases List.mem_append.mp hx with q | q
      · have := h1 x q; omega
      · simp at q; omega
    · show ¬ exF t _ fs.length n (5 * fs.length + c) = 0
      have hnz := pvF_ne (t := t) (c := c) (rows - fs.length) fs.length (by omega)
      generalize pvF t c (rows - fs.length) fs.length = r at hr hnz hpv ⊢
      unfold exF
      rw [show (5 * fs.length + c) / 5 = fs.length by omega, show (5 * fs.length + c) % 5 = c by omega]
      by_cases e : fs.length = r
      · rw [if_pos ⟨e, hc⟩, e]; exact hnz
      · rw [if_neg (fun q => e q.1), if_pos ⟨rfl, hc⟩]; exact hnz
  · exact ⟨fun x hx => by have := h1 x hx; omega, by show fs.length ≤ c + 1; omega, h3, h4⟩
theorem brF_inv {n rows : Nat} (hn : n ≤ 5) : ∀ m c (s : brT), c + m = n → (∀ x ∈ s.2.1, x < c) → s.2.1.length ≤ c → s.2.1.length ≤ rows → ¬ s.2.2 = 0 → (∀ x ∈ (brF n rows c s).2.1, x < n) ∧ (brF n rows c s).2.1.length ≤ n ∧ (brF n rows c s).2.1.length ≤ rows ∧ ¬ (brF n rows c s).2.2 = 0
  | 0, c, s, hc, h1, h2, h3, h4 => by
    rw [brF_end (by omega)]
    exact ⟨fun x hx => by have := h1 x hx; omega, by omega, h3, h4⟩
  | m + 1, c, s, hc, h1, h2, h3, h4 => by
    rw [brF_step (by omega)]
    obtain ⟨q1, q2, q3, q4⟩ := brC_inv h1 h2 h3 h4 (by omega : c < n) hn
    exact brF_inv hn m (c + 1) _ (by omega) q1 q2 q3 q4
def lyF (A : Nat → Nat → Int32) (p k : Nat) (rl : List Nat) (t : Nat → Int64) : Nat → Int64 := fun z => if z / 5 < rl.length ∧ z % 5 < k then (xA A p (rl.getD (z / 5) 0) (z % 5)).toInt64 else if z / 5 < rl.length ∧ z % 5 = k then 1 else t z
/-- the solved table of a side -/
def slv (A : Nat → Nat → Int32) (p side : Nat) (t : Nat → Int64) : brT := brF (kA A p + 1) (rs A p side).length 0 (lyF A p (kA A p) (rs A p side) t, [], 1)
def SB (os : List Nat) (B B' : Nat → Nat → Int64) : Prop := ∀ o, o ∉ os → B' o = B o
theorem SB.rf {os : List Nat} {B : Nat → Nat → Int64} : SB os B B := fun _ _ => rfl
theorem SB.tr {os : List Nat} {B B' B2 : Nat → Nat → Int64} (h1 : SB os B B') (h2 : SB os B' B2) : SB os B B2 := fun o ho => (h2 o ho).trans (h1 o ho)
theorem SB.uR {os : List Nat} {B : Nat → Nat → Int64} {o : Nat} {f : Nat → Int64} (h : o ∈ os) : SB os B (upR B o f) := fun j hj => upR_ne (fun q => hj (q ▸ h))
theorem SB.u2 {os : List Nat} {B : Nat → Nat → Int64} {o j : Nat} {x : Int64} (h : o ∈ os) : SB os B (up2 B o j x) := fun j hj => up2_ne (fun q => hj (q ▸ h))
theorem SB.mo {os os' : List Nat} {B B' : Nat → Nat → Int64} (h : SB os B B') (h2 : ∀ o ∈ os, o ∈ os') : SB os' B B' := fun o ho => h o (fun q => ho (h2 o q))
/-- what layTable leaves -/
def LT (A : Nat → Nat → Int32) (p side : Nat) (t0 : Nat → Int64) (I' : Nat → Int32) (L' : Int64) (A' : Nat → Nat → Int32) (B' : Nat → Nat → Int64) : Prop := I' 16 = nI (rs A p side).length ∧ I' 17 = nI (kA A p + 1) ∧ I' 18 = nI (slv A p side t0).2.1.length ∧ L' = (slv A p side t0).2.2 ∧ B' 12 = (slv A p side t0).1 ∧ fwc (A' 13) (slv A p side t0).2.1 ∧ ∀ c, c < kA A p + 1 → A' 14 c = b2 (frF (slv A p side t0).2.1 c)
section M17
variable {l : Launch} {d sz b np na p side : Nat} {I : Nat → Int32} {L : Int64} {A : Nat → Nat → Int32} {B : Nat → Nat → Int64} {g : Nat → Option aE}
theorem tX8_layTable (hd : 2 ≤ d) (hp : p < 6) (hs : side < 3) (hM : MP A p) : mt l mX8_layTable d 0 0 [.ref b, .int (nI p), .int (nI side)] (sz, mh b I L A B g) (fun rv h' => rv = none ∧ ∃ I' L' A' B', h' = (sz, mh b I' L' A' B' g) ∧ SC [16, 17, 18] [13, 14] I A I' A' ∧ SB [12] B B' ∧ LT A p side (B 12) I' L' A' B') := by
  have hM2 := hM
  obtain ⟨m1, m2, m3, m4, m5, m6⟩ := hM2
  refine mt_in (lv := [_, _, _, _, _]) (by decide) (Nat.le_of_ble_eq_true rfl) rfl ?_
  refine wp_aload_n (i := 0) (q := 1) dX8_layTable_0 rfl rfl rfl ?_
  refine wp_iconst (v := nI 0) (q := 2) dX8_layTable_1 (by decide) rfl ?_
  refine wm_putI (k := 16) (q := 5) dX8_layTable_2 ffX8_217 rfl rfl ?_ -- rows
  refine wp_aload_n (i := 0) (q := 6) dX8_layTable_5 rfl rfl rfl ?_
  refine wp_aload_n (i := 0) (q := 7) dX8_layTable_6 rfl rfl rfl ?_
  refine wm_getA (k := 1) (o := 1) (q := 10) dX8_layTable_7 ffX8_7 rfl rfl rfl ?_ -- size
  refine wp_iload_n (i := 1) (q := 11) dX8_layTable_10 rfl rfl rfl ?_
  refine wm_ialdN (q := 12) dX8_layTable_11 ⟨by decide, by decide, rfl⟩ rfl (by simp only [mlen]; omega) (by decide) rfl ?_
  refine wp_iconst (v := nI 1) (q := 13) dX8_layTable_12 (by decide) rfl ?_
  refine wp_iadd (q := 14) dX8_layTable_13 rfl ?_
  rw [m1, nI_add]
  refine wm_putI (k := 17) (q := 17) dX8_layTable_14 ffX8_214 rfl rfl ?_ -- columns
  refine wp_iconst (v := nI 0) (q := 18) dX8_layTable_17 (by decide) rfl ?_
  refine wp_istore_n (i := 3) (lv' := [_, _, some _, _, _]) (q := 19) dX8_layTable_18 rfl (by decide) rfl rfl ?_
  have hrl := rs_len (A := A) (p := p) (side := side) m4
  have H : ∀ n r (acc : List Nat) (j4 : Option Value), r + n = nA A p → acc ++ rsF A p side r = rs A p side → acc.length ≤ r → wp l mX8_layTable [] d 0 0 (fun rv h' => rv = none ∧ ∃ I' L' A' B', h' = (sz, mh b I' L' A' B' g) ∧ SC [16, 17, 18] [13, 14] I A I' A' ∧ SB [12] B B' ∧ LT A p side (B 12) I' L' A' B') (sz, mh b (upd (upd I 17 (nI (kA A p + 1))) 16 (nI acc.length)) L A (upR B 12 (lyF A p (kA A p) acc (B 12))) g) 19 [some (.ref b), some (.int (nI p)), some (.int (nI side)), some (.int (nI r)), j4] [] := by
    intro n
    induction n with
    | zero =>
      intro r acc j4 hr he hal
      refine wp_iload_n (i := 3) (q := 20) dX8_layTable_19 rfl rfl rfl ?_
      refine wp_aload_n (i := 0) (q := 21) dX8_layTable_20 rfl rfl rfl ?_
      refine wm_getA (k := 2) (o := 2) (q := 24) dX8_layTable_21 ffX8_13 rfl rfl rfl ?_ -- many
      refine wp_iload_n (i := 1) (q := 25) dX8_layTable_24 rfl rfl rfl ?_
      refine wm_ialdN (q := 26) dX8_layTable_25 ⟨by decide, by decide, rfl⟩ rfl (by simp only [mlen]; omega) (by decide) rfl ?_
      rw [m3]
      refine wp_icmp_ge (t := 117) (q := 29) dX8_layTable_26 (by decide) rfl (fun hc => ?_) (fun hc => ?_)
      · rw [rsF_end (by omega), List.append_nil] at he
        subst he
        refine wp_aload_n (i := 0) (q := 118) dX8_layTable_117 rfl rfl rfl ?_
        refine wp_V (μ' := mX8_bring) (ci := 8) (q := 121) (tX8_bring (d := d - 1) (n := kA A p + 1) (rows := (rs A p side).length) (by omega) (by omega) (by omega) (by simp [upd]) (by simp [upd])) dX8_layTable_118 okX8_bring lkX8_224 mh_obj rfl rfl rfl (Nat.le_of_ble_eq_true rfl) (by omega) rfl (fun rv hx hq => ?_)
        obtain ⟨rfl, I', A', rfl, hS, h18, h13, h14⟩ := hq
        rw [upR_upR, upR_at] at *
        show wp _ _ _ _ _ _ _ _ _ _ []
        refine wp_vret dX8_layTable_121 rfl ?_
        refine ⟨rfl, I', _, A', _, rfl, (SC.tr (SC.uI (by decide)) (SC.uI (by decide))).tr (hS.mo (by decide) (by decide)), SB.uR (by decide), ?_, ?_, h18, rfl, upR_at, h13, h14⟩
        · rw [hS.1 16 (by decide)]; simp [upd]
        · rw [hS.1 17 (by decide)]; simp [upd]
      · exact absurd ((nI_leI (by omega) (by omega)).mpr (by omega)) hc
    | succ n ih =>
      intro r acc j4 hr he hal
      refine wp_iload_n (i := 3) (q := 20) dX8_layTable_19 rfl rfl rfl ?_
      refine wp_aload_n (i := 0) (q := 21) dX8_layTable_20 rfl rfl rfl ?_
      refine wm_getA (k := 2) (o := 2) (q := 24) dX8_layTable_21 ffX8_13 rfl rfl rfl ?_ -- many
      refine wp_iload_n (i := 1) (q := 25) dX8_layTable_24 rfl rfl rfl ?_
      refine wm_ialdN (q := 26) dX8_layTable_25 ⟨by decide, by decide, rfl⟩ rfl (by simp only [mlen]; omega) (by decide) rfl ?_
      rw [m3]
      refine wp_icmp_ge (t := 117) (q := 29) dX8_layTable_26 (by decide) rfl (fun hc => ?_) (fun hc => ?_)
      · exact absurd ((nI_leI (by omega) (by omega)).mp hc) (by omega)
      refine wp_aload_n (i := 0) (q := 30) dX8_layTable_29 rfl rfl rfl ?_
      refine wp_iload_n (i := 1) (q := 31) dX8_layTable_30 rfl rfl rfl ?_
      refine wp_iload_n (i := 2) (q := 32) dX8_layTable_31 rfl rfl rfl ?_
      refine wp_iload_n (i := 3) (q := 33) dX8_layTable_32 rfl rfl rfl ?_
      refine wp_Vi (μ' := mX8_isOf) (ci := 8) (q := 36) (tX8_isOf (d := d - 1) (by omega) hp (by omega) hs hM) dX8_layTable_33 okX8_isOf lkX8_127 mh_obj rfl rfl rfl (Nat.le_of_ble_eq_true rfl) (by omega) rfl ?_
      rw [rsF_step (by omega)] at he
      refine wp_if_eq (t := 111) (q := 39) dX8_layTable_36 (by decide) rfl (fun ho => ?_) (fun ho => ?_)
      · rw [if_neg (by rw [b2_eq0.mp ho]; decide)] at he
        refine wp_iinc (v := _ + nI 1) (lv' := [_, _, some _, _, _]) (q := 114) dX8_layTable_111 rfl rfl (by decide) rfl rfl ?_
        refine wp_goto (q := 19) dX8_layTable_114 (by decide) ?_
        rw [nI_add]
        exact ih (r + 1) acc _ (by omega) he (by omega)
      rw [if_pos (b2_ne0.mp ho)] at he
      have hlen2 : acc.length < 40 := by omega
      have e16 : upd (upd I 17 (nI (kA A p + 1))) 16 (nI acc.length) 16 = nI acc.length := by simp [upd]
      refine wp_iconst (v := nI 0) (q := 40) dX8_layTable_39 (by decide) rfl ?_
      refine wp_istore (lv' := [_, _, _, some _, _]) (q := 42) dX8_layTable_40 (by decide) rfl rfl ?_
      have P42 : ∀ m v, v + m = kA A p → wp l mX8_layTable [] d 0 0 (fun rv h' => rv = none ∧ ∃ I' L' A' B', h' = (sz, mh b I' L' A' B' g) ∧ SC [16, 17, 18] [13, 14] I A I' A' ∧ SB [12] B B' ∧ LT A p side (B 12) I' L' A' B') (sz, mh b (upd (upd I 17 (nI (kA A p + 1))) 16 (nI acc.length)) L A (upR B 12 (fun z => if z / 5 = acc.length ∧ z % 5 < v then (xA A p r (z % 5)).toInt64 else lyF A p (kA A p) acc (B 12) z)) g) 42 [some (.ref b), some (.int (nI p)), some (.int (nI side)), some (.int (nI r)), some (.int (nI v))] [] := by
        intro m
        induction m with
        | zero =>
          intro v hv
          have hv : v = kA A p := by omega
          subst hv
          refine wp_iload (q := 44) dX8_layTable_42 rfl rfl ?_
          refine wp_aload_n (i := 0) (q := 45) dX8_layTable_44 rfl rfl rfl ?_
          refine wm_getA (k := 1) (o := 1) (q := 48) dX8_layTable_45 ffX8_7 rfl rfl rfl ?_ -- size
          refine wp_iload_n (i := 1) (q := 49) dX8_layTable_48 rfl rfl rfl ?_
          refine wm_ialdN (q := 50) dX8_layTable_49 ⟨by decide, by decide, rfl⟩ rfl (by simp only [mlen]; omega) (by decide) rfl ?_
          rw [m1]
          refine wp_icmp_ge (t := 82) (q := 53) dX8_layTable_50 (by decide) rfl (fun hge => ?_) (fun hge => ?_)
          · refine wp_aload_n (i := 0) (q := 83) dX8_layTable_82 rfl rfl rfl ?_
            refine wm_getA (k := 19) (o := 12) (q := 86) dX8_layTable_83 ffX8_44 rfl rfl rfl ?_ -- table
            refine wp_iconst (v := nI 5) (q := 87) dX8_layTable_86 (by decide) rfl ?_
            refine wp_aload_n (i := 0) (q := 88) dX8_layTable_87 rfl rfl rfl ?_
            refine wm_getI (k := 16) (q := 91) dX8_layTable_88 ffX8_217 rfl rfl ?_ -- rows
            refine wp_imul (q := 92) dX8_layTable_91 rfl ?_
            refine wp_aload_n (i := 0) (q := 93) dX8_layTable_92 rfl rfl rfl ?_
            refine wm_getA (k := 1) (o := 1) (q := 96) dX8_layTable_93 ffX8_7 rfl rfl rfl ?_ -- size
            refine wp_iload_n (i := 1) (q := 97) dX8_layTable_96 rfl rfl rfl ?_
            refine wm_ialdN (q := 98) dX8_layTable_97 ⟨by decide, by decide, rfl⟩ rfl (by simp only [mlen]; omega) (by decide) rfl ?_
            rw [e16, m1, pk_mul]
            refine wp_iadd (q := 99) dX8_layTable_98 rfl ?_
            refine wp_lconst (v := 1) (q := 100) dX8_layTable_99 (by decide) rfl ?_
            rw [nI_add]
            refine wm_lastN (q := 101) dX8_layTable_100 ⟨by decide, by decide, rfl⟩ rfl (by simp only [mlen]; omega) (by decide) rfl ?_
            refine wp_aload_n (i := 0) (q := 102) dX8_layTable_101 rfl rfl rfl ?_
            refine wp_dup (q := 103) dX8_layTable_102 rfl rfl ?_
            refine wm_getI (k := 16) (q := 106) dX8_layTable_103 ffX8_217 rfl rfl ?_ -- rows
            refine wp_iconst (v := nI 1) (q := 107) dX8_layTable_106 (by decide) rfl ?_
            refine wp_iadd (q := 108) dX8_layTable_107 rfl ?_
            rw [e16, nI_add]
            refine wm_putI (k := 16) (q := 111) dX8_layTable_108 ffX8_217 rfl rfl ?_ -- rows
            refine wp_iinc (v := _ + nI 1) (lv' := [_, _, some _, _, _]) (q := 114) dX8_layTable_111 rfl rfl (by decide) rfl rfl ?_
            refine wp_goto (q := 19) dX8_layTable_114 (by decide) ?_
            rw [nI_add, up2_upR, upd_upd]
            have e : (fun k => if k = 5 * acc.length + kA A p then (1 : Int64) else if k / 5 = acc.length ∧ k % 5 < kA A p then (xA A p r (k % 5)).toInt64 else lyF A p (kA A p) acc (B 12) k) = lyF A p (kA A p) (acc ++ [r]) (B 12) := by
              funext z
              unfold lyF
              rw [List.length_append, List.length_singleton]
              by_cases w1 : z / 5 = acc.length
              · have hget : (acc ++ [r]).getD (z / 5) 0 = r := by rw [w1]; simp [List.getD_eq_getElem?_getD]
                by_cases w2 : z % 5 < kA A p
                · rw [if_neg (by omega), if_pos ⟨w1, w2⟩, if_pos ⟨by omega, w2⟩, hget]
                · by_cases w3 : z % 5 = kA A p
                  · rw [if_pos (by omega), if_neg (by omega), if_pos ⟨by omega, w3⟩]
                  · rw [if_neg (by omega), if_neg (by omega), if_neg (by omega), if_neg (by omega), if_neg (by omega), if_neg (by omega)]
              · rw [if_neg (by omega), if_neg (fun q => w1 q.1)]
                by_cases w2 : z / 5 < acc.length
                · have hget : (acc ++ [r]).getD (z / 5) 0 = acc.getD (z / 5) 0 := by rw [List.getD_eq_getElem?_getD, List.getD_eq_getElem?_getD, List.getElem?_append_left w2]
                  by_cases w3 : z % 5 < kA A p
                  · rw [if_pos ⟨w2, w3⟩, if_pos ⟨by omega, w3⟩, hget]
                  · by_cases w4 : z % 5 = kA A p
                    · rw [if_neg (fun q => w3 q.2), if_pos ⟨w2, w4⟩, if_neg (fun q => w3 q.2), if_pos ⟨by omega, w4⟩]
                    · rw [if_neg (fun q => w3 q.2), if_neg (fun q => w4 q.2), if_neg (fun q => w3 q.2), if_neg (fun q => w4 q.2)]
                · rw [if_neg (by omega), if_neg (by omega), if_neg (by omega), if_neg (by omega)]
            rw [e]
            have := ih (r + 1) (acc ++ [r]) (some (.int (nI (kA A p)))) (by omega) (by rw [List.append_assoc]; exact he) (by simp; omega)
            rw [show (acc ++ [r]).length = acc.length + 1 by simp] at this
            exact this
          · exact absurd ((nI_leI (by omega) (by omega)).mpr (by omega)) hge
        | succ m ihv =>
          intro v hv
          refine wp_iload (q := 44) dX8_layTable_42 rfl rfl ?_
          refine wp_aload_n (i := 0) (q := 45) dX8_layTable_44 rfl rfl rfl ?_
          refine wm_getA (k := 1) (o := 1) (q := 48) dX8_layTable_45 ffX8_7 rfl rfl rfl ?_ -- size
          refine wp_iload_n (i := 1) (q := 49) dX8_layTable_48 rfl rfl rfl ?_
          refine wm_ialdN (q := 50) dX8_layTable_49 ⟨by decide, by decide, rfl⟩ rfl (by simp only [mlen]; omega) (by decide) rfl ?_
          rw [m1]
          refine wp_icmp_ge (t := 82) (q := 53) dX8_layTable_50 (by decide) rfl (fun hge => ?_) (fun hge => ?_)
          · exact absurd ((nI_leI (by omega) (by omega)).mp hge) (by omega)
          refine wp_aload_n (i := 0) (q := 54) dX8_layTable_53 rfl rfl rfl ?_
          refine wm_getA (k := 19) (o := 12) (q := 57) dX8_layTable_54 ffX8_44 rfl rfl rfl ?_ -- table
          refine wp_iconst (v := nI 5) (q := 58) dX8_layTable_57 (by decide) rfl ?_
          refine wp_aload_n (i := 0) (q := 59) dX8_layTable_58 rfl rfl rfl ?_
          refine wm_getI (k := 16) (q := 62) dX8_layTable_59 ffX8_217 rfl rfl ?_ -- rows
          refine wp_imul (q := 63) dX8_layTable_62 rfl ?_
          refine wp_iload (q := 65) dX8_layTable_63 rfl rfl ?_
          refine wp_iadd (q := 66) dX8_layTable_65 rfl ?_
          refine wp_aload_n (i := 0) (q := 67) dX8_layTable_66 rfl rfl rfl ?_
          refine wp_iload_n (i := 1) (q := 68) dX8_layTable_67 rfl rfl rfl ?_
          refine wp_iload_n (i := 3) (q := 69) dX8_layTable_68 rfl rfl rfl ?_
          refine wp_iload (q := 71) dX8_layTable_69 rfl rfl ?_
          rw [e16, pk_mul, nI_add]
          refine wp_Vi (μ' := mX8_at) (ci := 8) (q := 74) (tX8_at (d := d - 1) hp (by omega) (by omega)) dX8_layTable_71 okX8_at lkX8_123 mh_obj rfl rfl rfl (Nat.le_of_ble_eq_true rfl) (by omega) rfl ?_
          refine wp_i2l (q := 75) dX8_layTable_74 rfl ?_
          refine wm_lastN (q := 76) dX8_layTable_75 ⟨by decide, by decide, rfl⟩ rfl (by simp only [mlen]; omega) (by decide) rfl ?_
          refine wp_iinc (v := _ + nI 1) (lv' := [_, _, _, some _, _]) (q := 79) dX8_layTable_76 rfl rfl (by decide) rfl rfl ?_
          refine wp_goto (q := 42) dX8_layTable_79 (by decide) ?_
          rw [nI_add, up2_upR]
          have e : (fun k => if k = 5 * acc.length + v then (xA A p r v).toInt64 else if k / 5 = acc.length ∧ k % 5 < v then (xA A p r (k % 5)).toInt64 else lyF A p (kA A p) acc (B 12) k) = (fun z => if z / 5 = acc.length ∧ z % 5 < v + 1 then (xA A p r (z % 5)).toInt64 else lyF A p (kA A p) acc (B 12) z) := by
            funext z
            by_cases w : z = 5 * acc.length + v
            · rw [if_pos w, if_pos (by omega), show z % 5 = v by omega]
            · rw [if_neg w]
              by_cases w2 : z / 5 = acc.length ∧ z % 5 < v
              · rw [if_pos w2, if_pos (by omega)]
              · rw [if_neg w2, if_neg (by omega)]
          rw [e]
          exact ihv (v + 1) (by omega)
      have := P42 (kA A p) 0 (by omega)
      rw [show (fun z => if z / 5 = acc.length ∧ z % 5 < 0 then (xA A p r (z % 5)).toInt64 else lyF A p (kA A p) acc (B 12) z) = lyF A p (kA A p) acc (B 12) by funext z; rw [if_neg (by omega)]] at this
      exact this
  have := H (nA A p) 0 [] none (by omega) (List.nil_append _) (by simp)
  rw [show lyF A p (kA A p) [] (B 12) = B 12 by funext z; unfold lyF; rw [if_neg (by simp), if_neg (by simp)], upR_self] at this
  have e2 : upd (upd I 17 (nI (kA A p + 1))) 16 (nI ([] : List Nat).length) = upd (upd I 16 (nI 0)) 17 (nI (kA A p + 1)) := by
    funext j
    unfold upd
    by_cases q1 : j = 16
    · subst q1; simp
    · by_cases q2 : j = 17
      · subst q2; simp
      · simp [q1, q2]
  rw [e2] at this
  exact this
end M17
