/-! THE REFERENCE: acts, what they lead to, runs -/
/-- the sum of the first u parts of what variable v becomes -/
def ldS (A : Nat → Nat → Int32) (k v : Nat) (x : Nat → Int32) : Nat → Int32
  | 0 => A 19 (20 * k + 5 * v + 4)
  | u + 1 => ldS A k v x u + A 19 (20 * k + 5 * v + u) * x u
def ldV (A : Nat → Nat → Int32) (k : Nat) (x : Nat → Int32) (v : Nat) : Int32 := ldS A k v x (kA A (frA A k))
def ldG (A : Nat → Nat → Int32) (k : Nat) (x : Nat → Int32) (n : Nat) : Bool := (List.range n).all (fun v => in30 (ldV A k x v))
theorem ldS_congr {A A' : Nat → Nat → Int32} {k v : Nat} {x y : Nat → Int32} (h9 : A' 19 = A 19) : ∀ u, (∀ j, j < u → y j = x j) → ldS A' k v y u = ldS A k v x u
  | 0, _ => by unfold ldS; rw [h9]
  | u + 1, h => by
    unfold ldS
    rw [h9, ldS_congr h9 u (fun j hj => h j (by omega)), h u (by omega)]
theorem ldG_succ {A : Nat → Nat → Int32} {k n : Nat} {x : Nat → Int32} : ldG A k x (n + 1) = (ldG A k x n && in30 (ldV A k x n)) := by
  unfold ldG
  rw [List.range_succ, List.all_append]
  simp
section M10
variable {l : Launch} {d sz b p side r i j m shape np na : Nat} {I : Nat → Int32} {L : Int64} {A : Nat → Nat → Int32} {B : Nat → Nat → Int64} {g : Nat → Option aE}
theorem tX8_begin : mt l mX8_begin d 0 0 [.ref b] (sz, mh b I L A B g) (fun rv h' => rv = none ∧ ∃ A', h' = (sz, mh b I L A' B g) ∧ SC [] [22, 23] I A I A' ∧ A' 22 0 = I 25 ∧ ∀ v, v < 4 → A' 23 v = A 16 v) := by
  refine mt_in (lv := [_, _]) (by decide) (Nat.le_of_ble_eq_true rfl) rfl ?_
  refine wp_aload_n (i := 0) (q := 1) dX8_begin_0 rfl rfl rfl ?_
  refine wm_getA (k := 33) (o := 22) (q := 4) dX8_begin_1 ffX8_75 rfl rfl rfl ?_ -- wayPoint
  refine wp_iconst (v := nI 0) (q := 5) dX8_begin_4 (by decide) rfl ?_
  refine wp_aload_n (i := 0) (q := 6) dX8_begin_5 rfl rfl rfl ?_
  refine wm_getI (k := 25) (q := 9) dX8_begin_6 ffX8_109 rfl rfl ?_ -- startAt
  refine wm_iastN (q := 10) dX8_begin_9 ⟨by decide, by decide, rfl⟩ rfl (by simp only [mlen]; omega) (by decide) rfl ?_
  refine wp_iconst (v := nI 0) (q := 11) dX8_begin_10 (by decide) rfl ?_
  refine wp_istore_n (i := 1) (lv' := [some _, _]) (q := 12) dX8_begin_11 rfl (by decide) rfl rfl ?_
  have H : ∀ n v, v + n = 4 → ∀ A1 : Nat → Nat → Int32, SC [] [22, 23] I A I A1 → A1 22 0 = I 25 → (∀ j, j < v → A1 23 j = A 16 j) → wp l mX8_begin [] d 0 0 (fun rv h' => rv = none ∧ ∃ A', h' = (sz, mh b I L A' B g) ∧ SC [] [22, 23] I A I A' ∧ A' 22 0 = I 25 ∧ ∀ v, v < 4 → A' 23 v = A 16 v) (sz, mh b I L A1 B g) 12 [some (.ref b), some (.int (nI v))] [] := by
    intro n
    induction n with
    | zero =>
      intro v hv A1 hS h22 h23
      refine wp_iload_n (i := 1) (q := 13) dX8_begin_12 rfl rfl rfl ?_
      refine wp_iconst (v := nI 4) (q := 14) dX8_begin_13 (by decide) rfl ?_
      refine wp_icmp_ge (t := 35) (q := 17) dX8_begin_14 (by decide) rfl (fun hc => ?_) (fun hc => ?_)
      · refine wp_vret dX8_begin_35 rfl ?_
        exact ⟨rfl, A1, rfl, hS, h22, fun j hj => h23 j (by omega)⟩
      · exact absurd ((nI_leI (by omega) (by omega)).mpr (by omega)) hc
    | succ n ih =>
      intro v hv A1 hS h22 h23
      refine wp_iload_n (i := 1) (q := 13) dX8_begin_12 rfl rfl rfl ?_
      refine wp_iconst (v := nI 4) (q := 14) dX8_begin_13 (by decide) rfl ?_
      refine wp_icmp_ge (t := 35) (q := 17) dX8_begin_14 (by decide) rfl (fun hc => ?_) (fun hc => ?_)
      · exact absurd ((nI_leI (by omega) (by omega)).mp hc) (by omega)
      refine wp_aload_n (i := 0) (q := 18) dX8_begin_17 rfl rfl rfl ?_
      refine wm_getA (k := 34) (o := 23) (q := 21) dX8_begin_18 ffX8_78 rfl rfl rfl ?_ -- wayNumber
      refine wp_iload_n (i := 1) (q := 22) dX8_begin_21 rfl rfl rfl ?_
      refine wp_aload_n (i := 0) (q := 23) dX8_begin_22 rfl rfl rfl ?_
      refine wm_getA (k := 26) (o := 16) (q := 26) dX8_begin_23 ffX8_57 rfl rfl rfl ?_ -- start
      refine wp_iload_n (i := 1) (q := 27) dX8_begin_26 rfl rfl rfl ?_
      refine wm_ialdN (q := 28) dX8_begin_27 ⟨by decide, by decide, rfl⟩ rfl (by simp only [mlen]; omega) (by decide) rfl ?_
      refine wm_iastN (q := 29) dX8_begin_28 ⟨by decide, by decide, rfl⟩ rfl (by simp only [mlen]; omega) (by decide) rfl ?_
      refine wp_iinc (v := _ + nI 1) (lv' := [some _, _]) (q := 32) dX8_begin_29 rfl rfl (by decide) rfl rfl ?_
      refine wp_goto (q := 12) dX8_begin_32 (by decide) ?_
      rw [nI_add]
      refine ih (v + 1) (by omega) _ (hS.tr (SC.u2 (by decide))) (by rw [up2_ne (by decide)]; exact h22) (fun j hj => ?_)
      rw [up2_row]
      by_cases e : j = v
      · simp only [e, if_true]
        rw [hS.2 16 (by decide)]
      · simp only [e, if_false]
        exact h23 j (by omega)
  exact H 4 0 (by omega) _ (SC.u2 (by decide)) (by simp [up2]) (fun j hj => by omega)
theorem tX8_leads {at_ k : Nat} (hd : 1 ≤ d) (hM : MM I A np) (hA : MA I A np na) (hk : k < na) (hat : at_ < 10) : mt l mX8_leads d 0 0 [.ref b, .int (nI at_), .int (nI k)] (sz, mh b I L A B g) (fun rv h' => rv = some (.int (b2 (ldG A k (fun u => A 23 (4 * at_ + u)) (kA A (toA A k))))) ∧ ∃ A', h' = (sz, mh b I L A' B g) ∧ SC [] [22, 23] I A I A' ∧ A' 22 = upd (A 22) (at_ + 1) (nI (toA A k)) ∧ (∀ v, v < kA A (toA A k) → A' 23 (4 * at_ + 4 + v) = ldV A k (fun u => A 23 (4 * at_ + u)) v) ∧ ∀ j, (j < 4 * at_ + 4 ∨ 4 * at_ + 4 + kA A (toA A k) ≤ j) → A' 23 j = A 23 j) := by
  obtain ⟨hn, h0, hP, -⟩ := hM
  obtain ⟨a1, a2, a3⟩ := hA
  obtain ⟨e1, e2, e3, e4⟩ := a3 k hk
  obtain ⟨t1, t2, -⟩ := hP (toA A k) (by omega)
  obtain ⟨f1, f2, -⟩ := hP (frA A k) (by omega)
  refine mt_in (lv := [_, _, _, _, _, _, _]) (by decide) (Nat.le_of_ble_eq_true rfl) rfl ?_
  refine wp_iconst (v := nI 1) (q := 1) dX8_leads_0 (by decide) rfl ?_
  refine wp_istore_n (i := 3) (lv' := [_, _, some _, _, _, _, _]) (q := 2) dX8_leads_1 rfl (by decide) rfl rfl ?_
  refine wp_aload_n (i := 0) (q := 3) dX8_leads_2 rfl rfl rfl ?_
  refine wm_getA (k := 33) (o := 22) (q := 6) dX8_leads_3 ffX8_75 rfl rfl rfl ?_ -- wayPoint
  refine wp_iload_n (i := 1) (q := 7) dX8_leads_6 rfl rfl rfl ?_
  refine wp_iconst (v := nI 1) (q := 8) dX8_leads_7 (by decide) rfl ?_
  refine wp_iadd (q := 9) dX8_leads_8 rfl ?_
  refine wp_aload_n (i := 0) (q := 10) dX8_leads_9 rfl rfl rfl ?_
  refine wm_getA (k := 29) (o := 18) (q := 13) dX8_leads_10 ffX8_63 rfl rfl rfl ?_ -- to
  refine wp_iload_n (i := 2) (q := 14) dX8_leads_13 rfl rfl rfl ?_
  refine wm_ialdN (q := 15) dX8_leads_14 ⟨by decide, by decide, rfl⟩ rfl (by simp only [mlen]; omega) (by decide) rfl ?_
  rw [nI_add, e3]
  refine wm_iastN (q := 16) dX8_leads_15 ⟨by decide, by decide, rfl⟩ rfl (by simp only [mlen]; omega) (by decide) rfl ?_
  refine wp_iconst (v := nI 0) (q := 17) dX8_leads_16 (by decide) rfl ?_
  refine wp_istore (lv' := [_, _, _, some _, _, _, _]) (q := 19) dX8_leads_17 (by decide) rfl rfl ?_
  have H : ∀ n v, v + n = kA A (toA A k) → ∀ (A1 : Nat → Nat → Int32) (j5 j6 : Option Value), SC [] [22, 23] I A I A1 → A1 22 = upd (A 22) (at_ + 1) (nI (toA A k)) → (∀ w, w < v → A1 23 (4 * at_ + 4 + w) = ldV A k (fun u => A 23 (4 * at_ + u)) w) → (∀ j, (j < 4 * at_ + 4 ∨ 4 * at_ + 4 + v ≤ j) → A1 23 j = A 23 j) → wp l mX8_leads [] d 0 0 (fun rv h' => rv = some (.int (b2 (ldG A k (fun u => A 23 (4 * at_ + u)) (kA A (toA A k))))) ∧ ∃ A', h' = (sz, mh b I L A' B g) ∧ SC [] [22, 23] I A I A' ∧ A' 22 = upd (A 22) (at_ + 1) (nI (toA A k)) ∧ (∀ v, v < kA A (toA A k) → A' 23 (4 * at_ + 4 + v) = ldV A k (fun u => A 23 (4 * at_ + u)) v) ∧ ∀ j, (j < 4 * at_ + 4 ∨ 4 * at_ + 4 + kA A (toA A k) ≤ j) → A' 23 j = A 23 j) (sz, mh b I L A1 B g) 19 [some (.ref b), some (.int (nI at_)), some (.int (nI k)), some (.int (b2 (ldG A k (fun u => A 23 (4 * at_ + u)) v))), some (.int (nI v)), j5, j6] [] := by
    intro n
    induction n with
    | zero =>
      intro v hv A1 j5 j6 hS h22 h23 h23o
      refine wp_iload (q := 21) dX8_leads_19 rfl rfl ?_
      refine wp_aload_n (i := 0) (q := 22) dX8_leads_21 rfl rfl rfl ?_
      refine wm_getA (k := 1) (o := 1) (q := 25) dX8_leads_22 ffX8_7 rfl rfl rfl ?_ -- size
      refine wp_aload_n (i := 0) (q := 26) dX8_leads_25 rfl rfl rfl ?_
      refine wm_getA (k := 29) (o := 18) (q := 29) dX8_leads_26 ffX8_63 rfl rfl rfl ?_ -- to
      refine wp_iload_n (i := 2) (q := 30) dX8_leads_29 rfl rfl rfl ?_
      refine wm_ialdN (q := 31) dX8_leads_30 ⟨by decide, by decide, rfl⟩ rfl (by simp only [mlen]; omega) (by decide) rfl ?_
      rw [hS.2 18 (by decide), e3]
      refine wm_ialdN (q := 32) dX8_leads_31 ⟨by decide, by decide, rfl⟩ rfl (by simp only [mlen]; omega) (by decide) rfl ?_
      rw [hS.2 1 (by decide), t1]
      refine wp_icmp_ge (t := 155) (q := 35) dX8_leads_32 (by decide) rfl (fun hc => ?_) (fun hc => ?_)
      · have hv : v = kA A (toA A k) := by omega
        subst hv
        refine wp_iload_n (i := 3) (q := 156) dX8_leads_155 rfl rfl rfl ?_
        refine wp_zret dX8_leads_156 rfl (by first | exact Or.inl rfl | exact Or.inr rfl | exact b2_01 _ | assumption) ?_
        exact ⟨rfl, A1, rfl, hS, h22, h23, h23o⟩
      · exact absurd ((nI_leI (by omega) (by omega)).mpr (by omega)) hc
    | succ n ih =>
      intro v hv A1 j5 j6 hS h22 h23 h23o
      refine wp_iload (q := 21) dX8_leads_19 rfl rfl ?_
      refine wp_aload_n (i := 0) (q := 22) dX8_leads_21 rfl rfl rfl ?_
      refine wm_getA (k := 1) (o := 1) (q := 25) dX8_leads_22 ffX8_7 rfl rfl rfl ?_ -- size
      refine wp_aload_n (i := 0) (q := 26) dX8_leads_25 rfl rfl rfl ?_
      refine wm_getA (k := 29) (o := 18) (q := 29) dX8_leads_26 ffX8_63 rfl rfl rfl ?_ -- to
      refine wp_iload_n (i := 2) (q := 30) dX8_leads_29 rfl rfl rfl ?_
      refine wm_ialdN (q := 31) dX8_leads_30 ⟨by decide, by decide, rfl⟩ rfl (by simp only [mlen]; omega) (by decide) rfl ?_
      rw [hS.2 18 (by decide), e3]
      refine wm_ialdN (q := 32) dX8_leads_31 ⟨by decide, by decide, rfl⟩ rfl (by simp only [mlen]; omega) (by decide) rfl ?_
      rw [hS.2 1 (by decide), t1]
      refine wp_icmp_ge (t := 155) (q := 35) dX8_leads_32 (by decide) rfl (fun hc => ?_) (fun hc => ?_)
      · exact absurd ((nI_leI (by omega) (by omega)).mp hc) (by omega)
      have K127 : wp l mX8_leads [] d 0 0 (fun rv h' => rv = some (.int (b2 (ldG A k (fun u => A 23 (4 * at_ + u)) (kA A (toA A k))))) ∧ ∃ A', h' = (sz, mh b I L A' B g) ∧ SC [] [22, 23] I A I A' ∧ A' 22 = upd (A 22) (at_ + 1) (nI (toA A k)) ∧ (∀ v, v < kA A (toA A k) → A' 23 (4 * at_ + 4 + v) = ldV A k (fun u => A 23 (4 * at_ + u)) v) ∧ ∀ j, (j < 4 * at_ + 4 ∨ 4 * at_ + 4 + kA A (toA A k) ≤ j) → A' 23 j = A 23 j) (sz, mh b I L (up2 A1 23 (4 * at_ + 4 + v) (ldV A k (fun u => A 23 (4 * at_ + u)) v)) B g) 127 [some (.ref b), some (.int (nI at_)), some (.int (nI k)), some (.int (b2 (ldG A k (fun u => A 23 (4 * at_ + u)) v))), some (.int (nI v)), some (.int (ldV A k (fun u => A 23 (4 * at_ + u)) v)), some (.int (nI (kA A (frA A k))))] [] := by
        have K148 : ∀ c : Bool, c = ldG A k (fun u => A 23 (4 * at_ + u)) (v + 1) → wp l mX8_leads [] d 0 0 (fun rv h' => rv = some (.int (b2 (ldG A k (fun u => A 23 (4 * at_ + u)) (kA A (toA A k))))) ∧ ∃ A', h' = (sz, mh b I L A' B g) ∧ SC [] [22, 23] I A I A' ∧ A' 22 = upd (A 22) (at_ + 1) (nI (toA A k)) ∧ (∀ v, v < kA A (toA A k) → A' 23 (4 * at_ + 4 + v) = ldV A k (fun u => A 23 (4 * at_ + u)) v) ∧ ∀ j, (j < 4 * at_ + 4 ∨ 4 * at_ + 4 + kA A (toA A k) ≤ j) → A' 23 j = A 23 j) (sz, mh b I L (up2 A1 23 (4 * at_ + 4 + v) (ldV A k (fun u => A 23 (4 * at_ + u)) v)) B g) 148 [some (.ref b), some (.int (nI at_)), some (.int (nI k)), some (.int (b2 (ldG A k (fun u => A 23 (4 * at_ + u)) v))), some (.int (nI v)), some (.int (ldV A k (fun u => A 23 (4 * at_ + u)) v)), some (.int (nI (kA A (frA A k))))] [.int (b2 c)] := by
          intro c hcc
          rw [hcc]
          refine wp_istore_n (i := 3) (lv' := [_, _, some _, _, _, _, _]) (q := 149) dX8_leads_148 rfl (by decide) rfl rfl ?_
          refine wp_iinc (v := _ + nI 1) (lv' := [_, _, _, some _, _, _, _]) (q := 152) dX8_leads_149 rfl rfl (by decide) rfl rfl ?_
          refine wp_goto (q := 19) dX8_leads_152 (by decide) ?_
          rw [nI_add]
          refine ih (v + 1) (by omega) _ _ _ (hS.tr (SC.u2 (by decide))) (by rw [up2_ne (by decide)]; exact h22) (fun w hw => ?_) (fun j hj => ?_)
          · rw [up2_row]
            by_cases e : w = v
            · simp [e]
            · simp only [show ¬ 4 * at_ + 4 + w = 4 * at_ + 4 + v by omega, if_false]
              exact h23 w (by omega)
          · rw [up2_row]
            simp only [show ¬ j = 4 * at_ + 4 + v by omega, if_false]
            exact h23o j (by omega)
        refine wp_iload_n (i := 3) (q := 128) dX8_leads_127 rfl rfl rfl ?_
        refine wp_if_eq (t := 147) (q := 131) dX8_leads_128 (by decide) rfl (fun hz => ?_) (fun hz => ?_)
        · refine wp_iconst (v := nI 0) (q := 148) dX8_leads_147 (by decide) rfl ?_
          exact K148 false (by rw [ldG_succ, b2_eq0.mp hz]; rfl)
        have hz := b2_ne0.mp hz
        refine wp_iload (q := 133) dX8_leads_131 rfl rfl ?_
        refine wp_bipush (v := (-30)) (q := 135) dX8_leads_133 (by decide) rfl ?_
        refine wp_bipush (v := nI 30) (q := 137) dX8_leads_135 (by decide) rfl ?_
        refine wp_Si (μ' := mX8_in) (q := 140) (tX8_in (d := d - 1)) dX8_leads_137 okX8_in lkX8_115 rfl rfl (Nat.le_of_ble_eq_true rfl) (by omega) rfl ?_
        refine wp_b2eq (q := 143) (t := 147) (y := 148) dX8_leads_140 dX8_leads_143 dX8_leads_144 dX8_leads_147 (by decide) rfl rfl (by decide) rfl ?_
        exact K148 _ (by rw [ldG_succ, hz]; rfl)
      have inner : ∀ n u, u + n = kA A (frA A k) → wp l mX8_leads [] d 0 0 (fun rv h' => rv = some (.int (b2 (ldG A k (fun u => A 23 (4 * at_ + u)) (kA A (toA A k))))) ∧ ∃ A', h' = (sz, mh b I L A' B g) ∧ SC [] [22, 23] I A I A' ∧ A' 22 = upd (A 22) (at_ + 1) (nI (toA A k)) ∧ (∀ v, v < kA A (toA A k) → A' 23 (4 * at_ + 4 + v) = ldV A k (fun u => A 23 (4 * at_ + u)) v) ∧ ∀ j, (j < 4 * at_ + 4 ∨ 4 * at_ + 4 + kA A (toA A k) ≤ j) → A' 23 j = A 23 j) (sz, mh b I L A1 B g) 56 [some (.ref b), some (.int (nI at_)), some (.int (nI k)), some (.int (b2 (ldG A k (fun u => A 23 (4 * at_ + u)) v))), some (.int (nI v)), some (.int (ldS A k v (fun u => A 23 (4 * at_ + u)) u)), some (.int (nI u))] [] := by
        intro n
        induction n with
        | zero =>
          intro u hu
          refine wp_iload (q := 58) dX8_leads_56 rfl rfl ?_
          refine wp_aload_n (i := 0) (q := 59) dX8_leads_58 rfl rfl rfl ?_
          refine wm_getA (k := 1) (o := 1) (q := 62) dX8_leads_59 ffX8_7 rfl rfl rfl ?_ -- size
          refine wp_aload_n (i := 0) (q := 63) dX8_leads_62 rfl rfl rfl ?_
          refine wm_getA (k := 28) (o := 17) (q := 66) dX8_leads_63 ffX8_60 rfl rfl rfl ?_ -- from
          refine wp_iload_n (i := 2) (q := 67) dX8_leads_66 rfl rfl rfl ?_
          refine wm_ialdN (q := 68) dX8_leads_67 ⟨by decide, by decide, rfl⟩ rfl (by simp only [mlen]; omega) (by decide) rfl ?_
          rw [hS.2 17 (by decide), e1]
          refine wm_ialdN (q := 69) dX8_leads_68 ⟨by decide, by decide, rfl⟩ rfl (by simp only [mlen]; omega) (by decide) rfl ?_
          rw [hS.2 1 (by decide), f1]
          refine wp_icmp_ge (t := 112) (q := 72) dX8_leads_69 (by decide) rfl (fun hc => ?_) (fun hc => ?_)
          · have hu : u = kA A (frA A k) := by omega
            subst hu
            refine wp_aload_n (i := 0) (q := 113) dX8_leads_112 rfl rfl rfl ?_
            refine wm_getA (k := 34) (o := 23) (q := 116) dX8_leads_113 ffX8_78 rfl rfl rfl ?_ -- wayNumber
            refine wp_iconst (v := nI 4) (q := 117) dX8_leads_116 (by decide) rfl ?_
            refine wp_iload_n (i := 1) (q := 118) dX8_leads_117 rfl rfl rfl ?_
            refine wp_imul (q := 119) dX8_leads_118 rfl ?_
            refine wp_iconst (v := nI 4) (q := 120) dX8_leads_119 (by decide) rfl ?_
            refine wp_iadd (q := 121) dX8_leads_120 rfl ?_
            refine wp_iload (q := 123) dX8_leads_121 rfl rfl ?_
            refine wp_iadd (q := 124) dX8_leads_123 rfl ?_
            refine wp_iload (q := 126) dX8_leads_124 rfl rfl ?_
            rw [pk_mul, nI_add, nI_add]
            refine wm_iastN (q := 127) dX8_leads_126 ⟨by decide, by decide, rfl⟩ rfl (by simp only [mlen]; omega) (by decide) rfl ?_
            exact K127
          · exact absurd ((nI_leI (by omega) (by omega)).mpr (by omega)) hc
        | succ n ihu =>
          intro u hu
          refine wp_iload (q := 58) dX8_leads_56 rfl rfl ?_
          refine wp_aload_n (i := 0) (q := 59) dX8_leads_58 rfl rfl rfl ?_
          refine wm_getA (k := 1) (o := 1) (q := 62) dX8_leads_59 ffX8_7 rfl rfl rfl ?_ -- size
          refine wp_aload_n (i := 0) (q := 63) dX8_leads_62 rfl rfl rfl ?_
          refine wm_getA (k := 28) (o := 17) (q := 66) dX8_leads_63 ffX8_60 rfl rfl rfl ?_ -- from
          refine wp_iload_n (i := 2) (q := 67) dX8_leads_66 rfl rfl rfl ?_
          refine wm_ialdN (q := 68) dX8_leads_67 ⟨by decide, by decide, rfl⟩ rfl (by simp only [mlen]; omega) (by decide) rfl ?_
          rw [hS.2 17 (by decide), e1]
          refine wm_ialdN (q := 69) dX8_leads_68 ⟨by decide, by decide, rfl⟩ rfl (by simp only [mlen]; omega) (by decide) rfl ?_
          rw [hS.2 1 (by decide), f1]
          refine wp_icmp_ge (t := 112) (q := 72) dX8_leads_69 (by decide) rfl (fun hc => ?_) (fun hc => ?_)
          · exact absurd ((nI_leI (by omega) (by omega)).mp hc) (by omega)
          refine wp_iload (q := 74) dX8_leads_72 rfl rfl ?_
          refine wp_aload_n (i := 0) (q := 75) dX8_leads_74 rfl rfl rfl ?_
          refine wm_getA (k := 30) (o := 19) (q := 78) dX8_leads_75 ffX8_66 rfl rfl rfl ?_ -- made
          refine wp_bipush (v := nI 20) (q := 80) dX8_leads_78 (by decide) rfl ?_
          refine wp_iload_n (i := 2) (q := 81) dX8_leads_80 rfl rfl rfl ?_
          refine wp_imul (q := 82) dX8_leads_81 rfl ?_
          refine wp_iconst (v := nI 5) (q := 83) dX8_leads_82 (by decide) rfl ?_
          refine wp_iload (q := 85) dX8_leads_83 rfl rfl ?_
          refine wp_imul (q := 86) dX8_leads_85 rfl ?_
          refine wp_iadd (q := 87) dX8_leads_86 rfl ?_
          refine wp_iload (q := 89) dX8_leads_87 rfl rfl ?_
          refine wp_iadd (q := 90) dX8_leads_89 rfl ?_
          rw [pk_mul, pk_mul, nI_add, nI_add]
          refine wm_ialdN (q := 91) dX8_leads_90 ⟨by decide, by decide, rfl⟩ rfl (by simp only [mlen]; omega) (by decide) rfl ?_
          refine wp_aload_n (i := 0) (q := 92) dX8_leads_91 rfl rfl rfl ?_
          refine wm_getA (k := 34) (o := 23) (q := 95) dX8_leads_92 ffX8_78 rfl rfl rfl ?_ -- wayNumber
          refine wp_iconst (v := nI 4) (q := 96) dX8_leads_95 (by decide) rfl ?_
          refine wp_iload_n (i := 1) (q := 97) dX8_leads_96 rfl rfl rfl ?_
          refine wp_imul (q := 98) dX8_leads_97 rfl ?_
          refine wp_iload (q := 100) dX8_leads_98 rfl rfl ?_
          refine wp_iadd (q := 101) dX8_leads_100 rfl ?_
          rw [pk_mul, nI_add]
          refine wm_ialdN (q := 102) dX8_leads_101 ⟨by decide, by decide, rfl⟩ rfl (by simp only [mlen]; omega) (by decide) rfl ?_
          refine wp_imul (q := 103) dX8_leads_102 rfl ?_
          refine wp_iadd (q := 104) dX8_leads_103 rfl ?_
          refine wp_istore (lv' := [_, _, _, _, some _, _, _]) (q := 106) dX8_leads_104 (by decide) rfl rfl ?_
          refine wp_iinc (v := _ + nI 1) (lv' := [_, _, _, _, _, some _, _]) (q := 109) dX8_leads_106 rfl rfl (by decide) rfl rfl ?_
          refine wp_goto (q := 56) dX8_leads_109 (by decide) ?_
          rw [nI_add, hS.2 19 (by decide), h23o (4 * at_ + u) (by omega)]
          exact ihu (u + 1) (by omega)
      refine wp_aload_n (i := 0) (q := 36) dX8_leads_35 rfl rfl rfl ?_
      refine wm_getA (k := 30) (o := 19) (q := 39) dX8_leads_36 ffX8_66 rfl rfl rfl ?_ -- made
      refine wp_bipush (v := nI 20) (q := 41) dX8_leads_39 (by decide) rfl ?_
      refine wp_iload_n (i := 2) (q := 42) dX8_leads_41 rfl rfl rfl ?_
      refine wp_imul (q := 43) dX8_leads_42 rfl ?_
      refine wp_iconst (v := nI 5) (q := 44) dX8_leads_43 (by decide) rfl ?_
      refine wp_iload (q := 46) dX8_leads_44 rfl rfl ?_
      refine wp_imul (q := 47) dX8_leads_46 rfl ?_
      refine wp_iadd (q := 48) dX8_leads_47 rfl ?_
      refine wp_iconst (v := nI 4) (q := 49) dX8_leads_48 (by decide) rfl ?_
      refine wp_iadd (q := 50) dX8_leads_49 rfl ?_
      rw [pk_mul, pk_mul, nI_add, nI_add]
      refine wm_ialdN (q := 51) dX8_leads_50 ⟨by decide, by decide, rfl⟩ rfl (by simp only [mlen]; omega) (by decide) rfl ?_
      refine wp_istore (lv' := [_, _, _, _, some _, _, _]) (q := 53) dX8_leads_51 (by decide) rfl rfl ?_
      refine wp_iconst (v := nI 0) (q := 54) dX8_leads_53 (by decide) rfl ?_
      refine wp_istore (lv' := [_, _, _, _, _, some _, _]) (q := 56) dX8_leads_54 (by decide) rfl rfl ?_
      rw [hS.2 19 (by decide)]
      exact inner _ 0 (Nat.zero_add _)
  exact H _ 0 (Nat.zero_add _) _ _ _ (SC.u2 (by decide)) (by rw [up2_row]; rfl) (fun w hw => by omega) (fun j _ => by rw [up2_ne (by decide)])
theorem tX8_makes {k v v0 v1 v2 v3 e : Int32} (hd : 2 ≤ d) (hM : MM I A np) (hA : MA I A np na) : mt l mX8_makes d 0 0 [.ref b, .int k, .int v, .int v0, .int v1, .int v2, .int v3, .int e] (sz, mh b I L A B g) (rI (aMakes A na k v v0 v1 v2 v3 e) (sz, mh b I L (aMakesA A na k v v0 v1 v2 v3 e) B g)) := by
  refine mt_in (lv := [_, _, _, _, _, _, _, _, _, _]) (by decide) (Nat.le_of_ble_eq_true rfl) rfl ?_
  refine wp_aload_n (i := 0) (q := 1) dX8_makes_0 rfl rfl rfl ?_
  refine wp_iload_n (i := 1) (q := 2) dX8_makes_1 rfl rfl rfl ?_
  refine wp_iload_n (i := 2) (q := 3) dX8_makes_2 rfl rfl rfl ?_
  refine wp_Vi (μ' := mX8_noMade) (ci := 8) (q := 6) (tX8_noMade (d := d - 1) (by omega) hM hA) dX8_makes_3 okX8_noMade lkX8_244 mh_obj rfl rfl rfl (Nat.le_of_ble_eq_true rfl) (by omega) rfl ?_
  obtain ⟨hn, h0, hP, -⟩ := hM
  obtain ⟨a1, a2, a3⟩ := hA
  unfold aMakes aMakesA
  refine wp_if_eq (t := 11) (q := 9) dX8_makes_6 (by decide) rfl (fun hc => ?_) (fun hc => ?_)
  · have hc := b2_eq0.mp hc
    rw [hc, if_neg (by decide), Bool.not_false, Bool.true_and]
    have hc2 : (ix na k && ix (kA A (toA A k.toNatClampNeg)) v) = true := by unfold noMd at hc; simpa using hc
    obtain ⟨h1, h2⟩ := Bool.and_eq_true_iff.mp hc2
    obtain ⟨a, ha, rfl⟩ := ix_of h1 (by omega)
    obtain ⟨e1, e2, e3, e4⟩ := a3 a ha
    have m2 := (hP (toA A a) (by omega)).2.1
    have f1 := (hP (frA A a) (by omega)).1
    have f2 := (hP (frA A a) (by omega)).2.1
    rw [nI_clamp (by omega)] at h2 ⊢
    obtain ⟨v, hv, rfl⟩ := ix_of h2 (by omega)
    rw [nI_clamp (by omega)]
    refine wp_aload_n (i := 0) (q := 12) dX8_makes_11 rfl rfl rfl ?_
    refine wm_getA (k := 1) (o := 1) (q := 15) dX8_makes_12 ffX8_7 rfl rfl rfl ?_ -- size
    refine wp_aload_n (i := 0) (q := 16) dX8_makes_15 rfl rfl rfl ?_
    refine wm_getA (k := 28) (o := 17) (q := 19) dX8_makes_16 ffX8_60 rfl rfl rfl ?_ -- from
    refine wp_iload_n (i := 1) (q := 20) dX8_makes_19 rfl rfl rfl ?_
    refine wm_ialdN (q := 21) dX8_makes_20 ⟨by decide, by decide, rfl⟩ rfl (by simp only [mlen]; omega) (by decide) rfl ?_
    rw [e1]
    refine wm_ialdN (q := 22) dX8_makes_21 ⟨by decide, by decide, rfl⟩ rfl (by simp only [mlen]; omega) (by decide) rfl ?_
    refine wp_istore (lv' := [_, _, _, _, _, _, _, some _, _, _]) (q := 24) dX8_makes_22 (by decide) rfl rfl ?_
    refine wp_iload_n (i := 3) (q := 25) dX8_makes_24 rfl rfl rfl ?_
    refine wp_bipush (v := (-9)) (q := 27) dX8_makes_25 (by decide) rfl ?_
    refine wp_bipush (v := nI 9) (q := 29) dX8_makes_27 (by decide) rfl ?_
    rw [f1]
    generalize hK : kA A (frA A a) = n at f2 ⊢
    have bad : mkOK n v0 v1 v2 v3 e = false → wp l mX8_makes [] d 0 0 (rI (if mkOK n v0 v1 v2 v3 e = false then -2 else nI 1) (sz, mh b I L (if mkOK n v0 v1 v2 v3 e = true then mkA A a v v0 v1 v2 v3 e else A) B g)) (sz, mh b I L A B g) 101 [some (.ref b), some (.int (nI a)), some (.int (nI v)), some (.int v0), some (.int v1), some (.int v2), some (.int v3), some (.int e), some (.int (nI n)), none] [] := by
      intro e0
      rw [e0, if_pos rfl, if_neg (by decide)]
      refine wp_bipush (v := (-2)) (q := 103) dX8_makes_101 (by decide) rfl ?_
      refine wp_iret dX8_makes_103 rfl ?_
      exact ⟨rfl, rfl⟩
    have K104 : mkOK n v0 v1 v2 v3 e = true → wp l mX8_makes [] d 0 0 (rI (if mkOK n v0 v1 v2 v3 e = false then -2 else nI 1) (sz, mh b I L (if mkOK n v0 v1 v2 v3 e = true then mkA A a v v0 v1 v2 v3 e else A) B g)) (sz, mh b I L A B g) 104 [some (.ref b), some (.int (nI a)), some (.int (nI v)), some (.int v0), some (.int v1), some (.int v2), some (.int v3), some (.int e), some (.int (nI n)), none] [] := by
      intro e0
      rw [e0, if_neg (by decide), if_pos rfl]
      refine wp_bipush (v := nI 20) (q := 106) dX8_makes_104 (by decide) rfl ?_
      refine wp_iload_n (i := 1) (q := 107) dX8_makes_106 rfl rfl rfl ?_
      refine wp_imul (q := 108) dX8_makes_107 rfl ?_
      refine wp_iconst (v := nI 5) (q := 109) dX8_makes_108 (by decide) rfl ?_
      refine wp_iload_n (i := 2) (q := 110) dX8_makes_109 rfl rfl rfl ?_
      refine wp_imul (q := 111) dX8_makes_110 rfl ?_
      refine wp_iadd (q := 112) dX8_makes_111 rfl ?_
      rw [pk_mul, pk_mul, nI_add]
      refine wp_istore (lv' := [_, _, _, _, _, _, _, _, some _, _]) (q := 114) dX8_makes_112 (by decide) rfl rfl ?_
      refine wp_aload_n (i := 0) (q := 115) dX8_makes_114 rfl rfl rfl ?_
      refine wm_getA (k := 30) (o := 19) (q := 118) dX8_makes_115 ffX8_66 rfl rfl rfl ?_ -- made
      refine wp_iload (q := 120) dX8_makes_118 rfl rfl ?_
      refine wp_iload_n (i := 3) (q := 121) dX8_makes_120 rfl rfl rfl ?_
      refine wm_iastN (q := 122) dX8_makes_121 ⟨by decide, by decide, rfl⟩ rfl (by simp only [mlen]; omega) (by decide) rfl ?_
      refine wp_aload_n (i := 0) (q := 123) dX8_makes_122 rfl rfl rfl ?_
      refine wm_getA (k := 30) (o := 19) (q := 126) dX8_makes_123 ffX8_66 rfl rfl rfl ?_ -- made
      refine wp_iload (q := 128) dX8_makes_126 rfl rfl ?_
      refine wp_iconst (v := nI 1) (q := 129) dX8_makes_128 (by decide) rfl ?_
      refine wp_iadd (q := 130) dX8_makes_129 rfl ?_
      refine wp_iload (q := 132) dX8_makes_130 rfl rfl ?_
      refine wp_iconst (v := nI 1) (q := 133) dX8_makes_132 (by decide) rfl ?_
      rw [nI_add]
      have Q3 : ∀ (A1 : Nat → Nat → Int32) (z : Int32), z = (if n ≤ 3 then nI 0 else v3) → A1 = up2 (up2 (up2 A 19 (20 * a + 5 * v) v0) 19 (20 * a + 5 * v + 1) (if n ≤ 1 then nI 0 else v1)) 19 (20 * a + 5 * v + 2) (if n ≤ 2 then nI 0 else v2) → wp l mX8_makes [] d 0 0 (rI (nI 1) (sz, mh b I L (mkA A a v v0 v1 v2 v3 e) B g)) (sz, mh b I L A1 B g) 184 [some (.ref b), some (.int (nI a)), some (.int (nI v)), some (.int v0), some (.int v1), some (.int v2), some (.int v3), some (.int e), some (.int (nI n)), some (.int (nI (20 * a + 5 * v)))] [.int z, .int (nI (20 * a + 5 * v + 3)), .ref (b + 19)] := by
        intro A1 z hz hA1
        subst hz; subst hA1
        refine wm_iastN (q := 185) dX8_makes_184 ⟨by decide, by decide, rfl⟩ rfl (by simp only [mlen]; omega) (by decide) rfl ?_
        refine wp_aload_n (i := 0) (q := 186) dX8_makes_185 rfl rfl rfl ?_
        refine wm_getA (k := 30) (o := 19) (q := 189) dX8_makes_186 ffX8_66 rfl rfl rfl ?_ -- made
        refine wp_iload (q := 191) dX8_makes_189 rfl rfl ?_
        refine wp_iconst (v := nI 4) (q := 192) dX8_makes_191 (by decide) rfl ?_
        refine wp_iadd (q := 193) dX8_makes_192 rfl ?_
        refine wp_iload (q := 195) dX8_makes_193 rfl rfl ?_
        rw [nI_add]
        refine wm_iastN (q := 196) dX8_makes_195 ⟨by decide, by decide, rfl⟩ rfl (by simp only [mlen]; omega) (by decide) rfl ?_
        refine wp_iconst (v := nI 1) (q := 197) dX8_makes_196 (by decide) rfl ?_
        refine wp_iret dX8_makes_197 rfl ?_
        exact ⟨rfl, by unfold mkA; rw [hK]⟩
      have Q2 : ∀ (A1 : Nat → Nat → Int32) (z : Int32), z = (if n ≤ 2 then nI 0 else v2) → A1 = up2 (up2 A 19 (20 * a + 5 * v) v0) 19 (20 * a + 5 * v + 1) (if n ≤ 1 then nI 0 else v1) → wp l mX8_makes [] d 0 0 (rI (nI 1) (sz, mh b I L (mkA A a v v0 v1 v2 v3 e) B g)) (sz, mh b I L A1 B g) 163 [some (.ref b), some (.int (nI a)), some (.int (nI v)), some (.int v0), some (.int v1), some (.int v2), some (.int v3), some (.int e), some (.int (nI n)), some (.int (nI (20 * a + 5 * v)))] [.int z, .int (nI (20 * a + 5 * v + 2)), .ref (b + 19)] := by
        intro A1 z hz hA1
        subst hz; subst hA1
        refine wm_iastN (q := 164) dX8_makes_163 ⟨by decide, by decide, rfl⟩ rfl (by simp only [mlen]; omega) (by decide) rfl ?_
        refine wp_aload_n (i := 0) (q := 165) dX8_makes_164 rfl rfl rfl ?_
        refine wm_getA (k := 30) (o := 19) (q := 168) dX8_makes_165 ffX8_66 rfl rfl rfl ?_ -- made
        refine wp_iload (q := 170) dX8_makes_168 rfl rfl ?_
        refine wp_iconst (v := nI 3) (q := 171) dX8_makes_170 (by decide) rfl ?_
        refine wp_iadd (q := 172) dX8_makes_171 rfl ?_
        refine wp_iload (q := 174) dX8_makes_172 rfl rfl ?_
        refine wp_iconst (v := nI 3) (q := 175) dX8_makes_174 (by decide) rfl ?_
        rw [nI_add]
        refine wp_icmp_le (t := 183) (q := 178) dX8_makes_175 (by decide) rfl (fun hle => ?_) (fun hle => ?_)
        · refine wp_iconst (v := nI 0) (q := 184) dX8_makes_183 (by decide) rfl ?_
          exact Q3 _ _ (by rw [if_pos ((nI_leI (by omega) (by decide)).mp hle)]) rfl
        · refine wp_iload (q := 180) dX8_makes_178 rfl rfl ?_
          refine wp_goto (q := 184) dX8_makes_180 (by decide) ?_
          exact Q3 _ _ (by rw [if_neg (fun q => hle ((nI_leI (by omega) (by decide)).mpr q))]) rfl
      have Q1 : ∀ (z : Int32), z = (if n ≤ 1 then nI 0 else v1) → wp l mX8_makes [] d 0 0 (rI (nI 1) (sz, mh b I L (mkA A a v v0 v1 v2 v3 e) B g)) (sz, mh b I L (up2 A 19 (20 * a + 5 * v) v0) B g) 142 [some (.ref b), some (.int (nI a)), some (.int (nI v)), some (.int v0), some (.int v1), some (.int v2), some (.int v3), some (.int e), some (.int (nI n)), some (.int (nI (20 * a + 5 * v)))] [.int z, .int (nI (20 * a + 5 * v + 1)), .ref (b + 19)] := by
        intro z hz
        subst hz
        refine wm_iastN (q := 143) dX8_makes_142 ⟨by decide, by decide, rfl⟩ rfl (by simp only [mlen]; omega) (by decide) rfl ?_
        refine wp_aload_n (i := 0) (q := 144) dX8_makes_143 rfl rfl rfl ?_
        refine wm_getA (k := 30) (o := 19) (q := 147) dX8_makes_144 ffX8_66 rfl rfl rfl ?_ -- made
        refine wp_iload (q := 149) dX8_makes_147 rfl rfl ?_
        refine wp_iconst (v := nI 2) (q := 150) dX8_makes_149 (by decide) rfl ?_
        refine wp_iadd (q := 151) dX8_makes_150 rfl ?_
        refine wp_iload (q := 153) dX8_makes_151 rfl rfl ?_
        refine wp_iconst (v := nI 2) (q := 154) dX8_makes_153 (by decide) rfl ?_
        rw [nI_add]
        refine wp_icmp_le (t := 162) (q := 157) dX8_makes_154 (by decide) rfl (fun hle => ?_) (fun hle => ?_)
        · refine wp_iconst (v := nI 0) (q := 163) dX8_makes_162 (by decide) rfl ?_
          exact Q2 _ _ (by rw [if_pos ((nI_leI (by omega) (by decide)).mp hle)]) rfl
        · refine wp_iload (q := 159) dX8_makes_157 rfl rfl ?_
          refine wp_goto (q := 163) dX8_makes_159 (by decide) ?_
          exact Q2 _ _ (by rw [if_neg (fun q => hle ((nI_leI (by omega) (by decide)).mpr q))]) rfl
      refine wp_icmp_le (t := 141) (q := 136) dX8_makes_133 (by decide) rfl (fun hle => ?_) (fun hle => ?_)
      · refine wp_iconst (v := nI 0) (q := 142) dX8_makes_141 (by decide) rfl ?_
        exact Q1 _ (by rw [if_pos ((nI_leI (by omega) (by decide)).mp hle)])
      · refine wp_iload (q := 138) dX8_makes_136 rfl rfl ?_
        refine wp_goto (q := 142) dX8_makes_138 (by decide) ?_
        exact Q1 _ (by rw [if_neg (fun q => hle ((nI_leI (by omega) (by decide)).mpr q))])
    refine wp_Si (μ' := mX8_in) (q := 32) (tX8_in (d := d - 1)) dX8_makes_29 okX8_in lkX8_115 rfl rfl (Nat.le_of_ble_eq_true rfl) (by omega) rfl ?_
    refine wp_if_eq (t := 101) (q := 35) dX8_makes_32 (by decide) rfl (fun h9 => ?_) (fun h9 => ?_)
    · exact bad (by unfold mkOK; rw [b2_eq0.mp h9]; rfl)
    have g0 := b2_ne0.mp h9
    have K89 : ((inB v0 (-9) (nI 9) && (decide (n ≤ 1) || inB v1 (-9) (nI 9))) && (decide (n ≤ 2) || inB v2 (-9) (nI 9))) = true → (decide (n ≤ 3) || inB v3 (-9) (nI 9)) = true → wp l mX8_makes [] d 0 0 (rI (if mkOK n v0 v1 v2 v3 e = false then -2 else nI 1) (sz, mh b I L (if mkOK n v0 v1 v2 v3 e = true then mkA A a v v0 v1 v2 v3 e else A) B g)) (sz, mh b I L A B g) 89 [some (.ref b), some (.int (nI a)), some (.int (nI v)), some (.int v0), some (.int v1), some (.int v2), some (.int v3), some (.int e), some (.int (nI n)), none] [] := by
      intro q1 q2
      refine wp_iload (q := 91) dX8_makes_89 rfl rfl ?_
      refine wp_bipush (v := (-99)) (q := 93) dX8_makes_91 (by decide) rfl ?_
      refine wp_bipush (v := nI 99) (q := 95) dX8_makes_93 (by decide) rfl ?_
      refine wp_Si (μ' := mX8_in) (q := 98) (tX8_in (d := d - 1)) dX8_makes_95 okX8_in lkX8_115 rfl rfl (Nat.le_of_ble_eq_true rfl) (by omega) rfl ?_
      refine wp_if_ne (t := 104) (q := 101) dX8_makes_98 (by decide) rfl (fun h99 => ?_) (fun h99 => ?_)
      · exact K104 (by unfold mkOK; rw [q1, q2, b2_ne0.mp h99]; rfl)
      · exact bad (by unfold mkOK; rw [b2_eq0.mp h99, Bool.and_false])
    have K71 : ((inB v0 (-9) (nI 9) && (decide (n ≤ 1) || inB v1 (-9) (nI 9))) && (decide (n ≤ 2) || inB v2 (-9) (nI 9))) = true → wp l mX8_makes [] d 0 0 (rI (if mkOK n v0 v1 v2 v3 e = false then -2 else nI 1) (sz, mh b I L (if mkOK n v0 v1 v2 v3 e = true then mkA A a v v0 v1 v2 v3 e else A) B g)) (sz, mh b I L A B g) 71 [some (.ref b), some (.int (nI a)), some (.int (nI v)), some (.int v0), some (.int v1), some (.int v2), some (.int v3), some (.int e), some (.int (nI n)), none] [] := by
      intro q1
      refine wp_iload (q := 73) dX8_makes_71 rfl rfl ?_
      refine wp_iconst (v := nI 3) (q := 74) dX8_makes_73 (by decide) rfl ?_
      refine wp_icmp_le (t := 89) (q := 77) dX8_makes_74 (by decide) rfl (fun hle => ?_) (fun hle => ?_)
      · exact K89 q1 (by rw [decide_eq_true ((nI_leI (by omega) (by decide)).mp hle)]; rfl)
      have hle : ¬ n ≤ 3 := fun q => hle ((nI_leI (by omega) (by decide)).mpr q)
      refine wp_iload (q := 79) dX8_makes_77 rfl rfl ?_
      refine wp_bipush (v := (-9)) (q := 81) dX8_makes_79 (by decide) rfl ?_
      refine wp_bipush (v := nI 9) (q := 83) dX8_makes_81 (by decide) rfl ?_
      refine wp_Si (μ' := mX8_in) (q := 86) (tX8_in (d := d - 1)) dX8_makes_83 okX8_in lkX8_115 rfl rfl (Nat.le_of_ble_eq_true rfl) (by omega) rfl ?_
      refine wp_if_eq (t := 101) (q := 89) dX8_makes_86 (by decide) rfl (fun hz => ?_) (fun hz => ?_)
      · exact bad (by unfold mkOK; rw [decide_eq_false hle, b2_eq0.mp hz, Bool.or_false, Bool.and_false]; rfl)
      · exact K89 q1 (by rw [b2_ne0.mp hz, Bool.or_true])
    have K53 : (inB v0 (-9) (nI 9) && (decide (n ≤ 1) || inB v1 (-9) (nI 9))) = true → wp l mX8_makes [] d 0 0 (rI (if mkOK n v0 v1 v2 v3 e = false then -2 else nI 1) (sz, mh b I L (if mkOK n v0 v1 v2 v3 e = true then mkA A a v v0 v1 v2 v3 e else A) B g)) (sz, mh b I L A B g) 53 [some (.ref b), some (.int (nI a)), some (.int (nI v)), some (.int v0), some (.int v1), some (.int v2), some (.int v3), some (.int e), some (.int (nI n)), none] [] := by
      intro q1
      refine wp_iload (q := 55) dX8_makes_53 rfl rfl ?_
      refine wp_iconst (v := nI 2) (q := 56) dX8_makes_55 (by decide) rfl ?_
      refine wp_icmp_le (t := 71) (q := 59) dX8_makes_56 (by decide) rfl (fun hle => ?_) (fun hle => ?_)
      · exact K71 (by rw [q1, decide_eq_true ((nI_leI (by omega) (by decide)).mp hle)]; rfl)
      have hle : ¬ n ≤ 2 := fun q => hle ((nI_leI (by omega) (by decide)).mpr q)
      refine wp_iload (q := 61) dX8_makes_59 rfl rfl ?_
      refine wp_bipush (v := (-9)) (q := 63) dX8_makes_61 (by decide) rfl ?_
      refine wp_bipush (v := nI 9) (q := 65) dX8_makes_63 (by decide) rfl ?_
      refine wp_Si (μ' := mX8_in) (q := 68) (tX8_in (d := d - 1)) dX8_makes_65 okX8_in lkX8_115 rfl rfl (Nat.le_of_ble_eq_true rfl) (by omega) rfl ?_
      refine wp_if_eq (t := 101) (q := 71) dX8_makes_68 (by decide) rfl (fun hz => ?_) (fun hz => ?_)
      · exact bad (by unfold mkOK; rw [decide_eq_false hle, b2_eq0.mp hz, Bool.or_false, Bool.and_false]; rfl)
      · exact K71 (by rw [q1, b2_ne0.mp hz, Bool.or_true]; rfl)
    refine wp_iload (q := 37) dX8_makes_35 rfl rfl ?_
    refine wp_iconst (v := nI 1) (q := 38) dX8_makes_37 (by decide) rfl ?_
    refine wp_icmp_le (t := 53) (q := 41) dX8_makes_38 (by decide) rfl (fun hle => ?_) (fun hle => ?_)
    · exact K53 (by rw [g0, decide_eq_true ((nI_leI (by omega) (by decide)).mp hle)]; rfl)
    have hle : ¬ n ≤ 1 := fun q => hle ((nI_leI (by omega) (by decide)).mpr q)
    refine wp_iload (q := 43) dX8_makes_41 rfl rfl ?_
    refine wp_bipush (v := (-9)) (q := 45) dX8_makes_43 (by decide) rfl ?_
    refine wp_bipush (v := nI 9) (q := 47) dX8_makes_45 (by decide) rfl ?_
    refine wp_Si (μ' := mX8_in) (q := 50) (tX8_in (d := d - 1)) dX8_makes_47 okX8_in lkX8_115 rfl rfl (Nat.le_of_ble_eq_true rfl) (by omega) rfl ?_
    refine wp_if_eq (t := 101) (q := 53) dX8_makes_50 (by decide) rfl (fun hz => ?_) (fun hz => ?_)
    · exact bad (by unfold mkOK; rw [decide_eq_false hle, b2_eq0.mp hz, Bool.or_false, Bool.and_false]; rfl)
    · exact K53 (by rw [g0, b2_ne0.mp hz, Bool.or_true]; rfl)
  · rw [b2_ne0.mp hc, if_pos rfl]
    refine wp_iconst (v := (-1)) (q := 10) dX8_makes_9 (by decide) rfl ?_
    refine wp_iret dX8_makes_10 rfl ?_
    exact ⟨rfl, rfl⟩
end M10
