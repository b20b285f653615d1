/-! THE CLASS: Act, its cells and methods -/
/-- an Act at q: from, to, how many variables, the multiples -/
def aC (q f t m n : Nat) (M : Nat → Nat → Int32) (o : Nat) : aE :=
  if o = 0 then .inr (0, FD0 (nI f) (nI t) (nI m) (nI n) (q + 1))
  else if o = 1 then rA 3 n (rfs n (q + 2))
  else iA 5 (M (o - 2))
def ah (q f t m n : Nat) (M : Nat → Nat → Int32) (G : Nat → Option aE) : Nat → Option aE := ov q (n + 2) (aC q f t m n M) G
def lcS (M : Nat → Nat → Int32) (v : Nat) (x : Nat → Int32) : Nat → Int32
  | 0 => M v 4
  | u + 1 => lcS M v x u + M v u * x u
def lcG (M : Nat → Nat → Int32) (m : Nat) (x : Nat → Int32) (n : Nat) : Bool := (List.range' 0 n).all (fun v => wiB (lcS M v x m) (nI 30))
def piS (M : Nat → Nat → Int32) (pl : Nat) (sm : Nat → Int64) : Nat → Nat → Int64 → Int64
  | 0, _, z => z
  | m + 1, v, z => piS M pl sm m (v + 1) (z + sm v * (M v pl).toInt64)
def piR (M : Nat → Nat → Int32) (m n : Nat) (sm : Nat → Int64) (u : Nat) : Int64 := piS M (if u < m then u else 4) sm n 0 (if u < m then 0 else sm n)
section A0
variable {l : Launch} {d q f t m n sz i a : Nat} {M : Nat → Nat → Int32} {G : Nat → Option aE}
theorem ah_obj : ah q f t m n M G q = some (.inr (0, FD0 (nI f) (nI t) (nI m) (nI n) (q + 1))) := ov_at ⟨0, by omega, rfl, rfl⟩
theorem ah_pts : ah q f t m n M G (q + 1) = some (rA 3 n (rfs n (q + 2))) := ov_at ⟨1, by omega, rfl, rfl⟩
theorem ah_pt (h : i < n) : ah q f t m n M G (q + 2 + i) = some (iA 5 (M i)) := ov_at ⟨2 + i, by omega, by omega, by unfold aC; rw [if_neg (by omega), if_neg (by omega), show 2 + i - 2 = i by omega]⟩
theorem ah_out (h : a < q ∨ q + (n + 2) ≤ a) : ah q f t m n M G a = G a := ov_out h
theorem ah_g {w : Nat} {e : aE} (h : w < q ∨ q + (n + 2) ≤ w) : hset (sz, ah q f t m n M G) w e = (sz, ah q f t m n M (gset G w e)) := ov_g h
theorem ah_sM {g : Nat → Int32} (h : i < n) : hset (sz, ah q f t m n M G) (q + 2 + i) (iA 5 g) = (sz, ah q f t m n (upR M i g) G) := by
  refine ov_set ⟨2 + i, by omega, by omega, ?_, fun o h1 h2 => ?_⟩
  · unfold aC; rw [if_neg (by omega), if_neg (by omega), show 2 + i - 2 = i by omega, upR_at]
  · unfold aC
    split
    · rfl
    · split
      · rfl
      · rw [upR_ne (by omega)]
theorem tX0_hasVariable {x : Int32} (hk : n < 2 ^ 20) : mt l mX0_hasVariable d 0 0 [.ref q, .int x] (sz, ah q f t m n M G) (rI (b2 (ix n x)) (sz, ah q f t m n M G)) := by
  refine mt_in (lv := [_, _]) (by decide) (Nat.le_of_ble_eq_true rfl) rfl ?_
  refine wp_iload_n (i := 1) (q := 1) dX0_hasVariable_0 rfl rfl rfl ?_
  refine wp_if_lt (t := 16) (q := 4) dX0_hasVariable_1 (by decide) rfl (fun hc => ?_) (fun hc => ?_)
  · rw [show ix n x = false by
      unfold ix
      refine decide_eq_false (fun q => ?_)
      have := Int32.lt_iff_toInt_lt.mp hc
      rw [show (0 : Int32).toInt = 0 from rfl] at this
      omega]
    refine wp_iconst (v := nI 0) (q := 17) dX0_hasVariable_16 (by decide) rfl ?_
    refine wp_zret dX0_hasVariable_17 rfl (by first | exact Or.inl rfl | exact Or.inr rfl | exact b2_01 _ | assumption) ?_
    exact ⟨rfl, rfl⟩
  obtain ⟨j, hj, rfl⟩ := nI_of hc
  rw [ix_nI hj]
  refine wp_iload_n (i := 1) (q := 5) dX0_hasVariable_4 rfl rfl rfl ?_
  refine wp_aload_n (i := 0) (q := 6) dX0_hasVariable_5 rfl rfl rfl ?_
  refine wg0_3 (q := 9) dX0_hasVariable_6 ffX0_21 (by first | exact ah_obj | exact ah_pts | exact ah_pt (by omega) | exact (ah_out (by omega)).trans gset_at | exact (ah_out (by omega)).trans ((gset_ne (by omega)).trans (by assumption)) | exact (ah_out (by omega)).trans (by assumption)) rfl ?_ -- toSize
  refine wp_icmp_ge (t := 16) (q := 12) dX0_hasVariable_9 (by decide) rfl (fun hc2 => ?_) (fun hc2 => ?_)
  · rw [decide_eq_false (Nat.not_lt.mpr ((nI_leI (by omega) (by omega)).mp hc2))]
    refine wp_iconst (v := nI 0) (q := 17) dX0_hasVariable_16 (by decide) rfl ?_
    refine wp_zret dX0_hasVariable_17 rfl (by first | exact Or.inl rfl | exact Or.inr rfl | exact b2_01 _ | assumption) ?_
    exact ⟨rfl, rfl⟩
  · rw [decide_eq_true (Nat.not_le.mp (fun q => hc2 ((nI_leI (by omega) (by omega)).mpr q)))]
    refine wp_iconst (v := nI 1) (q := 13) dX0_hasVariable_12 (by decide) rfl ?_
    refine wp_goto (q := 17) dX0_hasVariable_13 (by decide) ?_
    refine wp_zret dX0_hasVariable_17 rfl (by first | exact Or.inl rfl | exact Or.inr rfl | exact b2_01 _ | assumption) ?_
    exact ⟨rfl, rfl⟩
theorem tX0_set {v w mm : Nat} {x : Nat → Int32} {e : Int32} (hv : v < n) (hn : n < 2 ^ 20) (hm4 : m ≤ 4) (hw : G w = some (iA mm x)) (hwo : w < q ∨ q + (n + 2) ≤ w) (hm : m ≤ mm) (hm2 : mm < 2 ^ 30) : mt l mX0_set d 0 0 [.ref q, .int (nI v), .ref w, .int e] (sz, ah q f t m n M G) (rV (sz, ah q f t m n (upR M v (upd (fun c => if c < m then x c else M v c) 4 e)) G)) := by
  refine mt_in (lv := [_, _, _, _, _]) (by decide) (Nat.le_of_ble_eq_true rfl) rfl ?_
  refine wp_iconst (v := nI 0) (q := 1) dX0_set_0 (by decide) rfl ?_
  refine wp_istore (lv' := [_, _, _, some _, _]) (q := 3) dX0_set_1 (by decide) rfl rfl ?_
  have P : ∀ k c, c + k = m → wp l mX0_set [] d 0 0 (rV (sz, ah q f t m n (upR M v (upd (fun c => if c < m then x c else M v c) 4 e)) G)) (sz, ah q f t m n (upR M v (fun i => if i < c then x i else M v i)) G) 3 [some (.ref q), some (.int (nI v)), some (.ref w), some (.int e), some (.int (nI c))] [] := by
    intro k
    induction k with
    | zero =>
      intro c hc
      have hc : c = m := by omega
      subst hc
      refine wp_iload (q := 5) dX0_set_3 rfl rfl ?_
      refine wp_aload_n (i := 0) (q := 6) dX0_set_5 rfl rfl rfl ?_
      refine wg0_2 (q := 9) dX0_set_6 ffX0_18 (by first | exact ah_obj | exact ah_pts | exact ah_pt (by omega) | exact (ah_out (by omega)).trans gset_at | exact (ah_out (by omega)).trans ((gset_ne (by omega)).trans (by assumption)) | exact (ah_out (by omega)).trans (by assumption)) rfl ?_ -- fromSize
      refine wp_icmp_ge (t := 31) (q := 12) dX0_set_9 (by decide) rfl (fun hc1 => ?_) (fun hc1 => ?_)
      · refine wp_aload_n (i := 0) (q := 32) dX0_set_31 rfl rfl rfl ?_
        refine wg0_4 (q := 35) dX0_set_32 ffX0_26 (by first | exact ah_obj | exact ah_pts | exact ah_pt (by omega) | exact (ah_out (by omega)).trans gset_at | exact (ah_out (by omega)).trans ((gset_ne (by omega)).trans (by assumption)) | exact (ah_out (by omega)).trans (by assumption)) rfl ?_ -- parts
        refine wp_iload_n (i := 1) (q := 36) dX0_set_35 rfl rfl rfl ?_
        refine wq_aald (q := 37) dX0_set_36 (by first | exact ah_obj | exact ah_pts | exact ah_pt (by omega) | exact (ah_out (by omega)).trans gset_at | exact (ah_out (by omega)).trans ((gset_ne (by omega)).trans (by assumption)) | exact (ah_out (by omega)).trans (by assumption)) (by decide) rfl (by first | omega | exact ⟨by omega, by omega⟩) (by exact if_pos (by omega)) rfl ?_
        refine wp_iconst (v := nI 4) (q := 38) dX0_set_37 (by decide) rfl ?_
        refine wp_iload_n (i := 3) (q := 39) dX0_set_38 rfl rfl rfl ?_
        refine wq_iast (q := 40) dX0_set_39 (by first | exact ah_obj | exact ah_pts | exact ah_pt (by omega) | exact (ah_out (by omega)).trans gset_at | exact (ah_out (by omega)).trans ((gset_ne (by omega)).trans (by assumption)) | exact (ah_out (by omega)).trans (by assumption)) rfl (by first | omega | exact ⟨by omega, by omega⟩) (by first | exact ah_sM (by omega) | exact ah_g (by omega)) rfl ?_
        rw [upR_upR, upR_at]
        refine wp_vret dX0_set_40 rfl ?_
        exact ⟨rfl, rfl⟩
      · exact absurd ((nI_leI (by omega) (by omega)).mpr (by omega)) hc1
    | succ k ih =>
      intro c hc
      refine wp_iload (q := 5) dX0_set_3 rfl rfl ?_
      refine wp_aload_n (i := 0) (q := 6) dX0_set_5 rfl rfl rfl ?_
      refine wg0_2 (q := 9) dX0_set_6 ffX0_18 (by first | exact ah_obj | exact ah_pts | exact ah_pt (by omega) | exact (ah_out (by omega)).trans gset_at | exact (ah_out (by omega)).trans ((gset_ne (by omega)).trans (by assumption)) | exact (ah_out (by omega)).trans (by assumption)) rfl ?_ -- fromSize
      refine wp_icmp_ge (t := 31) (q := 12) dX0_set_9 (by decide) rfl (fun hc1 => ?_) (fun hc1 => ?_)
      · exact absurd ((nI_leI (by omega) (by omega)).mp hc1) (by omega)
      refine wp_aload_n (i := 0) (q := 13) dX0_set_12 rfl rfl rfl ?_
      refine wg0_4 (q := 16) dX0_set_13 ffX0_26 (by first | exact ah_obj | exact ah_pts | exact ah_pt (by omega) | exact (ah_out (by omega)).trans gset_at | exact (ah_out (by omega)).trans ((gset_ne (by omega)).trans (by assumption)) | exact (ah_out (by omega)).trans (by assumption)) rfl ?_ -- parts
      refine wp_iload_n (i := 1) (q := 17) dX0_set_16 rfl rfl rfl ?_
      refine wq_aald (q := 18) dX0_set_17 (by first | exact ah_obj | exact ah_pts | exact ah_pt (by omega) | exact (ah_out (by omega)).trans gset_at | exact (ah_out (by omega)).trans ((gset_ne (by omega)).trans (by assumption)) | exact (ah_out (by omega)).trans (by assumption)) (by decide) rfl (by first | omega | exact ⟨by omega, by omega⟩) (by exact if_pos (by omega)) rfl ?_
      refine wp_iload (q := 20) dX0_set_18 rfl rfl ?_
      refine wp_aload_n (i := 2) (q := 21) dX0_set_20 rfl rfl rfl ?_
      refine wp_iload (q := 23) dX0_set_21 rfl rfl ?_
      refine wq_iald (q := 24) dX0_set_23 (by first | exact ah_obj | exact ah_pts | exact ah_pt (by omega) | exact (ah_out (by omega)).trans gset_at | exact (ah_out (by omega)).trans ((gset_ne (by omega)).trans (by assumption)) | exact (ah_out (by omega)).trans (by assumption)) rfl (by first | omega | exact ⟨by omega, by omega⟩) rfl ?_
      refine wq_iast (q := 25) dX0_set_24 (by first | exact ah_obj | exact ah_pts | exact ah_pt (by omega) | exact (ah_out (by omega)).trans gset_at | exact (ah_out (by omega)).trans ((gset_ne (by omega)).trans (by assumption)) | exact (ah_out (by omega)).trans (by assumption)) rfl (by first | omega | exact ⟨by omega, by omega⟩) (by first | exact ah_sM (by omega) | exact ah_g (by omega)) rfl ?_
      refine wp_iinc (v := _ + nI 1) (lv' := [_, _, _, some _, _]) (q := 28) dX0_set_25 rfl rfl (by decide) rfl rfl ?_
      refine wp_goto (q := 3) dX0_set_28 (by decide) ?_
      rw [nI_add, upR_upR, upR_at]
      rw [show upd (fun i => if i < c then x i else M v i) c (x c) = (fun i => if i < c + 1 then x i else M v i) by
        funext i
        unfold upd
        dsimp only
        by_cases w : i = c
        · rw [if_pos w, if_pos (by omega), w]
        · rw [if_neg w]
          by_cases w2 : i < c
          · rw [if_pos w2, if_pos (by omega)]
          · rw [if_neg w2, if_neg (by omega)]]
      exact ih (c + 1) (by omega)
  have := P m 0 (by omega)
  rw [show (fun i => if i < 0 then x i else M v i) = M v by funext i; rw [if_neg (by omega)], upR_self] at this
  exact this
/-- what leads leaves: the numbers that it makes, up to the first that is lost -/
def ldQ (sz q f t m n : Nat) (M : Nat → Nat → Int32) (G : Nat → Option aE) (x : Nat → Int32) (w nn : Nat) (y : Nat → Int32) (rv : Option Value) (h' : aH) : Prop := rv = some (.int (b2 (lcG M m x n))) ∧ ∃ g : Nat → Int32, h' = (sz, ah q f t m n M (gset G w (iA nn g))) ∧ (lcG M m x n = true → ∀ v, v < n → g v = lcS M v x m) ∧ ∀ v, n ≤ v → g v = y v
theorem tX0_leads {w1 w2 mm nn : Nat} {x y : Nat → Int32} (hd : 1 ≤ d) (hn : n < 2 ^ 20) (hm4 : m ≤ 4) (hw1 : G w1 = some (iA mm x)) (hw2 : G w2 = some (iA nn y)) (ho1 : w1 < q ∨ q + (n + 2) ≤ w1) (ho2 : w2 < q ∨ q + (n + 2) ≤ w2) (h12 : w1 ≠ w2) (hm : m ≤ mm) (hm2 : mm < 2 ^ 30) (hnn : n ≤ nn) (hn2 : nn < 2 ^ 30) : mt l mX0_leads d 0 0 [.ref q, .ref w1, .ref w2] (sz, ah q f t m n M G) (ldQ sz q f t m n M G x w2 nn y) := by
  have P : ∀ k v (g : Nat → Int32) (y4 y5 y6 : Option Value), v + k = n → (List.range' v (n - v)).all (fun v => wiB (lcS M v x m) (nI 30)) = lcG M m x n → (∀ u, u < v → g u = lcS M u x m) → (∀ u, n ≤ u → g u = y u) → wp l mX0_leads [] d 0 0 (ldQ sz q f t m n M G x w2 nn y) (sz, ah q f t m n M (gset G w2 (iA nn g))) 2 [some (.ref q), some (.ref w1), some (.ref w2), some (.int (nI v)), y4, y5, y6] [] := by
    intro k
    induction k with
    | zero =>
      intro v g y4 y5 y6 hv he hg1 hg2
      refine wp_iload_n (i := 3) (q := 3) dX0_leads_2 rfl rfl rfl ?_
      refine wp_aload_n (i := 0) (q := 4) dX0_leads_3 rfl rfl rfl ?_
      refine wg0_3 (q := 7) dX0_leads_4 ffX0_21 (by first | exact ah_obj | exact ah_pts | exact ah_pt (by omega) | exact (ah_out (by omega)).trans gset_at | exact (ah_out (by omega)).trans ((gset_ne (by omega)).trans (by assumption)) | exact (ah_out (by omega)).trans (by assumption)) rfl ?_ -- toSize
      refine wp_icmp_ge (t := 80) (q := 10) dX0_leads_7 (by decide) rfl (fun hc => ?_) (fun hc => ?_)
      · rw [all_end (by omega)] at he
        refine wp_iconst (v := nI 1) (q := 81) dX0_leads_80 (by decide) rfl ?_
        refine wp_zret dX0_leads_81 rfl (by first | exact Or.inl rfl | exact Or.inr rfl | exact b2_01 _ | assumption) ?_
        refine ⟨by rw [← he]; rfl, g, rfl, fun _ u hu => hg1 u (by omega), hg2⟩
      · exact absurd ((nI_leI (by omega) (by omega)).mpr (by omega)) hc
    | succ k ih =>
      intro v g y4 y5 y6 hv he hg1 hg2
      rw [all_step (by omega)] at he
      refine wp_iload_n (i := 3) (q := 3) dX0_leads_2 rfl rfl rfl ?_
      refine wp_aload_n (i := 0) (q := 4) dX0_leads_3 rfl rfl rfl ?_
      refine wg0_3 (q := 7) dX0_leads_4 ffX0_21 (by first | exact ah_obj | exact ah_pts | exact ah_pt (by omega) | exact (ah_out (by omega)).trans gset_at | exact (ah_out (by omega)).trans ((gset_ne (by omega)).trans (by assumption)) | exact (ah_out (by omega)).trans (by assumption)) rfl ?_ -- toSize
      refine wp_icmp_ge (t := 80) (q := 10) dX0_leads_7 (by decide) rfl (fun hc => ?_) (fun hc => ?_)
      · exact absurd ((nI_leI (by omega) (by omega)).mp hc) (by omega)
      refine wp_aload_n (i := 0) (q := 11) dX0_leads_10 rfl rfl rfl ?_
      refine wg0_4 (q := 14) dX0_leads_11 ffX0_26 (by first | exact ah_obj | exact ah_pts | exact ah_pt (by omega) | exact (ah_out (by omega)).trans gset_at | exact (ah_out (by omega)).trans ((gset_ne (by omega)).trans (by assumption)) | exact (ah_out (by omega)).trans (by assumption)) rfl ?_ -- parts
      refine wp_iload_n (i := 3) (q := 15) dX0_leads_14 rfl rfl rfl ?_
      refine wq_aald (q := 16) dX0_leads_15 (by first | exact ah_obj | exact ah_pts | exact ah_pt (by omega) | exact (ah_out (by omega)).trans gset_at | exact (ah_out (by omega)).trans ((gset_ne (by omega)).trans (by assumption)) | exact (ah_out (by omega)).trans (by assumption)) (by decide) rfl (by first | omega | exact ⟨by omega, by omega⟩) (by exact if_pos (by omega)) rfl ?_
      refine wp_astore (lv' := [_, _, _, some _, _, _, _]) (q := 18) dX0_leads_16 (by decide) rfl rfl ?_
      refine wp_aload (q := 20) dX0_leads_18 rfl rfl ?_
      refine wp_iconst (v := nI 4) (q := 21) dX0_leads_20 (by decide) rfl ?_
      refine wq_iald (q := 22) dX0_leads_21 (by first | exact ah_obj | exact ah_pts | exact ah_pt (by omega) | exact (ah_out (by omega)).trans gset_at | exact (ah_out (by omega)).trans ((gset_ne (by omega)).trans (by assumption)) | exact (ah_out (by omega)).trans (by assumption)) rfl (by first | omega | exact ⟨by omega, by omega⟩) rfl ?_
      refine wp_istore (lv' := [_, _, _, _, some _, _, _]) (q := 24) dX0_leads_22 (by decide) rfl rfl ?_
      refine wp_iconst (v := nI 0) (q := 25) dX0_leads_24 (by decide) rfl ?_
      refine wp_istore (lv' := [_, _, _, _, _, some _, _]) (q := 27) dX0_leads_25 (by decide) rfl rfl ?_
      have P27 : ∀ k u, u + k = m → wp l mX0_leads [] d 0 0 (ldQ sz q f t m n M G x w2 nn y) (sz, ah q f t m n M (gset G w2 (iA nn g))) 27 [some (.ref q), some (.ref w1), some (.ref w2), some (.int (nI v)), some (.ref (q + 2 + v)), some (.int (lcS M v x u)), some (.int (nI u))] [] := by
        intro k
        induction k with
        | zero =>
          intro u hu
          have hu : u = m := by omega
          subst hu
          refine wp_iload (q := 29) dX0_leads_27 rfl rfl ?_
          refine wp_aload_n (i := 0) (q := 30) dX0_leads_29 rfl rfl rfl ?_
          refine wg0_2 (q := 33) dX0_leads_30 ffX0_18 (by first | exact ah_obj | exact ah_pts | exact ah_pt (by omega) | exact (ah_out (by omega)).trans gset_at | exact (ah_out (by omega)).trans ((gset_ne (by omega)).trans (by assumption)) | exact (ah_out (by omega)).trans (by assumption)) rfl ?_ -- fromSize
          refine wp_icmp_ge (t := 57) (q := 36) dX0_leads_33 (by decide) rfl (fun hc1 => ?_) (fun hc1 => ?_)
          · refine wp_iload (q := 59) dX0_leads_57 rfl rfl ?_
            refine wp_bipush (v := nI 30) (q := 61) dX0_leads_59 (by decide) rfl ?_
            refine wp_SNi (μ' := mX7_isWithin) (q := 64) (tX7_isWithin (d := d - 1)) dX0_leads_61 okX7_isWithin lkX0_29 rfl rfl (Nat.le_of_ble_eq_true rfl) (by omega) rfl ?_
            refine wp_if_ne (t := 69) (q := 67) dX0_leads_64 (by decide) rfl (fun hw => ?_) (fun hw => ?_)
            · rw [b2_ne0.mp hw, Bool.true_and] at he
              refine wp_aload_n (i := 2) (q := 70) dX0_leads_69 rfl rfl rfl ?_
              refine wp_iload_n (i := 3) (q := 71) dX0_leads_70 rfl rfl rfl ?_
              refine wp_iload (q := 73) dX0_leads_71 rfl rfl ?_
              refine wq_iast (q := 74) dX0_leads_73 (by first | exact ah_obj | exact ah_pts | exact ah_pt (by omega) | exact (ah_out (by omega)).trans gset_at | exact (ah_out (by omega)).trans ((gset_ne (by omega)).trans (by assumption)) | exact (ah_out (by omega)).trans (by assumption)) rfl (by first | omega | exact ⟨by omega, by omega⟩) (by first | exact ah_sM (by omega) | exact ah_g (by omega)) rfl ?_
              refine wp_iinc (v := _ + nI 1) (lv' := [_, _, some _, _, _, _, _]) (q := 77) dX0_leads_74 rfl rfl (by decide) rfl rfl ?_
              refine wp_goto (q := 2) dX0_leads_77 (by decide) ?_
              rw [nI_add, gset_gset]
              refine ih (v + 1) _ _ _ _ (by omega) he (fun e he2 => ?_) (fun e he2 => ?_)
              · by_cases w : e = v
                · rw [w, pk_us]
                · rw [pk_un w]; exact hg1 e (by omega)
              · rw [pk_un (by omega)]; exact hg2 e he2
            · rw [b2_eq0.mp hw, Bool.false_and] at he
              refine wp_iconst (v := nI 0) (q := 68) dX0_leads_67 (by decide) rfl ?_
              refine wp_zret dX0_leads_68 rfl (by first | exact Or.inl rfl | exact Or.inr rfl | exact b2_01 _ | assumption) ?_
              exact ⟨by rw [← he]; rfl, g, rfl, (fun q => by rw [← he] at q; cases q), hg2⟩
          · exact absurd ((nI_leI (by omega) (by omega)).mpr (by omega)) hc1
        | succ k ihu =>
          intro u hu
          refine wp_iload (q := 29) dX0_leads_27 rfl rfl ?_
          refine wp_aload_n (i := 0) (q := 30) dX0_leads_29 rfl rfl rfl ?_
          refine wg0_2 (q := 33) dX0_leads_30 ffX0_18 (by first | exact ah_obj | exact ah_pts | exact ah_pt (by omega) | exact (ah_out (by omega)).trans gset_at | exact (ah_out (by omega)).trans ((gset_ne (by omega)).trans (by assumption)) | exact (ah_out (by omega)).trans (by assumption)) rfl ?_ -- fromSize
          refine wp_icmp_ge (t := 57) (q := 36) dX0_leads_33 (by decide) rfl (fun hc1 => ?_) (fun hc1 => ?_)
          · exact absurd ((nI_leI (by omega) (by omega)).mp hc1) (by omega)
          refine wp_iload (q := 38) dX0_leads_36 rfl rfl ?_
          refine wp_aload (q := 40) dX0_leads_38 rfl rfl ?_
          refine wp_iload (q := 42) dX0_leads_40 rfl rfl ?_
          refine wq_iald (q := 43) dX0_leads_42 (by first | exact ah_obj | exact ah_pts | exact ah_pt (by omega) | exact (ah_out (by omega)).trans gset_at | exact (ah_out (by omega)).trans ((gset_ne (by omega)).trans (by assumption)) | exact (ah_out (by omega)).trans (by assumption)) rfl (by first | omega | exact ⟨by omega, by omega⟩) rfl ?_
          refine wp_aload_n (i := 1) (q := 44) dX0_leads_43 rfl rfl rfl ?_
          refine wp_iload (q := 46) dX0_leads_44 rfl rfl ?_
          refine wq_iald (q := 47) dX0_leads_46 (by first | exact ah_obj | exact ah_pts | exact ah_pt (by omega) | exact (ah_out (by omega)).trans gset_at | exact (ah_out (by omega)).trans ((gset_ne (by omega)).trans (by assumption)) | exact (ah_out (by omega)).trans (by assumption)) rfl (by first | omega | exact ⟨by omega, by omega⟩) rfl ?_
          refine wp_imul (q := 48) dX0_leads_47 rfl ?_
          refine wp_iadd (q := 49) dX0_leads_48 rfl ?_
          refine wp_istore (lv' := [_, _, _, _, some _, _, _]) (q := 51) dX0_leads_49 (by decide) rfl rfl ?_
          refine wp_iinc (v := _ + nI 1) (lv' := [_, _, _, _, _, some _, _]) (q := 54) dX0_leads_51 rfl rfl (by decide) rfl rfl ?_
          refine wp_goto (q := 27) dX0_leads_54 (by decide) ?_
          rw [nI_add]
          exact ihu (u + 1) (by omega)
      exact P27 m 0 (by omega)
  refine mt_in (lv := [_, _, _, _, _, _, _]) (by decide) (Nat.le_of_ble_eq_true rfl) rfl ?_
  refine wp_iconst (v := nI 0) (q := 1) dX0_leads_0 (by decide) rfl ?_
  refine wp_istore_n (i := 3) (lv' := [_, _, some _, _, _, _, _]) (q := 2) dX0_leads_1 rfl (by decide) rfl rfl ?_
  have := P n 0 y none none none (by omega) rfl (fun u hu => by omega) (fun u _ => rfl)
  rw [gset_self hw2] at this
  exact this
theorem tX0_putIn {w1 w2 mm nn : Nat} {sm y : Nat → Int64} (hn : n < 2 ^ 20) (hm4 : m ≤ 4) (hw1 : G w1 = some (lA mm sm)) (hw2 : G w2 = some (lA nn y)) (ho1 : w1 < q ∨ q + (n + 2) ≤ w1) (ho2 : w2 < q ∨ q + (n + 2) ≤ w2) (h12 : w1 ≠ w2) (hm : n < mm) (hm2 : mm < 2 ^ 30) (hnn : m < nn) (hn2 : nn < 2 ^ 30) : mt l mX0_putIn d 0 0 [.ref q, .ref w1, .ref w2] (sz, ah q f t m n M G) (rV (sz, ah q f t m n M (gset G w2 (lA nn (fun u => if u ≤ m then piR M m n sm u else y u))))) := by
  have P : ∀ k u (y4 y5 y7 : Option Value), u + k = m + 1 → wp l mX0_putIn [] d 0 0 (rV (sz, ah q f t m n M (gset G w2 (lA nn (fun u => if u ≤ m then piR M m n sm u else y u))))) (sz, ah q f t m n M (gset G w2 (lA nn (fun e => if e < u then piR M m n sm e else y e)))) 2 [some (.ref q), some (.ref w1), some (.ref w2), some (.int (nI u)), y4, y5, none, y7] [] := by
    intro k
    induction k with
    | zero =>
      intro u y4 y5 y7 hu
      refine wp_iload_n (i := 3) (q := 3) dX0_putIn_2 rfl rfl rfl ?_
      refine wp_aload_n (i := 0) (q := 4) dX0_putIn_3 rfl rfl rfl ?_
      refine wg0_2 (q := 7) dX0_putIn_4 ffX0_18 (by first | exact ah_obj | exact ah_pts | exact ah_pt (by omega) | exact (ah_out (by omega)).trans gset_at | exact (ah_out (by omega)).trans ((gset_ne (by omega)).trans (by assumption)) | exact (ah_out (by omega)).trans (by assumption)) rfl ?_ -- fromSize
      refine wp_icmp_gt (t := 95) (q := 10) dX0_putIn_7 (by decide) rfl (fun hc => ?_) (fun hc => ?_)
      · rw [show (fun e => if e < u then piR M m n sm e else y e) = (fun u => if u ≤ m then piR M m n sm u else y u) by
          funext e
          by_cases w : e < u
          · rw [if_pos w, if_pos (by omega)]
          · rw [if_neg w, if_neg (by omega)]]
        refine wp_vret dX0_putIn_95 rfl ?_
        exact ⟨rfl, rfl⟩
      · exact absurd ((nI_ltI (by omega) (by omega)).mpr (by omega)) hc
    | succ k ih =>
      intro u y4 y5 y7 hu
      refine wp_iload_n (i := 3) (q := 3) dX0_putIn_2 rfl rfl rfl ?_
      refine wp_aload_n (i := 0) (q := 4) dX0_putIn_3 rfl rfl rfl ?_
      refine wg0_2 (q := 7) dX0_putIn_4 ffX0_18 (by first | exact ah_obj | exact ah_pts | exact ah_pt (by omega) | exact (ah_out (by omega)).trans gset_at | exact (ah_out (by omega)).trans ((gset_ne (by omega)).trans (by assumption)) | exact (ah_out (by omega)).trans (by assumption)) rfl ?_ -- fromSize
      refine wp_icmp_gt (t := 95) (q := 10) dX0_putIn_7 (by decide) rfl (fun hc => ?_) (fun hc => ?_)
      · exact absurd ((nI_ltI (by omega) (by omega)).mp hc) (by omega)
      have K45 : ∀ (pl : Nat) (z0 : Int64), pl < 5 → piS M pl sm n 0 z0 = piR M m n sm u → wp l mX0_putIn [] d 0 0 (rV (sz, ah q f t m n M (gset G w2 (lA nn (fun u => if u ≤ m then piR M m n sm u else y u))))) (sz, ah q f t m n M (gset G w2 (lA nn (fun e => if e < u then piR M m n sm e else y e)))) 45 [some (.ref q), some (.ref w1), some (.ref w2), some (.int (nI u)), some (.int (nI pl)), some (.long z0), none, y7] [] := by
        intro pl z0 hpl hz0
        refine wp_iconst (v := nI 0) (q := 46) dX0_putIn_45 (by decide) rfl ?_
        refine wp_istore (lv' := [_, _, _, _, _, _, _, _]) (q := 48) dX0_putIn_46 (by decide) rfl rfl ?_
        have P48 : ∀ kk v (z : Int64), v + kk = n → piS M pl sm kk v z = piR M m n sm u → wp l mX0_putIn [] d 0 0 (rV (sz, ah q f t m n M (gset G w2 (lA nn (fun u => if u ≤ m then piR M m n sm u else y u))))) (sz, ah q f t m n M (gset G w2 (lA nn (fun e => if e < u then piR M m n sm e else y e)))) 48 [some (.ref q), some (.ref w1), some (.ref w2), some (.int (nI u)), some (.int (nI pl)), some (.long z), none, some (.int (nI v))] [] := by
          intro kk
          induction kk with
          | zero =>
            intro v z hv hz
            rw [show piS M pl sm 0 v z = z from rfl] at hz
            refine wp_iload (q := 50) dX0_putIn_48 rfl rfl ?_
            refine wp_aload_n (i := 0) (q := 51) dX0_putIn_50 rfl rfl rfl ?_
            refine wg0_3 (q := 54) dX0_putIn_51 ffX0_21 (by first | exact ah_obj | exact ah_pts | exact ah_pt (by omega) | exact (ah_out (by omega)).trans gset_at | exact (ah_out (by omega)).trans ((gset_ne (by omega)).trans (by assumption)) | exact (ah_out (by omega)).trans (by assumption)) rfl ?_ -- toSize
            refine wp_icmp_ge (t := 84) (q := 57) dX0_putIn_54 (by decide) rfl (fun hc1 => ?_) (fun hc1 => ?_)
            · refine wp_aload_n (i := 2) (q := 85) dX0_putIn_84 rfl rfl rfl ?_
              refine wp_iload_n (i := 3) (q := 86) dX0_putIn_85 rfl rfl rfl ?_
              refine wp_lload (q := 88) dX0_putIn_86 rfl rfl ?_
              refine wq_last (q := 89) dX0_putIn_88 (by first | exact ah_obj | exact ah_pts | exact ah_pt (by omega) | exact (ah_out (by omega)).trans gset_at | exact (ah_out (by omega)).trans ((gset_ne (by omega)).trans (by assumption)) | exact (ah_out (by omega)).trans (by assumption)) rfl (by first | omega | exact ⟨by omega, by omega⟩) (by first | exact ah_sM (by omega) | exact ah_g (by omega)) rfl ?_
              refine wp_iinc (v := _ + nI 1) (lv' := [_, _, some _, _, _, _, _, _]) (q := 92) dX0_putIn_89 rfl rfl (by decide) rfl rfl ?_
              refine wp_goto (q := 2) dX0_putIn_92 (by decide) ?_
              rw [nI_add, gset_gset]
              rw [show vp_updL (fun e => if e < u then piR M m n sm e else y e) u z = (fun e => if e < u + 1 then piR M m n sm e else y e) by
                funext e
                unfold vp_updL
                dsimp only
                by_cases w : e = u
                · rw [if_pos w, if_pos (by omega), hz, w]
                · rw [if_neg w]
                  by_cases w2 : e < u
                  · rw [if_pos w2, if_pos (by omega)]
                  · rw [if_neg w2, if_neg (by omega)]]
              exact ih (u + 1) _ _ _ (by omega)
            · exact absurd ((nI_leI (by omega) (by omega)).mpr (by omega)) hc1
          | succ kk ihk =>
            intro v z hv hz
            rw [show piS M pl sm (kk + 1) v z = piS M pl sm kk (v + 1) (z + sm v * (M v pl).toInt64) from rfl] at hz
            refine wp_iload (q := 50) dX0_putIn_48 rfl rfl ?_
            refine wp_aload_n (i := 0) (q := 51) dX0_putIn_50 rfl rfl rfl ?_
            refine wg0_3 (q := 54) dX0_putIn_51 ffX0_21 (by first | exact ah_obj | exact ah_pts | exact ah_pt (by omega) | exact (ah_out (by omega)).trans gset_at | exact (ah_out (by omega)).trans ((gset_ne (by omega)).trans (by assumption)) | exact (ah_out (by omega)).trans (by assumption)) rfl ?_ -- toSize
            refine wp_icmp_ge (t := 84) (q := 57) dX0_putIn_54 (by decide) rfl (fun hc1 => ?_) (fun hc1 => ?_)
            · exact absurd ((nI_leI (by omega) (by omega)).mp hc1) (by omega)
            refine wp_lload (q := 59) dX0_putIn_57 rfl rfl ?_
            refine wp_aload_n (i := 1) (q := 60) dX0_putIn_59 rfl rfl rfl ?_
            refine wp_iload (q := 62) dX0_putIn_60 rfl rfl ?_
            refine wq_lald (q := 63) dX0_putIn_62 (by first | exact ah_obj | exact ah_pts | exact ah_pt (by omega) | exact (ah_out (by omega)).trans gset_at | exact (ah_out (by omega)).trans ((gset_ne (by omega)).trans (by assumption)) | exact (ah_out (by omega)).trans (by assumption)) rfl (by first | omega | exact ⟨by omega, by omega⟩) rfl ?_
            refine wp_aload_n (i := 0) (q := 64) dX0_putIn_63 rfl rfl rfl ?_
            refine wg0_4 (q := 67) dX0_putIn_64 ffX0_26 (by first | exact ah_obj | exact ah_pts | exact ah_pt (by omega) | exact (ah_out (by omega)).trans gset_at | exact (ah_out (by omega)).trans ((gset_ne (by omega)).trans (by assumption)) | exact (ah_out (by omega)).trans (by assumption)) rfl ?_ -- parts
            refine wp_iload (q := 69) dX0_putIn_67 rfl rfl ?_
            refine wq_aald (q := 70) dX0_putIn_69 (by first | exact ah_obj | exact ah_pts | exact ah_pt (by omega) | exact (ah_out (by omega)).trans gset_at | exact (ah_out (by omega)).trans ((gset_ne (by omega)).trans (by assumption)) | exact (ah_out (by omega)).trans (by assumption)) (by decide) rfl (by first | omega | exact ⟨by omega, by omega⟩) (by exact if_pos (by omega)) rfl ?_
            refine wp_iload (q := 72) dX0_putIn_70 rfl rfl ?_
            refine wq_iald (q := 73) dX0_putIn_72 (by first | exact ah_obj | exact ah_pts | exact ah_pt (by omega) | exact (ah_out (by omega)).trans gset_at | exact (ah_out (by omega)).trans ((gset_ne (by omega)).trans (by assumption)) | exact (ah_out (by omega)).trans (by assumption)) rfl (by first | omega | exact ⟨by omega, by omega⟩) rfl ?_
            refine wp_i2l (q := 74) dX0_putIn_73 rfl ?_
            refine wp_lmul (q := 75) dX0_putIn_74 rfl ?_
            refine wp_ladd (q := 76) dX0_putIn_75 rfl ?_
            refine wp_lstore (lv' := [_, _, _, _, some _, _, _, _]) (q := 78) dX0_putIn_76 (by decide) rfl rfl ?_
            refine wp_iinc (v := _ + nI 1) (lv' := [_, _, _, _, _, _, _, _]) (q := 81) dX0_putIn_78 rfl rfl (by decide) rfl rfl ?_
            refine wp_goto (q := 48) dX0_putIn_81 (by decide) ?_
            rw [nI_add]
            exact ihk (v + 1) _ (by omega) hz
        exact P48 n 0 z0 (by omega) hz0
      refine wp_iload_n (i := 3) (q := 11) dX0_putIn_10 rfl rfl rfl ?_
      refine wp_aload_n (i := 0) (q := 12) dX0_putIn_11 rfl rfl rfl ?_
      refine wg0_2 (q := 15) dX0_putIn_12 ffX0_18 (by first | exact ah_obj | exact ah_pts | exact ah_pt (by omega) | exact (ah_out (by omega)).trans gset_at | exact (ah_out (by omega)).trans ((gset_ne (by omega)).trans (by assumption)) | exact (ah_out (by omega)).trans (by assumption)) rfl ?_ -- fromSize
      by_cases hum : u < m
      · refine wp_icmp_ge (t := 22) (q := 18) dX0_putIn_15 (by decide) rfl (fun hc1 => ?_) (fun hc1 => ?_)
        · exact absurd ((nI_leI (by omega) (by omega)).mp hc1) (by omega)
        refine wp_iload_n (i := 3) (q := 19) dX0_putIn_18 rfl rfl rfl ?_
        refine wp_goto (q := 23) dX0_putIn_19 (by decide) ?_
        refine wp_istore (lv' := [_, _, _, some _, _, _, _, _]) (q := 25) dX0_putIn_23 (by decide) rfl rfl ?_
        refine wp_iload_n (i := 3) (q := 26) dX0_putIn_25 rfl rfl rfl ?_
        refine wp_aload_n (i := 0) (q := 27) dX0_putIn_26 rfl rfl rfl ?_
        refine wg0_2 (q := 30) dX0_putIn_27 ffX0_18 (by first | exact ah_obj | exact ah_pts | exact ah_pt (by omega) | exact (ah_out (by omega)).trans gset_at | exact (ah_out (by omega)).trans ((gset_ne (by omega)).trans (by assumption)) | exact (ah_out (by omega)).trans (by assumption)) rfl ?_ -- fromSize
        refine wp_icmp_ge (t := 37) (q := 33) dX0_putIn_30 (by decide) rfl (fun hc2 => ?_) (fun hc2 => ?_)
        · exact absurd ((nI_leI (by omega) (by omega)).mp hc2) (by omega)
        refine wp_lconst (v := 0) (q := 34) dX0_putIn_33 (by decide) rfl ?_
        refine wp_goto (q := 43) dX0_putIn_34 (by decide) ?_
        refine wp_lstore (lv' := [_, _, _, _, some _, _, _, _]) (q := 45) dX0_putIn_43 (by decide) rfl rfl ?_
        exact K45 u 0 (by omega) (by unfold piR; rw [if_pos hum, if_pos hum])
      · refine wp_icmp_ge (t := 22) (q := 18) dX0_putIn_15 (by decide) rfl (fun hc1 => ?_) (fun hc1 => ?_)
        · refine wp_iconst (v := nI 4) (q := 23) dX0_putIn_22 (by decide) rfl ?_
          refine wp_istore (lv' := [_, _, _, some _, _, _, _, _]) (q := 25) dX0_putIn_23 (by decide) rfl rfl ?_
          refine wp_iload_n (i := 3) (q := 26) dX0_putIn_25 rfl rfl rfl ?_
          refine wp_aload_n (i := 0) (q := 27) dX0_putIn_26 rfl rfl rfl ?_
          refine wg0_2 (q := 30) dX0_putIn_27 ffX0_18 (by first | exact ah_obj | exact ah_pts | exact ah_pt (by omega) | exact (ah_out (by omega)).trans gset_at | exact (ah_out (by omega)).trans ((gset_ne (by omega)).trans (by assumption)) | exact (ah_out (by omega)).trans (by assumption)) rfl ?_ -- fromSize
          refine wp_icmp_ge (t := 37) (q := 33) dX0_putIn_30 (by decide) rfl (fun hc2 => ?_) (fun hc2 => ?_)
          · refine wp_aload_n (i := 1) (q := 38) dX0_putIn_37 rfl rfl rfl ?_
            refine wp_aload_n (i := 0) (q := 39) dX0_putIn_38 rfl rfl rfl ?_
            refine wg0_3 (q := 42) dX0_putIn_39 ffX0_21 (by first | exact ah_obj | exact ah_pts | exact ah_pt (by omega) | exact (ah_out (by omega)).trans gset_at | exact (ah_out (by omega)).trans ((gset_ne (by omega)).trans (by assumption)) | exact (ah_out (by omega)).trans (by assumption)) rfl ?_ -- toSize
            refine wq_lald (q := 43) dX0_putIn_42 (by first | exact ah_obj | exact ah_pts | exact ah_pt (by omega) | exact (ah_out (by omega)).trans gset_at | exact (ah_out (by omega)).trans ((gset_ne (by omega)).trans (by assumption)) | exact (ah_out (by omega)).trans (by assumption)) rfl (by first | omega | exact ⟨by omega, by omega⟩) rfl ?_
            refine wp_lstore (lv' := [_, _, _, _, some _, _, _, _]) (q := 45) dX0_putIn_43 (by decide) rfl rfl ?_
            exact K45 4 _ (by omega) (by unfold piR; rw [if_neg hum, if_neg hum])
          · exact absurd ((nI_leI (by omega) (by omega)).mpr (by omega)) hc2
        · exact absurd ((nI_leI (by omega) (by omega)).mpr (by omega)) hc1
  refine mt_in (lv := [_, _, _, _, _, _, _, _]) (by decide) (Nat.le_of_ble_eq_true rfl) rfl ?_
  refine wp_iconst (v := nI 0) (q := 1) dX0_putIn_0 (by decide) rfl ?_
  refine wp_istore_n (i := 3) (lv' := [_, _, some _, _, _, _, _, _]) (q := 2) dX0_putIn_1 rfl (by decide) rfl rfl ?_
  have := P (m + 1) 0 none none none (by omega)
  rw [show (fun e => if e < 0 then piR M m n sm e else y e) = y by funext e; rw [if_neg (by omega)], gset_self hw2] at this
  exact this
end A0
