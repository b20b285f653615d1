/-! ELIMINATION: the reference's basis; both are one -/
theorem bS_out {t : Nat → Int64} {fs : List Nat} {y : Int64} {f c : Nat} : ∀ r, (∀ i, i < r → csL fs i ≠ c) → bS t fs y f r c = if c = f then y else 0
  | 0, _ => rfl
  | r + 1, h => by
    show (if c = fs.getD r 0 then _ else _) = _
    rw [if_neg (fun q => h r (by omega) q.symm)]
    exact bS_out r (fun i hi => h i (by omega))
theorem bS_in {t : Nat → Int64} {fs : List Nat} {y : Int64} {f j : Nat} : ∀ r, j < r → (∀ i, j < i → i < r → csL fs i ≠ csL fs j) → bS t fs y f r (csL fs j) = -t (5 * j + f)
  | 0, h, _ => by omega
  | r + 1, h, h2 => by
    show (if csL fs j = fs.getD r 0 then _ else _) = _
    by_cases e : j = r
    · subst e
      exact if_pos rfl
    · rw [if_neg (fun q => h2 r (by omega) (by omega) q.symm)]
      exact bS_in r (by omega) (fun i h3 h4 => h2 i h3 (by omega))
theorem gcN_gcV {f : Nat → Int64} {n : Nat} (hb : ∀ c, c < n → -2 ^ 63 < (f c).toInt) : ∀ m c d, c + m = n → d.toInt = (gcV (iV f) c : Int) → (gcN f m c d).toInt = (gcV (iV f) n : Int)
  | 0, c, d, hc, hd => by
    have : c = n := by omega
    subst this
    exact hd
  | m + 1, c, d, hc, hd => by
    show (gcN f m (c + 1) (gc64 d (ab64 (f c)))).toInt = _
    refine gcN_gcV hb m (c + 1) _ (by omega) ?_
    have ha := ab64_toInt (hb c (by omega))
    rw [gc64_gcd (by omega) (by omega), hd, ha]
    rfl
theorem al8 {g z w : Int} (h1 : -1 * g * z = w) (hw : w < 0) (hg : 0 < g) : 0 < z := by
  have h2 : g * z = -(-1 * g * z) := by grind
  have h3 : 0 < g * z := by rw [h2, h1]; omega
  exact Int.pos_of_mul_pos_right h3 (by omega)
theorem bR_ok {n f : Nat} {s : brT} {NS : (Nat → Int) → Prop} (h : AB n s.2.1.length s.2.2.toInt (csL s.2.1) (tI s.1)) (hN : ∀ w, nsp n s.2.1.length (tI s.1) w ↔ NS w) (hf : f < n) (hfr : fre s.2.1.length (csL s.2.1) f) : BV n s.2.1.length (csL s.2.1) f NS (iV (bR n s f)) := by
  obtain ⟨t, fs, y⟩ := s
  dsimp only at h hN hfr ⊢
  unfold bR
  dsimp only
  have hNb := h.2.2.2.2.2.1
  have hD5 : Dk fs.length ≤ 2916000000 := by unfold Dk; split <;> decide
  have vf : bS t fs y f fs.length f = y := by
    rw [bS_out fs.length (fun i hi => hfr i hi), if_pos rfl]
  have vg : ∀ g, fre fs.length (csL fs) g → g ≠ f → bS t fs y f fs.length g = 0 := by
    intro g hgf hne
    rw [bS_out fs.length (fun i hi => hgf i hi), if_neg hne]
  have vl : ∀ j, j < fs.length → (bS t fs y f fs.length (csL fs j)).toInt = -tI t j f := by
    intro j hj
    rw [bS_in fs.length hj (fun i h1 h2 e => by have := AB_inj h h2 hj e; omega)]
    have := h.2.2.2.2.2.2.1 j f hj hf
    unfold bd tI at this
    exact i64_neg (by omega)
  have eq : ∀ g, g < n → (bS t fs y f fs.length g).toInt = bvec fs.length y.toInt (csL fs) (tI t) f 0 g := by
    intro g hg
    by_cases e : fre fs.length (csL fs) g
    · by_cases e2 : g = f
      · rw [e2, vf]; exact (if_pos rfl).symm
      · rw [vg g e e2, bvec_fre e e2]; rfl
    · obtain ⟨i, hi, hig⟩ := not_fre e
      rw [← hig, vl i hi, bvec_piv h hi hfr]
  have hbb : ∀ g, g < n → bd (bS t fs y f fs.length g).toInt 2916000000 := by
    intro g hg
    by_cases e : fre fs.length (csL fs) g
    · by_cases e2 : g = f
      · rw [e2, vf]; exact bd_mo hNb hD5
      · rw [vg g e e2]; exact ⟨by decide, by decide⟩
    · obtain ⟨i, hi, hig⟩ := not_fre e
      rw [← hig, vl i hi]
      have := h.2.2.2.2.2.2.1 i f hi hf
      unfold bd at *
      omega
  have hns : nsp n fs.length (tI t) (iV (bS t fs y f fs.length)) := by
    intro j hj
    rw [dt_cgw (v := bvec fs.length y.toInt (csL fs) (tI t) f 0) n eq]
    exact bvec_ns h hf hfr j hj
  generalize bS t fs y f fs.length = W at vf vg hbb hns ⊢
  have hy0 : (W f).toInt ≠ 0 := by rw [vf]; exact h.2.2.1
  have hg := gcN_gcV (f := W) (n := n) (fun c hc => by have := hbb c hc; unfold bd at this; omega) n 0 0 (by omega) rfl
  have hg0 : 0 < gcV (iV W) n := Nat.pos_of_ne_zero (fun q => hy0 (gcV_0 q f hf))
  have hgl : gcV (iV W) n ≤ 2916000000 := by
    have := Nat.le_of_dvd (by show 0 < (W f).toInt.natAbs; omega) (gcV_dvd (w := iV W) n f hf)
    have h2 := hbb f hf
    have h3 : gcV (iV W) n ≤ (W f).toInt.natAbs := this
    unfold bd at h2
    omega
  obtain ⟨e, he, hdv⟩ : ∃ e : Int, (e = 1 ∧ 0 < (W f).toInt ∨ e = -1 ∧ (W f).toInt < 0) ∧ (dvF W n f).toInt = e * (gcV (iV W) n : Int) := by
    unfold dvF
    by_cases w : W f < 0
    · refine ⟨-1, Or.inr ⟨rfl, ?_⟩, ?_⟩
      · have := Int64.lt_iff_toInt_lt.mp w
        rw [show (0 : Int64).toInt = 0 from rfl] at this
        exact this
      · rw [if_pos w, i64_neg (by rw [hg]; omega), hg]
        omega
    · refine ⟨1, Or.inl ⟨rfl, ?_⟩, ?_⟩
      · have : ¬ (W f).toInt < (0 : Int64).toInt := fun q => w (Int64.lt_iff_toInt_lt.mpr q)
        rw [show (0 : Int64).toInt = 0 from rfl] at this
        omega
      · rw [if_neg w, hg]
        omega
  have hmul : ∀ g, g < n → (e * (gcV (iV W) n : Int)) * (W g / dvF W n f).toInt = (W g).toInt := by
    intro g hg'
    rw [i64_div (by have := hbb g hg'; unfold bd at this; omega), hdv]
    refine Int.mul_tdiv_cancel' ?_
    have h1 : ((gcV (iV W) n : Nat) : Int) ∣ (W g).toInt := Int.ofNat_dvd_left.mpr (gcV_dvd (w := iV W) n g hg')
    rcases he with ⟨q, _⟩ | ⟨q, _⟩
    · rw [q, Int.one_mul]; exact h1
    · rw [q, Int.neg_mul, Int.one_mul]; exact Int.neg_dvd.mpr h1
  have he0 : e * (gcV (iV W) n : Int) ≠ 0 := by
    refine Int.mul_ne_zero (by rcases he with ⟨q, _⟩ | ⟨q, _⟩ <;> omega) (by omega)
  refine ⟨?_, fun g hg' hgf hne => ?_, ?_, ?_⟩
  · rw [← hN]
    intro j hj
    have h1 := hns j hj
    have h2 : ∀ m, m ≤ n → (e * (gcV (iV W) n : Int)) * dt (iV (fun c => W c / dvF W n f)) (tI t j) m = dt (iV W) (tI t j) m := by
      intro m
      induction m with
      | zero => intro _; unfold dt; simp
      | succ m ih =>
        intro hm
        unfold dt
        rw [Int.mul_add, ih (by omega), ← Int.mul_assoc]
        show _ + (e * (gcV (iV W) n : Int)) * (W m / dvF W n f).toInt * _ = _ + (W m).toInt * _
        rw [hmul m (by omega)]
    have h3 := h2 n (Nat.le_refl _)
    rw [h1] at h3
    exact (Int.mul_eq_zero.mp h3).resolve_left he0
  · have h1 := hmul g hg'
    rw [i64_eq0.mp (vg g hgf hne)] at h1
    exact (Int.mul_eq_zero.mp h1).resolve_left he0
  · have h1 := gcV_mul (w := iV W) (v := iV (fun c => W c / dvF W n f)) (a := gcV (iV W) n) n (fun c hc => by
      show (W c).toInt.natAbs = _
      rw [← hmul c hc, Int.natAbs_mul, Int.natAbs_mul, Int.natAbs_natCast]
      rcases he with ⟨q, _⟩ | ⟨q, _⟩ <;> rw [q] <;> simp)
    have h2 : gcV (iV W) n * 1 = gcV (iV W) n * gcV (iV (fun c => W c / dvF W n f)) n := by omega
    exact (Nat.eq_of_mul_eq_mul_left hg0 h2).symm
  · have h1 := hmul f hf
    show 0 < (W f / dvF W n f).toInt
    generalize (W f / dvF W n f).toInt = z at h1
    rcases he with ⟨q, w⟩ | ⟨q, w⟩
    · rw [q, Int.one_mul] at h1
      rw [← h1] at w
      exact Int.pos_of_mul_pos_right w (by omega)
    · rw [q] at h1
      exact al8 h1 w (by omega)
-- the free places
theorem frF_fre {fs : List Nat} {c : Nat} : frF fs c = true ↔ fre fs.length (csL fs) c := by
  unfold frF fre csL
  rw [Bool.not_eq_true', ← Bool.not_eq_true, List.contains_iff_mem]
  constructor
  · intro h i hi e
    exact h (e ▸ getD_mem hi)
  · intro h hm
    obtain ⟨i, hi, e⟩ := List.getElem_of_mem hm
    refine h i hi ?_
    rw [List.getD_eq_getElem?_getD, List.getElem?_eq_getElem hi]
    exact e
theorem fpF_ok {n s : Nat} {fs : List Nat} {L : Nat → Nat} (hL : ∀ i, i < fs.length → L i = csL fs i) (ho : ∀ i j, i < j → j < fs.length → csL fs i < csL fs j) : ∀ m c r f, c + m = n → f ≤ s → (∀ i, i < r → csL fs i < c) → (∀ i, r ≤ i → i < fs.length → c ≤ csL fs i) → s - f < (fcF n fs c).length → fpF n fs.length L s m c r f = (fcF n fs c).getD (s - f) 0
  | 0, c, r, f, hc, h1, h2, h3, h4 => by
    rw [fcF_end (by omega)] at h4
    simp at h4
  | m + 1, c, r, f, hc, h1, h2, h3, h4 => by
    rw [fcF_step (by omega)] at h4 ⊢
    unfold fpF
    by_cases w : r < fs.length ∧ L r = c
    · rw [if_pos w]
      have hnf : ¬ frF fs c = true := fun q => frF_fre.mp q r w.1 (by rw [← hL r w.1]; exact w.2)
      rw [if_neg hnf] at h4 ⊢
      refine fpF_ok hL ho m (c + 1) (r + 1) f (by omega) h1 (fun i hi => ?_) (fun i h5 h6 => ?_) h4
      · by_cases e : i = r
        · rw [e, ← hL r w.1, w.2]; omega
        · have := h2 i (by omega); omega
      · have := ho r i (by omega) h6
        rw [← hL r w.1, w.2] at this
        omega
    · rw [if_neg w]
      have hfr : frF fs c = true := frF_fre.mpr (fun i hi e => by
        by_cases q : i < r
        · have := h2 i q; omega
        · by_cases q2 : i = r
          · exact w ⟨by omega, by rw [← q2, hL i hi]; exact e⟩
          · have h5 := ho r i (by omega) hi
            have h6 := h3 r (Nat.le_refl _) (by omega)
            omega)
      rw [if_pos hfr] at h4 ⊢
      by_cases e : f = s
      · rw [if_pos e, show s - f = 0 by omega]
        rfl
      · rw [if_neg e, show s - f = (s - (f + 1)) + 1 by omega]
        rw [List.getD_cons_succ]
        refine fpF_ok hL ho m (c + 1) r (f + 1) (by omega) (by omega) (fun i hi => by have := h2 i hi; omega) (fun i h5 h6 => ?_) (by rw [List.length_cons] at h4; omega)
        have := h3 i h5 h6
        have hne := frF_fre.mp hfr i h6
        omega
theorem fcF_size {n : Nat} {fs : List Nat} (hn : ∀ i, i < fs.length → csL fs i < n) (ho : ∀ i j, i < j → j < fs.length → csL fs i < csL fs j) : ∀ m c r, c + m = n → r ≤ fs.length → (∀ i, i < r → csL fs i < c) → (∀ i, r ≤ i → i < fs.length → c ≤ csL fs i) → (fcF n fs c).length + (fs.length - r) = n - c
  | 0, c, r, hc, h1, h2, h3 => by
    rw [fcF_end (by omega)]
    have : r = fs.length := by
      rcases Nat.lt_or_ge r fs.length with q | q
      · have := h3 r (Nat.le_refl _) q
        have := hn r q
        omega
      · omega
    simp
    omega
  | m + 1, c, r, hc, h1, h2, h3 => by
    rw [fcF_step (by omega)]
    by_cases w : r < fs.length ∧ csL fs r = c
    · have hnf : ¬ frF fs c = true := fun q => frF_fre.mp q r w.1 w.2
      rw [if_neg hnf]
      have := fcF_size hn ho m (c + 1) (r + 1) (by omega) (by omega) (fun i hi => by
        by_cases e : i = r
        · rw [e, w.2]; omega
        · have := h2 i (by omega); omega) (fun i h5 h6 => by
        have := ho r i (by omega) h6
        rw [w.2] at this
        omega)
      omega
    · have hfr : frF fs c = true := frF_fre.mpr (fun i hi e => by
        by_cases q : i < r
        · have := h2 i q; omega
        · by_cases q2 : i = r
          · exact w ⟨by omega, by rw [← q2]; exact e⟩
          · have h5 := ho r i (by omega) hi
            have h6 := h3 r (Nat.le_refl _) (by omega)
            omega)
      rw [if_pos hfr]
      have := fcF_size hn ho m (c + 1) r (by omega) h1 (fun i hi => by have := h2 i hi; omega) (fun i h5 h6 => by
        have := h3 i h5 h6
        have hne := frF_fre.mp hfr i h6
        omega)
      rw [List.length_cons]
      omega
/-- both tables -/
def TwT (n : Nat) (T : TS) (s : brT) (NS : (Nat → Int) → Prop) : Prop := CT n T NS ∧ AB n s.2.1.length s.2.2.toInt (csL s.2.1) (tI s.1) ∧ shp n s.2.1.length (csL s.2.1) (tI s.1) ∧ (∀ i j, i < j → j < s.2.1.length → csL s.2.1 i < csL s.2.1 j) ∧ ∀ w, nsp n s.2.1.length (tI s.1) w ↔ NS w
theorem TwT_lead {n : Nat} {T : TS} {s : brT} {NS : (Nat → Int) → Prop} (h : TwT n T s NS) : T.1 = s.2.1.length ∧ ∀ i, i < s.2.1.length → T.2.1 i = csL s.2.1 i := by
  obtain ⟨⟨N, t, c1, c2, c3, c4, c5⟩, h2, h3, h4, h5⟩ := h
  have := lead_eq c1 h2 c2 h3 c3 h4 (fun w => (c4 w).trans (h5 w).symm)
  exact ⟨this.1, fun i hi => this.2 i (by omega)⟩
theorem TwT_size {n : Nat} {T : TS} {s : brT} {NS : (Nat → Int) → Prop} (h : TwT n T s NS) : (fcF n s.2.1 0).length = n - T.1 := by
  have hl := TwT_lead h
  obtain ⟨_, h2, h3, h4, h5⟩ := h
  have := fcF_size (n := n) (fs := s.2.1) h2.2.2.2.1 h4 n 0 0 (by omega) (by omega) (fun i hi => by omega) (fun i _ _ => by omega)
  omega
theorem fcF_fre {n : Nat} {fs : List Nat} {k : Nat} (h : k < (fcF n fs 0).length) : (fcF n fs 0).getD k 0 < n ∧ fre fs.length (csL fs) ((fcF n fs 0).getD k 0) := by
  have hm := getD_mem h
  refine ⟨(fcF_lt hm).1, ?_⟩
  unfold fcF at hm
  exact frF_fre.mp (List.mem_filter.mp hm).2
theorem TwT_basis {n k c : Nat} {T : TS} {s : brT} {NS : (Nat → Int) → Prop} (h : TwT n T s NS) (hk : k < (fcF n s.2.1 0).length) (hc : c < n) : bsV n T k c = bR n s ((fcF n s.2.1 0).getD k 0) c ∧ BV n s.2.1.length (csL s.2.1) ((fcF n s.2.1 0).getD k 0) NS (iV (bR n s ((fcF n s.2.1 0).getD k 0))) ∧ bd (bsV n T k c).toInt 19440000 := by
  have hl := TwT_lead h
  obtain ⟨h1, h2, h3, h4, h5⟩ := h
  obtain ⟨q1, q2⟩ := fcF_fre hk
  have hfp : frP n T.1 T.2.1 k = (fcF n s.2.1 0).getD k 0 := by
    unfold frP
    rw [hl.1, fpF_ok hl.2 h4 n 0 0 0 (by omega) (by omega) (fun i hi => by omega) (fun i _ _ => by omega) (by omega)]
    rfl
  generalize (fcF n s.2.1 0).getD k 0 = f at *
  have hfre : ∀ g, fre T.1 T.2.1 g ↔ fre s.2.1.length (csL s.2.1) g := fun g => ⟨fun w i hi => by rw [← hl.2 i hi]; exact w i (by rw [hl.1]; exact hi), fun w i hi => by rw [hl.2 i (by rw [← hl.1]; exact hi)]; exact w i (by rw [← hl.1]; exact hi)⟩
  have hb1 := bsV_ok h1 q1 ((hfre f).mpr q2) hfp
  have hb2 := bR_ok h2 h5 q1 q2
  have hb1' : BV n s.2.1.length (csL s.2.1) f NS (iV (bsV n T k)) := ⟨hb1.1, fun g hg hgf hne => hb1.2.1 g hg ((hfre g).mpr hgf) hne, hb1.2.2.1, hb1.2.2.2⟩
  refine ⟨Int64.toInt_inj.mp (BV_eq h2 h5 q1 q2 hb1' hb2 c hc), hb2, ?_⟩
  have hb := BV_bd h2 h5 q1 q2 hb1' c hc
  have hk4 : s.2.1.length ≤ 4 := by
    rcases Nat.lt_or_ge 4 s.2.1.length with w | w
    · exfalso
      have n5 : s.2.1.length = n := by have := h2.1; have := h2.2.1; omega
      obtain ⟨i, hi, hif⟩ := full (cs := csL s.2.1) h2.2.1 (fun j hj => h2.2.2.2.1 j (by omega)) (fun i j hi hj e => AB_inj h2 (by omega) (by omega) e) f q1
      exact q2 i (by omega) hif
    · exact w
  refine bd_mo hb ?_
  rcases (show s.2.1.length = 0 ∨ s.2.1.length = 1 ∨ s.2.1.length = 2 ∨ s.2.1.length = 3 ∨ s.2.1.length = 4 by omega) with w | w | w | w | w <;> rw [w] <;> decide
