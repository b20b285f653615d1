/-! BOTH SIDES: what is kept of one variable, against its readings -/
def rng (x : Int32) : Prop := -30 ≤ x.toInt ∧ x.toInt ≤ 30
theorem rng_of {x : Int32} (h : wiB x (nI 30) = true) : rng x := by
  unfold wiB at h
  obtain ⟨h1, h2⟩ := Bool.and_eq_true_iff.mp h
  have h1 := of_decide_eq_true h1
  have h2 := of_decide_eq_true h2
  constructor
  · rcases Int.lt_or_le x.toInt (-30) with q | q
    · exact absurd (Int32.lt_iff_toInt_lt.mpr (show x.toInt < (-nI 30).toInt from q)) h1
    · exact q
  · rcases Int.lt_or_le 30 x.toInt with q | q
    · exact absurd (Int32.lt_iff_toInt_lt.mpr (show (nI 30).toInt < x.toInt from q)) h2
    · exact q
theorem rst_toInt {v : Int32} {m : Nat} (hv : rng v) (h1 : 1 ≤ m) (hm : m ≤ 12) : (rst v m).toInt = v.toInt % (m : Int) := by
  obtain ⟨a1, a2⟩ := hv
  have hmi : (nI m).toInt = (m : Int) := nI_toInt (by omega)
  have hd : (v / nI m).toInt = v.toInt.tdiv (m : Int) := by
    rw [Int32.toInt_div, hmi]
    have : (v.toInt.tdiv (m : Int)).natAbs ≤ v.toInt.natAbs := by
      rw [Int.natAbs_tdiv]
      exact Nat.div_le_self _ _
    exact Int.bmod_eq_of_le (by omega) (by omega)
  have hq := Int.mul_tdiv_add_tmod v.toInt (m : Int)
  have hr1 : (v.toInt.tmod (m : Int)).natAbs < m := by
    rw [Int.natAbs_tmod]
    exact Nat.mod_lt _ (by omega)
  have hp : (v / nI m * nI m).toInt = v.toInt.tdiv (m : Int) * m := by
    rw [Int32.toInt_mul, hd, hmi]
    have : v.toInt.tdiv (m : Int) * m = v.toInt - v.toInt.tmod (m : Int) := by rw [Int.mul_comm]; omega
    rw [this]
    exact Int.bmod_eq_of_le (by omega) (by omega)
  have hs : (v - v / nI m * nI m).toInt = v.toInt.tmod (m : Int) := by
    rw [Int32.toInt_sub, hp]
    have : v.toInt.tdiv (m : Int) * m = v.toInt - v.toInt.tmod (m : Int) := by rw [Int.mul_comm]; omega
    rw [this, Int.bmod_eq_of_le (by omega) (by omega)]
    omega
  have he : v.toInt % (m : Int) = if 0 ≤ v.toInt.tmod (m : Int) then v.toInt.tmod (m : Int) else v.toInt.tmod (m : Int) + m := by
    have e1 : v.toInt % (m : Int) = (v.toInt.tmod (m : Int)) % (m : Int) := by
      conv => lhs; rw [← hq]
      rw [Int.mul_add_emod_self_left]
    rw [e1]
    split
    · exact Int.emod_eq_of_lt (by omega) (by omega)
    · rw [← Int.add_emod_right]
      exact Int.emod_eq_of_lt (by omega) (by omega)
  unfold rst
  rw [he]
  by_cases w : (0 : Int32) ≤ v - v / nI m * nI m
  · have w2 : 0 ≤ v.toInt.tmod (m : Int) := by rw [← hs]; exact Int32.le_iff_toInt_le.mp w
    rw [if_pos w, if_pos w2, hs]
  · have w2 : ¬ 0 ≤ v.toInt.tmod (m : Int) := fun q => w (Int32.le_iff_toInt_le.mpr (by rw [hs]; exact q))
    rw [if_neg w, if_neg w2, Int32.toInt_add, hs, hmi]
    exact Int.bmod_eq_of_le (by omega) (by omega)
theorem rst_nn {v : Int32} {m : Nat} (hv : rng v) (h1 : 1 ≤ m) (hm : m ≤ 12) : ¬ rst v m < 0 := by
  intro q
  have := Int32.lt_iff_toInt_lt.mp q
  rw [rst_toInt hv h1 hm, show (0 : Int32).toInt = 0 from rfl] at this
  have := Int.emod_nonneg v.toInt (show (m : Int) ≠ 0 by omega)
  omega
/-- how far two numbers are apart -/
def dfN (a v : Int32) : Nat := (v.toInt - a.toInt).natAbs
theorem rst_dvd {a v : Int32} {m : Nat} (ha : rng a) (hv : rng v) (h1 : 1 ≤ m) (hm : m ≤ 12) : rst a m = rst v m ↔ m ∣ dfN a v := by
  rw [← Int32.toInt_inj, rst_toInt ha h1 hm, rst_toInt hv h1 hm]
  unfold dfN
  rw [← Int.natCast_dvd_natCast, Int.dvd_natAbs]
  constructor
  · intro h
    exact Int.dvd_of_emod_eq_zero (by rw [Int.sub_emod, h, Int.sub_self, Int.zero_emod])
  · intro h
    have := Int.emod_emod_of_dvd v.toInt (Int.dvd_refl (m : Int))
    obtain ⟨c, hc⟩ := h
    have e : v.toInt = a.toInt + m * c := by omega
    rw [e, Int.add_mul_emod_self_left]
theorem sR_all {m : Nat} {a : Int32} (ha : rng a) (h1 : 1 ≤ m) (hm : m ≤ 12) : ∀ t : List Int32, (∀ v, v ∈ t → rng v) → (sR m (rst a m) t = true ↔ ∀ v, v ∈ t → m ∣ dfN a v)
  | [], _ => ⟨fun _ v hv => (by cases hv), fun _ => rfl⟩
  | v :: vs, ht => by
    have hv := ht v List.mem_cons_self
    unfold sR
    rw [decide_eq_false (rst_nn ha h1 hm), Bool.false_or, Bool.and_eq_true, decide_eq_true_eq]
    constructor
    · rintro ⟨q1, q2⟩ u hu
      rw [← q1] at q2
      rcases List.mem_cons.mp hu with rfl | hu
      · exact (rst_dvd ha hv h1 hm).mp q1
      · exact (sR_all ha h1 hm vs (fun v h => ht v (List.mem_cons_of_mem _ h))).mp q2 u hu
    · intro q
      have q1 := (rst_dvd ha hv h1 hm).mpr (q v List.mem_cons_self)
      refine ⟨q1, ?_⟩
      rw [← q1]
      exact (sR_all ha h1 hm vs (fun v h => ht v (List.mem_cons_of_mem _ h))).mpr (fun u hu => q u (List.mem_cons_of_mem _ hu))
theorem sR_first {m : Nat} {a : Int32} {t : List Int32} : sR m (-1) (a :: t) = sR m (rst a m) t := by
  show ((decide ((-1 : Int32) < 0) || _) && _) = _
  rw [show decide ((-1 : Int32) < 0) = true from by decide, Bool.true_or, Bool.true_and]
theorem risF_snoc {x : Int32} : ∀ (t : List Int32) (o : Int32), risF o (t ++ [x]) = (risF o t && !decide (x < t.getLast?.getD o))
  | [], o => by
    show (!decide (x < o) && true) = (true && _)
    rw [Bool.and_true, Bool.true_and]
    rfl
  | v :: vs, o => by
    show (!decide (v < o) && risF v (vs ++ [x])) = _
    rw [risF_snoc vs v, ← Bool.and_assoc]
    congr 3
    cases vs with
    | nil => rfl
    | cons w ws => rw [List.getLast?_cons_cons]; cases h : (w :: ws).getLast? with
      | none => simp at h
      | some z => rfl
theorem exS_snoc {gr : Bool} {x : Int32} : ∀ (t : List Int32) (best : Int32), exS gr best true (t ++ [x]) = if (if gr then decide (exS gr best true t < x) else decide (x < exS gr best true t)) = true then x else exS gr best true t
  | [], best => by
    show (if (!true || _) = true then x else best) = _
    rw [Bool.not_true, Bool.false_or]
    rfl
  | v :: vs, best => exS_snoc vs _
theorem exS_first {gr : Bool} {a best : Int32} {t : List Int32} : exS gr best false (a :: t) = exS gr a true t := by
  show exS gr (if (!false || _) = true then a else best) true t = _
  rw [Bool.not_false, Bool.true_or, if_pos rfl]
theorem gth_snoc {x : Int32} : ∀ (t s : List Int32), gth s (t ++ [x]) = if (gth s t).length < 4 then insL x (gth s t) else gth s t
  | [], s => by
    show (if s.length < 4 then gth (insL x s) [] else s) = _
    rfl
  | v :: vs, s => by
    show (if s.length < 4 then gth (insL v s) (vs ++ [x]) else s) = _
    have e : gth s (v :: vs) = if s.length < 4 then gth (insL v s) vs else s := rfl
    rw [e]
    by_cases w : s.length < 4
    · rw [if_pos w, if_pos w]
      exact gth_snoc vs (insL v s)
    · rw [if_neg w, if_neg w, if_neg w]
def srt : List Int32 → Prop
  | [] => True
  | a :: s => (∀ b, b ∈ s → a < b) ∧ srt s
theorem insL_mem {x y : Int32} : ∀ s : List Int32, y ∈ insL x s → y = x ∨ y ∈ s
  | [], h => by
    rcases List.mem_cons.mp h with h | h
    · exact Or.inl h
    · cases h
  | a :: s, h => by
    unfold insL at h
    split at h
    · rcases List.mem_cons.mp h with h | h
      · exact Or.inr (h ▸ List.mem_cons_self)
      · rcases insL_mem s h with h | h
        · exact Or.inl h
        · exact Or.inr (List.mem_cons_of_mem _ h)
    · split at h
      · exact Or.inr h
      · rcases List.mem_cons.mp h with h | h
        · exact Or.inl h
        · exact Or.inr h
theorem insL_srt {x : Int32} : ∀ s : List Int32, srt s → srt (insL x s)
  | [], _ => ⟨fun b hb => (by cases hb), trivial⟩
  | a :: s, h => by
    unfold insL
    split
    · next h1 =>
      refine ⟨fun b hb => ?_, insL_srt s h.2⟩
      rcases insL_mem s hb with rfl | hb
      · exact h1
      · exact h.1 b hb
    · next h1 =>
      split
      · exact h
      · next h2 =>
        have h3 : x < a := Int32.not_le.mp (fun q => by
          rcases Int32.lt_or_eq_of_le q with q | q
          · exact h1 q
          · exact h2 q)
        refine ⟨fun b hb => ?_, h⟩
        rcases List.mem_cons.mp hb with rfl | hb
        · exact h3
        · exact Int32.lt_trans h3 (h.1 b hb)
theorem insL_same {x : Int32} : ∀ s : List Int32, srt s → x ∈ s → insL x s = s
  | [], _, h => by cases h
  | a :: s, hs, h => by
    unfold insL
    rcases List.mem_cons.mp h with rfl | h
    · rw [if_neg Int32.lt_irrefl, if_pos rfl]
    · rw [if_pos (hs.1 x h), insL_same s hs.2 h]
theorem gth_srt : ∀ (t s : List Int32), srt s → srt (gth s t)
  | [], s, h => h
  | v :: vs, s, h => by
    unfold gth
    split
    · exact gth_srt vs _ (insL_srt s h)
    · exact h
/-- few numbers in a row, up to three: insertion -/
theorem nnF_ins {x : Int32} {f : Nat → Int32} {s : List Int32} (hs : srt s) (hl : s.length ≤ 2) (hf : fw f s) (hx : ¬ x ∈ s) : fw (nnF x s.length f) (insL x s) ∧ (insL x s).length = s.length + 1 := by
  match s, hs, hl, hf, hx with
  | [], _, _, _, _ =>
    refine ⟨fun j y hj => ?_, rfl⟩
    rcases j with _ | j
    · cases hj; exact pk_us
    · cases hj
  | [a], _, _, hf, hx =>
    have h0 : f 0 = a := hf 0 a rfl
    have hne : ¬ a = x := fun e => hx (by rw [e]; exact List.mem_cons_self)
    show fw (if x < f 0 then upd (upd f 1 (f 0)) 0 x else upd f 1 x) _ ∧ _
    unfold insL
    rw [h0]
    by_cases w : a < x
    · rw [if_pos w, if_neg (fun q => absurd (Int32.lt_trans w q) Int32.lt_irrefl)]
      refine ⟨fun j y hj => ?_, rfl⟩
      rcases j with _ | _ | j
      · cases hj; rw [pk_un (by decide)]; exact h0
      · cases hj; exact pk_us
      · cases hj
    · have w2 : x < a := Int32.not_le.mp (fun q => by
        rcases Int32.lt_or_eq_of_le q with q | q
        · exact w q
        · exact hne q)
      rw [if_neg w, if_neg hne, if_pos w2]
      refine ⟨fun j y hj => ?_, rfl⟩
      rcases j with _ | _ | j
      · cases hj; exact pk_us
      · cases hj; rw [pk_un (by decide)]; exact pk_us
      · cases hj
  | [a, b], hs, _, hf, hx =>
    have h0 : f 0 = a := hf 0 a rfl
    have h1 : f 1 = b := hf 1 b rfl
    have hab : a < b := hs.1 b List.mem_cons_self
    have hna : ¬ a = x := fun e => hx (by rw [e]; exact List.mem_cons_self)
    have hnb : ¬ b = x := fun e => hx (by rw [e]; exact List.mem_cons_of_mem _ List.mem_cons_self)
    show fw (if x < f 1 then (if x < upd f 2 (f 1) 0 then upd (upd (upd f 2 (f 1)) 1 (upd f 2 (f 1) 0)) 0 x else upd (upd f 2 (f 1)) 1 x) else upd f 2 x) _ ∧ _
    rw [pk_un (show (0 : Nat) ≠ 2 by decide), h0, h1]
    unfold insL
    by_cases w : a < x
    · rw [if_pos w]
      unfold insL
      by_cases w1 : b < x
      · rw [if_pos w1, if_neg (fun q => absurd (Int32.lt_trans w1 q) Int32.lt_irrefl)]
        refine ⟨fun j y hj => ?_, rfl⟩
        rcases j with _ | _ | _ | j
        · cases hj; rw [pk_un (by decide)]; exact h0
        · cases hj; rw [pk_un (by decide)]; exact h1
        · cases hj; exact pk_us
        · cases hj
      · have w2 : x < b := Int32.not_le.mp (fun q => by
          rcases Int32.lt_or_eq_of_le q with q | q
          · exact w1 q
          · exact hnb q)
        rw [if_neg w1, if_neg hnb, if_pos w2, if_neg (fun q => absurd (Int32.lt_trans w q) Int32.lt_irrefl)]
        refine ⟨fun j y hj => ?_, rfl⟩
        rcases j with _ | _ | _ | j
        · cases hj; rw [pk_un (by decide), pk_un (by decide)]; exact h0
        · cases hj; exact pk_us
        · cases hj; rw [pk_un (by decide)]; exact pk_us
        · cases hj
    · have w2 : x < a := Int32.not_le.mp (fun q => by
        rcases Int32.lt_or_eq_of_le q with q | q
        · exact w q
        · exact hna q)
      rw [if_neg w, if_neg hna, if_pos (Int32.lt_trans w2 hab), if_pos w2]
      refine ⟨fun j y hj => ?_, rfl⟩
      rcases j with _ | _ | _ | j
      · cases hj; exact pk_us
      · cases hj; rw [pk_un (by decide)]; exact pk_us
      · cases hj; rw [pk_un (by decide), pk_un (by decide)]; exact pk_us
      · cases hj
theorem amR_iff {f : Nat → Int32} {x : Int32} : ∀ m j, amR f x m j = true ↔ ∃ e, j ≤ e ∧ e < j + m ∧ f e = x
  | 0, j => ⟨fun h => (by cases h), fun ⟨e, h1, h2, _⟩ => (by omega)⟩
  | m + 1, j => by
    unfold amR
    rw [Bool.or_eq_true, decide_eq_true_eq, amR_iff m (j + 1)]
    constructor
    · rintro (h | ⟨e, h1, h2, h3⟩)
      · exact ⟨j, by omega, by omega, h⟩
      · exact ⟨e, by omega, by omega, h3⟩
    · rintro ⟨e, h1, h2, h3⟩
      by_cases w : e = j
      · exact Or.inl (w ▸ h3)
      · exact Or.inr ⟨e, by omega, by omega, h3⟩
theorem amB_mem {f : Nat → Int32} {x : Int32} {s : List Int32} (hl : s.length ≤ 3) (hf : fw f s) : amB f s.length x = true ↔ x ∈ s := by
  unfold amB
  rw [amR_iff, show min s.length 3 = s.length by omega]
  constructor
  · rintro ⟨e, _, h2, h3⟩
    have h4 : s[e]? = some s[e] := List.getElem?_eq_getElem (by omega)
    rw [← h3, hf e _ h4]
    exact List.getElem_mem _
  · intro h
    obtain ⟨e, he, h2⟩ := List.getElem_of_mem h
    exact ⟨e, by omega, by omega, hf e x (by rw [List.getElem?_eq_getElem he, h2])⟩
