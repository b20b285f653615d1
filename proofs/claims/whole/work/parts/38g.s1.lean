/-! THE CLASS: Search, goThrough -/
def gcK (D : DS) (last : Bool) (f : Nat → List Int32 → Nat → Nat × Option sR_) (pt : Nat) (xs : List Int32) : List Nat → Nat → Nat × Option sR_
  | [], cnt => (cnt, none)
  | a :: as, cnt =>
    if ¬ dFr D a = pt then gcK D last f pt xs as cnt
    else if lcD D a xs = true then
      (match f (dTo D a) (lcX D a xs) cnt with
        | (c', some r) => (c', some (a :: r.1, r.2))
        | (c', none) => gcK D last f pt xs as c')
    else gcK D last f pt xs as (if last = true then cnt + 1 else cnt)
/-- rows of so many acts from a state: how many are gone through, and the first that breaks a guess -/
def gcA (D : DS) : Nat → Nat → List Int32 → Nat → Nat × Option sR_
  | 0 => fun pt xs cnt => match bkC D pt (gt_ xs) with
    | some c => (cnt + 1, some ([], pt, xs, c))
    | none => (cnt + 1, none)
  | left + 1 => fun pt xs cnt => gcK D (decide (left = 0)) (gcA D left) pt xs (List.range' 0 (dNa D)) cnt
theorem gcK_shift {D : DS} {last : Bool} {f : Nat → List Int32 → Nat → Nat × Option sR_} {pt : Nat} {xs : List Int32} (hf : ∀ pt xs cnt e, f pt xs (cnt + e) = ((f pt xs cnt).1 + e, (f pt xs cnt).2)) : ∀ (as : List Nat) (cnt e : Nat), gcK D last f pt xs as (cnt + e) = ((gcK D last f pt xs as cnt).1 + e, (gcK D last f pt xs as cnt).2)
  | [], cnt, e => rfl
  | a :: as, cnt, e => by
    unfold gcK
    by_cases w : ¬ dFr D a = pt
    · rw [if_pos w, if_pos w]
      exact gcK_shift hf as cnt e
    rw [if_neg w, if_neg w]
    by_cases w2 : lcD D a xs = true
    · rw [if_pos w2, if_pos w2, hf]
      generalize f (dTo D a) (lcX D a xs) cnt = R
      obtain ⟨c', o⟩ := R
      cases o with
      | some r => rfl
      | none => exact gcK_shift hf as c' e
    · rw [if_neg w2, if_neg w2]
      by_cases w3 : last = true
      · rw [if_pos w3, if_pos w3, show cnt + e + 1 = cnt + 1 + e by omega]
        exact gcK_shift hf as (cnt + 1) e
      · rw [if_neg w3, if_neg w3]
        exact gcK_shift hf as cnt e
theorem gcA_shift {D : DS} : ∀ (left pt : Nat) (xs : List Int32) (cnt e : Nat), gcA D left pt xs (cnt + e) = ((gcA D left pt xs cnt).1 + e, (gcA D left pt xs cnt).2)
  | 0, pt, xs, cnt, e => by
    unfold gcA
    cases bkC D pt (gt_ xs) with
    | none => show (cnt + e + 1, none) = (cnt + 1 + e, none); rw [show cnt + e + 1 = cnt + 1 + e by omega]
    | some c => show (cnt + e + 1, some ([], pt, xs, c)) = (cnt + 1 + e, some ([], pt, xs, c)); rw [show cnt + e + 1 = cnt + 1 + e by omega]
  | left + 1, pt, xs, cnt, e => gcK_shift (gcA_shift left) _ cnt e
theorem ten_pos : ∀ n : Nat, 1 ≤ 10 ^ n
  | 0 => Nat.le_refl 1
  | n + 1 => by
    rw [Nat.pow_succ]
    have := ten_pos n
    omega
theorem gcK_bd {D : DS} {last : Bool} {f : Nat → List Int32 → Nat → Nat × Option sR_} {pt K : Nat} {xs : List Int32} (hK : 1 ≤ K) (hf : ∀ pt xs cnt, cnt ≤ (f pt xs cnt).1 ∧ (f pt xs cnt).1 ≤ cnt + K) : ∀ (as : List Nat) (cnt : Nat), cnt ≤ (gcK D last f pt xs as cnt).1 ∧ (gcK D last f pt xs as cnt).1 ≤ cnt + as.length * K
  | [], cnt => ⟨Nat.le_refl _, by show cnt ≤ _; omega⟩
  | a :: as, cnt => by
    have hm : (a :: as).length * K = as.length * K + K := by rw [List.length_cons, Nat.succ_mul]
    rw [hm]
    unfold gcK
    by_cases w : ¬ dFr D a = pt
    · rw [if_pos w]
      have := gcK_bd (D := D) (last := last) (pt := pt) (xs := xs) hK hf as cnt
      omega
    rw [if_neg w]
    by_cases w2 : lcD D a xs = true
    · rw [if_pos w2]
      have h1 := hf (dTo D a) (lcX D a xs) cnt
      generalize f (dTo D a) (lcX D a xs) cnt = R at h1
      obtain ⟨c', o⟩ := R
      dsimp only at h1
      cases o with
      | some r => show cnt ≤ c' ∧ c' ≤ _; omega
      | none =>
        have := gcK_bd (D := D) (last := last) (pt := pt) (xs := xs) hK hf as c'
        show cnt ≤ (gcK D last f pt xs as c').1 ∧ (gcK D last f pt xs as c').1 ≤ _
        omega
    · rw [if_neg w2]
      by_cases w3 : last = true
      · rw [if_pos w3]
        have := gcK_bd (D := D) (last := last) (pt := pt) (xs := xs) hK hf as (cnt + 1)
        omega
      · rw [if_neg w3]
        have := gcK_bd (D := D) (last := last) (pt := pt) (xs := xs) hK hf as cnt
        omega
theorem gcA_bd {D : DS} (hn : dNa D ≤ 10) : ∀ (left pt : Nat) (xs : List Int32) (cnt : Nat), cnt ≤ (gcA D left pt xs cnt).1 ∧ (gcA D left pt xs cnt).1 ≤ cnt + 10 ^ left
  | 0, pt, xs, cnt => by
    unfold gcA
    cases bkC D pt (gt_ xs) with
    | none => exact ⟨by show cnt ≤ cnt + 1; omega, by show cnt + 1 ≤ cnt + 10 ^ 0; omega⟩
    | some c => exact ⟨by show cnt ≤ cnt + 1; omega, by show cnt + 1 ≤ cnt + 10 ^ 0; omega⟩
  | left + 1, pt, xs, cnt => by
    have h := gcK_bd (D := D) (last := decide (left = 0)) (pt := pt) (xs := xs) (K := 10 ^ left) (ten_pos left) (gcA_bd hn left) (List.range' 0 (dNa D)) cnt
    rw [List.length_range'] at h
    have h2 : dNa D * 10 ^ left ≤ 10 ^ (left + 1) := by
      rw [Nat.pow_succ, Nat.mul_comm (10 ^ left) 10]
      exact Nat.mul_le_mul_right _ hn
    show cnt ≤ (gcK D (decide (left = 0)) (gcA D left) pt xs (List.range' 0 (dNa D)) cnt).1 ∧ (gcK D (decide (left = 0)) (gcA D left) pt xs (List.range' 0 (dNa D)) cnt).1 ≤ _
    omega
def inR (xs : List Int32) : Prop := ∀ x, x ∈ xs → wiB x (nI 30) = true
theorem wiB_dg {x : Int32} (h : wiB x (nI 30) = true) : ∃ j, j ≤ 60 ∧ x + nI 30 = nI j ∧ x = nI j - nI 30 := by
  unfold wiB at h
  obtain ⟨h1, h2⟩ := Bool.and_eq_true_iff.mp h
  have h1 := of_decide_eq_true h1
  have h2 := of_decide_eq_true h2
  have a1 : -30 ≤ x.toInt := by
    rcases Int.lt_or_le x.toInt (-30) with q | q
    · exact absurd (Int32.lt_iff_toInt_lt.mpr (show x.toInt < (-nI 30).toInt from q)) h1
    · exact q
  have a2 : x.toInt ≤ 30 := by
    rcases Int.lt_or_le 30 x.toInt with q | q
    · exact absurd (Int32.lt_iff_toInt_lt.mpr (show (nI 30).toInt < x.toInt from q)) h2
    · exact q
  refine ⟨(x.toInt + 30).toNat, by omega, ?_, ?_⟩
  · apply Int32.toInt_inj.mp
    rw [Int32.toInt_add, nI_toInt (by omega), nI_toInt (by omega), Int.bmod_eq_of_le (by omega) (by omega)]
    omega
  · apply Int32.toInt_inj.mp
    rw [Int32.toInt_sub, nI_toInt (by omega), nI_toInt (by omega), Int.bmod_eq_of_le (by omega) (by omega)]
    omega
def kyX (D : DS) (pt left : Nat) (xs : List Int32) : Int32 := keO (dK D pt) pt left (gt_ xs)
theorem keF_cg {k : Nat} {x y : Nat → Int32} (h : ∀ u, u < k → y u = x u) : ∀ m v z, keF k y m v z = keF k x m v z
  | 0, _, _ => rfl
  | m + 1, v, z => by
    unfold keF
    rw [keF_cg h m]
    by_cases w : v < k
    · rw [if_pos w, if_pos w, h v w]
    · rw [if_neg w, if_neg w]
/-- a key's digits -/
theorem kyX_dg {D : DS} {pt left : Nat} {xs : List Int32} (hl : xs.length = dK D pt) (hk : dK D pt ≤ 4) (hx : inR xs) : ∃ j0 j1 j2 j3, (j0 ≤ 60 ∧ j1 ≤ 60 ∧ j2 ≤ 60 ∧ j3 ≤ 60) ∧ kyX D pt left xs = nI ((((((pt * 6 + left) * 61 + j0) * 61 + j1) * 61 + j2) * 61) + j3) ∧ (∀ u, u < dK D pt → gt_ xs u = nI (if u = 0 then j0 else if u = 1 then j1 else if u = 2 then j2 else j3) - nI 30) := by
  have hd : ∀ v, ∃ j, j ≤ 60 ∧ (if v < dK D pt then gt_ xs v + nI 30 else nI 0) = nI j ∧ (v < dK D pt → gt_ xs v = nI j - nI 30) := by
    intro v
    by_cases w : v < dK D pt
    · have hm : gt_ xs v ∈ xs := by
        unfold gt_
        rw [List.getD_eq_getElem?_getD, List.getElem?_eq_getElem (by omega)]
        exact List.getElem_mem _
      obtain ⟨j, h1, h2, h3⟩ := wiB_dg (hx _ hm)
      exact ⟨j, h1, by rw [if_pos w]; exact h2, fun _ => h3⟩
    · exact ⟨0, by omega, by rw [if_neg w], fun q => absurd q w⟩
  obtain ⟨j0, a0, b0, c0⟩ := hd 0
  obtain ⟨j1, a1, b1, c1⟩ := hd 1
  obtain ⟨j2, a2, b2, c2⟩ := hd 2
  obtain ⟨j3, a3, b3, c3⟩ := hd 3
  refine ⟨j0, j1, j2, j3, ⟨a0, a1, a2, a3⟩, ?_, fun u hu => ?_⟩
  · show keF (dK D pt) (gt_ xs) 4 0 (nI pt * nI 6 + nI left) = _
    unfold keF keF keF keF keF
    rw [b0, b1, b2, b3]
    simp only [pk_mul, nI_add]
  · rcases (show u = 0 ∨ u = 1 ∨ u = 2 ∨ u = 3 by omega) with rfl | rfl | rfl | rfl
    · exact c0 hu
    · exact c1 hu
    · exact c2 hu
    · exact c3 hu
theorem kyX_inj {D : DS} {pt left pt' left' : Nat} {xs xs' : List Int32} (hp : pt < 6) (hp' : pt' < 6) (h1 : left ≤ 5) (h1' : left' ≤ 5) (hl : xs.length = dK D pt) (hk : dK D pt ≤ 4) (hx : inR xs) (hl' : xs'.length = dK D pt') (hk' : dK D pt' ≤ 4) (hx' : inR xs') (he : kyX D pt left xs = kyX D pt' left' xs') : pt = pt' ∧ left = left' ∧ xs = xs' := by
  obtain ⟨j0, j1, j2, j3, ⟨a0, a1, a2, a3⟩, b, c⟩ := kyX_dg (left := left) hl hk hx
  obtain ⟨i0, i1, i2, i3, ⟨e0, e1, e2, e3⟩, f, g⟩ := kyX_dg (left := left') hl' hk' hx'
  rw [b, f] at he
  have he := (nI_eq (by omega) (by omega)).mp he
  have hpt : pt = pt' := by omega
  subst hpt
  refine ⟨rfl, by omega, ?_⟩
  have d0 : j0 = i0 := by omega
  have d1 : j1 = i1 := by omega
  have d2 : j2 = i2 := by omega
  have d3 : j3 = i3 := by omega
  subst d0 d1 d2 d3
  refine List.ext_getElem (by omega) (fun u h1 h2 => ?_)
  have q1 := c u (by omega)
  have q2 := g u (by omega)
  have q3 : gt_ xs u = gt_ xs' u := q1.trans q2.symm
  unfold gt_ at q3
  rw [List.getD_eq_getElem?_getD, List.getD_eq_getElem?_getD, List.getElem?_eq_getElem h1, List.getElem?_eq_getElem h2] at q3
  exact q3
theorem kyX_ne {D : DS} {pt left : Nat} {xs : List Int32} (hp : pt < 6) (h1 : left ≤ 5) (hl : xs.length = dK D pt) (hk : dK D pt ≤ 4) (hx : inR xs) : ¬ kyX D pt left xs = -1 := by
  obtain ⟨j0, j1, j2, j3, ⟨a0, a1, a2, a3⟩, b, c⟩ := kyX_dg (left := left) hl hk hx
  rw [b]
  intro q
  exact absurd (show nI ((((((pt * 6 + left) * 61 + j0) * 61 + j1) * 61 + j2) * 61) + j3) < 0 by rw [q]; decide) (nI_pos (by omega))
def CP (D : DS) (A : Nat → Nat → Int32) : Prop := ∀ s, s < 1024 → A 8 s = -1 ∨ ∃ left pt xs c, left ≤ 5 ∧ pt < dNp D ∧ xs.length = dK D pt ∧ inR xs ∧ A 8 s = kyX D pt left xs ∧ A 9 s = nI c ∧ c < 2 ^ 30 ∧ gcA D left pt xs 0 = (c, none)
def KA (depth : Nat) (A A' : Nat → Nat → Int32) : Prop := A' 4 = A 4 ∧ A' 17 = A 17 ∧ (∀ p, p < 6 → A' (11 + p) = A (11 + p)) ∧ A' 27 = A 27 ∧ A' 28 = A 28 ∧ A' 32 = A 32 ∧ (∀ j, j ≤ depth → A' 25 j = A 25 j ∧ A' (19 + j) = A (19 + j)) ∧ ∀ j, j < depth → A' 26 j = A 26 j
theorem KA.rf {depth : Nat} {A : Nat → Nat → Int32} : KA depth A A := ⟨rfl, rfl, fun _ _ => rfl, rfl, rfl, rfl, fun _ _ => ⟨rfl, rfl⟩, fun _ _ => rfl⟩
theorem KA.tr {depth : Nat} {A A1 A2 : Nat → Nat → Int32} (h : KA depth A A1) (h' : KA depth A1 A2) : KA depth A A2 := by
  obtain ⟨a1, a2, a3, a4, a5, a6, a7, a8⟩ := h
  obtain ⟨b1, b2, b3, b4, b5, b6, b7, b8⟩ := h'
  exact ⟨b1.trans a1, b2.trans a2, fun p hp => (b3 p hp).trans (a3 p hp), b4.trans a4, b5.trans a5, b6.trans a6, fun j hj => ⟨(b7 j hj).1.trans (a7 j hj).1, (b7 j hj).2.trans (a7 j hj).2⟩, fun j hj => (b8 j hj).trans (a8 j hj)⟩
theorem KA.mo {depth depth' : Nat} {A A' : Nat → Nat → Int32} (h : KA depth A A') (hd : depth' ≤ depth) : KA depth' A A' := by
  obtain ⟨a1, a2, a3, a4, a5, a6, a7, a8⟩ := h
  exact ⟨a1, a2, a3, a4, a5, a6, fun j hj => a7 j (by omega), fun j hj => a8 j (by omega)⟩
theorem TC.ka {D : DS} {depth : Nat} {A A' : Nat → Nat → Int32} (hn : dNp D ≤ 6) (h : TC D A) (hk : KA depth A A') : TC D A' := by
  intro p hp
  rw [hk.2.1, hk.2.2.1 p (by omega)]
  exact h p hp
def FC (D : DS) (row : List Nat) (r : sR_) (I' : Nat → Int32) (A' : Nat → Nat → Int32) : Prop := I' 5 = nI r.2.1 ∧ I' 6 = nI r.2.2.2 ∧ I' 7 = nI row.length ∧ I' 8 = nI (dK D r.2.1) ∧ stL (A' 27) (dK D r.2.1) = r.2.2.1 ∧ r.2.1 < dNp D ∧ r.2.2.2 < 1000 ∧ row.length ≤ 5 ∧ ∀ k, k < row.length → A' 28 k = nI (row.getD k 0)
def gtP (sz b : Nat) (I : Nat → Int32) (A : Nat → Nat → Int32) (B : Nat → Int64) (D : DS) (g : Nat → Option aE) (depth : Nat) (pref : List Nat) (R : Nat × Option sR_) (rv : Option Value) (h' : aH) : Prop := ∃ I' A', h' = (sz, ch b I' A' B D g) ∧ match R with
  | (c', none) => rv = some (.int (b2 false)) ∧ I' 4 = nI c' ∧ (∀ o, o ≠ 4 → I' o = I o) ∧ KA depth A A' ∧ CP D A'
  | (c', some r) => rv = some (.int (b2 true)) ∧ I' 4 = nI c' ∧ I' 0 = I 0 ∧ I' 3 = I 3 ∧ FC D (pref ++ r.1) r I' A' ∧ A' 4 = A 4 ∧ A' 32 = A 32
section S1
variable {l : Launch} {d lo sz b p a : Nat} {g : Nat → Option aE} {D : DS} {I : Nat → Int32} {A : Nat → Nat → Int32} {B : Nat → Int64} {h : aH}
theorem bkN_cg {V : Nat → VS} {x y : Nat → Int32} {k s i j : Nat} (h : ∀ u, u < k → y u = x u) (hi : i < k) (hj : j < k) : bkN V y s i j = bkN V x s i j := by
  unfold bkN
  rw [h i hi, h j hj]
theorem find_cg {P Q : Nat → Bool} : ∀ cs : List Nat, (∀ c, c ∈ cs → P c = Q c) → cs.find? P = cs.find? Q
  | [], _ => rfl
  | c :: cs, h => by
    rw [List.find?_cons, List.find?_cons, h c List.mem_cons_self, find_cg cs (fun c hc => h c (List.mem_cons_of_mem _ hc))]
theorem cls_mem {pt s c : Nat} {tA : Bool} (hk : dK D pt ≤ 4) (h : c ∈ cls D pt s tA) : c / 100 < 10 ∧ c / 10 % 10 < dK D pt ∧ c % 10 < dK D pt ∧ okC (dF D pt s).1 (dF D pt s).2.2 tA (c / 100, c / 10 % 10, c % 10) = true := (lsF_mem hk h).2
theorem bkC_cg {pt : Nat} {x y : Nat → Int32} (hk : dK D pt ≤ 4) (h : ∀ u, u < dK D pt → y u = x u) : bkC D pt y = bkC D pt x :=
  find_cg _ (fun c hc => bkN_cg h (cls_mem hk hc).2.1 (cls_mem hk hc).2.2.1)
theorem lcX_in {xs : List Int32} (h : lcD D a xs = true) : inR (lcX D a xs) ∧ (lcX D a xs).length = dK D (dTo D a) := by
  refine ⟨fun x hx => ?_, by unfold lcX stL; rw [List.length_map, List.length_range]⟩
  unfold lcX stL at hx
  obtain ⟨v, hv, rfl⟩ := List.mem_map.mp hx
  unfold lcD lcG at h
  rw [List.all_eq_true] at h
  exact h v (List.mem_range'_1.mpr ⟨Nat.zero_le _, by have := List.mem_range.mp hv; omega⟩)
theorem gset_chs {f : Nat → Int32} {p : Nat} (hp : p < 6) : gset (ch b I A B D g) (b + 19 + p) (iA 4 f) = ch b I (upR A (19 + p) f) B D g := congrArg Prod.snd (ch_ss (sz := 0) (b := b) (I := I) (A := A) (B := B) (D := D) (g := g) (f := f) hp)
theorem tX5_goThrough (hW : DW lo sz g D) (hK : PK D) (hb : b + 33 ≤ lo) : ∀ (left d depth : Nat) (I : Nat → Int32) (A : Nat → Nat → Int32) (pt cnt : Nat) (xs : List Int32) (pref : List Nat), left + depth ≤ 5 → left + 4 ≤ d → pt < dNp D → A 25 depth = nI pt → stL (A (19 + depth)) (dK D pt) = xs → inR xs → pref.length = depth → (∀ j, j < depth → A 26 j = nI (pref.getD j 0)) → I 4 = nI cnt → cnt + 10 ^ left < 2 ^ 30 → TC D A → CP D A → mt l mX5_goThrough d 0 0 [.ref (b + 6), .int (nI depth), .int (nI left)] (sz, ch b I A B D g) (gtP sz b I A B D g depth pref (gcA D left pt xs cnt)) := by
  have h6 := hW.np
  have h10 := hW.na
  intro left
  induction left with
  | zero =>
    intro d depth I A pt cnt xs pref hld hd hpt hat hxs hin hpl hpr h4 hcn hT hC
    have hk4 := hW.k4 hpt
    have hxu : ∀ u, u < dK D pt → A (19 + depth) u = gt_ xs u := fun u hu => by rw [← hxs, gt_stL hu]
    refine mt_in (lv := [_, _, _, _, _, _, _, _]) (by decide) (Nat.le_of_ble_eq_true rfl) rfl ?_
    refine wp_iload_n (i := 2) (q := 1) dX5_goThrough_0 rfl rfl rfl ?_
    refine wp_if_le (t := 9) (q := 4) dX5_goThrough_1 (by decide) rfl (fun h0 => ?_) (fun h0 => ?_)
    · refine wp_aload_n (i := 0) (q := 10) dX5_goThrough_9 rfl rfl rfl ?_
      refine wp_dup (q := 11) dX5_goThrough_10 rfl rfl ?_
      refine wg5_7 (q := 14) dX5_goThrough_11 ffX5_68 (by first | exact ch_obj | exact ch_pas | exact ch_8 | exact ch_9 | exact ch_17 | exact ch_25 | exact ch_26 | exact ch_tcs | exact ch_sts | exact ch_t (by omega) | exact ch_s (by omega) | exact ch_prg | exact ch_pts | exact ch_acs | exact ch_4 | exact ch_pul | exact ch_sea | exact ch_27 | exact ch_28 | exact ch_29 | exact ch_30 | exact ch_31 | exact ch_32 | assumption | exact ch_aob hW hb (by assumption)) rfl ?_ -- rows
      refine wp_iconst (v := nI 1) (q := 15) dX5_goThrough_14 (by decide) rfl ?_
      refine wp_iadd (q := 16) dX5_goThrough_15 rfl ?_
      rw [h4, nI_add]
      refine wt5_7 (q := 19) dX5_goThrough_16 ffX5_68 (by first | exact ch_obj | exact ch_pas | exact ch_8 | exact ch_9 | exact ch_17 | exact ch_25 | exact ch_26 | exact ch_tcs | exact ch_sts | exact ch_t (by omega) | exact ch_s (by omega) | exact ch_prg | exact ch_pts | exact ch_acs | exact ch_4 | exact ch_pul | exact ch_sea | exact ch_27 | exact ch_28 | exact ch_29 | exact ch_30 | exact ch_31 | exact ch_32 | assumption | exact ch_aob hW hb (by assumption)) (by first | exact ch_s8 | exact ch_s9 | exact ch_s17 | exact ch_s25 | exact ch_s26 | exact ch_sI4 | exact ch_sI5 | exact ch_sI6 | exact ch_sI7 | exact ch_sI8) rfl ?_ -- rows
      refine wp_aload_n (i := 0) (q := 20) dX5_goThrough_19 rfl rfl rfl ?_
      refine wp_iload_n (i := 1) (q := 21) dX5_goThrough_20 rfl rfl rfl ?_
      refine wp_V (μ' := mX5_breaksAt) (ci := 5) (q := 24) (tX5_breaksAt (d := d - 1) (by omega) hW hK hb (by omega) hpt hat hT) dX5_goThrough_21 okX5_breaksAt lkX5_85 (by first | exact ch_obj | exact ch_pas | exact ch_8 | exact ch_9 | exact ch_17 | exact ch_25 | exact ch_26 | exact ch_tcs | exact ch_sts | exact ch_t (by omega) | exact ch_s (by omega) | exact ch_prg | exact ch_pts | exact ch_acs | exact ch_4 | exact ch_pul | exact ch_sea | exact ch_27 | exact ch_28 | exact ch_29 | exact ch_30 | exact ch_31 | exact ch_32 | assumption | exact ch_aob hW hb (by assumption)) rfl rfl rfl (Nat.le_of_ble_eq_true rfl) (by omega) rfl (fun rv hx hq => ?_)
      rw [bkC_cg hk4 hxu] at hq
      rcases hq with ⟨q1, rfl, rfl⟩ | ⟨c, q1, q2, rfl, rfl⟩
      · show wp _ _ _ _ _ _ _ _ _ _ [.int (b2 false)]
        refine wp_zret dX5_goThrough_24 rfl (by first | exact Or.inl rfl | exact Or.inr rfl | exact b2_01 _ | assumption) ?_
        refine ⟨_, _, rfl, ?_⟩
        rw [show gcA D 0 pt xs cnt = (cnt + 1, none) by unfold gcA; rw [q1]]
        exact ⟨rfl, pk_us, fun o ho => pk_un ho, KA.rf, hC⟩
      · show wp _ _ _ _ _ _ _ _ _ _ [.int (b2 true)]
        refine wp_zret dX5_goThrough_24 rfl (by first | exact Or.inl rfl | exact Or.inr rfl | exact b2_01 _ | assumption) ?_
        refine ⟨_, _, rfl, ?_⟩
        rw [show gcA D 0 pt xs cnt = (cnt + 1, some ([], pt, xs, c)) by unfold gcA; rw [q1]]
        refine ⟨rfl, ?_, ?_, ?_, ⟨?_, ?_, ?_, ?_, ?_, hpt, q2, ?_, ?_⟩, ?_, ?_⟩
        · rw [pk_un (by decide), pk_un (by decide), pk_un (by decide), pk_un (by decide), pk_us]
        · rw [pk_un (by decide), pk_un (by decide), pk_un (by decide), pk_un (by decide), pk_un (by decide)]
        · rw [pk_un (by decide), pk_un (by decide), pk_un (by decide), pk_un (by decide), pk_un (by decide)]
        · rw [pk_un (by decide), pk_un (by decide), pk_un (by decide), pk_us]
        · rw [pk_un (by decide), pk_un (by decide), pk_us]
        · rw [pk_un (by decide), pk_us, List.append_nil, hpl]
        · rw [pk_us]
        · rw [upR_ne (by decide), upR_at]
          show _ = xs
          rw [← hxs]
          exact stL_congr (fun u hu => if_pos (by have : u < dK D pt := hu; omega))
        · rw [List.append_nil]; omega
        · intro k hk
          rw [List.append_nil] at hk ⊢
          rw [upR_at, if_pos (by omega)]
          exact hpr k (by omega)
        · rw [upR_ne (by decide), upR_ne (by decide)]
        · rw [upR_ne (by decide), upR_ne (by decide)]
    · exact absurd (by decide) h0
  | succ left ih =>
    intro d depth I A pt cnt xs pref hld hd hpt hat hxs hin hpl hpr h4 hcn hT hC
    have hk4 := hW.k4 hpt
    have hxu : ∀ u, u < dK D pt → A (19 + depth) u = gt_ xs u := fun u hu => by rw [← hxs, gt_stL hu]
    have hxl : xs.length = dK D pt := by rw [← hxs]; unfold stL; rw [List.length_map, List.length_range]
    have hkey : keO (dK D pt) pt (left + 1) (A (19 + depth)) = kyX D pt (left + 1) xs := keF_cg hxu 4 0 _
    have hbd := gcA_bd h10 (left + 1) pt xs cnt
    have hsl := slO_lt (k := kyX D pt (left + 1) xs)
    refine mt_in (lv := [_, _, _, _, _, _, _, _]) (by decide) (Nat.le_of_ble_eq_true rfl) rfl ?_
    refine wp_iload_n (i := 2) (q := 1) dX5_goThrough_0 rfl rfl rfl ?_
    refine wp_if_le (t := 9) (q := 4) dX5_goThrough_1 (by decide) rfl (fun h0 => ?_) (fun h0 => ?_)
    · exact absurd ((nI_leI (a := left + 1) (b := 0) (by omega) (by omega)).mp h0) (by omega)
    refine wp_iload_n (i := 1) (q := 5) dX5_goThrough_4 rfl rfl rfl ?_
    refine wp_iconst (v := nI 5) (q := 6) dX5_goThrough_5 (by decide) rfl ?_
    refine wp_icmp_lt (t := 25) (q := 9) dX5_goThrough_6 (by decide) rfl (fun h5 => ?_) (fun h5 => ?_)
    case _ =>
      refine wp_aload_n (i := 0) (q := 26) dX5_goThrough_25 rfl rfl rfl ?_
      refine wp_iload_n (i := 1) (q := 27) dX5_goThrough_26 rfl rfl rfl ?_
      refine wp_iload_n (i := 2) (q := 28) dX5_goThrough_27 rfl rfl rfl ?_
      refine wp_Vi (μ' := mX5_keyOf) (ci := 5) (q := 31) (tX5_keyOf (d := d - 1) (by omega) hW hb (by omega) hpt hat) dX5_goThrough_28 okX5_keyOf lkX5_89 (by first | exact ch_obj | exact ch_pas | exact ch_8 | exact ch_9 | exact ch_17 | exact ch_25 | exact ch_26 | exact ch_tcs | exact ch_sts | exact ch_t (by omega) | exact ch_s (by omega) | exact ch_prg | exact ch_pts | exact ch_acs | exact ch_4 | exact ch_pul | exact ch_sea | exact ch_27 | exact ch_28 | exact ch_29 | exact ch_30 | exact ch_31 | exact ch_32 | assumption | exact ch_aob hW hb (by assumption)) rfl rfl rfl (Nat.le_of_ble_eq_true rfl) (by omega) rfl ?_
      rw [hkey]
      refine wp_istore_n (i := 3) (lv' := [_, _, some _, _, _, _, _, _]) (q := 32) dX5_goThrough_31 rfl (by decide) rfl rfl ?_
      refine wp_aload_n (i := 0) (q := 33) dX5_goThrough_32 rfl rfl rfl ?_
      refine wg5_1 (q := 36) dX5_goThrough_33 ffX5_18 (by first | exact ch_obj | exact ch_pas | exact ch_8 | exact ch_9 | exact ch_17 | exact ch_25 | exact ch_26 | exact ch_tcs | exact ch_sts | exact ch_t (by omega) | exact ch_s (by omega) | exact ch_prg | exact ch_pts | exact ch_acs | exact ch_4 | exact ch_pul | exact ch_sea | exact ch_27 | exact ch_28 | exact ch_29 | exact ch_30 | exact ch_31 | exact ch_32 | assumption | exact ch_aob hW hb (by assumption)) rfl ?_ -- passed
      refine wp_iload_n (i := 3) (q := 37) dX5_goThrough_36 rfl rfl rfl ?_
      refine wp_Vi (μ' := mX2_rowsOf) (ci := 2) (q := 40) (tX2_rowsOf (d := d - 1) (by omega)) dX5_goThrough_37 okX2_rowsOf lkX5_93 (by first | exact ch_obj | exact ch_pas | exact ch_8 | exact ch_9 | exact ch_17 | exact ch_25 | exact ch_26 | exact ch_tcs | exact ch_sts | exact ch_t (by omega) | exact ch_s (by omega) | exact ch_prg | exact ch_pts | exact ch_acs | exact ch_4 | exact ch_pul | exact ch_sea | exact ch_27 | exact ch_28 | exact ch_29 | exact ch_30 | exact ch_31 | exact ch_32 | assumption | exact ch_aob hW hb (by assumption)) rfl rfl rfl (Nat.le_of_ble_eq_true rfl) (by omega) rfl ?_
      have K60 : ∀ kn : Int32, kn < 0 → wp l mX5_goThrough [] d 0 0 (gtP sz b I A B D g depth pref (gcA D (left + 1) pt xs cnt)) (sz, ch b I A B D g) 60 [some (.ref (b + 6)), some (.int (nI depth)), some (.int (nI (left + 1))), some (.int (kyX D pt (left + 1) xs)), some (.int kn), none, none, none] [] := by
        intro kn hkn
        refine wp_aload_n (i := 0) (q := 61) dX5_goThrough_60 rfl rfl rfl ?_
        refine wg5_7 (q := 64) dX5_goThrough_61 ffX5_68 (by first | exact ch_obj | exact ch_pas | exact ch_8 | exact ch_9 | exact ch_17 | exact ch_25 | exact ch_26 | exact ch_tcs | exact ch_sts | exact ch_t (by omega) | exact ch_s (by omega) | exact ch_prg | exact ch_pts | exact ch_acs | exact ch_4 | exact ch_pul | exact ch_sea | exact ch_27 | exact ch_28 | exact ch_29 | exact ch_30 | exact ch_31 | exact ch_32 | assumption | exact ch_aob hW hb (by assumption)) rfl ?_ -- rows
        refine wp_istore (lv' := [_, _, _, _, some _, _, _, _]) (q := 66) dX5_goThrough_64 (by decide) rfl rfl ?_
        refine wp_iconst (v := nI 0) (q := 67) dX5_goThrough_66 (by decide) rfl ?_
        refine wp_istore (lv' := [_, _, _, _, _, some _, _, _]) (q := 69) dX5_goThrough_67 (by decide) rfl rfl ?_
        rw [h4]
        have P : ∀ m a (I1 : Nat → Int32) (A1 : Nat → Nat → Int32) (cnt1 : Nat) (y7 : Option Value), a + m = dNa D → I1 4 = nI cnt1 → (∀ o, o ≠ 4 → I1 o = I o) → KA depth A A1 → CP D A1 → gcK D (decide (left = 0)) (gcA D left) pt xs (List.range' a (dNa D - a)) cnt1 = gcA D (left + 1) pt xs cnt → cnt ≤ cnt1 → cnt1 ≤ cnt + a * 10 ^ left → wp l mX5_goThrough [] d 0 0 (gtP sz b I A B D g depth pref (gcA D (left + 1) pt xs cnt)) (sz, ch b I1 A1 B D g) 69 [some (.ref (b + 6)), some (.int (nI depth)), some (.int (nI (left + 1))), some (.int (kyX D pt (left + 1) xs)), some (.int kn), some (.int (nI cnt)), some (.int (nI a)), y7] [] := by
          intro m
          induction m with
          | zero =>
            intro a I1 A1 cnt1 y7 ha hI hIo hKA hCP he hle hub
            rw [show dNa D - a = 0 by omega, show List.range' a 0 = [] from rfl, show gcK D (decide (left = 0)) (gcA D left) pt xs [] cnt1 = (cnt1, none) from rfl] at he
            have hb2 : cnt1 ≤ cnt + 10 ^ (left + 1) := by rw [← he] at hbd; exact hbd.2
            refine wp_iload (q := 71) dX5_goThrough_69 rfl rfl ?_
            refine wp_aload_n (i := 0) (q := 72) dX5_goThrough_71 rfl rfl rfl ?_
            refine wg5_0 (q := 75) dX5_goThrough_72 ffX5_9 (by first | exact ch_obj | exact ch_pas | exact ch_8 | exact ch_9 | exact ch_17 | exact ch_25 | exact ch_26 | exact ch_tcs | exact ch_sts | exact ch_t (by omega) | exact ch_s (by omega) | exact ch_prg | exact ch_pts | exact ch_acs | exact ch_4 | exact ch_pul | exact ch_sea | exact ch_27 | exact ch_28 | exact ch_29 | exact ch_30 | exact ch_31 | exact ch_32 | assumption | exact ch_aob hW hb (by assumption)) rfl ?_ -- program
            refine wg4_5 (q := 78) dX5_goThrough_75 ffX5_97 (by first | exact ch_obj | exact ch_pas | exact ch_8 | exact ch_9 | exact ch_17 | exact ch_25 | exact ch_26 | exact ch_tcs | exact ch_sts | exact ch_t (by omega) | exact ch_s (by omega) | exact ch_prg | exact ch_pts | exact ch_acs | exact ch_4 | exact ch_pul | exact ch_sea | exact ch_27 | exact ch_28 | exact ch_29 | exact ch_30 | exact ch_31 | exact ch_32 | assumption | exact ch_aob hW hb (by assumption)) rfl ?_ -- actCount
            refine wp_icmp_ge (t := 200) (q := 81) dX5_goThrough_78 (by decide) rfl (fun hc => ?_) (fun hc => ?_)
            · refine wp_aload_n (i := 0) (q := 201) dX5_goThrough_200 rfl rfl rfl ?_
              refine wg5_1 (q := 204) dX5_goThrough_201 ffX5_18 (by first | exact ch_obj | exact ch_pas | exact ch_8 | exact ch_9 | exact ch_17 | exact ch_25 | exact ch_26 | exact ch_tcs | exact ch_sts | exact ch_t (by omega) | exact ch_s (by omega) | exact ch_prg | exact ch_pts | exact ch_acs | exact ch_4 | exact ch_pul | exact ch_sea | exact ch_27 | exact ch_28 | exact ch_29 | exact ch_30 | exact ch_31 | exact ch_32 | assumption | exact ch_aob hW hb (by assumption)) rfl ?_ -- passed
              refine wp_iload_n (i := 3) (q := 205) dX5_goThrough_204 rfl rfl rfl ?_
              refine wp_aload_n (i := 0) (q := 206) dX5_goThrough_205 rfl rfl rfl ?_
              refine wg5_7 (q := 209) dX5_goThrough_206 ffX5_68 (by first | exact ch_obj | exact ch_pas | exact ch_8 | exact ch_9 | exact ch_17 | exact ch_25 | exact ch_26 | exact ch_tcs | exact ch_sts | exact ch_t (by omega) | exact ch_s (by omega) | exact ch_prg | exact ch_pts | exact ch_acs | exact ch_4 | exact ch_pul | exact ch_sea | exact ch_27 | exact ch_28 | exact ch_29 | exact ch_30 | exact ch_31 | exact ch_32 | assumption | exact ch_aob hW hb (by assumption)) rfl ?_ -- rows
              refine wp_iload (q := 211) dX5_goThrough_209 rfl rfl ?_
              refine wp_isub (q := 212) dX5_goThrough_211 rfl ?_
              rw [hI, pk_sub hle]
              refine wp_Vv (μ' := mX2_keep) (ci := 2) (q := 215) (tX2_keep (d := d - 1) (by omega)) dX5_goThrough_212 okX2_keep lkX5_116 (by first | exact ch_obj | exact ch_pas | exact ch_8 | exact ch_9 | exact ch_17 | exact ch_25 | exact ch_26 | exact ch_tcs | exact ch_sts | exact ch_t (by omega) | exact ch_s (by omega) | exact ch_prg | exact ch_pts | exact ch_acs | exact ch_4 | exact ch_pul | exact ch_sea | exact ch_27 | exact ch_28 | exact ch_29 | exact ch_30 | exact ch_31 | exact ch_32 | assumption | exact ch_aob hW hb (by assumption)) rfl rfl rfl (Nat.le_of_ble_eq_true rfl) (by omega) rfl ?_
              refine wp_iconst (v := nI 0) (q := 216) dX5_goThrough_215 (by decide) rfl ?_
              refine wp_zret dX5_goThrough_216 rfl (by first | exact Or.inl rfl | exact Or.inr rfl | exact b2_01 _ | assumption) ?_
              refine ⟨_, _, rfl, ?_⟩
              rw [← he]
              refine ⟨rfl, hI, hIo, hKA.tr ⟨?_, ?_, ?_, ?_, ?_, ?_, ?_, ?_⟩, ?_⟩
              · rw [upR_ne (by decide), upR_ne (by decide)]
              · rw [upR_ne (by decide), upR_ne (by decide)]
              · intro p hp; rw [upR_ne (by omega), upR_ne (by omega)]
              · rw [upR_ne (by decide), upR_ne (by decide)]
              · rw [upR_ne (by decide), upR_ne (by decide)]
              · rw [upR_ne (by decide), upR_ne (by decide)]
              · intro j hj
                exact ⟨by rw [upR_ne (by decide), upR_ne (by decide)], by rw [upR_ne (by omega), upR_ne (by omega)]⟩
              · intro j hj; rw [upR_ne (by decide), upR_ne (by decide)]
              · intro s hs
                rw [upR_at, upR_ne (show (8 : Nat) ≠ 9 by decide), upR_at]
                by_cases w : s = slO (kyX D pt (left + 1) xs)
                · rw [w, pk_us, pk_us]
                  refine Or.inr ⟨left + 1, pt, xs, cnt1 - cnt, by omega, hpt, hxl, hin, rfl, rfl, by omega, ?_⟩
                  have hsh := gcA_shift (D := D) (left + 1) pt xs 0 cnt
                  rw [Nat.zero_add, ← he] at hsh
                  have e1 := congrArg Prod.fst hsh
                  have e2 := congrArg Prod.snd hsh
                  dsimp only at e1 e2
                  refine Prod.ext ?_ e2.symm
                  show (gcA D (left + 1) pt xs 0).1 = cnt1 - cnt
                  omega
                · rw [pk_un w, pk_un w]
                  exact hCP s hs
            · exact absurd ((nI_leI (by omega) (by omega)).mpr (by omega)) hc
          | succ m ihm =>
            intro a I1 A1 cnt1 y7 ha hI hIo hKA hCP he hle hub
            have haN : a < dNa D := by omega
            have hfr := hW.fr haN
            have hto := hW.to haN
            have hao := ch_aob (I := I1) (A := A1) (B := B) hW hb haN
            have hat1 : A1 25 depth = nI pt := (hKA.2.2.2.2.2.2.1 depth (Nat.le_refl _)).1.trans hat
            have hst1 : A1 (19 + depth) = A (19 + depth) := (hKA.2.2.2.2.2.2.1 depth (Nat.le_refl _)).2
            rw [show dNa D - a = (dNa D - (a + 1)) + 1 by omega, List.range'_succ] at he
            have hstep : ∀ cs cnt1, gcK D (decide (left = 0)) (gcA D left) pt xs (a :: cs) cnt1 = if ¬ dFr D a = pt then gcK D (decide (left = 0)) (gcA D left) pt xs cs cnt1 else if lcD D a xs = true then (match gcA D left (dTo D a) (lcX D a xs) cnt1 with | (c', some r) => (c', some (a :: r.1, r.2)) | (c', none) => gcK D (decide (left = 0)) (gcA D left) pt xs cs c') else gcK D (decide (left = 0)) (gcA D left) pt xs cs (if decide (left = 0) = true then cnt1 + 1 else cnt1) := fun _ _ => rfl
            have hsm : (a + 1) * 10 ^ left = a * 10 ^ left + 10 ^ left := Nat.succ_mul a _
            have hsx : (a + 1) * 10 ^ left ≤ 10 * 10 ^ left := Nat.mul_le_mul_right _ (by omega)
            have hpw : 10 ^ (left + 1) = 10 ^ left * 10 := Nat.pow_succ 10 left
            have hT1 := ten_pos left
            have hb2 : cnt1 + 10 ^ left ≤ cnt + 10 ^ (left + 1) := by omega
            rw [hstep] at he
            refine wp_iload (q := 71) dX5_goThrough_69 rfl rfl ?_
            refine wp_aload_n (i := 0) (q := 72) dX5_goThrough_71 rfl rfl rfl ?_
            refine wg5_0 (q := 75) dX5_goThrough_72 ffX5_9 (by first | exact ch_obj | exact ch_pas | exact ch_8 | exact ch_9 | exact ch_17 | exact ch_25 | exact ch_26 | exact ch_tcs | exact ch_sts | exact ch_t (by omega) | exact ch_s (by omega) | exact ch_prg | exact ch_pts | exact ch_acs | exact ch_4 | exact ch_pul | exact ch_sea | exact ch_27 | exact ch_28 | exact ch_29 | exact ch_30 | exact ch_31 | exact ch_32 | assumption | exact ch_aob hW hb (by assumption)) rfl ?_ -- program
            refine wg4_5 (q := 78) dX5_goThrough_75 ffX5_97 (by first | exact ch_obj | exact ch_pas | exact ch_8 | exact ch_9 | exact ch_17 | exact ch_25 | exact ch_26 | exact ch_tcs | exact ch_sts | exact ch_t (by omega) | exact ch_s (by omega) | exact ch_prg | exact ch_pts | exact ch_acs | exact ch_4 | exact ch_pul | exact ch_sea | exact ch_27 | exact ch_28 | exact ch_29 | exact ch_30 | exact ch_31 | exact ch_32 | assumption | exact ch_aob hW hb (by assumption)) rfl ?_ -- actCount
            refine wp_icmp_ge (t := 200) (q := 81) dX5_goThrough_78 (by decide) rfl (fun hc => ?_) (fun hc => ?_)
            · exact absurd ((nI_leI (by omega) (by omega)).mp hc) (by omega)
            refine wp_aload_n (i := 0) (q := 82) dX5_goThrough_81 rfl rfl rfl ?_
            refine wg5_0 (q := 85) dX5_goThrough_82 ffX5_9 (by first | exact ch_obj | exact ch_pas | exact ch_8 | exact ch_9 | exact ch_17 | exact ch_25 | exact ch_26 | exact ch_tcs | exact ch_sts | exact ch_t (by omega) | exact ch_s (by omega) | exact ch_prg | exact ch_pts | exact ch_acs | exact ch_4 | exact ch_pul | exact ch_sea | exact ch_27 | exact ch_28 | exact ch_29 | exact ch_30 | exact ch_31 | exact ch_32 | assumption | exact ch_aob hW hb (by assumption)) rfl ?_ -- program
            refine wp_iload (q := 87) dX5_goThrough_85 rfl rfl ?_
            refine wp_Vr (μ' := mX4_actAt) (ci := 4) (q := 90) (tX4_actAt (d := d - 1) hW haN) dX5_goThrough_87 okX4_actAt lkX5_100 (by first | exact ch_obj | exact ch_pas | exact ch_8 | exact ch_9 | exact ch_17 | exact ch_25 | exact ch_26 | exact ch_tcs | exact ch_sts | exact ch_t (by omega) | exact ch_s (by omega) | exact ch_prg | exact ch_pts | exact ch_acs | exact ch_4 | exact ch_pul | exact ch_sea | exact ch_27 | exact ch_28 | exact ch_29 | exact ch_30 | exact ch_31 | exact ch_32 | assumption | exact ch_aob hW hb (by assumption)) rfl rfl rfl (Nat.le_of_ble_eq_true rfl) (by omega) rfl ?_
            refine wp_astore (lv' := [_, _, _, _, _, _, some _, _]) (q := 92) dX5_goThrough_90 (by decide) rfl rfl ?_
            refine wp_aload (q := 94) dX5_goThrough_92 rfl rfl ?_
            refine wp_ifnull (q := 97) dX5_goThrough_94 rfl ?_
            refine wp_aload (q := 99) dX5_goThrough_97 rfl rfl ?_
            refine wg0_0 (q := 102) dX5_goThrough_99 ffX5_104 (by first | exact ch_obj | exact ch_pas | exact ch_8 | exact ch_9 | exact ch_17 | exact ch_25 | exact ch_26 | exact ch_tcs | exact ch_sts | exact ch_t (by omega) | exact ch_s (by omega) | exact ch_prg | exact ch_pts | exact ch_acs | exact ch_4 | exact ch_pul | exact ch_sea | exact ch_27 | exact ch_28 | exact ch_29 | exact ch_30 | exact ch_31 | exact ch_32 | assumption | exact ch_aob hW hb (by assumption)) rfl ?_ -- from
            refine wp_aload_n (i := 0) (q := 103) dX5_goThrough_102 rfl rfl rfl ?_
            refine wg5_5 (q := 106) dX5_goThrough_103 ffX5_34 (by first | exact ch_obj | exact ch_pas | exact ch_8 | exact ch_9 | exact ch_17 | exact ch_25 | exact ch_26 | exact ch_tcs | exact ch_sts | exact ch_t (by omega) | exact ch_s (by omega) | exact ch_prg | exact ch_pts | exact ch_acs | exact ch_4 | exact ch_pul | exact ch_sea | exact ch_27 | exact ch_28 | exact ch_29 | exact ch_30 | exact ch_31 | exact ch_32 | assumption | exact ch_aob hW hb (by assumption)) rfl ?_ -- at
            refine wp_iload_n (i := 1) (q := 107) dX5_goThrough_106 rfl rfl rfl ?_
            refine wq_iald (q := 108) dX5_goThrough_107 (by first | exact ch_obj | exact ch_pas | exact ch_8 | exact ch_9 | exact ch_17 | exact ch_25 | exact ch_26 | exact ch_tcs | exact ch_sts | exact ch_t (by omega) | exact ch_s (by omega) | exact ch_prg | exact ch_pts | exact ch_acs | exact ch_4 | exact ch_pul | exact ch_sea | exact ch_27 | exact ch_28 | exact ch_29 | exact ch_30 | exact ch_31 | exact ch_32 | assumption | exact ch_aob hW hb (by assumption)) rfl (by first | omega | exact ⟨by omega, by omega⟩) rfl ?_
            rw [hat1]
            refine wp_icmp_eq (t := 114) (q := 111) dX5_goThrough_108 (by decide) rfl (fun hf => ?_) (fun hf => ?_)
            case _ =>
              have hf : dFr D a = pt := (nI_eq (by omega) (by omega)).mp hf
              rw [if_neg (fun q => q hf)] at he
              refine wp_aload_n (i := 0) (q := 115) dX5_goThrough_114 rfl rfl rfl ?_
              refine wg5_6 (q := 118) dX5_goThrough_115 ffX5_37 (by first | exact ch_obj | exact ch_pas | exact ch_8 | exact ch_9 | exact ch_17 | exact ch_25 | exact ch_26 | exact ch_tcs | exact ch_sts | exact ch_t (by omega) | exact ch_s (by omega) | exact ch_prg | exact ch_pts | exact ch_acs | exact ch_4 | exact ch_pul | exact ch_sea | exact ch_27 | exact ch_28 | exact ch_29 | exact ch_30 | exact ch_31 | exact ch_32 | assumption | exact ch_aob hW hb (by assumption)) rfl ?_ -- row
              refine wp_iload_n (i := 1) (q := 119) dX5_goThrough_118 rfl rfl rfl ?_
              refine wp_iload (q := 121) dX5_goThrough_119 rfl rfl ?_
              refine wq_iast (q := 122) dX5_goThrough_121 (by first | exact ch_obj | exact ch_pas | exact ch_8 | exact ch_9 | exact ch_17 | exact ch_25 | exact ch_26 | exact ch_tcs | exact ch_sts | exact ch_t (by omega) | exact ch_s (by omega) | exact ch_prg | exact ch_pts | exact ch_acs | exact ch_4 | exact ch_pul | exact ch_sea | exact ch_27 | exact ch_28 | exact ch_29 | exact ch_30 | exact ch_31 | exact ch_32 | assumption | exact ch_aob hW hb (by assumption)) rfl (by first | omega | exact ⟨by omega, by omega⟩) (by first | exact ch_s8 | exact ch_s9 | exact ch_s17 | exact ch_s25 | exact ch_s26 | exact ch_sI4 | exact ch_sI5 | exact ch_sI6 | exact ch_sI7 | exact ch_sI8) rfl ?_
              refine wp_aload_n (i := 0) (q := 123) dX5_goThrough_122 rfl rfl rfl ?_
              refine wg5_5 (q := 126) dX5_goThrough_123 ffX5_34 (by first | exact ch_obj | exact ch_pas | exact ch_8 | exact ch_9 | exact ch_17 | exact ch_25 | exact ch_26 | exact ch_tcs | exact ch_sts | exact ch_t (by omega) | exact ch_s (by omega) | exact ch_prg | exact ch_pts | exact ch_acs | exact ch_4 | exact ch_pul | exact ch_sea | exact ch_27 | exact ch_28 | exact ch_29 | exact ch_30 | exact ch_31 | exact ch_32 | assumption | exact ch_aob hW hb (by assumption)) rfl ?_ -- at
              refine wp_iload_n (i := 1) (q := 127) dX5_goThrough_126 rfl rfl rfl ?_
              refine wp_iconst (v := nI 1) (q := 128) dX5_goThrough_127 (by decide) rfl ?_
              refine wp_iadd (q := 129) dX5_goThrough_128 rfl ?_
              rw [nI_add]
              refine wp_aload (q := 131) dX5_goThrough_129 rfl rfl ?_
              refine wg0_1 (q := 134) dX5_goThrough_131 ffX5_109 (by first | exact ch_obj | exact ch_pas | exact ch_8 | exact ch_9 | exact ch_17 | exact ch_25 | exact ch_26 | exact ch_tcs | exact ch_sts | exact ch_t (by omega) | exact ch_s (by omega) | exact ch_prg | exact ch_pts | exact ch_acs | exact ch_4 | exact ch_pul | exact ch_sea | exact ch_27 | exact ch_28 | exact ch_29 | exact ch_30 | exact ch_31 | exact ch_32 | assumption | exact ch_aob hW hb (by assumption)) rfl ?_ -- to
              refine wq_iast (q := 135) dX5_goThrough_134 (by first | exact ch_obj | exact ch_pas | exact ch_8 | exact ch_9 | exact ch_17 | exact ch_25 | exact ch_26 | exact ch_tcs | exact ch_sts | exact ch_t (by omega) | exact ch_s (by omega) | exact ch_prg | exact ch_pts | exact ch_acs | exact ch_4 | exact ch_pul | exact ch_sea | exact ch_27 | exact ch_28 | exact ch_29 | exact ch_30 | exact ch_31 | exact ch_32 | assumption | exact ch_aob hW hb (by assumption)) rfl (by first | omega | exact ⟨by omega, by omega⟩) (by first | exact ch_s8 | exact ch_s9 | exact ch_s17 | exact ch_s25 | exact ch_s26 | exact ch_sI4 | exact ch_sI5 | exact ch_sI6 | exact ch_sI7 | exact ch_sI8) rfl ?_
              refine wp_aload (q := 137) dX5_goThrough_135 rfl rfl ?_
              refine wp_aload_n (i := 0) (q := 138) dX5_goThrough_137 rfl rfl rfl ?_
              refine wg5_4 (q := 141) dX5_goThrough_138 ffX5_31 (by first | exact ch_obj | exact ch_pas | exact ch_8 | exact ch_9 | exact ch_17 | exact ch_25 | exact ch_26 | exact ch_tcs | exact ch_sts | exact ch_t (by omega) | exact ch_s (by omega) | exact ch_prg | exact ch_pts | exact ch_acs | exact ch_4 | exact ch_pul | exact ch_sea | exact ch_27 | exact ch_28 | exact ch_29 | exact ch_30 | exact ch_31 | exact ch_32 | assumption | exact ch_aob hW hb (by assumption)) rfl ?_ -- states
              refine wp_iload_n (i := 1) (q := 142) dX5_goThrough_141 rfl rfl rfl ?_
              refine wq_aald (q := 143) dX5_goThrough_142 (by first | exact ch_obj | exact ch_pas | exact ch_8 | exact ch_9 | exact ch_17 | exact ch_25 | exact ch_26 | exact ch_tcs | exact ch_sts | exact ch_t (by omega) | exact ch_s (by omega) | exact ch_prg | exact ch_pts | exact ch_acs | exact ch_4 | exact ch_pul | exact ch_sea | exact ch_27 | exact ch_28 | exact ch_29 | exact ch_30 | exact ch_31 | exact ch_32 | assumption | exact ch_aob hW hb (by assumption)) (by decide) rfl (by first | omega | exact ⟨by omega, by omega⟩) (by exact if_pos (by omega)) rfl ?_
              refine wp_aload_n (i := 0) (q := 144) dX5_goThrough_143 rfl rfl rfl ?_
              refine wg5_4 (q := 147) dX5_goThrough_144 ffX5_31 (by first | exact ch_obj | exact ch_pas | exact ch_8 | exact ch_9 | exact ch_17 | exact ch_25 | exact ch_26 | exact ch_tcs | exact ch_sts | exact ch_t (by omega) | exact ch_s (by omega) | exact ch_prg | exact ch_pts | exact ch_acs | exact ch_4 | exact ch_pul | exact ch_sea | exact ch_27 | exact ch_28 | exact ch_29 | exact ch_30 | exact ch_31 | exact ch_32 | assumption | exact ch_aob hW hb (by assumption)) rfl ?_ -- states
              refine wp_iload_n (i := 1) (q := 148) dX5_goThrough_147 rfl rfl rfl ?_
              refine wp_iconst (v := nI 1) (q := 149) dX5_goThrough_148 (by decide) rfl ?_
              refine wp_iadd (q := 150) dX5_goThrough_149 rfl ?_
              rw [nI_add]
              refine wq_aald (q := 151) dX5_goThrough_150 (by first | exact ch_obj | exact ch_pas | exact ch_8 | exact ch_9 | exact ch_17 | exact ch_25 | exact ch_26 | exact ch_tcs | exact ch_sts | exact ch_t (by omega) | exact ch_s (by omega) | exact ch_prg | exact ch_pts | exact ch_acs | exact ch_4 | exact ch_pul | exact ch_sea | exact ch_27 | exact ch_28 | exact ch_29 | exact ch_30 | exact ch_31 | exact ch_32 | assumption | exact ch_aob hW hb (by assumption)) (by decide) rfl (by first | omega | exact ⟨by omega, by omega⟩) (by exact if_pos (by omega)) rfl ?_
              have hlv : lcG (dM D a) (dK D (dFr D a)) (A (19 + depth)) (dK D (dTo D a)) = lcD D a xs := lcG_cg (fun u hu => hxu u (by rw [hf] at hu; exact hu))
              have hao2 := ch_aob (I := I1) (A := upR (upR A1 26 (upd (A1 26) depth (nI a))) 25 (upd (upR A1 26 (upd (A1 26) depth (nI a)) 25) (depth + 1) (nI (dTo D a)))) (B := B) hW hb haN
              refine wp_V (μ' := mX0_leads) (ci := 0) (q := 154) (tX0_leadsD (d := d - 1) (o2 := 19 + (depth + 1)) (by omega) hW hb haN (ch_s (by omega)) (ch_s (by omega)) (by omega) (by omega) (by omega) (fun f => gset_chs (by omega))) dX5_goThrough_151 okX0_leads lkX5_112 hao2 rfl rfl rfl (Nat.le_of_ble_eq_true rfl) (by omega) rfl (fun rv hx hq => ?_)
              obtain ⟨rfl, f, rfl, hff⟩ := hq
              rw [upR_ne (show 19 + depth ≠ 25 by omega), upR_ne (show 19 + depth ≠ 26 by omega), hst1, hlv] at hff ⊢
              show wp _ _ _ _ _ _ _ _ _ _ [.int (b2 (lcD D a xs))]
              have hA2 : ∀ o, o ≠ 26 → o ≠ 25 → o ≠ 19 + (depth + 1) → upR (upR (upR A1 26 (upd (A1 26) depth (nI a))) 25 (upd (upR A1 26 (upd (A1 26) depth (nI a)) 25) (depth + 1) (nI (dTo D a)))) (19 + (depth + 1)) f o = A1 o := fun o h1 h2 h3 => by rw [upR_ne h3, upR_ne h2, upR_ne h1]
              have hA25 : upR (upR (upR A1 26 (upd (A1 26) depth (nI a))) 25 (upd (upR A1 26 (upd (A1 26) depth (nI a)) 25) (depth + 1) (nI (dTo D a)))) (19 + (depth + 1)) f 25 = upd (A1 25) (depth + 1) (nI (dTo D a)) := by rw [upR_ne (by omega), upR_at, upR_ne (by decide)]
              have hA26 : upR (upR (upR A1 26 (upd (A1 26) depth (nI a))) 25 (upd (upR A1 26 (upd (A1 26) depth (nI a)) 25) (depth + 1) (nI (dTo D a)))) (19 + (depth + 1)) f 26 = upd (A1 26) depth (nI a) := by rw [upR_ne (by omega), upR_ne (by decide), upR_at]
              have hAs : upR (upR (upR A1 26 (upd (A1 26) depth (nI a))) 25 (upd (upR A1 26 (upd (A1 26) depth (nI a)) 25) (depth + 1) (nI (dTo D a)))) (19 + (depth + 1)) f (19 + (depth + 1)) = f := upR_at
              generalize upR (upR (upR A1 26 (upd (A1 26) depth (nI a))) 25 (upd (upR A1 26 (upd (A1 26) depth (nI a)) 25) (depth + 1) (nI (dTo D a)))) (19 + (depth + 1)) f = A2 at hA2 hA25 hA26 hAs
              have hKA2 : KA depth A1 A2 := by
                refine ⟨hA2 4 (by decide) (by decide) (by omega), hA2 17 (by decide) (by decide) (by omega), fun p hp => hA2 (11 + p) (by omega) (by omega) (by omega), hA2 27 (by decide) (by decide) (by omega), hA2 28 (by decide) (by decide) (by omega), hA2 32 (by decide) (by decide) (by omega), fun j hj => ⟨?_, hA2 (19 + j) (by omega) (by omega) (by omega)⟩, fun j hj => ?_⟩
                · rw [hA25, pk_un (by omega)]
                · rw [hA26, pk_un (by omega)]
              have hCP2 : CP D A2 := by
                intro s hs
                rw [hA2 8 (by decide) (by decide) (by omega), hA2 9 (by decide) (by decide) (by omega)]
                exact hCP s hs
              refine wp_if_ne (t := 179) (q := 157) dX5_goThrough_154 (by decide) rfl (fun hl => ?_) (fun hl => ?_)
              · have hl := b2_ne0.mp hl
                rw [if_pos hl] at he
                obtain ⟨hin2, hlen2⟩ := lcX_in (D := D) (a := a) (xs := xs) hl
                refine wp_aload_n (i := 0) (q := 180) dX5_goThrough_179 rfl rfl rfl ?_
                refine wp_iload_n (i := 1) (q := 181) dX5_goThrough_180 rfl rfl rfl ?_
                refine wp_iconst (v := nI 1) (q := 182) dX5_goThrough_181 (by decide) rfl ?_
                refine wp_iadd (q := 183) dX5_goThrough_182 rfl ?_
                refine wp_iload_n (i := 2) (q := 184) dX5_goThrough_183 rfl rfl rfl ?_
                refine wp_iconst (v := nI 1) (q := 185) dX5_goThrough_184 (by decide) rfl ?_
                refine wp_isub (q := 186) dX5_goThrough_185 rfl ?_
                rw [nI_add, pk_sub (by omega), show left + 1 - 1 = left by omega]
                have hbl := gcA_bd h10 left (dTo D a) (lcX D a xs) cnt1
                have M := ih (d - 1) (depth + 1) I1 A2 (dTo D a) cnt1 (lcX D a xs) (pref ++ [a]) (by omega) (by omega) hto (by rw [hA25, pk_us]) (by
                  unfold lcX
                  refine stL_congr (fun u hu => ?_)
                  rw [hAs, hff hl u hu]
                  exact lcS_cg _ (fun u hu => hxu u (by rw [hf] at hu; exact hu))) hin2 (by rw [List.length_append, List.length_singleton, hpl]) (fun j hj => by
                  rw [hA26]
                  by_cases w : j = depth
                  · rw [w, pk_us, List.getD_eq_getElem?_getD, List.getElem?_append_right (by omega), hpl, Nat.sub_self]
                    rfl
                  · rw [pk_un w, hKA.2.2.2.2.2.2.2 j (by omega), hpr j (by omega), List.getD_eq_getElem?_getD, List.getD_eq_getElem?_getD, List.getElem?_append_left (by omega)]) hI (by omega) ((hT.ka h6 hKA).ka h6 hKA2) hCP2
                refine wp_V (μ' := mX5_goThrough) (ci := 5) (q := 189) M dX5_goThrough_186 okX5_goThrough lkX5_81 (by first | exact ch_obj | exact ch_pas | exact ch_8 | exact ch_9 | exact ch_17 | exact ch_25 | exact ch_26 | exact ch_tcs | exact ch_sts | exact ch_t (by omega) | exact ch_s (by omega) | exact ch_prg | exact ch_pts | exact ch_acs | exact ch_4 | exact ch_pul | exact ch_sea | exact ch_27 | exact ch_28 | exact ch_29 | exact ch_30 | exact ch_31 | exact ch_32 | assumption | exact ch_aob hW hb (by assumption)) rfl rfl rfl (Nat.le_of_ble_eq_true rfl) (by omega) rfl (fun rv hx hq => ?_)
                obtain ⟨I3, A3, rfl, hq⟩ := hq
                generalize gcA D left (dTo D a) (lcX D a xs) cnt1 = R at hq he hbl
                obtain ⟨c', o⟩ := R
                dsimp only at hbl
                cases o with
                | none =>
                  obtain ⟨rfl, q1, q2, q3, q4⟩ := hq
                  show wp _ _ _ _ _ _ _ _ _ _ [.int (b2 false)]
                  refine wp_if_eq (t := 194) (q := 192) dX5_goThrough_189 (by decide) rfl (fun hz => ?_) (fun hz => ?_)
                  · refine wp_iinc (v := _ + nI 1) (lv' := [_, _, _, _, _, some _, _, _]) (q := 197) dX5_goThrough_194 rfl rfl (by decide) rfl rfl ?_
                    refine wp_goto (q := 69) dX5_goThrough_197 (by decide) ?_
                    rw [nI_add]
                    refine ihm (a + 1) I3 A3 c' _ (by omega) q1 (fun o ho => (q2 o ho).trans (hIo o ho)) ((hKA.tr hKA2).tr (q3.mo (by omega))) q4 he (by omega) (by omega)
                  · exact absurd rfl hz
                | some r =>
                  obtain ⟨rfl, q1, q2, q3, q4, q5, q6⟩ := hq
                  show wp _ _ _ _ _ _ _ _ _ _ [.int (b2 true)]
                  refine wp_if_eq (t := 194) (q := 192) dX5_goThrough_189 (by decide) rfl (fun hz => ?_) (fun hz => ?_)
                  · exact absurd hz (by decide)
                  · refine wp_iconst (v := nI 1) (q := 193) dX5_goThrough_192 (by decide) rfl ?_
                    refine wp_zret dX5_goThrough_193 rfl (by first | exact Or.inl rfl | exact Or.inr rfl | exact b2_01 _ | assumption) ?_
                    refine ⟨_, _, rfl, ?_⟩
                    rw [← he]
                    rw [List.append_assoc] at q4
                    exact ⟨rfl, q1, q2.trans (hIo 0 (by decide)), q3.trans (hIo 3 (by decide)), q4, q5.trans ((hKA.tr hKA2).1), q6.trans ((hKA.tr hKA2).2.2.2.2.2.1)⟩
              · have hl := b2_eq0.mp hl
                rw [if_neg (by rw [hl]; decide)] at he
                refine wp_aload_n (i := 0) (q := 158) dX5_goThrough_157 rfl rfl rfl ?_
                refine wp_dup (q := 159) dX5_goThrough_158 rfl rfl ?_
                refine wg5_7 (q := 162) dX5_goThrough_159 ffX5_68 (by first | exact ch_obj | exact ch_pas | exact ch_8 | exact ch_9 | exact ch_17 | exact ch_25 | exact ch_26 | exact ch_tcs | exact ch_sts | exact ch_t (by omega) | exact ch_s (by omega) | exact ch_prg | exact ch_pts | exact ch_acs | exact ch_4 | exact ch_pul | exact ch_sea | exact ch_27 | exact ch_28 | exact ch_29 | exact ch_30 | exact ch_31 | exact ch_32 | assumption | exact ch_aob hW hb (by assumption)) rfl ?_ -- rows
                refine wp_iload_n (i := 2) (q := 163) dX5_goThrough_162 rfl rfl rfl ?_
                refine wp_iconst (v := nI 1) (q := 164) dX5_goThrough_163 (by decide) rfl ?_
                refine wp_icmp_ne (t := 171) (q := 167) dX5_goThrough_164 (by decide) rfl (fun h1 => ?_) (fun h1 => ?_)
                · have h1 : ¬ left = 0 := fun q => h1 (by rw [q])
                  rw [if_neg (by rw [decide_eq_false h1]; decide)] at he
                  refine wp_iconst (v := nI 0) (q := 172) dX5_goThrough_171 (by decide) rfl ?_
                  refine wp_iadd (q := 173) dX5_goThrough_172 rfl ?_
                  rw [hI, nI_add]
                  refine wt5_7 (q := 176) dX5_goThrough_173 ffX5_68 (by first | exact ch_obj | exact ch_pas | exact ch_8 | exact ch_9 | exact ch_17 | exact ch_25 | exact ch_26 | exact ch_tcs | exact ch_sts | exact ch_t (by omega) | exact ch_s (by omega) | exact ch_prg | exact ch_pts | exact ch_acs | exact ch_4 | exact ch_pul | exact ch_sea | exact ch_27 | exact ch_28 | exact ch_29 | exact ch_30 | exact ch_31 | exact ch_32 | assumption | exact ch_aob hW hb (by assumption)) (by first | exact ch_s8 | exact ch_s9 | exact ch_s17 | exact ch_s25 | exact ch_s26 | exact ch_sI4 | exact ch_sI5 | exact ch_sI6 | exact ch_sI7 | exact ch_sI8) rfl ?_ -- rows
                  refine wp_goto (q := 194) dX5_goThrough_176 (by decide) ?_
                  refine wp_iinc (v := _ + nI 1) (lv' := [_, _, _, _, _, some _, _, _]) (q := 197) dX5_goThrough_194 rfl rfl (by decide) rfl rfl ?_
                  refine wp_goto (q := 69) dX5_goThrough_197 (by decide) ?_
                  rw [nI_add]
                  exact ihm (a + 1) _ A2 cnt1 _ (by omega) pk_us (fun o ho => (pk_un ho).trans (hIo o ho)) (hKA.tr hKA2) hCP2 he hle (by omega)
                · have h1 : left = 0 := by have := (nI_eq (by omega) (by omega)).mp h1; omega
                  rw [if_pos (decide_eq_true h1)] at he
                  refine wp_iconst (v := nI 1) (q := 168) dX5_goThrough_167 (by decide) rfl ?_
                  refine wp_goto (q := 172) dX5_goThrough_168 (by decide) ?_
                  refine wp_iadd (q := 173) dX5_goThrough_172 rfl ?_
                  rw [hI, nI_add]
                  refine wt5_7 (q := 176) dX5_goThrough_173 ffX5_68 (by first | exact ch_obj | exact ch_pas | exact ch_8 | exact ch_9 | exact ch_17 | exact ch_25 | exact ch_26 | exact ch_tcs | exact ch_sts | exact ch_t (by omega) | exact ch_s (by omega) | exact ch_prg | exact ch_pts | exact ch_acs | exact ch_4 | exact ch_pul | exact ch_sea | exact ch_27 | exact ch_28 | exact ch_29 | exact ch_30 | exact ch_31 | exact ch_32 | assumption | exact ch_aob hW hb (by assumption)) (by first | exact ch_s8 | exact ch_s9 | exact ch_s17 | exact ch_s25 | exact ch_s26 | exact ch_sI4 | exact ch_sI5 | exact ch_sI6 | exact ch_sI7 | exact ch_sI8) rfl ?_ -- rows
                  refine wp_goto (q := 194) dX5_goThrough_176 (by decide) ?_
                  refine wp_iinc (v := _ + nI 1) (lv' := [_, _, _, _, _, some _, _, _]) (q := 197) dX5_goThrough_194 rfl rfl (by decide) rfl rfl ?_
                  refine wp_goto (q := 69) dX5_goThrough_197 (by decide) ?_
                  rw [nI_add]
                  exact ihm (a + 1) _ A2 (cnt1 + 1) _ (by omega) pk_us (fun o ho => (pk_un ho).trans (hIo o ho)) (hKA.tr hKA2) hCP2 he (by omega) (by omega)
            · have hf : ¬ dFr D a = pt := fun q => hf (by rw [q])
              rw [if_pos hf] at he
              refine wp_goto (q := 194) dX5_goThrough_111 (by decide) ?_
              refine wp_iinc (v := _ + nI 1) (lv' := [_, _, _, _, _, some _, _, _]) (q := 197) dX5_goThrough_194 rfl rfl (by decide) rfl rfl ?_
              refine wp_goto (q := 69) dX5_goThrough_197 (by decide) ?_
              rw [nI_add]
              exact ihm (a + 1) I1 A1 cnt1 _ (by omega) hI hIo hKA hCP he hle (by omega)
        exact P (dNa D) 0 I A cnt _ (by omega) h4 (fun _ _ => rfl) KA.rf hC rfl (Nat.le_refl _) (by omega)
      by_cases w : A 8 (slO (kyX D pt (left + 1) xs)) = kyX D pt (left + 1) xs
      · rw [if_pos w]
        rcases hC _ hsl with q | ⟨left', pt', xs', c, c1, c2, c3, c4, c5, c6, c7, c8⟩
        · rw [w] at q
          exact absurd q (kyX_ne (by omega) (by omega) hxl hk4 hin)
        · rw [w] at c5
          obtain ⟨rfl, rfl, rfl⟩ := kyX_inj (by omega) (by omega) (by omega) c1 hxl hk4 hin c3 (hW.k4 c2) c4 c5
          rw [c6]
          refine wp_istore (lv' := [_, _, _, some _, _, _, _, _]) (q := 42) dX5_goThrough_40 (by decide) rfl rfl ?_
          refine wp_iload (q := 44) dX5_goThrough_42 rfl rfl ?_
          refine wp_if_lt (t := 60) (q := 47) dX5_goThrough_44 (by decide) rfl (fun hn => ?_) (fun hn => ?_)
          · exact absurd hn (nI_pos (by omega))
          refine wp_aload_n (i := 0) (q := 48) dX5_goThrough_47 rfl rfl rfl ?_
          refine wp_dup (q := 49) dX5_goThrough_48 rfl rfl ?_
          refine wg5_7 (q := 52) dX5_goThrough_49 ffX5_68 (by first | exact ch_obj | exact ch_pas | exact ch_8 | exact ch_9 | exact ch_17 | exact ch_25 | exact ch_26 | exact ch_tcs | exact ch_sts | exact ch_t (by omega) | exact ch_s (by omega) | exact ch_prg | exact ch_pts | exact ch_acs | exact ch_4 | exact ch_pul | exact ch_sea | exact ch_27 | exact ch_28 | exact ch_29 | exact ch_30 | exact ch_31 | exact ch_32 | assumption | exact ch_aob hW hb (by assumption)) rfl ?_ -- rows
          refine wp_iload (q := 54) dX5_goThrough_52 rfl rfl ?_
          refine wp_iadd (q := 55) dX5_goThrough_54 rfl ?_
          rw [h4, nI_add]
          refine wt5_7 (q := 58) dX5_goThrough_55 ffX5_68 (by first | exact ch_obj | exact ch_pas | exact ch_8 | exact ch_9 | exact ch_17 | exact ch_25 | exact ch_26 | exact ch_tcs | exact ch_sts | exact ch_t (by omega) | exact ch_s (by omega) | exact ch_prg | exact ch_pts | exact ch_acs | exact ch_4 | exact ch_pul | exact ch_sea | exact ch_27 | exact ch_28 | exact ch_29 | exact ch_30 | exact ch_31 | exact ch_32 | assumption | exact ch_aob hW hb (by assumption)) (by first | exact ch_s8 | exact ch_s9 | exact ch_s17 | exact ch_s25 | exact ch_s26 | exact ch_sI4 | exact ch_sI5 | exact ch_sI6 | exact ch_sI7 | exact ch_sI8) rfl ?_ -- rows
          refine wp_iconst (v := nI 0) (q := 59) dX5_goThrough_58 (by decide) rfl ?_
          refine wp_zret dX5_goThrough_59 rfl (by first | exact Or.inl rfl | exact Or.inr rfl | exact b2_01 _ | assumption) ?_
          refine ⟨_, _, rfl, ?_⟩
          have hsh := gcA_shift (D := D) (left + 1) pt xs 0 cnt
          rw [Nat.zero_add, c8] at hsh
          rw [hsh]
          exact ⟨rfl, by rw [pk_us, Nat.add_comm], fun o ho => pk_un ho, KA.rf, hC⟩
      · rw [if_neg w]
        refine wp_istore (lv' := [_, _, _, some _, _, _, _, _]) (q := 42) dX5_goThrough_40 (by decide) rfl rfl ?_
        refine wp_iload (q := 44) dX5_goThrough_42 rfl rfl ?_
        refine wp_if_lt (t := 60) (q := 47) dX5_goThrough_44 (by decide) rfl (fun hn => ?_) (fun hn => ?_)
        · exact K60 _ hn
        · exact absurd (by decide) hn
    · exact absurd ((nI_ltI (by omega) (by omega)).mpr (by omega)) h5
end S1
