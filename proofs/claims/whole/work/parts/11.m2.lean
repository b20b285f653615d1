/-! THE REFERENCE: what its readings say of one variable, of two -/
theorem b2f0 : b2 false = 0 := rfl
theorem b2t0 : ¬ b2 true = 0 := by decide
def insL (v : Int32) : List Int32 → List Int32
  | [] => [v]
  | a :: s => if a < v then a :: insL v s else if a = v then a :: s else v :: a :: s
def fw (f : Nat → Int32) (s : List Int32) : Prop := ∀ (j : Nat) (x : Int32), s[j]? = some x → f j = x
def gth (acc : List Int32) : List Int32 → List Int32
  | [] => acc
  | v :: vs => if acc.length < 4 then gth (insL v acc) vs else acc
def vlF (A : Nat → Nat → Int32) (p side i r : Nat) : List Int32 := (rsF A p side r).map (fun r => xA A p r i)
abbrev vl (A : Nat → Nat → Int32) (p side i : Nat) : List Int32 := vlF A p side i 0
theorem vlF_end {A : Nat → Nat → Int32} {p side i r : Nat} (h : nA A p ≤ r) : vlF A p side i r = [] := by rw [vlF, rsF_end h]; rfl
theorem vlF_t {A : Nat → Nat → Int32} {p side i r : Nat} (h : r < nA A p) (ho : ofA A p side r = true) : vlF A p side i r = xA A p r i :: vlF A p side i (r + 1) := by rw [vlF, rsF_step h, if_pos ho]; rfl
theorem vlF_f {A : Nat → Nat → Int32} {p side i r : Nat} (h : r < nA A p) (ho : ofA A p side r = false) : vlF A p side i r = vlF A p side i (r + 1) := by rw [vlF, rsF_step h, if_neg (by rw [ho]; decide)]; rfl
def exS (gr : Bool) : Int32 → Bool → List Int32 → Int32
  | best, _, [] => best
  | best, any, v :: vs => exS gr (if (!any || (if gr then decide (best < v) else decide (v < best))) = true then v else best) true vs
def rst (v : Int32) (m : Nat) : Int32 := if 0 ≤ v - v / nI m * nI m then v - v / nI m * nI m else v - v / nI m * nI m + nI m
def sR (m : Nat) (o : Int32) : List Int32 → Bool
  | [] => true
  | v :: vs => (decide (o < 0) || decide (o = rst v m)) && sR m (rst v m) vs
def mdF (vs : List Int32) : Nat → Nat
  | 0 => 0
  | 1 => 0
  | m + 2 => if sR (m + 2) (-1) vs = true then m + 2 else mdF vs (m + 1)
def goesB (shape : Nat) (x y : Int32) : Bool := if shape = 5 then decide (x = y) else if shape = 6 then decide (x < y) else if shape = 7 then !decide (y < x) else !decide (x = y)
def risF (last : Int32) : List Int32 → Bool
  | [] => true
  | v :: vs => !decide (v < last) && risF v vs
theorem upd_self {f : Nat → Int32} {k : Nat} {x : Int32} (h : f k = x) : upd f k x = f := by
  funext j
  by_cases e : j = k
  · subst e; simp [upd, h]
  · simp [upd, e]
theorem upd_upd {f : Nat → Int32} {k : Nat} {x y : Int32} : upd (upd f k x) k y = upd f k y := by
  funext j
  by_cases e : j = k <;> simp [upd, e]
theorem upR_self {α : Type} {A : Nat → Nat → α} {o : Nat} : upR A o (A o) = A := by
  funext j
  by_cases e : j = o
  · subst e; simp [upR]
  · simp [upR, e]
theorem upR_at {α : Type} {A : Nat → Nat → α} {o : Nat} {f : Nat → α} : upR A o f o = f := by simp [upR]
theorem upR_ne {α : Type} {A : Nat → Nat → α} {o o' : Nat} {f : Nat → α} (h : o' ≠ o) : upR A o f o' = A o' := by simp [upR, h]
theorem upR_upR {α : Type} {A : Nat → Nat → α} {o : Nat} {f f' : Nat → α} : upR (upR A o f) o f' = upR A o f' := by
  funext j
  by_cases e : j = o <;> simp [upR, e]
theorem up2_upR {α : Type} {A : Nat → Nat → α} {o j : Nat} {f : Nat → α} {x : α} : up2 (upR A o f) o j x = upR A o (fun k => if k = j then x else f k) := by
  funext o' k
  by_cases e : o' = o
  · subst e
    by_cases e2 : k = j <;> simp [up2, upR, e2]
  · simp [up2, upR, e]
theorem insL_app {v : Int32} : ∀ {a s : List Int32}, (∀ x ∈ a, x < v) → insL v (a ++ s) = a ++ insL v s
  | [], s, _ => rfl
  | x :: a, s, h => by
    rw [List.cons_append, insL, if_pos (h x List.mem_cons_self), insL_app (fun y hy => h y (List.mem_cons_of_mem _ hy))]
    rfl
section M2
variable {l : Launch} {d sz b p side r i j m : Nat} {I : Nat → Int32} {L : Int64} {A : Nat → Nat → Int32} {B : Nat → Nat → Int64} {g : Nat → Option aE}
theorem tX8_addFew {v : Int32} {s : List Int32} (hs : s.length < 4) (h7 : I 7 = nI s.length) (hf : fw (A 7) s) : mt l mX8_addFew d 0 0 [.ref b, .int v] (sz, mh b I L A B g) (fun rv h' => rv = none ∧ ∃ f, h' = (sz, mh b (upd I 7 (nI (insL v s).length)) L (upR A 7 f) B g) ∧ fw f (insL v s)) := by
  refine mt_in (lv := [_, _, _, _]) (by decide) (Nat.le_of_ble_eq_true rfl) rfl ?_
  refine wp_iconst (v := nI 0) (q := 1) dX8_addFew_0 (by decide) rfl ?_
  refine wp_istore_n (i := 2) (lv' := [_, some _, _, _]) (q := 2) dX8_addFew_1 rfl (by decide) rfl rfl ?_
  have shift : ∀ (k n : Nat) (f : Nat → Int32), k ≤ s.length → n + k ≤ s.length → (∀ j x, j < n + k → s[j]? = some x → f j = x) → (∀ j x, n + k ≤ j → s[j]? = some x → f (j + 1) = x) → insL v s = s.take k ++ v :: s.drop k → wp l mX8_addFew [] d 0 0 (fun rv h' => rv = none ∧ ∃ f, h' = (sz, mh b (upd I 7 (nI (insL v s).length)) L (upR A 7 f) B g) ∧ fw f (insL v s)) (sz, mh b I L (upR A 7 f) B g) 50 [some (.ref b), some (.int v), some (.int (nI k)), some (.int (nI (n + k)))] [] := by
    intro k n
    induction n with
    | zero =>
      intro f hk hn h1 h2 hi
      refine wp_iload_n (i := 3) (q := 51) dX8_addFew_50 rfl rfl rfl ?_
      refine wp_iload_n (i := 2) (q := 52) dX8_addFew_51 rfl rfl rfl ?_
      refine wp_icmp_le (t := 75) (q := 55) dX8_addFew_52 (by decide) rfl (fun hc => ?_) (fun hc => ?_)
      · refine wp_aload_n (i := 0) (q := 76) dX8_addFew_75 rfl rfl rfl ?_
        refine wm_getA (k := 8) (o := 7) (q := 79) dX8_addFew_76 ffX8_29 rfl rfl rfl ?_ -- few
        refine wp_iload_n (i := 2) (q := 80) dX8_addFew_79 rfl rfl rfl ?_
        refine wp_iload_n (i := 1) (q := 81) dX8_addFew_80 rfl rfl rfl ?_
        refine wm_iastN (q := 82) dX8_addFew_81 ⟨by decide, by decide, rfl⟩ rfl (by simp only [mlen]; omega) (by decide) rfl ?_
        refine wp_aload_n (i := 0) (q := 83) dX8_addFew_82 rfl rfl rfl ?_
        refine wp_dup (q := 84) dX8_addFew_83 rfl rfl ?_
        refine wm_getI (k := 7) (q := 87) dX8_addFew_84 ffX8_141 rfl rfl ?_ -- unlike
        refine wp_iconst (v := nI 1) (q := 88) dX8_addFew_87 (by decide) rfl ?_
        refine wp_iadd (q := 89) dX8_addFew_88 rfl ?_
        refine wm_putI (k := 7) (q := 92) dX8_addFew_89 ffX8_141 rfl rfl ?_ -- unlike
        refine wp_vret dX8_addFew_92 rfl ?_
        refine ⟨rfl, _, by rw [up2_upR, h7, nI_add, show (insL v s).length = s.length + 1 by rw [hi]; simp; omega], ?_⟩
        intro j x hj
        rw [hi] at hj
        show (if j = k then v else f j) = x
        by_cases e1 : j < k
        · rw [List.getElem?_append_left (by simp; omega), List.getElem?_take_of_lt e1] at hj
          rw [if_neg (by omega)]
          exact h1 j x (by omega) hj
        · rw [List.getElem?_append_right (by simp; omega), List.length_take, Nat.min_eq_left hk] at hj
          by_cases e2 : j = k
          · subst e2
            simp at hj
            rw [if_pos rfl, hj]
          · obtain ⟨t, rfl⟩ : ∃ t, j = k + 1 + t := ⟨j - k - 1, by omega⟩
            rw [if_neg e2]
            rw [show k + 1 + t - k = t + 1 by omega, List.getElem?_cons_succ, List.getElem?_drop] at hj
            have := h2 (k + t) x (by omega) hj
            rw [show k + 1 + t = k + t + 1 by omega]
            exact this
      · exact absurd ((nI_leI (by omega) (by omega)).mpr (by omega)) hc
    | succ n ih =>
      intro f hk hn h1 h2 hi
      refine wp_iload_n (i := 3) (q := 51) dX8_addFew_50 rfl rfl rfl ?_
      refine wp_iload_n (i := 2) (q := 52) dX8_addFew_51 rfl rfl rfl ?_
      refine wp_icmp_le (t := 75) (q := 55) dX8_addFew_52 (by decide) rfl (fun hc => ?_) (fun hc => ?_)
      · exact absurd ((nI_leI (by omega) (by omega)).mp hc) (by omega)
      refine wp_aload_n (i := 0) (q := 56) dX8_addFew_55 rfl rfl rfl ?_
      refine wm_getA (k := 8) (o := 7) (q := 59) dX8_addFew_56 ffX8_29 rfl rfl rfl ?_ -- few
      refine wp_iload_n (i := 3) (q := 60) dX8_addFew_59 rfl rfl rfl ?_
      refine wp_aload_n (i := 0) (q := 61) dX8_addFew_60 rfl rfl rfl ?_
      refine wm_getA (k := 8) (o := 7) (q := 64) dX8_addFew_61 ffX8_29 rfl rfl rfl ?_ -- few
      refine wp_iload_n (i := 3) (q := 65) dX8_addFew_64 rfl rfl rfl ?_
      refine wp_iconst (v := nI 1) (q := 66) dX8_addFew_65 (by decide) rfl ?_
      refine wp_isub (q := 67) dX8_addFew_66 rfl ?_
      rw [pk_sub (by omega), show n + 1 + k - 1 = n + k by omega]
      refine wm_ialdN (q := 68) dX8_addFew_67 ⟨by decide, by decide, rfl⟩ rfl (by simp only [mlen]; omega) (by decide) rfl ?_
      refine wm_iastN (q := 69) dX8_addFew_68 ⟨by decide, by decide, rfl⟩ rfl (by simp only [mlen]; omega) (by decide) rfl ?_
      refine wp_iinc (v := _ + (-1)) (lv' := [_, _, some _, _]) (q := 72) dX8_addFew_69 rfl rfl (by decide) rfl rfl ?_
      refine wp_goto (q := 50) dX8_addFew_72 (by decide) ?_
      rw [up2_upR, show nI (n + 1 + k) + -1 = nI (n + k) by rw [show n + 1 + k = n + k + 1 by omega]; exact pk_m1 (n + k)]
      refine ih _ hk (by omega) ?_ ?_ hi
      · intro j x hj hx
        show (if j = n + 1 + k then _ else f j) = x
        rw [if_neg (by omega)]
        exact h1 j x (by omega) hx
      · intro j x hj hx
        show (if j + 1 = n + 1 + k then upR A 7 f 7 (n + k) else f (j + 1)) = x
        by_cases e : j = n + k
        · subst e
          rw [if_pos (by omega), upR_at]
          exact h1 _ x (by omega) hx
        · rw [if_neg (by omega)]
          exact h2 j x (by omega) hx
  have loop : ∀ (n k : Nat), n + k = s.length → (∀ x ∈ s.take k, x < v) → wp l mX8_addFew [] d 0 0 (fun rv h' => rv = none ∧ ∃ f, h' = (sz, mh b (upd I 7 (nI (insL v s).length)) L (upR A 7 f) B g) ∧ fw f (insL v s)) (sz, mh b I L A B g) 2 [some (.ref b), some (.int v), some (.int (nI k)), none] [] := by
    intro n
    induction n with
    | zero =>
      intro k hk ht
      have hi : insL v s = s.take k ++ v :: s.drop k := by
        have := insL_app (s := []) ht
        rw [List.append_nil, List.take_of_length_le (by omega)] at this
        rw [this, List.take_of_length_le (by omega), List.drop_of_length_le (by omega)]
        rfl
      refine wp_iload_n (i := 2) (q := 3) dX8_addFew_2 rfl rfl rfl ?_
      refine wp_aload_n (i := 0) (q := 4) dX8_addFew_3 rfl rfl rfl ?_
      refine wm_getI (k := 7) (q := 7) dX8_addFew_4 ffX8_141 rfl rfl ?_ -- unlike
      rw [h7]
      refine wp_icmp_ge (t := 26) (q := 10) dX8_addFew_7 (by decide) rfl (fun hc => ?_) (fun hc => ?_)
      · refine wp_iload_n (i := 2) (q := 27) dX8_addFew_26 rfl rfl rfl ?_
        refine wp_aload_n (i := 0) (q := 28) dX8_addFew_27 rfl rfl rfl ?_
        refine wm_getI (k := 7) (q := 31) dX8_addFew_28 ffX8_141 rfl rfl ?_ -- unlike
        rw [h7]
        refine wp_icmp_ge (t := 45) (q := 34) dX8_addFew_31 (by decide) rfl (fun hc2 => ?_) (fun hc2 => ?_)
        · refine wp_aload_n (i := 0) (q := 46) dX8_addFew_45 rfl rfl rfl ?_
          refine wm_getI (k := 7) (q := 49) dX8_addFew_46 ffX8_141 rfl rfl ?_ -- unlike
          refine wp_istore_n (i := 3) (lv' := [_, _, some _, _]) (q := 50) dX8_addFew_49 rfl (by decide) rfl rfl ?_
          rw [h7]
          have := shift k 0 (A 7) (by omega) (by omega) (fun j x hj hx => hf j x hx) (fun j x hj hx => by rw [List.getElem?_eq_none (by omega)] at hx; cases hx) hi
          rw [upR_self, show 0 + k = s.length by omega] at this
          exact this
        · exact absurd ((nI_leI (by omega) (by omega)).mpr (by omega)) hc2
      · exact absurd ((nI_leI (by omega) (by omega)).mpr (by omega)) hc
    | succ n ih =>
      intro k hk ht
      have hkl : k < s.length := by omega
      have hget : A 7 k = s[k] := hf k _ (List.getElem?_eq_getElem hkl)
      refine wp_iload_n (i := 2) (q := 3) dX8_addFew_2 rfl rfl rfl ?_
      refine wp_aload_n (i := 0) (q := 4) dX8_addFew_3 rfl rfl rfl ?_
      refine wm_getI (k := 7) (q := 7) dX8_addFew_4 ffX8_141 rfl rfl ?_ -- unlike
      rw [h7]
      refine wp_icmp_ge (t := 26) (q := 10) dX8_addFew_7 (by decide) rfl (fun hc => ?_) (fun hc => ?_)
      · exact absurd ((nI_leI (by omega) (by omega)).mp hc) (by omega)
      refine wp_aload_n (i := 0) (q := 11) dX8_addFew_10 rfl rfl rfl ?_
      refine wm_getA (k := 8) (o := 7) (q := 14) dX8_addFew_11 ffX8_29 rfl rfl rfl ?_ -- few
      refine wp_iload_n (i := 2) (q := 15) dX8_addFew_14 rfl rfl rfl ?_
      refine wm_ialdN (q := 16) dX8_addFew_15 ⟨by decide, by decide, rfl⟩ rfl (by simp only [mlen]; omega) (by decide) rfl ?_
      refine wp_iload_n (i := 1) (q := 17) dX8_addFew_16 rfl rfl rfl ?_
      rw [hget]
      have hspl : s = s.take k ++ s[k] :: s.drop (k + 1) := by simp
      refine wp_icmp_ge (t := 26) (q := 20) dX8_addFew_17 (by decide) rfl (fun hc2 => ?_) (fun hc2 => ?_)
      · have hlt : ¬ s[k] < v := Int32.not_lt.mpr hc2
        have hi : insL v s = s.take k ++ (if s[k] = v then s.drop k else v :: s.drop k) := by
          have h := insL_app (s := s[k] :: s.drop (k + 1)) ht
          rw [← hspl] at h
          rw [h, insL, if_neg hlt]
          congr 1
          by_cases e : s[k] = v
          · rw [if_pos e, if_pos e]; simp
          · rw [if_neg e, if_neg e]; simp
        refine wp_iload_n (i := 2) (q := 27) dX8_addFew_26 rfl rfl rfl ?_
        refine wp_aload_n (i := 0) (q := 28) dX8_addFew_27 rfl rfl rfl ?_
        refine wm_getI (k := 7) (q := 31) dX8_addFew_28 ffX8_141 rfl rfl ?_ -- unlike
        rw [h7]
        refine wp_icmp_ge (t := 45) (q := 34) dX8_addFew_31 (by decide) rfl (fun hc3 => ?_) (fun hc3 => ?_)
        · exact absurd ((nI_leI (by omega) (by omega)).mp hc3) (by omega)
        refine wp_aload_n (i := 0) (q := 35) dX8_addFew_34 rfl rfl rfl ?_
        refine wm_getA (k := 8) (o := 7) (q := 38) dX8_addFew_35 ffX8_29 rfl rfl rfl ?_ -- few
        refine wp_iload_n (i := 2) (q := 39) dX8_addFew_38 rfl rfl rfl ?_
        refine wm_ialdN (q := 40) dX8_addFew_39 ⟨by decide, by decide, rfl⟩ rfl (by simp only [mlen]; omega) (by decide) rfl ?_
        refine wp_iload_n (i := 1) (q := 41) dX8_addFew_40 rfl rfl rfl ?_
        rw [hget]
        refine wp_icmp_ne (t := 45) (q := 44) dX8_addFew_41 (by decide) rfl (fun hc4 => ?_) (fun hc4 => ?_)
        · rw [if_neg hc4] at hi
          refine wp_aload_n (i := 0) (q := 46) dX8_addFew_45 rfl rfl rfl ?_
          refine wm_getI (k := 7) (q := 49) dX8_addFew_46 ffX8_141 rfl rfl ?_ -- unlike
          refine wp_istore_n (i := 3) (lv' := [_, _, some _, _]) (q := 50) dX8_addFew_49 rfl (by decide) rfl rfl ?_
          rw [h7]
          have := shift k (s.length - k) (A 7) (by omega) (by omega) (fun j x hj hx => hf j x hx) (fun j x hj hx => by rw [List.getElem?_eq_none (by omega)] at hx; cases hx) hi
          rw [upR_self, show s.length - k + k = s.length by omega] at this
          exact this
        · rw [if_pos hc4, List.take_append_drop] at hi
          refine wp_vret dX8_addFew_44 rfl ?_
          exact ⟨rfl, A 7, by rw [hi, upR_self, upd_self h7], by rw [hi]; exact hf⟩
      · have hlt : s[k] < v := Int32.not_le.mp hc2
        refine wp_iinc (v := _ + nI 1) (lv' := [_, some _, _, _]) (q := 23) dX8_addFew_20 rfl rfl (by decide) rfl rfl ?_
        refine wp_goto (q := 2) dX8_addFew_23 (by decide) ?_
        rw [nI_add]
        refine ih (k + 1) (by omega) ?_
        intro x hx
        rw [List.take_add_one, List.getElem?_eq_getElem hkl] at hx
        rcases List.mem_append.mp hx with hx | hx
        · exact ht x hx
        · simp at hx; rw [hx]; exact hlt
  exact loop s.length 0 (by omega) (fun x hx => by simp at hx)
end M2
