/-! THE REFERENCE'S WORLD (printed by wip/gen/mk_model.py): the object at b, its 31 arrays at b + 1 .. ; int fields I by slot, the long field L, int and boolean arrays A and long arrays B by their place behind b -/
def mty (k : Nat) : Nat := match k with
  | 0 => 0
  | 1 => 2
  | 2 => 2
  | 3 => 2
  | 4 => 2
  | 5 => 2
  | 6 => 2
  | 7 => 0
  | 8 => 2
  | 9 => 0
  | 10 => 2
  | 11 => 0
  | 12 => 2
  | 13 => 2
  | 14 => 0
  | 15 => 2
  | 16 => 0
  | 17 => 0
  | 18 => 0
  | 19 => 2
  | 20 => 2
  | 21 => 2
  | 22 => 1
  | 23 => 0
  | 24 => 2
  | 25 => 0
  | 26 => 2
  | 27 => 0
  | 28 => 2
  | 29 => 2
  | 30 => 2
  | 31 => 2
  | 32 => 2
  | 33 => 2
  | 34 => 2
  | 35 => 2
  | 36 => 2
  | 37 => 2
  | 38 => 2
  | 39 => 2
  | 40 => 2
  | 41 => 0
  | 42 => 0
  | 43 => 0
  | 44 => 2
  | 45 => 2
  | 46 => 0
  | _ => 0
def moff (k : Nat) : Nat := match k with
  | 1 => 1
  | 2 => 2
  | 3 => 3
  | 4 => 4
  | 5 => 5
  | 6 => 6
  | 8 => 7
  | 10 => 8
  | 12 => 9
  | 13 => 10
  | 15 => 11
  | 19 => 12
  | 20 => 13
  | 21 => 14
  | 24 => 15
  | 26 => 16
  | 28 => 17
  | 29 => 18
  | 30 => 19
  | 31 => 20
  | 32 => 21
  | 33 => 22
  | 34 => 23
  | 35 => 24
  | 36 => 25
  | 37 => 26
  | 38 => 27
  | 39 => 28
  | 40 => 29
  | 44 => 30
  | 45 => 31
  | _ => 0
def mlen (k : Nat) : Nat := match k with
  | 1 => 6
  | 2 => 6
  | 3 => 6
  | 4 => 6
  | 5 => 6
  | 6 => 960
  | 7 => 4
  | 8 => 100
  | 9 => 300
  | 10 => 300
  | 11 => 300
  | 12 => 200
  | 13 => 5
  | 14 => 5
  | 15 => 25
  | 16 => 4
  | 17 => 10
  | 18 => 10
  | 19 => 200
  | 20 => 5
  | 21 => 25
  | 22 => 16
  | 23 => 64
  | 24 => 16
  | 25 => 6
  | 26 => 600
  | 27 => 600
  | 28 => 600
  | 29 => 600
  | 30 => 4
  | 31 => 8
  | _ => 0
def mkd (k : Nat) : Nat := match k with
  | 1 => 0
  | 2 => 0
  | 3 => 2
  | 4 => 0
  | 5 => 0
  | 6 => 0
  | 7 => 0
  | 8 => 0
  | 9 => 0
  | 10 => 0
  | 11 => 0
  | 12 => 1
  | 13 => 0
  | 14 => 2
  | 15 => 1
  | 16 => 0
  | 17 => 0
  | 18 => 0
  | 19 => 0
  | 20 => 1
  | 21 => 1
  | 22 => 0
  | 23 => 0
  | 24 => 0
  | 25 => 0
  | 26 => 0
  | 27 => 0
  | 28 => 0
  | 29 => 0
  | 30 => 0
  | 31 => 0
  | _ => 0
def mF (b : Nat) (I : Nat → Int32) (L : Int64) (k : Nat) : Value := match mty k with
  | 0 => .int (I k)
  | 1 => .long L
  | _ => .ref (b + moff k)
def mcell (b : Nat) (I : Nat → Int32) (L : Int64) (A : Nat → Nat → Int32) (B : Nat → Nat → Int64) (o : Nat) : aE := match o with
  | 0 => .inr (8, mF b I L)
  | o + 1 => match mkd (o + 1) with
    | 1 => .inl (1, mlen (o + 1), .inr (.inl (B (o + 1))))
    | kd => .inl (kd, mlen (o + 1), .inl (A (o + 1)))
def mh (b : Nat) (I : Nat → Int32) (L : Int64) (A : Nat → Nat → Int32) (B : Nat → Nat → Int64) (g : Nat → Option aE) : Nat → Option aE := fun q => if b ≤ q ∧ q < b + 32 then some (mcell b I L A B (q - b)) else g q
/-- row o, place j of A becomes x -/
def up2 {α : Type} (A : Nat → Nat → α) (o j : Nat) (x : α) : Nat → Nat → α := fun o' j' => if o' = o ∧ j' = j then x else A o' j'
/-- row o of A becomes f -/
def upR {α : Type} (A : Nat → Nat → α) (o : Nat) (f : Nat → α) : Nat → Nat → α := fun o' => if o' = o then f else A o'
theorem mh_obj {b : Nat} {I : Nat → Int32} {L : Int64} {A : Nat → Nat → Int32} {B : Nat → Nat → Int64} {g : Nat → Option aE} : mh b I L A B g b = some (.inr (8, mF b I L)) := by
  simp [mh, mcell]
theorem mh_arr {b o : Nat} {I : Nat → Int32} {L : Int64} {A : Nat → Nat → Int32} {B : Nat → Nat → Int64} {g : Nat → Option aE} (h0 : 0 < o) (h1 : o < 32) : mh b I L A B g (b + o) = some (mcell b I L A B o) := by
  simp [mh, h1]
theorem mcell_i {b o kd : Nat} {I : Nat → Int32} {L : Int64} {A : Nat → Nat → Int32} {B : Nat → Nat → Int64} (h0 : 0 < o) (hk : mkd o = kd) (h1 : kd ≠ 1) : mcell b I L A B o = .inl (kd, mlen o, .inl (A o)) := by
  obtain ⟨n, rfl⟩ : ∃ n, o = n + 1 := ⟨o - 1, by omega⟩
  unfold mcell
  split
  · omega
  · next h => 
    have e : n = _ := Nat.succ.inj h
    subst e
    split
    · next h2 => rw [hk] at h2; exact absurd h2 h1
    · next h2 => rw [hk]
theorem mcell_l {b o : Nat} {I : Nat → Int32} {L : Int64} {A : Nat → Nat → Int32} {B : Nat → Nat → Int64} (h0 : 0 < o) (hk : mkd o = 1) : mcell b I L A B o = .inl (1, mlen o, .inr (.inl (B o))) := by
  obtain ⟨n, rfl⟩ : ∃ n, o = n + 1 := ⟨o - 1, by omega⟩
  unfold mcell
  split
  · omega
  · next h =>
    have e : n = _ := Nat.succ.inj h
    subst e
    split
    · rfl
    · next h2 => rw [hk] at h2; exact absurd rfl h2
theorem mcell_A {b o o' : Nat} {I : Nat → Int32} {L : Int64} {A A' : Nat → Nat → Int32} {B : Nat → Nat → Int64} (h : A' o' = A o') : mcell b I L A' B o' = mcell b I L A B o' := by
  unfold mcell
  split
  · rfl
  · split
    · rfl
    · rw [h]
theorem mcell_B {b o' : Nat} {I : Nat → Int32} {L : Int64} {A : Nat → Nat → Int32} {B B' : Nat → Nat → Int64} (h : B' o' = B o') : mcell b I L A B' o' = mcell b I L A B o' := by
  unfold mcell
  split
  · rfl
  · split
    · rw [h]
    · rfl
theorem mh_setA {b o kd sz : Nat} {I : Nat → Int32} {L : Int64} {A A' : Nat → Nat → Int32} {B : Nat → Nat → Int64} {g : Nat → Option aE} (h0 : 0 < o) (h1 : o < 32) (hk : mkd o = kd) (hk1 : kd ≠ 1) (hA : ∀ o', o' ≠ o → A' o' = A o') : hset (sz, mh b I L A B g) (b + o) (.inl (kd, mlen o, .inl (A' o))) = (sz, mh b I L A' B g) := by
  unfold hset
  congr 1
  funext q
  by_cases e : q = b + o
  · subst e
    rw [if_pos rfl, mh_arr h0 h1, mcell_i h0 hk hk1]
  · simp only [if_neg e]
    unfold mh
    split
    · rw [mcell_A (o := o) (hA (q - b) (by omega))]
    · rfl
theorem mh_setB {b o sz : Nat} {I : Nat → Int32} {L : Int64} {A : Nat → Nat → Int32} {B B' : Nat → Nat → Int64} {g : Nat → Option aE} (h0 : 0 < o) (h1 : o < 32) (hk : mkd o = 1) (hB : ∀ o', o' ≠ o → B' o' = B o') : hset (sz, mh b I L A B g) (b + o) (.inl (1, mlen o, .inr (.inl (B' o)))) = (sz, mh b I L A B' g) := by
  unfold hset
  congr 1
  funext q
  by_cases e : q = b + o
  · subst e
    rw [if_pos rfl, mh_arr h0 h1, mcell_l h0 hk]
  · simp only [if_neg e]
    unfold mh
    split
    · rw [mcell_B (hB (q - b) (by omega))]
    · rfl
theorem mh_setO {b sz : Nat} {I I' : Nat → Int32} {L L' : Int64} {A : Nat → Nat → Int32} {B : Nat → Nat → Int64} {g : Nat → Option aE} : hset (sz, mh b I L A B g) b (.inr (8, mF b I' L')) = (sz, mh b I' L' A B g) := by
  unfold hset
  congr 1
  funext q
  by_cases e : q = b
  · subst e
    rw [if_pos rfl, mh_obj]
  · simp only [if_neg e]
    unfold mh
    split
    · obtain ⟨n, hn⟩ : ∃ n, q - b = n + 1 := ⟨q - b - 1, by omega⟩
      rw [hn]
      rfl
    · rfl
theorem mF_put {b k : Nat} {I : Nat → Int32} {L : Int64} {x : Int32} (hk : mty k = 0) : updV (mF b I L) k (.int x) = mF b (upd I k x) L := by
  funext j
  by_cases e : j = k
  · subst e
    simp [updV, mF, hk, upd]
  · simp [updV, mF, upd, e]
theorem mF_putL {b k : Nat} {I : Nat → Int32} {L x : Int64} (hk : mty k = 1) (hu : ∀ j, mty j = 1 → j = k) : updV (mF b I L) k (.long x) = mF b I x := by
  funext j
  by_cases e : j = k
  · subst e
    simp [updV, mF, hk]
  · have : mty j ≠ 1 := fun q => e (hu j q)
    simp only [updV, e, if_false, mF]
    generalize mty j = t at this ⊢
    match t, this with
    | 0, _ => rfl
    | 1, h => exact absurd rfl h
    | n + 2, _ => rfl
section Model
variable {l : Launch} {μ : Mu} {sc : rp_S} {d kc ks : Nat} {Q : Option Value → aH → Prop} {pc q sz b : Nat} {lv : List (Option Value)} {st : List Value} {I : Nat → Int32} {L : Int64} {A : Nat → Nat → Int32} {B : Nat → Nat → Int64} {g : Nat → Option aE}
theorem wm_getI {idx k : Nat} {fin : Bool} (hd : decode μ.2.1 pc = .ok (.getfield idx, 3)) (hf : fl μ.1.cls idx 8 k .int fin) (hk : mty k = 0) (hq : pc + 3 = q) (kk : wp l μ sc d kc ks Q (sz, mh b I L A B g) q lv (.int (I k) :: st)) : wp l μ sc d kc ks Q (sz, mh b I L A B g) pc lv (.ref b :: st) := wp_get hd hf mh_obj hq (by simpa [mF, hk] using kk)
theorem wm_getL {idx k : Nat} {fin : Bool} (hd : decode μ.2.1 pc = .ok (.getfield idx, 3)) (hf : fl μ.1.cls idx 8 k .long fin) (hk : mty k = 1) (hq : pc + 3 = q) (kk : wp l μ sc d kc ks Q (sz, mh b I L A B g) q lv (.long L :: st)) : wp l μ sc d kc ks Q (sz, mh b I L A B g) pc lv (.ref b :: st) := wp_get hd hf mh_obj hq (by simpa [mF, hk] using kk)
theorem wm_getA {idx k o : Nat} {ty : FieldType} {fin : Bool} (hd : decode μ.2.1 pc = .ok (.getfield idx, 3)) (hf : fl μ.1.cls idx 8 k ty fin) (hk : mty k = 2) (ho : moff k = o) (hq : pc + 3 = q) (kk : wp l μ sc d kc ks Q (sz, mh b I L A B g) q lv (.ref (b + o) :: st)) : wp l μ sc d kc ks Q (sz, mh b I L A B g) pc lv (.ref b :: st) := wp_get hd hf mh_obj hq (by subst ho; simpa [mF, hk] using kk)
theorem wm_putI {idx k : Nat} {x : Int32} (hd : decode μ.2.1 pc = .ok (.putfield idx, 3)) (hf : fl μ.1.cls idx 8 k .int false) (hk : mty k = 0) (hq : pc + 3 = q) (kk : wp l μ sc d kc ks Q (sz, mh b (upd I k x) L A B g) q lv st) : wp l μ sc d kc ks Q (sz, mh b I L A B g) pc lv (.int x :: .ref b :: st) := wp_put hd hf mh_obj rfl rfl hq (by rw [mF_put hk, mh_setO]; exact kk)
theorem wm_putL {idx : Nat} {x : Int64} (hd : decode μ.2.1 pc = .ok (.putfield idx, 3)) (hf : fl μ.1.cls idx 8 22 .long false) (hu : ∀ j, mty j = 1 → j = 22) (hq : pc + 3 = q) (kk : wp l μ sc d kc ks Q (sz, mh b I x A B g) q lv st) : wp l μ sc d kc ks Q (sz, mh b I L A B g) pc lv (.long x :: .ref b :: st) := wp_put hd hf mh_obj rfl rfl hq (by rw [mF_putL rfl hu, mh_setO]; exact kk)
theorem wm_iald {o : Nat} {i : Int32} (hd : decode μ.2.1 pc = .ok (.iaload, 1)) (ho : 0 < o ∧ o < 32 ∧ mkd o = 0) (hin : vp_in i (mlen o)) (hq : pc + 1 = q) (kk : wp l μ sc d kc ks Q (sz, mh b I L A B g) q lv (.int (A o i.toNatClampNeg) :: st)) : wp l μ sc d kc ks Q (sz, mh b I L A B g) pc lv (.int i :: .ref (b + o) :: st) := wp_iald hd ((mh_arr ho.1 ho.2.1).trans (by rw [mcell_i ho.1 ho.2.2 (by decide)])) hin hq kk
theorem wm_zald {o : Nat} {i : Int32} (hd : decode μ.2.1 pc = .ok (.baload, 1)) (ho : 0 < o ∧ o < 32 ∧ mkd o = 2) (hin : vp_in i (mlen o)) (hq : pc + 1 = q) (kk : wp l μ sc d kc ks Q (sz, mh b I L A B g) q lv (.int (A o i.toNatClampNeg) :: st)) : wp l μ sc d kc ks Q (sz, mh b I L A B g) pc lv (.int i :: .ref (b + o) :: st) := wp_zald hd ((mh_arr ho.1 ho.2.1).trans (by rw [mcell_i ho.1 ho.2.2 (by decide)])) hin hq kk
theorem wm_lald {o : Nat} {i : Int32} (hd : decode μ.2.1 pc = .ok (.laload, 1)) (ho : 0 < o ∧ o < 32 ∧ mkd o = 1) (hin : vp_in i (mlen o)) (hq : pc + 1 = q) (kk : wp l μ sc d kc ks Q (sz, mh b I L A B g) q lv (.long (B o i.toNatClampNeg) :: st)) : wp l μ sc d kc ks Q (sz, mh b I L A B g) pc lv (.int i :: .ref (b + o) :: st) := wp_lald hd ((mh_arr ho.1 ho.2.1).trans (by rw [mcell_l ho.1 ho.2.2])) hin hq kk
theorem up2_row {α : Type} {A : Nat → Nat → α} {o j : Nat} {x : α} : up2 A o j x o = fun k => if k = j then x else A o k := by
  funext k
  simp [up2]
theorem up2_ne {α : Type} {A : Nat → Nat → α} {o o' j : Nat} {x : α} (h : o' ≠ o) : up2 A o j x o' = A o' := by
  funext k
  simp [up2, h]
theorem wm_iast {o : Nat} {i x : Int32} (hd : decode μ.2.1 pc = .ok (.iastore, 1)) (ho : 0 < o ∧ o < 32 ∧ mkd o = 0) (hin : vp_in i (mlen o)) (hq : pc + 1 = q) (kk : wp l μ sc d kc ks Q (sz, mh b I L (up2 A o i.toNatClampNeg x) B g) q lv st) : wp l μ sc d kc ks Q (sz, mh b I L A B g) pc lv (.int x :: .int i :: .ref (b + o) :: st) := by
  refine wp_iast hd ((mh_arr ho.1 ho.2.1).trans (by rw [mcell_i ho.1 ho.2.2 (by decide)])) hin hq ?_
  have e := mh_setA (sz := sz) (b := b) (I := I) (L := L) (A := A) (A' := up2 A o i.toNatClampNeg x) (B := B) (g := g) ho.1 ho.2.1 ho.2.2 (by decide) (fun o' h => up2_ne h)
  rw [up2_row] at e
  exact e ▸ kk
theorem wm_zast {o : Nat} {i x : Int32} (hd : decode μ.2.1 pc = .ok (.bastore, 1)) (ho : 0 < o ∧ o < 32 ∧ mkd o = 2) (hin : vp_in i (mlen o)) (hx : x = 0 ∨ x = 1) (hq : pc + 1 = q) (kk : wp l μ sc d kc ks Q (sz, mh b I L (up2 A o i.toNatClampNeg x) B g) q lv st) : wp l μ sc d kc ks Q (sz, mh b I L A B g) pc lv (.int x :: .int i :: .ref (b + o) :: st) := by
  refine wp_zast hd ((mh_arr ho.1 ho.2.1).trans (by rw [mcell_i ho.1 ho.2.2 (by decide)])) hin hx hq ?_
  have e := mh_setA (sz := sz) (b := b) (I := I) (L := L) (A := A) (A' := up2 A o i.toNatClampNeg x) (B := B) (g := g) ho.1 ho.2.1 ho.2.2 (by decide) (fun o' h => up2_ne h)
  rw [up2_row] at e
  exact e ▸ kk
theorem wm_last {o : Nat} {i : Int32} {x : Int64} (hd : decode μ.2.1 pc = .ok (.lastore, 1)) (ho : 0 < o ∧ o < 32 ∧ mkd o = 1) (hin : vp_in i (mlen o)) (hq : pc + 1 = q) (kk : wp l μ sc d kc ks Q (sz, mh b I L A (up2 B o i.toNatClampNeg x) g) q lv st) : wp l μ sc d kc ks Q (sz, mh b I L A B g) pc lv (.long x :: .int i :: .ref (b + o) :: st) := by
  refine wp_last hd ((mh_arr ho.1 ho.2.1).trans (by rw [mcell_l ho.1 ho.2.2])) hin hq ?_
  have e := mh_setB (sz := sz) (b := b) (I := I) (L := L) (A := A) (B := B) (B' := up2 B o i.toNatClampNeg x) (g := g) ho.1 ho.2.1 ho.2.2 (fun o' h => up2_ne h)
  rw [up2_row] at e
  exact e ▸ kk
theorem wm_ialdN {o j : Nat} {i : Int32} (hd : decode μ.2.1 pc = .ok (.iaload, 1)) (ho : 0 < o ∧ o < 32 ∧ mkd o = 0) (hi : i = nI j) (hj : j < mlen o) (hs : mlen o < 2 ^ 31) (hq : pc + 1 = q) (kk : wp l μ sc d kc ks Q (sz, mh b I L A B g) q lv (.int (A o j) :: st)) : wp l μ sc d kc ks Q (sz, mh b I L A B g) pc lv (.int i :: .ref (b + o) :: st) := by
  subst hi
  refine wm_iald hd ho (vp_in_nI hj hs) hq ?_
  rw [nI_clamp (Nat.lt_trans hj hs)]
  exact kk
theorem wm_zaldN {o j : Nat} {i : Int32} (hd : decode μ.2.1 pc = .ok (.baload, 1)) (ho : 0 < o ∧ o < 32 ∧ mkd o = 2) (hi : i = nI j) (hj : j < mlen o) (hs : mlen o < 2 ^ 31) (hq : pc + 1 = q) (kk : wp l μ sc d kc ks Q (sz, mh b I L A B g) q lv (.int (A o j) :: st)) : wp l μ sc d kc ks Q (sz, mh b I L A B g) pc lv (.int i :: .ref (b + o) :: st) := by
  subst hi
  refine wm_zald hd ho (vp_in_nI hj hs) hq ?_
  rw [nI_clamp (Nat.lt_trans hj hs)]
  exact kk
theorem wm_laldN {o j : Nat} {i : Int32} (hd : decode μ.2.1 pc = .ok (.laload, 1)) (ho : 0 < o ∧ o < 32 ∧ mkd o = 1) (hi : i = nI j) (hj : j < mlen o) (hs : mlen o < 2 ^ 31) (hq : pc + 1 = q) (kk : wp l μ sc d kc ks Q (sz, mh b I L A B g) q lv (.long (B o j) :: st)) : wp l μ sc d kc ks Q (sz, mh b I L A B g) pc lv (.int i :: .ref (b + o) :: st) := by
  subst hi
  refine wm_lald hd ho (vp_in_nI hj hs) hq ?_
  rw [nI_clamp (Nat.lt_trans hj hs)]
  exact kk
theorem wm_iastN {o j : Nat} {i : Int32} {x : Int32} (hd : decode μ.2.1 pc = .ok (.iastore, 1)) (ho : 0 < o ∧ o < 32 ∧ mkd o = 0) (hi : i = nI j) (hj : j < mlen o) (hs : mlen o < 2 ^ 31) (hq : pc + 1 = q) (kk : wp l μ sc d kc ks Q (sz, mh b I L (up2 A o j x) B g) q lv st) : wp l μ sc d kc ks Q (sz, mh b I L A B g) pc lv (.int x :: .int i :: .ref (b + o) :: st) := by
  subst hi
  refine wm_iast hd ho (vp_in_nI hj hs) hq ?_
  rw [nI_clamp (Nat.lt_trans hj hs)]
  exact kk
theorem wm_zastN {o j : Nat} {i : Int32} {x : Int32} (hd : decode μ.2.1 pc = .ok (.bastore, 1)) (ho : 0 < o ∧ o < 32 ∧ mkd o = 2) (hi : i = nI j) (hj : j < mlen o) (hs : mlen o < 2 ^ 31) (hx : x = 0 ∨ x = 1) (hq : pc + 1 = q) (kk : wp l μ sc d kc ks Q (sz, mh b I L (up2 A o j x) B g) q lv st) : wp l μ sc d kc ks Q (sz, mh b I L A B g) pc lv (.int x :: .int i :: .ref (b + o) :: st) := by
  subst hi
  refine wm_zast hd ho (vp_in_nI hj hs) hx hq ?_
  rw [nI_clamp (Nat.lt_trans hj hs)]
  exact kk
theorem wm_lastN {o j : Nat} {i : Int32} {x : Int64} (hd : decode μ.2.1 pc = .ok (.lastore, 1)) (ho : 0 < o ∧ o < 32 ∧ mkd o = 1) (hi : i = nI j) (hj : j < mlen o) (hs : mlen o < 2 ^ 31) (hq : pc + 1 = q) (kk : wp l μ sc d kc ks Q (sz, mh b I L A (up2 B o j x) g) q lv st) : wp l μ sc d kc ks Q (sz, mh b I L A B g) pc lv (.long x :: .int i :: .ref (b + o) :: st) := by
  subst hi
  refine wm_last hd ho (vp_in_nI hj hs) hq ?_
  rw [nI_clamp (Nat.lt_trans hj hs)]
  exact kk
end Model
