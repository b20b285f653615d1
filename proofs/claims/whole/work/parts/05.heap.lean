/-! RULES of the heap: fields, arrays, new ones, calls -/
def hset (h : aH) (a : Nat) (e : aE) : aH := (h.1, fun q => if q = a then some e else h.2 q)
def hnew (h : aH) (e : aE) : aH := (h.1 + 1, fun q => if q = h.1 then some e else h.2 q)
theorem hset_dom {h : aH} {a : Nat} {e e' : aE} {A : Nat → Prop} (ha : h.2 a = some e) (hd : ∀ q, h.2 q ≠ none → A q) : ∀ q, (hset h a e').2 q ≠ none → A q := by
  intro q hq
  by_cases e1 : q = a
  · subst e1
    exact hd q (by rw [ha]; simp)
  · exact hd q (by simpa [hset, e1] using hq)
theorem rp_at.kept {D : va_G} {cT : Nat → ClassId} {a : Nat} {e : aE} {H H1 : Heap} (h : rp_at D cT a e H) (hq : H1[a]? = H[a]?) : rp_at D cT a e H1 := by
  cases e with
  | inl x => exact hq.trans h
  | inr o =>
    obtain ⟨r, h1, h2⟩ := h
    exact ⟨r, h1, h2.kept hq⟩
theorem rp_at.lt {D : va_G} {cT : Nat → ClassId} {a : Nat} {e : aE} {H : Heap} (h : rp_at D cT a e H) : a < H.size := by
  cases e with
  | inl x => exact (Array.getElem?_eq_some_iff.mp h).1
  | inr o =>
    obtain ⟨r, h1, cell, h2, -⟩ := h
    exact (Array.getElem?_eq_some_iff.mp h2).1
theorem rp_set {D : va_G} {cT : Nat → ClassId} {h : aH} {H H' : Heap} {a : Nat} {e' : aE} (hr : rp D cT h H) (z : H'.size = H.size) (o : ∀ q : Nat, q ≠ a → H'[q]? = H[q]?) (hn : rp_at D cT a e' H') : rp D cT (hset h a e') H' := by
  refine ⟨z.trans hr.1, fun q e hq => ?_⟩
  by_cases e1 : q = a
  · subst e1
    simp [hset] at hq
    subst hq
    exact hn
  · have : h.2 q = some e := by simpa [hset, e1] using hq
    exact (hr.2 q e this).kept (o q e1)
theorem rp_push {D : va_G} {cT : Nat → ClassId} {h : aH} {H H' : Heap} {e' : aE} (hr : rp D cT h H) (z : H'.size = h.1 + 1) (o : ∀ q : Nat, q < h.1 → H'[q]? = H[q]?) (hn : rp_at D cT h.1 e' H') : rp D cT (hnew h e') H' := by
  refine ⟨z, fun q e hq => ?_⟩
  by_cases e1 : q = h.1
  · subst e1
    simp [hnew] at hq
    subst hq
    exact hn
  · have h2 : h.2 q = some e := by simpa [hnew, e1] using hq
    have h3 := hr.2 q e h2
    exact h3.kept (o q (by rw [← hr.1]; exact h3.lt))
/-- a class of the world: its names, fields, words -/
def clOK (ci : Nat) (C : String) (T : u_T) (N : Nat) (ty0 : Nat → FieldType) : Prop := vwCl[ci]? = some (C, T, N) ∧ (∀ w ∈ u_ws C T N, w ∈ gwl) ∧ (∀ k, k < N → parseFieldDescriptor (T k).2.2.1 = some (ty0 k)) ∧ ∀ a, a < N → ∀ b, b < N → a ≠ b → (T a).2.1 ≠ (T b).2.1
/-- a field that a class's constant pool names: field k of class ci, of a type; whether it is final -/
def fl (own : String) (idx ci k : Nat) (ty : FieldType) (fin : Bool) : Prop := ∃ (C : String) (T : u_T) (N : Nat) (ty0 : Nat → FieldType), clOK ci C T N ty0 ∧ k < N ∧ Cond.fieldLink own idx (T k).1 (T k).2.1 (T k).2.2.1 ∈ gwl ∧ ty0 k = ty ∧ (T k).2.2.2 = fin ∧ (T k).1 = C
section Heap
variable {l : Launch} {μ : Mu} {sc : rp_S} {d kc ks : Nat} {Q : Option Value → aH → Prop} {h : aH} {pc q : Nat} {lv : List (Option Value)} {st : List Value}
theorem wp_get {idx ci k a : Nat} {ty : FieldType} {fin : Bool} {F : Nat → Value} (hd : decode μ.2.1 pc = .ok (.getfield idx, 3)) (hf : fl μ.1.cls idx ci k ty fin) (ha : h.2 a = some (.inr (ci, F))) (hq : pc + 3 = q) (kk : wp l μ sc d kc ks Q h q lv (F k :: st)) : wp l μ sc d kc ks Q h pc lv (.ref a :: st) := by
  subst hq
  intro D cT p e R s m args below meth c A Z C z H locs cells slots ls r1 r2 r3 r4 r5 r6
  have kw := kk D cT p e R s m args below meth c A Z C z H locs cells slots ls r1 r2 r3 r4 r5 r6
  obtain ⟨CC, T, N, ty0, ⟨hc, hin, hty, hnm⟩, hk, hl, -, -, -⟩ := hf
  obtain ⟨hx, hb, -, -, hown, hts, -, -, hK, -⟩ := C
  obtain ⟨r, h1, cell, q1, q2, q3, q4⟩ := r1.2 a _ ha
  have hr : r = (CC, T, N) := Option.some.inj (h1.symm.trans hc)
  subst hr
  obtain ⟨hS, hfc, kC, hkC, hkind⟩ := hK.1.1 ci _ hc
  obtain ⟨cf, kf, fi, f, hi, hsl⟩ := hS k hk
  refine W.getf hx hb hown (hts _ hl) hi (u_facts hfc hkC (u_lays hts hin hk) hi).1 q1 (by rw [q3]; exact fun h => by cases h) (v := F k) ?_ rfl rfl hd kw
  rw [hsl, q4 k hk]
/-- an instruction that changes the cell at a -/
theorem wp_upd {a : Nat} {e e' : aE} {pc' : Nat} {st st' : List Value} (ha : h.2 a = some e)
    (f : ∀ (D : va_G) (cT : Nat → ClassId) (p : Program) (en : Env) (R : Room) (s : State) (m : MethodId) (args : Array Value) (below : List Frame) (meth : Method) (c : Code) (A : Nat → Prop) (Z : State → Prop) (H : Heap) (locs : List Loc) (cells slots : Nat) (ls : Array Slot), cx μ sc d D cT p R s m args meth c A → rp D cT h H → (∀ (H' : Heap) (k : Nat), H'.size = H.size → (∀ q : Nat, q ≠ a → H'[q]? = H[q]?) → rp_at D cT a e' H' → W p l en R s m args below meth c H' (locs ++ [⟨a, k⟩]) cells slots Z (F0 m pc' ls st')) → W p l en R s m args below meth c H locs cells slots Z (F0 m pc ls st))
    (kk : wp l μ sc d kc ks Q (hset h a e') pc' lv st') : wp l μ sc d kc ks Q h pc lv st := by
  intro D cT p en R s m args below meth c A Z C z H locs cells slots ls r1 r2 r3 r4 r5 r6
  refine f D cT p en R s m args below meth c A Z H locs cells slots ls C r1 (fun H' k z1 o1 n1 => ?_)
  exact kk D cT p en R s m args below meth c A Z C z H' _ cells slots ls (rp_set r1 z1 o1 n1) (r2.put z1 o1 (r3 a (by rw [ha]; simp))) (hset_dom ha r3) r4 r5 r6
theorem wp_put {idx ci k a : Nat} {ty : FieldType} {F : Nat → Value} {v : Value} (hd : decode μ.2.1 pc = .ok (.putfield idx, 3)) (hf : fl μ.1.cls idx ci k ty false) (ha : h.2 a = some (.inr (ci, F))) (hn : narrow ty v = v) (hfit : fits ty v = true) (hq : pc + 3 = q) (kk : wp l μ sc d kc ks Q (hset h a (.inr (ci, updV F k v))) q lv st) : wp l μ sc d kc ks Q h pc lv (v :: .ref a :: st) := by
  subst hq
  refine wp_upd ha (fun D cT p e R s m args below meth c A Z H locs cells slots ls C r1 w => ?_) kk
  obtain ⟨CC, T, N, ty0, ⟨hc, hin, hty, hnm⟩, hk, hl, rfl, hfin, -⟩ := hf
  obtain ⟨hx, hb, -, -, hown, hts, -, -, hK, -⟩ := C
  have hap := va_apart (own := μ.1.cls) hts hin ty0 hty hnm hK.1 hc
  obtain ⟨r, h1, cell, q1, q2, q3, q4⟩ := r1.2 a _ ha
  have hr : r = (CC, T, N) := Option.some.inj (h1.symm.trans hc)
  subst hr
  obtain ⟨hS, hfc, kC, hkC, hkind⟩ := hK.1.1 ci _ hc
  obtain ⟨cf, kf, fi, f, hi, hsl⟩ := hS k hk
  have hlay := hts _ (hin _ (u_in_lay hk))
  unfold u_lay at hlay
  rw [if_neg (by rw [hfin]; decide)] at hlay
  have hst := (u_facts hfc hkC (u_lays hts hin hk) hi).1
  have h6 := u_store hfc hkC hkind hlay hi (hty k hk) hn hfit
  refine W.putK hx hb (f := f) ⟨hown, hts _ hl, ⟨_, _, _, hi⟩, hst⟩ (by rw [q2]; exact h6) q1 q3 (by rw [hsl]; exact k2_hasslot (q4 k hk)) rfl rfl hd fun H' e1 e2 e3 => ?_
  rw [hsl] at e1
  exact w H' _ e2 e3 ⟨_, hc, ⟨_, e1, q2, q3, t_set q4 hap hk v⟩⟩
theorem wp_putF {idx ci k a : Nat} {ty : FieldType} {F : Nat → Value} {v : Value} (hd : decode μ.2.1 pc = .ok (.putfield idx, 3)) (hf : fl μ.1.cls idx ci k ty true) (hC : (vwCl[ci]?).map (fun q => q.1) = some μ.1.cls) (hnm0 : μ.1.name = "<init>") (ha : h.2 a = some (.inr (ci, F))) (hn : narrow ty v = v) (hfit : fits ty v = true) (hq : pc + 3 = q) (kk : wp l μ sc d kc ks Q (hset h a (.inr (ci, updV F k v))) q lv st) : wp l μ sc d kc ks Q h pc lv (v :: .ref a :: st) := by
  subst hq
  refine wp_upd ha (fun D cT p e R s m args below meth c A Z H locs cells slots ls C r1 w => ?_) kk
  obtain ⟨CC, T, N, ty0, ⟨hc, hin, hty, hnm⟩, hk, hl, rfl, hfin, hTC⟩ := hf
  obtain ⟨hx, hb, -, -, hown, hts, -, hname, hK, -⟩ := C
  have hCC : CC = μ.1.cls := by rw [hc] at hC; exact Option.some.inj hC
  have hap := va_apart (own := μ.1.cls) hts hin ty0 hty hnm hK.1 hc
  obtain ⟨r, h1, cell, q1, q2, q3, q4⟩ := r1.2 a _ ha
  have hr : r = (CC, T, N) := Option.some.inj (h1.symm.trans hc)
  subst hr
  obtain ⟨hS, hfc, kC, hkC, hkind⟩ := hK.1.1 ci _ hc
  obtain ⟨cf, kf, fi, f, hi, hsl⟩ := hS k hk
  have hlay := hts _ (hin _ (u_in_lay hk))
  unfold u_lay at hlay
  rw [if_pos hfin] at hlay
  have hst := (u_facts hfc hkC (u_lays hts hin hk) hi).1
  have hcf : m.cls = cf := by
    obtain ⟨_, _, c', _, _, _, -, -, hf', -, -, -, hown2, -⟩ := Cond.laysFinal_spec hlay
    have e1 : c' = cf := by have := hi.symm.trans hf'; simp at this; exact this.1.symm
    rw [hTC, hCC] at hown2
    rw [← e1]; exact Option.some.inj (hown.symm.trans hown2)
  have h6 := u_fits hfc hkC hkind (Or.inr hlay) hi (hty k hk) hn hfit
  refine W.putFinK hx hb hown (hts _ hl) hi hst hcf (hname.trans hnm0) (by rw [q2]; exact h6) q1 q3 (by rw [hsl]; exact k2_hasslot (q4 k hk)) rfl rfl hd fun H' e1 e2 e3 => ?_
  rw [hsl] at e1
  exact w H' _ e2 e3 ⟨_, hc, ⟨_, e1, q2, q3, t_set q4 hap hk v⟩⟩
/-! arrays: kinds 0 int, 1 long, 2 boolean, 3 int[], 4 long[], 5 .. 7 objects -/
theorem wp_iald {a n : Nat} {f : Nat → Int32} {i : Int32} (hd : decode μ.2.1 pc = .ok (.iaload, 1)) (ha : h.2 a = some (.inl (0, n, .inl f))) (hin : vp_in i n) (hq : pc + 1 = q) (kk : wp l μ sc d kc ks Q h q lv (.int (f i.toNatClampNeg) :: st)) : wp l μ sc d kc ks Q h pc lv (.int i :: .ref a :: st) := by
  subst hq
  intro D cT p e R s m args below meth c A Z C z H locs cells slots ls r1 r2 r3 r4 r5 r6
  have kw := kk D cT p e R s m args below meth c A Z C z H locs cells slots ls r1 r2 r3 r4 r5 r6
  have hlt : i.toNatClampNeg < n := Nat.not_le.mp fun q => hin (Or.inr q)
  exact W.iald (v := .int (f i.toNatClampNeg)) C.1 C.2.1 (r1.2 a _ ha) ((C.2.2.2.2.2.2.2.2.1.1.2 0 (cT 0, .int) rfl).1 n (fun j => .int (f j))) (fun q => by cases q) (by show ¬ (i < 0 ∨ (arrV _ _ _).slots.size ≤ _); rw [arrV_size]; exact hin) (by show (arrV _ _ _).slots[_]? = _; rw [arrV_read _ _ hlt]) rfl rfl hd kw
theorem wp_lald {a n : Nat} {f : Nat → Int64} {i : Int32} (hd : decode μ.2.1 pc = .ok (.laload, 1)) (ha : h.2 a = some (.inl (1, n, .inr (.inl f)))) (hin : vp_in i n) (hq : pc + 1 = q) (kk : wp l μ sc d kc ks Q h q lv (.long (f i.toNatClampNeg) :: st)) : wp l μ sc d kc ks Q h pc lv (.int i :: .ref a :: st) := by
  subst hq
  intro D cT p e R s m args below meth c A Z C z H locs cells slots ls r1 r2 r3 r4 r5 r6
  have kw := kk D cT p e R s m args below meth c A Z C z H locs cells slots ls r1 r2 r3 r4 r5 r6
  have hlt : i.toNatClampNeg < n := Nat.not_le.mp fun q => hin (Or.inr q)
  exact W.lald (v := .long (f i.toNatClampNeg)) C.1 C.2.1 (r1.2 a _ ha) ((C.2.2.2.2.2.2.2.2.1.1.2 1 (cT 1, .long) rfl).1 n (fun j => .long (f j))) (fun q => by cases q) (by show ¬ (i < 0 ∨ (arrV _ _ _).slots.size ≤ _); rw [arrV_size]; exact hin) (by show (arrV _ _ _).slots[_]? = _; rw [arrV_read _ _ hlt]) rfl rfl hd kw
theorem wp_zald {a n : Nat} {f : Nat → Int32} {i : Int32} (hd : decode μ.2.1 pc = .ok (.baload, 1)) (ha : h.2 a = some (.inl (2, n, .inl f))) (hin : vp_in i n) (hq : pc + 1 = q) (kk : wp l μ sc d kc ks Q h q lv (.int (f i.toNatClampNeg) :: st)) : wp l μ sc d kc ks Q h pc lv (.int i :: .ref a :: st) := by
  subst hq
  intro D cT p e R s m args below meth c A Z C z H locs cells slots ls r1 r2 r3 r4 r5 r6
  have kw := kk D cT p e R s m args below meth c A Z C z H locs cells slots ls r1 r2 r3 r4 r5 r6
  have hlt : i.toNatClampNeg < n := Nat.not_le.mp fun q => hin (Or.inr q)
  exact W.zald (v := .int (f i.toNatClampNeg)) C.1 C.2.1 (r1.2 a _ ha) ((C.2.2.2.2.2.2.2.2.1.1.2 2 (cT 2, .boolean) rfl).1 n (fun j => .int (f j))) (fun q => by cases q) (by show ¬ (i < 0 ∨ (arrV _ _ _).slots.size ≤ _); rw [arrV_size]; exact hin) (by show (arrV _ _ _).slots[_]? = _; rw [arrV_read _ _ hlt]) rfl rfl hd kw
theorem wp_aald {a n kd : Nat} {f : Nat → Option Nat} {i : Int32} (hd : decode μ.2.1 pc = .ok (.aaload, 1)) (ha : h.2 a = some (.inl (kd, n, .inr (.inr (.inr (.inr f)))))) (hk : kd = 3 ∨ kd = 4 ∨ kd = 5 ∨ kd = 6 ∨ kd = 7) (hin : vp_in i n) (hq : pc + 1 = q) (kk : wp l μ sc d kc ks Q h q lv (va_rf (f i.toNatClampNeg) :: st)) : wp l μ sc d kc ks Q h pc lv (.int i :: .ref a :: st) := by
  subst hq
  intro D cT p e R s m args below meth c A Z C z H locs cells slots ls r1 r2 r3 r4 r5 r6
  have kw := kk D cT p e R s m args below meth c A Z C z H locs cells slots ls r1 r2 r3 r4 r5 r6
  have hlt : i.toNatClampNeg < n := Nat.not_le.mp fun q => hin (Or.inr q)
  have hr : ∃ ty : FieldType, ty.isReference = true ∧ (rp_T cT)[kd]? = some (cT kd, ty) := by
    rcases hk with rfl | rfl | rfl | rfl | rfl <;> exact ⟨_, rfl, rfl⟩
  obtain ⟨ty, ht, hT⟩ := hr
  exact W.aald (v := va_rf (f i.toNatClampNeg)) (ty := ty) C.1 C.2.1 (r1.2 a _ ha) ((C.2.2.2.2.2.2.2.2.1.1.2 kd (cT kd, ty) hT).1 n (fun j => va_rf (f j))) ht (fun q => by cases q) (by show ¬ (i < 0 ∨ (arrV _ _ _).slots.size ≤ _); rw [arrV_size]; exact hin) (by show (arrV _ _ _).slots[_]? = _; rw [arrV_read _ _ hlt]) rfl rfl hd kw
theorem wp_iast {a n : Nat} {f : Nat → Int32} {i x : Int32} (hd : decode μ.2.1 pc = .ok (.iastore, 1)) (ha : h.2 a = some (.inl (0, n, .inl f))) (hin : vp_in i n) (hq : pc + 1 = q) (kk : wp l μ sc d kc ks Q (hset h a (.inl (0, n, .inl (upd f i.toNatClampNeg x)))) q lv st) : wp l μ sc d kc ks Q h pc lv (.int x :: .int i :: .ref a :: st) := by
  subst hq
  refine wp_upd ha (fun D cT p e R s m args below meth c A Z H locs cells slots ls C r1 w => ?_) kk
  refine W.iast C.1 C.2.1 (r1.2 a _ ha) ((C.2.2.2.2.2.2.2.2.1.1.2 0 (cT 0, .int) rfl).1 n (fun j => .int (f j))) (fun q => by cases q) (by show ¬ (i < 0 ∨ (arrV _ _ _).slots.size ≤ _); rw [arrV_size]; exact hin) rfl rfl hd fun H1 e1 z1 o1 => ?_
  refine w H1 _ z1 o1 ?_
  show H1[a]? = some (vp_cell _ _)
  rw [e1]
  rw [vp_cell_i, vp_cell_i, arrV_store]
  congr 2
  funext y
  by_cases hy : y = i.toNatClampNeg
  · subst hy
    simp [updV, upd]
  · simp [updV, upd, hy]
theorem wp_last {a n : Nat} {f : Nat → Int64} {i : Int32} {x : Int64} (hd : decode μ.2.1 pc = .ok (.lastore, 1)) (ha : h.2 a = some (.inl (1, n, .inr (.inl f)))) (hin : vp_in i n) (hq : pc + 1 = q) (kk : wp l μ sc d kc ks Q (hset h a (.inl (1, n, .inr (.inl (vp_updL f i.toNatClampNeg x))))) q lv st) : wp l μ sc d kc ks Q h pc lv (.long x :: .int i :: .ref a :: st) := by
  subst hq
  refine wp_upd ha (fun D cT p e R s m args below meth c A Z H locs cells slots ls C r1 w => ?_) kk
  refine W.last C.1 C.2.1 (r1.2 a _ ha) ((C.2.2.2.2.2.2.2.2.1.1.2 1 (cT 1, .long) rfl).1 n (fun j => .long (f j))) (fun q => by cases q) (by show ¬ (i < 0 ∨ (arrV _ _ _).slots.size ≤ _); rw [arrV_size]; exact hin) rfl rfl hd fun H1 e1 z1 o1 => ?_
  refine w H1 _ z1 o1 ?_
  show H1[a]? = some (vp_cell _ _)
  rw [e1]
  rw [vp_cell_l, vp_cell_l, arrV_store]
  congr 2
  funext y
  by_cases hy : y = i.toNatClampNeg
  · subst hy
    simp [updV, vp_updL]
  · simp [updV, vp_updL, hy]
theorem wp_zast {a n : Nat} {f : Nat → Int32} {i x : Int32} (hd : decode μ.2.1 pc = .ok (.bastore, 1)) (ha : h.2 a = some (.inl (2, n, .inl f))) (hin : vp_in i n) (hx : x = 0 ∨ x = 1) (hq : pc + 1 = q) (kk : wp l μ sc d kc ks Q (hset h a (.inl (2, n, .inl (upd f i.toNatClampNeg x)))) q lv st) : wp l μ sc d kc ks Q h pc lv (.int x :: .int i :: .ref a :: st) := by
  subst hq
  refine wp_upd ha (fun D cT p e R s m args below meth c A Z H locs cells slots ls C r1 w => ?_) kk
  refine W.zast C.1 C.2.1 (r1.2 a _ ha) ((C.2.2.2.2.2.2.2.2.1.1.2 2 (cT 2, .boolean) rfl).1 n (fun j => .int (f j))) (fun q => by cases q) (by show ¬ (i < 0 ∨ (arrV _ _ _).slots.size ≤ _); rw [arrV_size]; exact hin) rfl rfl hd fun H1 e1 z1 o1 => ?_
  refine w H1 _ z1 o1 ?_
  show H1[a]? = some (vp_cell _ _)
  have hnr : narrow .boolean (.int x) = .int x := by rcases hx with rfl | rfl <;> decide
  rw [e1, hnr]
  rw [vp_cell_i, vp_cell_i, arrV_store]
  congr 2
  funext y
  by_cases hy : y = i.toNatClampNeg
  · subst hy
    simp [updV, upd]
  · simp [updV, upd, hy]
/-- an array's length -/
theorem wp_alen {a kd : Nat} {x : vp_A} {v : Int32} (hd : decode μ.2.1 pc = .ok (.arraylength, 1)) (ha : h.2 a = some (.inl (kd, x))) (hk : kd < 8) (hv : Int32.ofNat x.1 = v) (hq : pc + 1 = q) (kk : wp l μ sc d kc ks Q h q lv (.int v :: st)) : wp l μ sc d kc ks Q h pc lv (.ref a :: st) := by
  subst hq
  subst hv
  intro D cT p e R s m args below meth c A Z C z H locs cells slots ls r1 r2 r3 r4 r5 r6
  have kw := kk D cT p e R s m args below meth c A Z C z H locs cells slots ls r1 r2 r3 r4 r5 r6
  have hr : ∃ ty : FieldType, (rp_T cT)[kd]? = some (cT kd, ty) := by
    rcases (show kd = 0 ∨ kd = 1 ∨ kd = 2 ∨ kd = 3 ∨ kd = 4 ∨ kd = 5 ∨ kd = 6 ∨ kd = 7 by omega) with rfl | rfl | rfl | rfl | rfl | rfl | rfl | rfl <;> exact ⟨_, rfl⟩
  obtain ⟨ty, hT⟩ := hr
  have hP : va_P D vwCl [(a, .inl (cT kd, x))] H := fun k9 x9 h9 => by
    have h0 : k9 < 1 := (List.getElem?_eq_some_iff.mp h9).1
    rw [show k9 = 0 by omega] at h9
    cases h9
    exact r1.2 a _ ha
  exact va_alen C.1 C.2.1 C.2.2.2.2.2.2.2.2.1.1 hP 0 kd rfl hT rfl hd kw
/-- the law's script -/
theorem wp_sld {b L : Nat} {xs : Nat → Int32} {i : Int32} (hd : decode μ.2.1 pc = .ok (.iaload, 1)) (hb : (b, L, xs) ∈ sc) (hin : vp_in i L) (hq : pc + 1 = q) (kk : wp l μ sc d kc ks Q h q lv (.int (xs i.toNatClampNeg) :: st)) : wp l μ sc d kc ks Q h pc lv (.int i :: .ref b :: st) := by
  subst hq
  intro D cT p e R s m args below meth c A Z C z H locs cells slots ls r1 r2 r3 r4 r5 r6
  obtain ⟨hX, hbl, hbA⟩ := C.2.2.2.2.2.2.2.2.2.2.2.2 _ hb
  exact va_sld C.1 C.2.1 hX hbl hbA r2 hin hd (kk D cT p e R s m args below meth c A Z C z H locs cells slots ls r1 r2 r3 r4 r5 r6)
theorem wp_slen {b L : Nat} {xs : Nat → Int32} (hd : decode μ.2.1 pc = .ok (.arraylength, 1)) (hb : (b, L, xs) ∈ sc) (hq : pc + 1 = q) (kk : wp l μ sc d kc ks Q h q lv (.int (Int32.ofNat L) :: st)) : wp l μ sc d kc ks Q h pc lv (.ref b :: st) := by
  subst hq
  intro D cT p e R s m args below meth c A Z C z H locs cells slots ls r1 r2 r3 r4 r5 r6
  obtain ⟨hX, hbl, hbA⟩ := C.2.2.2.2.2.2.2.2.2.2.2.2 _ hb
  exact va_slen C.1 C.2.1 hX hbl hbA r2 hd (kk D cT p e R s m args below meth c A Z C z H locs cells slots ls r1 r2 r3 r4 r5 r6)
end Heap
