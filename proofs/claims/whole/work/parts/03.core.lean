/-! THE CORE: a judgement 'wp' over an abstract heap (a size, and a cell or none for each address), and a method's contract 'mt' over it. -/
/-- an abstract cell: an array (its kind, length, contents) or an object (its class's number, its fields) -/
abbrev aE : Type := (Nat × vp_A) ⊕ (Nat × (Nat → Value))
abbrev aH : Type := Nat × (Nat → Option aE)
abbrev Mu : Type := MethodName × ByteArray × Nat × Option FieldType
def rp_at (D : va_G) (cT : Nat → ClassId) (a : Nat) (e : aE) (H : Heap) : Prop := match e with
  | .inl x => H[a]? = some (vp_cell (cT x.1) x.2)
  | .inr o => ∃ r : vw_C, vwCl[o.1]? = some r ∧ t_OB a (D.1 o.1) r.2.2 (D.2 o.1) H o.2
def rp (D : va_G) (cT : Nat → ClassId) (h : aH) (H : Heap) : Prop := H.size = h.1 ∧ ∀ (a : Nat) (e : aE), h.2 a = some e → rp_at D cT a e H
def rp_T (cT : Nat → ClassId) : List (ClassId × FieldType) := [(cT 0, .int), (cT 1, .long), (cT 2, .boolean), (cT 3, .array .int), (cT 4, .array .long), (cT 5, .object "RunLaws$Point"), (cT 6, .object "RunLaws$Facts"), (cT 7, .object "RunLaws$Act")]
def rp_K (D : va_G) (cT : Nat → ClassId) (U : State) : Prop := va_K D vwCl (rp_T cT) U ∧ (∀ a i x b, Cond.methodLinkNest a i x b ∈ lw_tbl → va_Nw (.methodLinkNest a i x b) U) ∧ (∀ C, Cond.arrayOver (.object C) ∈ lw_tbl → va_AO C U) ∧ ∀ t, Cond.arrayOver (.array t) ∈ lw_tbl → (Cond.arrayOver (.array t)).before #[] U = true
def rp_A (h : aH) : Nat → Prop := fun q => h.2 q ≠ none ∨ h.1 ≤ q
def rp_Q (D : va_G) (cT : Nat → ClassId) (Q : Option Value → aH → Prop) (A : Nat → Prop) : Array Value → State → Outcome → State → Prop := fun _ st oc t => (∃ (rv : Option Value) (h' : aH), oc = .returned rv ∧ Q rv h' ∧ rp D cT h' t.heap ∧ ∀ q, h'.2 q ≠ none → A q) ∧ va_F A st t
def rp_ws (μ : Mu) : List Cond := .code μ.1 μ.2.1 μ.2.2.1 μ.2.2.2 :: gwl
def rp_rm (d kc ks : Nat) : Room := { frames := d, cells := kc, slots := ks, locals := 40 * d }
/-- a method's contract: from the heap h with the arguments av it returns rv, the heap being h', with Q rv h' -/
def mt (l : Launch) (μ : Mu) (d kc ks : Nat) (av : List Value) (h : aH) (Q : Option Value → aH → Prop) : Prop :=
  ∀ (D : va_G) (cT : Nat → ClassId), Met l μ.1 (rp_ws μ) (rp_rm d kc ks) (va_Pc av (fun U => rp D cT h U.heap ∧ rp_K D cT U)) (rp_Q D cT Q (rp_A h)) kc ks (rp_A h)
def lw_L (ls : Array Slot) (nL : Nat) (lv : List (Option Value)) : Prop := ls.size = nL ∧ lv_wf ls ∧ ∀ (i : Nat) (v : Value), lv[i]? = some (some v) → ls[i]? = some (.val v)
abbrev rp_S : Type := List (Nat × Nat × (Nat → Int32))
def cx (μ : Mu) (sc : rp_S) (d : Nat) (D : va_G) (cT : Nat → ClassId) (p : Program) (R : Room) (s : State) (m : MethodId) (args : Array Value) (meth : Method) (c : Code) (A : Nat → Prop) : Prop :=
  p.tables.exec = Jvm.exec ∧ c.code = μ.2.1 ∧ meth.sig.returnType = μ.2.2.2 ∧ c.maxLocals = μ.2.2.1 ∧ s.vm.findClass μ.1.cls = some m.cls ∧ (∀ w ∈ gwl, w.before args s = true) ∧ meth.locks = false ∧ meth.name = μ.1.name ∧ rp_K D cT s ∧ (∀ q : Nat, s.heap.size ≤ q → A q) ∧ d ≤ R.frames ∧ 40 * d ≤ R.locals ∧ ∀ b ∈ sc, va_X b.1 b.2.1 b.2.2 s s.heap ∧ b.1 < s.heap.size ∧ ¬ A b.1
/-- what an instruction that ends a method may leave -/
def rOK (ret : Option FieldType) (ri : Instr) (rv : Option Value) : Prop :=
  (ret = none ∧ ri = .return_ ∧ rv = none) ∨ (∃ v : Int32, ret = some .int ∧ ri = .ireturn ∧ rv = some (.int v)) ∨ (∃ v : Int32, ret = some .boolean ∧ ri = .ireturn ∧ rv = some (.int v) ∧ (v = 0 ∨ v = 1)) ∨ (∃ v : Int64, ret = some .long ∧ ri = .lreturn ∧ rv = some (.long v)) ∨ (∃ (v : Value) (t : FieldType), ret = some t ∧ ((∃ n, t = .object n) ∨ ∃ u, t = .array u) ∧ (v = .null ∨ ∃ a, v = .ref a) ∧ ri = .areturn ∧ rv = some v)
def zt (l : Launch) (μ : Mu) (D : va_G) (cT : Nat → ClassId) (p : Program) (e : Env) (R : Room) (s : State) (m : MethodId) (args : Array Value) (below : List Frame) (meth : Method) (c : Code) (A : Nat → Prop) (Q : Option Value → aH → Prop) (Z : State → Prop) : Prop :=
  ∀ (rv : Option Value) (h' : aH) (H' : Heap) (locs' : List Loc) (cells' slots' pc' : Nat) (ls' : Array Slot) (ri : Instr), Q rv h' → rp D cT h' H' → va_S A s.heap H' locs' → (∀ q, h'.2 q ≠ none → A q) → cells' ≤ R.cells → slots' ≤ R.slots → rOK μ.2.2.2 ri rv → decode μ.2.1 pc' = .ok (ri, 1) → W p l e R s m args below meth c H' locs' cells' slots' Z (F0 m pc' ls' rv.toList)
/-- THE JUDGEMENT: from here (heap h, program counter, locals, stack) the method ends with Q -/
def wp (l : Launch) (μ : Mu) (sc : rp_S) (d kc ks : Nat) (Q : Option Value → aH → Prop) (h : aH) (pc : Nat) (lv : List (Option Value)) (st : List Value) : Prop :=
  ∀ (D : va_G) (cT : Nat → ClassId) (p : Program) (e : Env) (R : Room) (s : State) (m : MethodId) (args : Array Value) (below : List Frame) (meth : Method) (c : Code) (A : Nat → Prop) (Z : State → Prop), cx μ sc d D cT p R s m args meth c A → zt l μ D cT p e R s m args below meth c A Q Z →
    ∀ (H : Heap) (locs : List Loc) (cells slots : Nat) (ls : Array Slot), rp D cT h H → va_S A s.heap H locs → (∀ q, h.2 q ≠ none → A q) → lw_L ls μ.2.2.1 lv → cells + kc ≤ R.cells → slots + ks ≤ R.slots → W p l e R s m args below meth c H locs cells slots Z (F0 m pc ls st)
/-! locals -/
def isWide : Value → Bool
  | .long _ => true
  | .double _ => true
  | _ => false
theorem isWide_cat (v : Value) : isWide v = true ↔ v.category = 2 := by cases v <;> simp [isWide, Value.category]
def clrW (o : Option Value) : Option Value := match o with
  | none => none
  | some w => match isWide w with
    | true => none
    | false => some w
def st1 : List (Option Value) → Nat → Value → List (Option Value)
  | [], _, _ => []
  | _ :: r, 0, v => some v :: r
  | o :: r, 1, v => clrW o :: st1 r 0 v
  | o :: r, n + 2, v => o :: st1 r (n + 1) v
def st2 : List (Option Value) → Nat → Value → List (Option Value)
  | [], _, _ => []
  | _ :: [], 0, v => [some v]
  | _ :: _ :: r, 0, v => some v :: none :: r
  | o :: r, 1, v => clrW o :: st2 r 0 v
  | o :: r, n + 2, v => o :: st2 r (n + 1) v
def ent : List Value → Nat → List (Option Value)
  | [], n => List.replicate n none
  | v :: vs, n => match isWide v with
    | true => some v :: none :: ent vs (n - 2)
    | false => some v :: ent vs (n - 1)
theorem st1_spec : ∀ (lv : List (Option Value)) (i : Nat) (v w : Value) (j : Nat), (st1 lv i v)[j]? = some (some w) → (j = i ∧ w = v) ∨ (j ≠ i ∧ lv[j]? = some (some w) ∧ ¬ (j + 1 = i ∧ w.category = 2))
  | [], i, v, w, j, h => by simp [st1] at h
  | o :: r, 0, v, w, j, h => by
    cases j with
    | zero => simp [st1] at h; exact Or.inl ⟨rfl, h.symm⟩
    | succ j => exact Or.inr ⟨by omega, by simpa [st1] using h, by omega⟩
  | o :: r, 1, v, w, j, h => by
    cases j with
    | zero =>
      simp only [st1, List.getElem?_cons_zero, Option.some.injEq] at h
      cases o with
      | none => simp [clrW] at h
      | some z =>
        cases hz : isWide z with
        | true => simp [clrW, hz] at h
        | false =>
          simp [clrW, hz] at h
          subst h
          exact Or.inr ⟨by omega, rfl, fun q => by have := (isWide_cat z).mpr q.2; rw [hz] at this; cases this⟩
    | succ j =>
      have h2 : (st1 r 0 v)[j]? = some (some w) := by simpa [st1] using h
      rcases st1_spec r 0 v w j h2 with ⟨a, b⟩ | ⟨a, b, c⟩
      · exact Or.inl ⟨by omega, b⟩
      · exact Or.inr ⟨by omega, by simpa using b, by omega⟩
  | o :: r, n + 2, v, w, j, h => by
    cases j with
    | zero => exact Or.inr ⟨by omega, by simpa [st1] using h, by omega⟩
    | succ j =>
      have h2 : (st1 r (n + 1) v)[j]? = some (some w) := by simpa [st1] using h
      rcases st1_spec r (n + 1) v w j h2 with ⟨a, b⟩ | ⟨a, b, c⟩
      · exact Or.inl ⟨by omega, b⟩
      · exact Or.inr ⟨by omega, by simpa using b, fun q => c ⟨by omega, q.2⟩⟩
theorem st2_spec : ∀ (lv : List (Option Value)) (i : Nat) (v w : Value) (j : Nat), (st2 lv i v)[j]? = some (some w) → (j = i ∧ w = v) ∨ (j ≠ i ∧ j ≠ i + 1 ∧ lv[j]? = some (some w) ∧ ¬ (j + 1 = i ∧ w.category = 2))
  | [], i, v, w, j, h => by simp [st2] at h
  | [o], 0, v, w, j, h => by
    cases j with
    | zero => simp [st2] at h; exact Or.inl ⟨rfl, h.symm⟩
    | succ j => simp [st2] at h
  | o :: o2 :: r, 0, v, w, j, h => by
    match j with
    | 0 => simp [st2] at h; exact Or.inl ⟨rfl, h.symm⟩
    | 1 => simp [st2] at h
    | j + 2 => exact Or.inr ⟨by omega, by omega, by simpa [st2] using h, by omega⟩
  | o :: r, 1, v, w, j, h => by
    cases j with
    | zero =>
      simp only [st2, List.getElem?_cons_zero, Option.some.injEq] at h
      cases o with
      | none => simp [clrW] at h
      | some z =>
        cases hz : isWide z with
        | true => simp [clrW, hz] at h
        | false =>
          simp [clrW, hz] at h
          subst h
          exact Or.inr ⟨by omega, by omega, rfl, fun q => by have := (isWide_cat z).mpr q.2; rw [hz] at this; cases this⟩
    | succ j =>
      have h2 : (st2 r 0 v)[j]? = some (some w) := by simpa [st2] using h
      rcases st2_spec r 0 v w j h2 with ⟨a, b⟩ | ⟨a, b, c, e⟩
      · exact Or.inl ⟨by omega, b⟩
      · exact Or.inr ⟨by omega, by omega, by simpa using c, by omega⟩
  | o :: r, n + 2, v, w, j, h => by
    cases j with
    | zero => exact Or.inr ⟨by omega, by omega, by simpa [st2] using h, by omega⟩
    | succ j =>
      have h2 : (st2 r (n + 1) v)[j]? = some (some w) := by simpa [st2] using h
      rcases st2_spec r (n + 1) v w j h2 with ⟨a, b⟩ | ⟨a, b, c, e⟩
      · exact Or.inl ⟨by omega, b⟩
      · exact Or.inr ⟨by omega, by omega, by simpa using c, fun q => e ⟨by omega, q.2⟩⟩
def toP : Nat → List (Option Value) → List (Nat × Value)
  | _, [] => []
  | k, none :: r => toP (k + 1) r
  | k, some v :: r => (k, v) :: toP (k + 1) r
theorem toP_of : ∀ (lv : List (Option Value)) (k j : Nat) (v : Value), lv[j]? = some (some v) → (k + j, v) ∈ toP k lv
  | [], k, j, v, h => by simp at h
  | o :: r, k, 0, v, h => by
    simp at h
    subst h
    simp [toP]
  | o :: r, k, j + 1, v, h => by
    have h2 : r[j]? = some (some v) := by simpa using h
    have h3 := toP_of r (k + 1) j v h2
    have e : k + (j + 1) = k + 1 + j := by omega
    rw [e]
    cases o with
    | none => exact h3
    | some w => exact List.mem_cons_of_mem _ h3
theorem toP_in : ∀ (lv : List (Option Value)) (k : Nat) (q : Nat × Value), q ∈ toP k lv → k ≤ q.1 ∧ lv[q.1 - k]? = some (some q.2)
  | [], k, q, h => by simp [toP] at h
  | none :: r, k, q, h => by
    obtain ⟨a, b⟩ := toP_in r (k + 1) q h
    refine ⟨by omega, ?_⟩
    rw [show q.1 - k = (q.1 - (k + 1)) + 1 by omega]
    simpa using b
  | some v :: r, k, q, h => by
    rcases List.mem_cons.mp h with rfl | h
    · simp
    · obtain ⟨a, b⟩ := toP_in r (k + 1) q h
      refine ⟨by omega, ?_⟩
      rw [show q.1 - k = (q.1 - (k + 1)) + 1 by omega]
      simpa using b
theorem lw_L.has {ls : Array Slot} {nL : Nat} {lv : List (Option Value)} (h : lw_L ls nL lv) : lv_has ls nL (toP 0 lv) := by
  refine ⟨h.1, h.2.1, fun q hq => ?_⟩
  have := toP_in lv 0 q hq
  exact h.2.2 _ _ (by simpa using this.2)
theorem lw_L.of {ls : Array Slot} {nL : Nat} {l : List (Nat × Value)} {lv : List (Option Value)} (h : lv_has ls nL l) (hs : ∀ (i : Nat) (v : Value), lv[i]? = some (some v) → (i, v) ∈ l) : lw_L ls nL lv := ⟨h.1, h.2.1, fun i v hi => h.2.2 (i, v) (hs i v hi)⟩
theorem lw_store1 {ls : Array Slot} {nL i : Nat} {lv : List (Option Value)} {v : Value} (h2 : lv_has ls nL ((i, v) :: (toP 0 lv).filter (fun q => !(q.1 == i) && !(q.1 + 1 == i && q.2.category == 2)))) : lw_L ls nL (st1 lv i v) := by
  refine lw_L.of h2 (fun j w hj => ?_)
  rcases st1_spec lv i v w j hj with ⟨rfl, rfl⟩ | ⟨a, b, c⟩
  · exact List.mem_cons_self
  · refine List.mem_cons_of_mem _ (List.mem_filter.mpr ⟨by simpa using toP_of lv 0 j w b, ?_⟩)
    simp only [Bool.and_eq_true, Bool.not_eq_true', beq_eq_false_iff_ne, ne_eq, Bool.and_eq_false_iff]
    refine ⟨a, ?_⟩
    by_cases e : j + 1 = i
    · exact Or.inr (fun q => c ⟨e, q⟩)
    · exact Or.inl e
theorem lw_store2 {ls : Array Slot} {nL i : Nat} {lv : List (Option Value)} {v : Value} (h2 : lv_has ls nL ((i, v) :: (toP 0 lv).filter (fun q => !(q.1 == i) && (!(q.1 == i + 1) && !(q.1 + 1 == i && q.2.category == 2))))) : lw_L ls nL (st2 lv i v) := by
  refine lw_L.of h2 (fun j w hj => ?_)
  rcases st2_spec lv i v w j hj with ⟨rfl, rfl⟩ | ⟨a, a2, b, c⟩
  · exact List.mem_cons_self
  · refine List.mem_cons_of_mem _ (List.mem_filter.mpr ⟨by simpa using toP_of lv 0 j w b, ?_⟩)
    simp only [Bool.and_eq_true, Bool.not_eq_true', beq_eq_false_iff_ne, ne_eq, Bool.and_eq_false_iff]
    refine ⟨a, a2, ?_⟩
    by_cases e : j + 1 = i
    · exact Or.inr (fun q => c ⟨e, q⟩)
    · exact Or.inl e
theorem ent_spec : ∀ (vs : List Value) (n k j : Nat) (v : Value), (ent vs n)[j]? = some (some v) → (k + j, v) ∈ lv_args k vs
  | [], n, k, j, v, h => by
    simp only [ent, List.getElem?_replicate] at h
    split at h <;> simp at h
  | w :: vs, n, k, j, v, h => by
    cases hw : isWide w with
    | true =>
      have hc := (isWide_cat w).mp hw
      simp only [ent, hw] at h
      simp only [lv_args, hc, if_true]
      match j with
      | 0 => simp at h; subst h; exact List.mem_cons_self
      | 1 => simp at h
      | j + 2 =>
        have := ent_spec vs (n - 2) (k + 2) j v (by simpa using h)
        rw [show k + (j + 2) = k + 2 + j by omega]
        exact List.mem_cons_of_mem _ this
    | false =>
      have hc : ¬ w.category = 2 := fun q => by have := (isWide_cat w).mpr q; rw [hw] at this; cases this
      simp only [ent, hw] at h
      simp only [lv_args, hc, if_false]
      match j with
      | 0 => simp at h; subst h; exact List.mem_cons_self
      | j + 1 =>
        have := ent_spec vs (n - 1) (k + 1) j v (by simpa using h)
        rw [show k + (j + 1) = k + 1 + j by omega]
        exact List.mem_cons_of_mem _ this
theorem lw_entry (vs : List Value) {n : Nat} (h : (lg_sl vs).length ≤ n) : lw_L ((lg_sl vs ++ List.replicate (n - (lg_sl vs).length) Slot.unset).toArray) n (ent vs n) := lw_L.of (lv_entry vs h) (fun j v hj => by simpa using ent_spec vs n 0 j v hj)
/-! tables that move -/
theorem rp_K.warm {D : va_G} {cT : Nat → ClassId} {s U : State} (hW : s.WarmedH U.vm) (h : rp_K D cT s) : rp_K D cT U := ⟨va_K.moved hW.alike h.1, fun a i x b hm => va_Nw.warmM hW (h.2.1 a i x b hm), fun C hm => va_AO.moved hW.alike (h.2.2.1 C hm), fun t hm => Jvm.Stand.arrayOver_alikeB hW.alike (h.2.2.2 t hm)⟩
theorem rp_K.call {D : va_G} {cT : Nat → ClassId} {U : State} {g : JFrame} {mk : MethodId} {a : Array Value} (h : rp_K D cT U) : rp_K D cT (U.calling g mk a) := ⟨va_K.moved (u := U) (U := U.calling g mk a) (Vm.Alike.refl U.vm) h.1, fun a i x b hm => va_Nw.same rfl rfl (h.2.1 a i x b hm), fun C hm => va_AO.moved (u := U) (U := U.calling g mk a) (Vm.Alike.refl U.vm) (h.2.2.1 C hm), fun t hm => Jvm.Stand.arrayOver_alikeB (s := U) (U := U.calling g mk a) (Vm.Alike.refl U.vm) (h.2.2.2 t hm)⟩
/-- Met out of a walk, for a method in whose place no native stands, whatever its class's name -/
theorem ofWF {l : Launch} {y : MethodName} {ws ws' : List Cond} {rm : Room} {Pc : Array Value → State → Prop} {Qc : Array Value → State → Outcome → State → Prop} {mc ms : Nat} {free : Addr → Prop} {cc : ByteArray} {maxL : Nat} {ret : Option FieldType} (hy : plainFor y = true) (hw : ws = Cond.code y cc maxL ret :: ws')
    (body : ∀ p e s m args below meth c s₁, BodyLoose p l y (headSpec ws rm) cc maxL ret e s m args below meth c s₁ → c.maxLocals = maxL → Pc args s → W p l e (headSpec ws rm).room s m args below meth c s.heap [] 0 0 (MQ below Qc args s mc ms free) (entryFrame m args maxL)) : Met l y ws rm Pc Qc mc ms free := by
  refine MetFree.of_bodySF (code := cc) (maxLocals := maxL) (ret := ret) hy (fun args s m h hn => ?_) (fun p e s m args below meth c s₁ B hml hP _ => ?_)
  · obtain ⟨meth, c, h1, h2, h3, h4, h5, h6, -, -⟩ := Cond.code_spec hn (atoms_spec (ws := ws) h _ (by rw [hw]; exact List.mem_cons_self))
    exact ⟨meth, c, h1, h2, h3, h4, h5, h6⟩
  · obtain ⟨t, a1, o, b1, b2, b3⟩ := body p e s m args below meth c s₁ B hml hP s₁ (by rw [B.state]; rfl) (Stand.of_body B)
    exact ⟨t, o, a1, b1, b2, ⟨b3.1, b3.2⟩⟩
/-- a method's contract out of its body -/
theorem mt_ofF {l : Launch} {μ : Mu} {d kc ks : Nat} {av : List Value} {h : aH} {Q : Option Value → aH → Prop} (hy : plainFor μ.1 = true) (hn : (lg_sl av).length ≤ μ.2.2.1) (k : wp l μ [] d kc ks Q h 0 (ent av μ.2.2.1) []) : mt l μ d kc ks av h Q := by
  intro D cT
  refine ofWF (cc := μ.2.1) (maxL := μ.2.2.1) (ret := μ.2.2.2) hy rfl ?_
  intro p e s m args below meth c s₁ B hml hv
  obtain ⟨rfl, hrp, hK⟩ := hv
  have hlocks := B.notSynchronized
  have hts := atoms_spec (ws := rp_ws μ) B.pre
  have hA : ∀ q : Nat, s.heap.size ≤ q → rp_A h q := fun q hq => Or.inr (by rw [← hrp.1]; exact hq)
  rw [lg_entry_eq]
  refine k D cT p e _ s m _ below meth c (rp_A h) _ ⟨B.exec, B.bytes, B.returns, hml, findClass_of_methodNamed B.named, fun w hw => hts w (List.mem_cons_of_mem _ hw), hlocks, (name_of_methodNamed B.named B.method).1, hK, hA, Nat.le_refl _, Nat.le_refl _, fun b hb => by cases hb⟩ ?_ s.heap [] 0 0 _ hrp va_S.rf (fun q hq => Or.inl hq) (lw_entry av hn) (by show 0 + kc ≤ kc; omega) (by show 0 + ks ≤ ks; omega)
  intro rv h' H' locs' cells' slots' pc' ls' ri hQ hrp' hS' hdom hc hs hok hd
  refine W.widen (k := kc) (n := ks) hc hs ?_
  have hq : ∀ t : State, t.heap = H' → s.WarmedH t.vm → rp_Q D cT Q (rp_A h) av.toArray s (.returned rv) t := fun t ht _ => ⟨⟨rv, h', rfl, hQ, by rw [ht]; exact hrp', hdom⟩, hS'.F ht⟩
  rcases hok with ⟨h1, h2, h3⟩ | ⟨v, h1, h2, h3⟩ | ⟨v, h1, h2, h3, h4⟩ | ⟨v, h1, h2, h3⟩ | ⟨v, t, h1, h5, h6, h2, h3⟩
  · subst h3; subst h2
    exact W.vret B.exec B.bytes (B.returns.trans h1) hq hS'.2.2 hd
  · subst h3; subst h2
    exact W.iret B.exec B.bytes (B.returns.trans h1) hq hS'.2.2 hd
  · subst h3; subst h2
    exact W.zret B.exec B.bytes (B.returns.trans h1) (by rcases h4 with rfl | rfl <;> decide) hq hS'.2.2 hd
  · subst h3; subst h2
    exact W.lret B.exec B.bytes (B.returns.trans h1) hq hS'.2.2 hd
  · subst h3; subst h2
    exact W.aret B.exec B.bytes (B.returns.trans h1) h5 h6 hq hS'.2.2 hd
theorem mt_of {l : Launch} {μ : Mu} {d kc ks : Nat} {av : List Value} {h : aH} {Q : Option Value → aH → Prop} (hy : plainName μ.1.cls = true) (hn : (lg_sl av).length ≤ μ.2.2.1) (k : wp l μ [] d kc ks Q h 0 (ent av μ.2.2.1) []) : mt l μ d kc ks av h Q := mt_ofF (plainFor_of_name hy) hn k
