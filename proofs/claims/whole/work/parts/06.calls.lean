theorem vr_outer (c : ClassId) (N h0 : Nat) : ∀ i : Nat, Jvm.Free.Multi.outerC c N h0 i = arrV c N (fun j => va_rf (if j < i then some (h0 + 1 + j) else none))
  | 0 => by
    show ({ cls := c, slots := Array.replicate N .null, vm := .none } : Cell) = _
    rw [arrV_new]
    refine congrArg (arrV c N) (funext fun j => ?_)
    simp [va_rf]
  | i + 1 => by
    show (Jvm.Free.Multi.outerC c N h0 i).setSlot i (.ref (h0 + 1 + i)) = _
    rw [vr_outer c N h0 i, arrV_store]
    refine congrArg (arrV c N) (funext fun j => ?_)
    by_cases e : j = i
    · subst e
      simp [updV, va_rf]
    · by_cases h : j < i
      · simp [updV, e, h, Nat.lt_succ_of_lt h]
      · simp [updV, e, h, show ¬ j < i + 1 by omega]
/-! RULES of new cells and of calls -/
theorem gwl_good {w : Cond} (h : w ∈ gwl) : (w.onTables && w.keeps) = true ∨ ∃ ty, w = .arrayClass ty := good_of_word (List.mem_filter.mp h).2
/-- outer array at the end of the heap, the inner ones behind it -/
def hmul (h : aH) (kd ki N : Nat) (z : vp_A) : aH := (h.1 + 1 + N, fun q => if q = h.1 then some (.inl (kd, N, .inr (.inr (.inr (.inr (fun i => if i < N then some (h.1 + 1 + i) else none)))))) else if h.1 < q ∧ q ≤ h.1 + N then some (.inl (ki, z)) else h.2 q)
theorem rp_old {D : va_G} {cT : Nat → ClassId} {h : aH} {H : Heap} (r : rp D cT h H) {q : Nat} {e : aE} (hq : h.2 q = some e) : q < h.1 := by
  rw [← r.1]
  exact (r.2 q e hq).lt
section Calls
variable {l : Launch} {μ : Mu} {sc : rp_S} {d kc ks : Nat} {Q : Option Value → aH → Prop} {h : aH} {pc q : Nat} {lv : List (Option Value)} {st : List Value}
theorem wp_new {idx ci N : Nat} {C : String} {T : u_T} {ty0 : Nat → FieldType} (hd : decode μ.2.1 pc = .ok (.new idx, 3)) (hc : clOK ci C T N ty0) (hl : Cond.classLink μ.1.cls idx C ∈ gwl) (hi : Cond.instantiable C N ∈ gwl) (hz : Cond.initialized C ∈ gwl) (hkc : 1 ≤ kc) (hks : N ≤ ks) (hq : pc + 3 = q) (kk : wp l μ sc d (kc - 1) (ks - N) Q (hnew h (.inr (ci, fun k => defaultValue (ty0 k)))) q lv (.ref h.1 :: st)) : wp l μ sc d kc ks Q h pc lv st := by
  subst hq
  intro D cT p e R s m args below meth c A Z C0 z H locs cells slots ls r1 r2 r3 r4 r5 r6
  obtain ⟨hcl, hin, hty, hnm⟩ := hc
  have hts := C0.2.2.2.2.2.1
  have hKn := C0.2.2.2.2.2.2.2.2.1.1.1 ci _ hcl
  have hA := C0.2.2.2.2.2.2.2.2.2.1
  refine W.newcK C0.1 C0.2.1 C0.2.2.2.2.1 (hts _ hl) (hts _ hi) (hts _ hz) rfl hd (by omega) (by omega) hKn.2.1 r1.1 fun H1 kC hkC e1 z1 o1 => ?_
  refine kk D cT p e R s m args below meth c A Z C0 z H1 locs (cells + 1) (slots + N) ls (rp_push r1 z1 o1 ⟨_, hcl, u_born ty0 hts hin hKn hkC e1 hty⟩) ⟨Nat.le_trans r2.1 (by rw [z1, r1.1]; omega), fun x h1 h2 => (o1 x (by rw [← r1.1]; exact Nat.lt_of_lt_of_le h1 r2.1)).trans (r2.2.1 x h1 h2), r2.2.2⟩ (fun x hx => ?_) r4 (by omega) (by omega)
  by_cases e2 : x = h.1
  · exact hA x (by rw [e2, ← r1.1]; exact r2.1)
  · exact r3 x (by simpa [hnew, e2] using hx)
theorem wp_newa {atype : ArrayType} {kd N : Nat} {n : Int32} {a0 : vp_A} (hd : decode μ.2.1 pc = .ok (.newarray atype, 2)) (hw : Cond.arrayClass (newarray.typeOf atype) ∈ gwl) (hkd : (kd, newarray.typeOf atype) ∈ [(0, FieldType.int), (1, .long), (2, .boolean)]) (ha : ∀ cA : ClassId, vp_cell cA a0 = arrV cA N (fun _ => defaultValue (newarray.typeOf atype))) (hn : ¬ n < 0) (hN : n.toNatClampNeg = N) (hb : N ≤ 60000000) (hkc : 1 ≤ kc) (hks : N ≤ ks) (hq : pc + 2 = q) (kk : wp l μ sc d (kc - 1) (ks - N) Q (hnew h (.inl (kd, a0))) q lv (.ref h.1 :: st)) : wp l μ sc d kc ks Q h pc lv (.int n :: st) := by
  subst hq
  intro D cT p e R s m args below meth c A Z C0 z H locs cells slots ls r1 r2 r3 r4 r5 r6
  have hts := C0.2.2.2.2.2.1
  have hK := C0.2.2.2.2.2.2.2.2.1.1.2
  have hA := C0.2.2.2.2.2.2.2.2.2.1
  have hby : N * componentBytes (newarray.typeOf atype) ≤ 536870912 := by
    have : componentBytes (newarray.typeOf atype) ≤ 8 := by cases atype <;> decide
    have h2 := Nat.mul_le_mul_left N this
    omega
  refine va_newaK C0.1 C0.2.1 (hts _ hw) rfl hd rfl hn hN hby (by omega) (by omega) r1.1 fun H1 cA e1 z1 o1 hAr hNm => ?_
  have hcA : cA = cT kd := by
    simp only [List.mem_cons, Prod.mk.injEq, List.not_mem_nil, or_false] at hkd
    rcases hkd with ⟨rfl, e3⟩ | ⟨rfl, e3⟩ | ⟨rfl, e3⟩
    · rw [e3] at hNm; exact Option.some.inj (hNm.symm.trans (hK 0 (cT 0, .int) rfl).2)
    · rw [e3] at hNm; exact Option.some.inj (hNm.symm.trans (hK 1 (cT 1, .long) rfl).2)
    · rw [e3] at hNm; exact Option.some.inj (hNm.symm.trans (hK 2 (cT 2, .boolean) rfl).2)
  subst hcA
  refine kk D cT p e R s m args below meth c A Z C0 z H1 locs (cells + 1) (slots + N) ls (rp_push r1 z1 o1 (by show H1[h.1]? = some (vp_cell _ _); rw [ha]; exact e1)) ⟨Nat.le_trans r2.1 (by rw [z1, r1.1]; omega), fun x h1 h2 => (o1 x (by rw [← r1.1]; exact Nat.lt_of_lt_of_le h1 r2.1)).trans (r2.2.1 x h1 h2), r2.2.2⟩ (fun x hx => ?_) r4 (by omega) (by omega)
  by_cases e2 : x = h.1
  · exact hA x (by rw [e2, ← r1.1]; exact r2.1)
  · exact r3 x (by simpa [hnew, e2] using hx)
theorem wp_newI {N : Nat} {n : Int32} (hd : decode μ.2.1 pc = .ok (.newarray .int, 2)) (hw : Cond.arrayClass .int ∈ gwl) (hn : ¬ n < 0) (hN : n.toNatClampNeg = N) (hb : N ≤ 60000000) (hkc : 1 ≤ kc) (hks : N ≤ ks) (hq : pc + 2 = q) (kk : wp l μ sc d (kc - 1) (ks - N) Q (hnew h (.inl (0, N, .inl (fun _ => 0)))) q lv (.ref h.1 :: st)) : wp l μ sc d kc ks Q h pc lv (.int n :: st) := wp_newa hd hw (by simp [newarray.typeOf]) (fun _ => rfl) hn hN hb hkc hks hq kk
theorem wp_newJ {N : Nat} {n : Int32} (hd : decode μ.2.1 pc = .ok (.newarray .long, 2)) (hw : Cond.arrayClass .long ∈ gwl) (hn : ¬ n < 0) (hN : n.toNatClampNeg = N) (hb : N ≤ 60000000) (hkc : 1 ≤ kc) (hks : N ≤ ks) (hq : pc + 2 = q) (kk : wp l μ sc d (kc - 1) (ks - N) Q (hnew h (.inl (1, N, .inr (.inl (fun _ => 0))))) q lv (.ref h.1 :: st)) : wp l μ sc d kc ks Q h pc lv (.int n :: st) := wp_newa hd hw (by simp [newarray.typeOf]) (fun _ => rfl) hn hN hb hkc hks hq kk
theorem wp_newZ {N : Nat} {n : Int32} (hd : decode μ.2.1 pc = .ok (.newarray .boolean, 2)) (hw : Cond.arrayClass .boolean ∈ gwl) (hn : ¬ n < 0) (hN : n.toNatClampNeg = N) (hb : N ≤ 60000000) (hkc : 1 ≤ kc) (hks : N ≤ ks) (hq : pc + 2 = q) (kk : wp l μ sc d (kc - 1) (ks - N) Q (hnew h (.inl (2, N, .inl (fun _ => 0)))) q lv (.ref h.1 :: st)) : wp l μ sc d kc ks Q h pc lv (.int n :: st) := wp_newa hd hw (by simp [newarray.typeOf]) (fun _ => rfl) hn hN hb hkc hks hq kk
theorem wp_newq {idx kd N : Nat} {C : String} {n : Int32} (hd : decode μ.2.1 pc = .ok (.anewarray idx, 3)) (hl : Cond.classLink μ.1.cls idx C ∈ gwl) (ho : Cond.arrayOver (.object C) ∈ lw_tbl) (hkd : (kd, C) ∈ [(5, "RunLaws$Point"), (6, "RunLaws$Facts"), (7, "RunLaws$Act")]) (hn : ¬ n < 0) (hN : n.toNatClampNeg = N) (hb : N ≤ 60000000) (hkc : 1 ≤ kc) (hks : N ≤ ks) (hq : pc + 3 = q) (kk : wp l μ sc d (kc - 1) (ks - N) Q (hnew h (.inl (kd, N, .inr (.inr (.inr (.inr (fun _ => none))))))) q lv (.ref h.1 :: st)) : wp l μ sc d kc ks Q h pc lv (.int n :: st) := by
  subst hq
  subst hN
  intro D cT p e R s m args below meth c A Z C0 z H locs cells slots ls r1 r2 r3 r4 r5 r6
  have hts := C0.2.2.2.2.2.1
  have hK := C0.2.2.2.2.2.2.2.2.1.1.2
  have hA := C0.2.2.2.2.2.2.2.2.2.1
  refine W.anew C0.1 C0.2.1 C0.2.2.2.2.1 (hts _ hl) (va_AO.use (C0.2.2.2.2.2.2.2.2.1.2.2.1 _ ho)) rfl hd rfl hn (by omega) (by omega) (by omega) fun cA kA comp f1 f2 f3 f4 => ?_
  have hcA : cA = cT kd := by
    simp only [List.mem_cons, Prod.mk.injEq, List.not_mem_nil, or_false] at hkd
    rcases hkd with ⟨rfl, rfl⟩ | ⟨rfl, rfl⟩ | ⟨rfl, rfl⟩
    · obtain ⟨_, _, _, _, _, g⟩ := (hK 5 (cT 5, .object "RunLaws$Point") rfl).2; exact Option.some.inj (f1.symm.trans g)
    · obtain ⟨_, _, _, _, _, g⟩ := (hK 6 (cT 6, .object "RunLaws$Facts") rfl).2; exact Option.some.inj (f1.symm.trans g)
    · obtain ⟨_, _, _, _, _, g⟩ := (hK 7 (cT 7, .object "RunLaws$Act") rfl).2; exact Option.some.inj (f1.symm.trans g)
  subst hcA
  have z1 : (H.push ({ cls := cT kd, slots := Array.replicate n.toNatClampNeg .null, vm := .none } : Cell)).size = h.1 + 1 := by rw [Array.size_push, r1.1]
  have o1 : ∀ q : Nat, q < h.1 → (H.push ({ cls := cT kd, slots := Array.replicate n.toNatClampNeg .null, vm := .none } : Cell))[q]? = H[q]? := fun q hq => by rw [Array.getElem?_push, if_neg (Nat.ne_of_lt (by rw [r1.1]; exact hq))]
  have kw := kk D cT p e R s m args below meth c A Z C0 z _ locs (cells + 1) (slots + n.toNatClampNeg) ls (rp_push r1 z1 o1 (by show _ = some (vp_cell _ _); rw [← r1.1, Array.getElem?_push_size, vp_cell_q, arrV_new]; rfl)) ⟨Nat.le_trans r2.1 (by rw [z1, r1.1]; omega), fun x h1 h2 => (o1 x (by rw [← r1.1]; exact Nat.lt_of_lt_of_le h1 r2.1)).trans (r2.2.1 x h1 h2), r2.2.2⟩ (fun x hx => ?_) r4 (by omega) (by omega)
  · rw [← r1.1] at kw
    exact kw
  · by_cases e2 : x = h.1
    · exact hA x (by rw [e2, ← r1.1]; exact r2.1)
    · exact r3 x (by simpa [hnew, e2] using hx)
theorem wp_mul {idx kd ki N M : Nat} {ty : FieldType} {n k : Int32} {z0 : vp_A} (hd : decode μ.2.1 pc = .ok (.multianewarray idx 2, 4)) (hl : Cond.classLink μ.1.cls idx ("[" ++ (FieldType.array ty).toString) ∈ gwl) (ho : Cond.arrayOver (.array ty) ∈ lw_tbl) (hw : Cond.arrayClass ty ∈ gwl) (hkd : (kd, ki, ty) ∈ [(3, 0, FieldType.int), (4, 1, .long)]) (hz0 : ∀ c : ClassId, Jvm.Free.Multi.innerC c M (defaultValue ty) = vp_cell c z0) (hn : ¬ n < 0) (hk : ¬ k < 0) (hN : n.toNatClampNeg = N) (hM : k.toNatClampNeg = M) (hb : N ≤ 60000000) (hb2 : M ≤ 60000000) (hkc : 1 + N ≤ kc) (hks : N + N * M ≤ ks) (hq : pc + 4 = q) (kk : wp l μ sc d (kc - (1 + N)) (ks - (N + N * M)) Q (hmul h kd ki N z0) q lv (.ref h.1 :: st)) : wp l μ sc d kc ks Q h pc lv (.int k :: .int n :: st) := by
  subst hq
  subst hN
  subst hM
  intro D cT p e R s m args below meth c A Z C0 z H locs cells slots ls r1 r2 r3 r4 r5 r6
  have hts := C0.2.2.2.2.2.1
  have hK := C0.2.2.2.2.2.2.2.2.1.1.2
  have hA := C0.2.2.2.2.2.2.2.2.2.1
  have hby : k.toNatClampNeg * componentBytes ty ≤ 536870912 := by
    simp only [List.mem_cons, Prod.mk.injEq, List.not_mem_nil, or_false] at hkd
    rcases hkd with ⟨-, -, rfl⟩ | ⟨-, -, rfl⟩ <;> simp only [componentBytes] <;> omega
  have hdf : fits ty (defaultValue ty) = true ∧ (defaultValue ty).isDefault = true := by
    simp only [List.mem_cons, Prod.mk.injEq, List.not_mem_nil, or_false] at hkd
    rcases hkd with ⟨-, -, rfl⟩ | ⟨-, -, rfl⟩ <;> exact ⟨rfl, rfl⟩
  intro T hT Xs
  obtain ⟨vm₁, cA, comp, -, fA, fC, hO, -, X', step⟩ := Xs.multianewarray2F C0.1 C0.2.2.2.2.1 (hts _ hl) (Jvm.Stand.arrayOver_alikeB (s := s) (U := s) (Vm.Alike.refl s.vm) (C0.2.2.2.2.2.2.2.2.1.2.2.2 _ ho)) (hts _ hw) (g := F0 m pc ls (.int k :: .int n :: st)) rfl (by rw [C0.2.1]; exact hd) rfl hn hk (by omega) hby (by omega) hdf.1 hdf.2 (by omega) (by omega)
  have hc : cA = cT kd ∧ comp = cT ki := by
    simp only [List.mem_cons, Prod.mk.injEq, List.not_mem_nil, or_false] at hkd
    rcases hkd with ⟨rfl, rfl, rfl⟩ | ⟨rfl, rfl, rfl⟩
    · exact ⟨Option.some.inj (fA.symm.trans (hK 3 (cT 3, .array .int) rfl).2), Option.some.inj (fC.symm.trans (hK 0 (cT 0, .int) rfl).2)⟩
    · exact ⟨Option.some.inj (fA.symm.trans (hK 4 (cT 4, .array .long) rfl).2), Option.some.inj (fC.symm.trans (hK 1 (cT 1, .long) rfl).2)⟩
  obtain ⟨rfl, rfl⟩ := hc
  generalize hF : Jvm.Free.Multi.fill (T.setVm vm₁) (cT kd) (cT ki) n.toNatClampNeg k.toNatClampNeg (defaultValue ty) n.toNatClampNeg = F at X' step
  have hTh : (T.setVm vm₁).heap = H := hT
  have hsz : H.size = h.1 := r1.1
  obtain ⟨f1, f2, -, -⟩ := Jvm.Free.Multi.fill_facts (T.setVm vm₁) (cT kd) (cT ki) n.toNatClampNeg k.toNatClampNeg (defaultValue ty) n.toNatClampNeg
  rw [hF, hTh] at f1 f2
  have hold : ∀ x : Nat, x < H.size → F.heap[x]? = H[x]? := fun x hx => by
    have := Jvm.Free.Multi.fill_old (T.setVm vm₁) (cT kd) (cT ki) n.toNatClampNeg k.toNatClampNeg (defaultValue ty) (a := x) (by rw [hTh]; exact hx) n.toNatClampNeg
    rw [hF, hTh] at this
    exact this
  have hrow : ∀ j : Nat, j < n.toNatClampNeg → F.heap[H.size + 1 + j]? = some (vp_cell (cT ki) z0) := fun j hj => by
    have := Jvm.Free.Multi.fill_inner (T.setVm vm₁) (cT kd) (cT ki) n.toNatClampNeg k.toNatClampNeg (defaultValue ty) n.toNatClampNeg j hj
    rw [hF, hTh, hz0] at this
    exact this
  have hout : Jvm.Free.Multi.outerC (cT kd) n.toNatClampNeg H.size n.toNatClampNeg = vp_cell (cT kd) (n.toNatClampNeg, .inr (.inr (.inr (.inr (fun i => if i < n.toNatClampNeg then some (H.size + 1 + i) else none))))) := by
    rw [vp_cell_q]
    exact vr_outer (cT kd) n.toNatClampNeg H.size n.toNatClampNeg
  rw [hout] at f2
  have hrp : rp D cT (hmul h kd ki n.toNatClampNeg z0) F.heap := by
    refine ⟨by rw [f1, hsz]; rfl, fun x ex hx => ?_⟩
    by_cases e1 : x = h.1
    · subst e1
      simp [hmul] at hx
      subst hx
      show F.heap[h.1]? = some (vp_cell _ _)
      rw [← hsz]
      exact f2
    · by_cases e2 : h.1 < x ∧ x ≤ h.1 + n.toNatClampNeg
      · have : ex = .inl (ki, z0) := by simp [hmul, e1, e2] at hx; exact hx.symm
        subst this
        show F.heap[x]? = some (vp_cell _ _)
        have := hrow (x - (h.1 + 1)) (by omega)
        rw [hsz, show h.1 + 1 + (x - (h.1 + 1)) = x by omega] at this
        exact this
      · have h2 : h.2 x = some ex := by simpa [hmul, e1, e2] using hx
        have h3 := r1.2 x ex h2
        exact h3.kept (hold x h3.lt)
  have kw := kk D cT p e R s m args below meth c A Z C0 z F.heap locs (cells + 1 + n.toNatClampNeg) (slots + n.toNatClampNeg + n.toNatClampNeg * k.toNatClampNeg) ls hrp ⟨by rw [f1]; have := r2.1; omega, fun x h1 h2 => (hold x (Nat.lt_of_lt_of_le h1 r2.1)).trans (r2.2.1 x h1 h2), r2.2.2⟩ (fun x hx => by
    by_cases e1 : x = h.1
    · exact hA x (by rw [e1, ← hsz]; exact r2.1)
    · by_cases e2 : h.1 < x ∧ x ≤ h.1 + n.toNatClampNeg
      · exact hA x (by have := r2.1; omega)
      · exact r3 x (by simpa [hmul, e1, e2] using hx)) r4 (by omega) (by omega)
  obtain ⟨t, a1, b1⟩ := kw F rfl X'
  refine ⟨t, step t ?_, b1⟩
  have e : T.heap.size = h.1 := by rw [hT]; exact hsz
  rw [e]
  exact a1
theorem wp_callR {d' kc' ks' : Nat} {av : List Value} {Q' : Option Value → aH → Prop} {rest : List Value} (hkc : kc' ≤ kc) (hks : ks' ≤ ks)
    (f : ∀ (D : va_G) (cT : Nat → ClassId) (p : Program) (e : Env) (R : Room) (s : State) (m : MethodId) (args : Array Value) (below : List Frame) (meth : Method) (c : Code) (A : Nat → Prop) (H : Heap) (locs : List Loc) (cells slots : Nat) (ls : Array Slot), cx μ sc d D cT p R s m args meth c A → rp D cT h H → lw_L ls μ.2.2.1 lv → cells + kc' ≤ R.cells → slots + ks' ≤ R.slots → va_Run p l e R s m args below meth c H locs cells slots kc' ks' (F0 m pc ls st) rest (rp_Q D cT Q' (rp_A h) av.toArray) (rp_A h))
    (kk : ∀ (rv : Option Value) (h' : aH), Q' rv h' → wp l μ sc d (kc - kc') (ks - ks') Q h' (pc + 3) lv (rv.toList ++ rest)) : wp l μ sc d kc ks Q h pc lv st := by
  intro D cT p e R s m args below meth c A Z C z H locs cells slots ls r1 r2 r3 r4 r5 r6
  intro T hT X
  obtain ⟨v, st₀, t, T', L, h0, X', hL, e1, e2, ⟨⟨rv, h', hv, hQ, hr', hdom⟩, hz, hk⟩, go⟩ := f D cT p e R s m args below meth c A H locs cells slots ls C r1 r4 (by omega) (by omega) T hT X
  cases hv
  rw [h0] at hz hk
  have hA1 : ∀ x, rp_A h x → A x := fun x hx => by
    rcases hx with hx | hx
    · exact r3 x hx
    · exact C.2.2.2.2.2.2.2.2.2.1 x (Nat.le_trans r2.1 (by rw [r1.1]; exact hx))
  obtain ⟨t2, a1, b1⟩ := kk v h' hQ D cT p e R s m args below meth c A Z C z T'.heap (locs ++ L) (cells + kc') (slots + ks') ls (by rw [e1]; exact hr') ⟨Nat.le_trans r2.1 (by rw [e1]; exact hz), fun x h1 h2 => by rw [e1, hk x (Nat.lt_of_lt_of_le h1 r2.1) (fun q => h2 (hA1 x q))]; exact r2.2.1 x h1 h2, fun x hx => by
      rcases List.mem_append.mp hx with g | g
      · exact r2.2.2 x g
      · exact hA1 _ (hL x g)⟩ (fun x hx => hA1 x (hdom x hx)) r4 (by omega) (by omega) T' rfl X'
  exact ⟨t2, go t2 a1, b1⟩
/-- what the tables say of a method that is called -/
def mOK (μ : Mu) (n : Nat) : Prop := Cond.code μ.1 μ.2.1 μ.2.2.1 μ.2.2.2 ∈ gwl ∧ Cond.initialized μ.1.cls ∈ gwl ∧ (μ.1.cls ≠ "java/lang/invoke/MethodHandle" ∧ μ.1.cls ≠ "java/lang/invoke/VarHandle") ∧ (parseMethodDescriptor μ.1.desc).map (fun q => q.parameters.length) = some n ∧ μ.2.2.1 ≤ 21
theorem mOK.len {μ : Mu} {n : Nat} (h : mOK μ n) : ∀ sig, parseMethodDescriptor μ.1.desc = some sig → n = sig.parameters.length := fun sig hs => by
  have h2 := h.2.2.2.1
  rw [hs] at h2
  exact (Option.some.inj h2).symm
theorem mOK.words {μ : Mu} {n : Nat} (h : mOK μ n) {s : State} {args : Array Value} (hts : ∀ w ∈ gwl, w.before args s = true) : ∀ w ∈ rp_ws μ, ∀ (a' : Array Value) (U : State), s.WarmedH U.vm → w.before a' U = true := by
  intro w hw a' U hW
  have hg : w ∈ gwl := by
    rcases List.mem_cons.mp hw with rfl | hw
    · exact h.1
    · exact hw
  exact word_at hW (gwl_good hg) (hts w hg)
theorem rp_pre {D : va_G} {cT : Nat → ClassId} {h : aH} {av : List Value} : FrameBlind (va_Pc av (fun U => rp D cT h U.heap ∧ rp_K D cT U)) := fun a U g mk q => ⟨q.1, q.2.1, q.2.2.call⟩
theorem wp_callV {μ' : Mu} {d' kc' ks' idx n b ci : Nat} {F : Nat → Value} {As rest : List Value} {Q' : Option Value → aH → Prop} (M : mt l μ' d' kc' ks' (.ref b :: As) h Q') (hd : decode μ.2.1 pc = .ok (.invokevirtual idx, 3)) (ho : mOK μ' n) (hw : Cond.methodLink μ.1.cls idx μ'.1 ∈ gwl ∧ Cond.instanceMethod μ'.1 ∈ gwl ∧ Cond.selects μ'.1.cls μ'.1 μ'.1 ∈ gwl) (hb : h.2 b = some (.inr (ci, F))) (hci : (vwCl[ci]?).map (fun q => q.1) = some μ'.1.cls) (hn : As.length = n) (hst : st = As.reverse ++ .ref b :: rest) (hW : (rest.map fun v => v.category).sum ≤ 8) (hdd : d' + 1 ≤ d) (hkc : kc' ≤ kc) (hks : ks' ≤ ks) (hq : pc + 3 = q) (kk : ∀ (rv : Option Value) (h' : aH), Q' rv h' → wp l μ sc d (kc - kc') (ks - ks') Q h' q lv (rv.toList ++ rest)) : wp l μ sc d kc ks Q h pc lv st := by
  subst hq
  refine wp_callR (d' := d') (av := .ref b :: As) hkc hks (fun D cT p e R s m args below meth c A H locs cells slots ls C r1 r4 r5 r6 => ?_) kk
  obtain ⟨hx, hbb, -, hml, hown, hts, -, -, hK, -, hf1, hf2, -⟩ := C
  have hcl : ∃ r : vw_C, vwCl[ci]? = some r ∧ r.1 = μ'.1.cls := by
    cases hr : vwCl[ci]? with
    | none => rw [hr] at hci; cases hci
    | some r => rw [hr] at hci; exact ⟨r, rfl, Option.some.inj hci⟩
  obtain ⟨r, hr1, hr2⟩ := hcl
  obtain ⟨r', h1, cell, g1, g2, g3, -⟩ := r1.2 b _ hb
  have hmx := ho.2.2.2.2
  refine va_runV (Ts := gwl) (own := μ.1.cls) (C := μ'.1.cls) (bytes := μ'.2.1) (maxL := μ'.2.2.1) (ret := μ'.2.2.2) (nL := μ.2.2.1) (n := n) (b := b) (As := As) ⟨hx, hbb, hml, hown, hts⟩ (M D cT) ⟨⟨rfl, rfl, ?_, ?_, ho.words hts, List.mem_cons_self, hts _ ho.1, hts _ ho.2.1, ho.2.2.1, ho.len, hts _ hw.1⟩, hts _ hw.2.1, hts _ hw.2.2⟩ ⟨rp_pre, ⟨cell, g1, by rw [g3]; rfl, by rw [g2, ← hr2]; exact (hK.1.1 ci r hr1).2.1⟩, fun U hU hWm => ⟨rfl, by rw [hU]; exact r1, hK.warm hWm⟩⟩ rfl hn r4.1 hst ?_ hd ⟨r5, r6⟩
  · show d' + 1 ≤ R.frames; omega
  · show 8 + (μ'.2.2.1 + 11) + 40 * d' ≤ R.locals; omega
  · show 2 * 0 + _ ≤ 8; omega
theorem wp_callS {μ' : Mu} {d' kc' ks' idx n : Nat} {As rest : List Value} {Q' : Option Value → aH → Prop} (M : mt l μ' d' kc' ks' As h Q') (hd : decode μ.2.1 pc = .ok (.invokestatic idx, 3)) (ho : mOK μ' n) (hw : Cond.methodLink μ.1.cls idx μ'.1 ∈ gwl ∧ Cond.static μ'.1 ∈ gwl) (hn : As.length = n) (hst : st = As.reverse ++ rest) (hW : (rest.map fun v => v.category).sum ≤ 8) (hdd : d' + 1 ≤ d) (hkc : kc' ≤ kc) (hks : ks' ≤ ks) (hq : pc + 3 = q) (kk : ∀ (rv : Option Value) (h' : aH), Q' rv h' → wp l μ sc d (kc - kc') (ks - ks') Q h' q lv (rv.toList ++ rest)) : wp l μ sc d kc ks Q h pc lv st := by
  subst hq
  refine wp_callR (d' := d') (av := As) hkc hks (fun D cT p e R s m args below meth c A H locs cells slots ls C r1 r4 r5 r6 => ?_) kk
  obtain ⟨hx, hbb, -, hml, hown, hts, -, -, hK, -, hf1, hf2, -⟩ := C
  have hmx := ho.2.2.2.2
  refine va_runS (Ts := gwl) (own := μ.1.cls) (bytes := μ'.2.1) (maxL := μ'.2.2.1) (ret := μ'.2.2.2) (nL := μ.2.2.1) (n := n) (As := As) ⟨hx, hbb, hml, hown, hts⟩ (M D cT) ⟨⟨rfl, rfl, ?_, ?_, ho.words hts, List.mem_cons_self, hts _ ho.1, hts _ ho.2.1, ho.2.2.1, ho.len, hts _ hw.1⟩, hts _ hw.2⟩ ⟨rp_pre, fun U hU hWm => ⟨rfl, by rw [hU]; exact r1, hK.warm hWm⟩⟩ rfl hn r4.1 hst ?_ hd ⟨r5, r6⟩
  · show d' + 1 ≤ R.frames; omega
  · show 8 + (μ'.2.2.1 + 11) + 40 * d' ≤ R.locals; omega
  · show 2 * 0 + _ ≤ 8; omega
theorem wp_callSN {μ' : Mu} {d' kc' ks' idx n : Nat} {host : String} {As rest : List Value} {Q' : Option Value → aH → Prop} (M : mt l μ' d' kc' ks' As h Q') (hd : decode μ.2.1 pc = .ok (.invokestatic idx, 3)) (ho : mOK μ' n) (hw : Cond.methodLinkNest μ.1.cls idx μ'.1 host ∈ lw_tbl ∧ Cond.static μ'.1 ∈ gwl) (hn : As.length = n) (hst : st = As.reverse ++ rest) (hW : (rest.map fun v => v.category).sum ≤ 8) (hdd : d' + 1 ≤ d) (hkc : kc' ≤ kc) (hks : ks' ≤ ks) (hq : pc + 3 = q) (kk : ∀ (rv : Option Value) (h' : aH), Q' rv h' → wp l μ sc d (kc - kc') (ks - ks') Q h' q lv (rv.toList ++ rest)) : wp l μ sc d kc ks Q h pc lv st := by
  subst hq
  refine wp_callR (d' := d') (av := As) hkc hks (fun D cT p e R s m args below meth c A H locs cells slots ls C r1 r4 r5 r6 => ?_) kk
  obtain ⟨hx, hbb, -, hml, hown, hts, -, -, hK, -, hf1, hf2, -⟩ := C
  have hmx := ho.2.2.2.2
  refine va_runSN (Ts := gwl) (own := μ.1.cls) (host := host) (bytes := μ'.2.1) (maxL := μ'.2.2.1) (ret := μ'.2.2.2) (nL := μ.2.2.1) (n := n) (As := As) ⟨hx, hbb, hml, hown, hts⟩ (M D cT) ⟨⟨⟨rfl, rfl, ?_, ?_, ho.words hts, List.mem_cons_self⟩, hts _ ho.1, hts _ ho.2.1, ho.2.2.1, ho.len, va_Nw.use rfl (hK.2.1 _ _ _ _ hw.1)⟩, hts _ hw.2, trivial⟩ ⟨rp_pre, fun U hU hWm => ⟨rfl, by rw [hU]; exact r1, hK.warm hWm⟩⟩ rfl hn r4.1 hst ?_ hd ⟨r5, r6⟩
  · show d' + 1 ≤ R.frames; omega
  · show 8 + (μ'.2.2.1 + 11) + 40 * d' ≤ R.locals; omega
  · show 2 * 0 + _ ≤ 8; omega
theorem wp_callI {μ' : Mu} {d' kc' ks' idx n b : Nat} {As rest : List Value} {Q' : Option Value → aH → Prop} (M : mt l μ' d' kc' ks' (.ref b :: As) h Q') (hd : decode μ.2.1 pc = .ok (.invokespecial idx, 3)) (ho : mOK μ' n) (hret : μ'.2.2.2 = none) (hnm : μ'.1.name = "<init>") (hw : Cond.methodLink μ.1.cls idx μ'.1 ∈ gwl ∧ Cond.instanceMethod μ'.1 ∈ gwl) (hn : As.length = n) (hst : st = As.reverse ++ .ref b :: rest) (hW : (rest.map fun v => v.category).sum ≤ 8) (hdd : d' + 1 ≤ d) (hkc : kc' ≤ kc) (hks : ks' ≤ ks) (hq : pc + 3 = q) (kk : ∀ (rv : Option Value) (h' : aH), Q' rv h' → wp l μ sc d (kc - kc') (ks - ks') Q h' q lv (rv.toList ++ rest)) : wp l μ sc d kc ks Q h pc lv st := by
  subst hq
  refine wp_callR (d' := d') (av := .ref b :: As) hkc hks (fun D cT p e R s m args below meth c A H locs cells slots ls C r1 r4 r5 r6 => ?_) kk
  obtain ⟨hx, hbb, -, hml, hown, hts, -, -, hK, -, hf1, hf2, -⟩ := C
  have hmx := ho.2.2.2.2
  have hcode : Cond.code μ'.1 μ'.2.1 μ'.2.2.1 none ∈ rp_ws μ' := by rw [← hret]; exact List.mem_cons_self
  refine va_runI (Ts := gwl) (own := μ.1.cls) (bytes := μ'.2.1) (maxL := μ'.2.2.1) (nL := μ.2.2.1) (n := n) (b := b) (As := As) ⟨hx, hbb, hml, hown, hts⟩ (M D cT) ⟨⟨rfl, rfl, ?_, ?_, ho.words hts, hcode, by rw [← hret]; exact hts _ ho.1, hts _ ho.2.1, ho.2.2.1, ho.len, hts _ hw.1⟩, hnm, hts _ hw.2⟩ ⟨rp_pre, fun U hU hWm => ⟨rfl, by rw [hU]; exact r1, hK.warm hWm⟩⟩ rfl hn r4.1 hst ?_ hd ⟨r5, r6⟩
  · show d' + 1 ≤ R.frames; omega
  · show 8 + (μ'.2.2.1 + 11) + 40 * d' ≤ R.locals; omega
  · show 2 * 0 + _ ≤ 8; omega
theorem wp_obj {idx b : Nat} (hd : decode μ.2.1 pc = .ok (.invokespecial idx, 3)) (hw : Cond.methodLink μ.1.cls idx Lib.objectInit ∈ gwl ∧ Cond.instanceMethod Lib.objectInit ∈ gwl ∧ Cond.code Lib.objectInit ⟨#[0xb1]⟩ 1 none ∈ gwl) (hdd : 1 ≤ d) (hW : (st.map fun v => v.category).sum ≤ 8) (hq : pc + 3 = q) (kk : wp l μ sc d kc ks Q h q lv st) : wp l μ sc d kc ks Q h pc lv (.ref b :: st) := by
  subst hq
  intro D cT p e R s m args below meth c A Z C z H locs cells slots ls r1 r2 r3 r4 r5 r6
  have kw := kk D cT p e R s m args below meth c A Z C z H locs cells slots ls r1 r2 r3 r4 r5 r6
  obtain ⟨hx, hbb, -, hml, hown, hts, -, -, hK, -, hf1, hf2, -⟩ := C
  exact W.objInit hx hbb hown (hts _ hw.1) (hts _ hw.2.1) (hts _ hw.2.2) rfl (by rw [hml]; exact r4.1) rfl hd (by omega) (by show 2 * 0 + _ + 12 ≤ R.locals; omega) kw
end Calls
