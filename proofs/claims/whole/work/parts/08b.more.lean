/-! MORE RULES: stores of references, locals that are forgotten, calls that make nothing -/
/-- what the answer is, and the heap -/
def rI (v : Int32) (h : aH) : Option Value → aH → Prop := fun rv h' => rv = some (.int v) ∧ h' = h
def rL (v : Int64) (h : aH) : Option Value → aH → Prop := fun rv h' => rv = some (.long v) ∧ h' = h
def rV (h : aH) : Option Value → aH → Prop := fun rv h' => rv = none ∧ h' = h
def rR (v : Value) (h : aH) : Option Value → aH → Prop := fun rv h' => rv = some v ∧ h' = h
/-- what a Bool is as an int -/
def b2 (c : Bool) : Int32 := match c with
  | true => nI 1
  | false => nI 0
theorem b2_01 (c : Bool) : b2 c = 0 ∨ b2 c = 1 := by
  cases c
  · exact Or.inl rfl
  · exact Or.inr rfl
theorem b2_t : b2 true = nI 1 := rfl
theorem b2_f : b2 false = nI 0 := rfl
theorem b2_inj {c c' : Bool} : b2 c = b2 c' ↔ c = c' := by cases c <;> cases c' <;> decide
theorem b2_eq0 {c : Bool} : b2 c = 0 ↔ c = false := by cases c <;> decide
theorem b2_ne0 {c : Bool} : ¬ b2 c = 0 ↔ c = true := by cases c <;> decide
section More
variable {l : Launch} {μ μ' : Mu} {sc : rp_S} {d d' kc ks idx n b ci : Nat} {Q Q' : Option Value → aH → Prop} {h : aH} {pc q : Nat} {lv : List (Option Value)} {st : List Value} {F : Nat → Value} {As rest : List Value}
theorem wp_sub {lv' : List (Option Value)} (hs : ∀ (i : Nat) (v : Value), lv'[i]? = some (some v) → lv[i]? = some (some v)) (k : wp l μ sc d kc ks Q h pc lv' st) : wp l μ sc d kc ks Q h pc lv st :=
  fun D cT p e R s m args below meth c A Z C z H locs cells slots ls r1 r2 r3 r4 r5 r6 => k D cT p e R s m args below meth c A Z C z H locs cells slots ls r1 r2 r3 ⟨r4.1, r4.2.1, fun i v hv => r4.2.2 i v (hs i v hv)⟩ r5 r6
theorem wp_V (M : mt l μ' d' 0 0 (.ref b :: As) h Q') (hd : decode μ.2.1 pc = .ok (.invokevirtual idx, 3)) (ho : mOK μ' n) (hw : Cond.methodLink μ.1.cls idx μ'.1 ∈ gwl ∧ Cond.instanceMethod μ'.1 ∈ gwl ∧ Cond.selects μ'.1.cls μ'.1 μ'.1 ∈ gwl) (hb : h.2 b = some (.inr (ci, F))) (hci : (vwCl[ci]?).map (fun q => q.1) = some μ'.1.cls) (hn : As.length = n) (hst : st = As.reverse ++ .ref b :: rest) (hW : (rest.map fun v => v.category).sum ≤ 8) (hdd : d' + 1 ≤ d) (hq : pc + 3 = q) (kk : ∀ (rv : Option Value) (h' : aH), Q' rv h' → wp l μ sc d kc ks Q h' q lv (rv.toList ++ rest)) : wp l μ sc d kc ks Q h pc lv st := wp_callV M hd ho hw hb hci hn hst hW hdd (Nat.zero_le _) (Nat.zero_le _) hq kk
theorem wp_Vi {v : Int32} {h' : aH} (M : mt l μ' d' 0 0 (.ref b :: As) h (rI v h')) (hd : decode μ.2.1 pc = .ok (.invokevirtual idx, 3)) (ho : mOK μ' n) (hw : Cond.methodLink μ.1.cls idx μ'.1 ∈ gwl ∧ Cond.instanceMethod μ'.1 ∈ gwl ∧ Cond.selects μ'.1.cls μ'.1 μ'.1 ∈ gwl) (hb : h.2 b = some (.inr (ci, F))) (hci : (vwCl[ci]?).map (fun q => q.1) = some μ'.1.cls) (hn : As.length = n) (hst : st = As.reverse ++ .ref b :: rest) (hW : (rest.map fun v => v.category).sum ≤ 8) (hdd : d' + 1 ≤ d) (hq : pc + 3 = q) (kk : wp l μ sc d kc ks Q h' q lv (.int v :: rest)) : wp l μ sc d kc ks Q h pc lv st := wp_V M hd ho hw hb hci hn hst hW hdd hq (fun rv h2 e => by obtain ⟨rfl, rfl⟩ := e; exact kk)
theorem wp_Vl {v : Int64} {h' : aH} (M : mt l μ' d' 0 0 (.ref b :: As) h (rL v h')) (hd : decode μ.2.1 pc = .ok (.invokevirtual idx, 3)) (ho : mOK μ' n) (hw : Cond.methodLink μ.1.cls idx μ'.1 ∈ gwl ∧ Cond.instanceMethod μ'.1 ∈ gwl ∧ Cond.selects μ'.1.cls μ'.1 μ'.1 ∈ gwl) (hb : h.2 b = some (.inr (ci, F))) (hci : (vwCl[ci]?).map (fun q => q.1) = some μ'.1.cls) (hn : As.length = n) (hst : st = As.reverse ++ .ref b :: rest) (hW : (rest.map fun v => v.category).sum ≤ 8) (hdd : d' + 1 ≤ d) (hq : pc + 3 = q) (kk : wp l μ sc d kc ks Q h' q lv (.long v :: rest)) : wp l μ sc d kc ks Q h pc lv st := wp_V M hd ho hw hb hci hn hst hW hdd hq (fun rv h2 e => by obtain ⟨rfl, rfl⟩ := e; exact kk)
theorem wp_Vv {h' : aH} (M : mt l μ' d' 0 0 (.ref b :: As) h (rV h')) (hd : decode μ.2.1 pc = .ok (.invokevirtual idx, 3)) (ho : mOK μ' n) (hw : Cond.methodLink μ.1.cls idx μ'.1 ∈ gwl ∧ Cond.instanceMethod μ'.1 ∈ gwl ∧ Cond.selects μ'.1.cls μ'.1 μ'.1 ∈ gwl) (hb : h.2 b = some (.inr (ci, F))) (hci : (vwCl[ci]?).map (fun q => q.1) = some μ'.1.cls) (hn : As.length = n) (hst : st = As.reverse ++ .ref b :: rest) (hW : (rest.map fun v => v.category).sum ≤ 8) (hdd : d' + 1 ≤ d) (hq : pc + 3 = q) (kk : wp l μ sc d kc ks Q h' q lv rest) : wp l μ sc d kc ks Q h pc lv st := wp_V M hd ho hw hb hci hn hst hW hdd hq (fun rv h2 e => by obtain ⟨rfl, rfl⟩ := e; exact kk)
theorem wp_Vr {v : Value} {h' : aH} (M : mt l μ' d' 0 0 (.ref b :: As) h (rR v h')) (hd : decode μ.2.1 pc = .ok (.invokevirtual idx, 3)) (ho : mOK μ' n) (hw : Cond.methodLink μ.1.cls idx μ'.1 ∈ gwl ∧ Cond.instanceMethod μ'.1 ∈ gwl ∧ Cond.selects μ'.1.cls μ'.1 μ'.1 ∈ gwl) (hb : h.2 b = some (.inr (ci, F))) (hci : (vwCl[ci]?).map (fun q => q.1) = some μ'.1.cls) (hn : As.length = n) (hst : st = As.reverse ++ .ref b :: rest) (hW : (rest.map fun v => v.category).sum ≤ 8) (hdd : d' + 1 ≤ d) (hq : pc + 3 = q) (kk : wp l μ sc d kc ks Q h' q lv (v :: rest)) : wp l μ sc d kc ks Q h pc lv st := wp_V M hd ho hw hb hci hn hst hW hdd hq (fun rv h2 e => by obtain ⟨rfl, rfl⟩ := e; exact kk)
theorem wp_S (M : mt l μ' d' 0 0 As h Q') (hd : decode μ.2.1 pc = .ok (.invokestatic idx, 3)) (ho : mOK μ' n) (hw : Cond.methodLink μ.1.cls idx μ'.1 ∈ gwl ∧ Cond.static μ'.1 ∈ gwl) (hn : As.length = n) (hst : st = As.reverse ++ rest) (hW : (rest.map fun v => v.category).sum ≤ 8) (hdd : d' + 1 ≤ d) (hq : pc + 3 = q) (kk : ∀ (rv : Option Value) (h' : aH), Q' rv h' → wp l μ sc d kc ks Q h' q lv (rv.toList ++ rest)) : wp l μ sc d kc ks Q h pc lv st := wp_callS M hd ho hw hn hst hW hdd (Nat.zero_le _) (Nat.zero_le _) hq kk
theorem wp_Si {v : Int32} {h' : aH} (M : mt l μ' d' 0 0 As h (rI v h')) (hd : decode μ.2.1 pc = .ok (.invokestatic idx, 3)) (ho : mOK μ' n) (hw : Cond.methodLink μ.1.cls idx μ'.1 ∈ gwl ∧ Cond.static μ'.1 ∈ gwl) (hn : As.length = n) (hst : st = As.reverse ++ rest) (hW : (rest.map fun v => v.category).sum ≤ 8) (hdd : d' + 1 ≤ d) (hq : pc + 3 = q) (kk : wp l μ sc d kc ks Q h' q lv (.int v :: rest)) : wp l μ sc d kc ks Q h pc lv st := wp_S M hd ho hw hn hst hW hdd hq (fun rv h2 e => by obtain ⟨rfl, rfl⟩ := e; exact kk)
theorem wp_Sl {v : Int64} {h' : aH} (M : mt l μ' d' 0 0 As h (rL v h')) (hd : decode μ.2.1 pc = .ok (.invokestatic idx, 3)) (ho : mOK μ' n) (hw : Cond.methodLink μ.1.cls idx μ'.1 ∈ gwl ∧ Cond.static μ'.1 ∈ gwl) (hn : As.length = n) (hst : st = As.reverse ++ rest) (hW : (rest.map fun v => v.category).sum ≤ 8) (hdd : d' + 1 ≤ d) (hq : pc + 3 = q) (kk : wp l μ sc d kc ks Q h' q lv (.long v :: rest)) : wp l μ sc d kc ks Q h pc lv st := wp_S M hd ho hw hn hst hW hdd hq (fun rv h2 e => by obtain ⟨rfl, rfl⟩ := e; exact kk)
theorem wp_Sv {h' : aH} (M : mt l μ' d' 0 0 As h (rV h')) (hd : decode μ.2.1 pc = .ok (.invokestatic idx, 3)) (ho : mOK μ' n) (hw : Cond.methodLink μ.1.cls idx μ'.1 ∈ gwl ∧ Cond.static μ'.1 ∈ gwl) (hn : As.length = n) (hst : st = As.reverse ++ rest) (hW : (rest.map fun v => v.category).sum ≤ 8) (hdd : d' + 1 ≤ d) (hq : pc + 3 = q) (kk : wp l μ sc d kc ks Q h' q lv rest) : wp l μ sc d kc ks Q h pc lv st := wp_S M hd ho hw hn hst hW hdd hq (fun rv h2 e => by obtain ⟨rfl, rfl⟩ := e; exact kk)
theorem wp_SN {host : String} (M : mt l μ' d' 0 0 As h Q') (hd : decode μ.2.1 pc = .ok (.invokestatic idx, 3)) (ho : mOK μ' n) (hw : Cond.methodLinkNest μ.1.cls idx μ'.1 host ∈ lw_tbl ∧ Cond.static μ'.1 ∈ gwl) (hn : As.length = n) (hst : st = As.reverse ++ rest) (hW : (rest.map fun v => v.category).sum ≤ 8) (hdd : d' + 1 ≤ d) (hq : pc + 3 = q) (kk : ∀ (rv : Option Value) (h' : aH), Q' rv h' → wp l μ sc d kc ks Q h' q lv (rv.toList ++ rest)) : wp l μ sc d kc ks Q h pc lv st := wp_callSN M hd ho hw hn hst hW hdd (Nat.zero_le _) (Nat.zero_le _) hq kk
theorem wp_SNi {host : String} {v : Int32} {h' : aH} (M : mt l μ' d' 0 0 As h (rI v h')) (hd : decode μ.2.1 pc = .ok (.invokestatic idx, 3)) (ho : mOK μ' n) (hw : Cond.methodLinkNest μ.1.cls idx μ'.1 host ∈ lw_tbl ∧ Cond.static μ'.1 ∈ gwl) (hn : As.length = n) (hst : st = As.reverse ++ rest) (hW : (rest.map fun v => v.category).sum ≤ 8) (hdd : d' + 1 ≤ d) (hq : pc + 3 = q) (kk : wp l μ sc d kc ks Q h' q lv (.int v :: rest)) : wp l μ sc d kc ks Q h pc lv st := wp_SN M hd ho hw hn hst hW hdd hq (fun rv h2 e => by obtain ⟨rfl, rfl⟩ := e; exact kk)
theorem wp_SNl {host : String} {v : Int64} {h' : aH} (M : mt l μ' d' 0 0 As h (rL v h')) (hd : decode μ.2.1 pc = .ok (.invokestatic idx, 3)) (ho : mOK μ' n) (hw : Cond.methodLinkNest μ.1.cls idx μ'.1 host ∈ lw_tbl ∧ Cond.static μ'.1 ∈ gwl) (hn : As.length = n) (hst : st = As.reverse ++ rest) (hW : (rest.map fun v => v.category).sum ≤ 8) (hdd : d' + 1 ≤ d) (hq : pc + 3 = q) (kk : wp l μ sc d kc ks Q h' q lv (.long v :: rest)) : wp l μ sc d kc ks Q h pc lv st := wp_SN M hd ho hw hn hst hW hdd hq (fun rv h2 e => by obtain ⟨rfl, rfl⟩ := e; exact kk)
theorem wp_SNv {host : String} {h' : aH} (M : mt l μ' d' 0 0 As h (rV h')) (hd : decode μ.2.1 pc = .ok (.invokestatic idx, 3)) (ho : mOK μ' n) (hw : Cond.methodLinkNest μ.1.cls idx μ'.1 host ∈ lw_tbl ∧ Cond.static μ'.1 ∈ gwl) (hn : As.length = n) (hst : st = As.reverse ++ rest) (hW : (rest.map fun v => v.category).sum ≤ 8) (hdd : d' + 1 ≤ d) (hq : pc + 3 = q) (kk : wp l μ sc d kc ks Q h' q lv rest) : wp l μ sc d kc ks Q h pc lv st := wp_SN M hd ho hw hn hst hW hdd hq (fun rv h2 e => by obtain ⟨rfl, rfl⟩ := e; exact kk)
theorem wp_aast {a n kd v : Nat} {f : Nat → Option Nat} {i : Int32} (hd : decode μ.2.1 pc = .ok (.aastore, 1)) (ha : h.2 a = some (.inl (kd, n, .inr (.inr (.inr (.inr f)))))) (hkc : (kd, ci) ∈ [(5, 3), (6, 1), (7, 0)]) (hv : h.2 v = some (.inr (ci, F))) (hin : vp_in i n) (hq : pc + 1 = q) (kk : wp l μ sc d kc ks Q (hset h a (.inl (kd, n, .inr (.inr (.inr (.inr (va_up f i.toNatClampNeg (some v)))))))) q lv st) : wp l μ sc d kc ks Q h pc lv (.ref v :: .int i :: .ref a :: st) := by
  subst hq
  refine wp_upd ha (fun D cT p e R s m args below meth c A Z H locs cells slots ls C r1 w => ?_) kk
  have hlt : i.toNatClampNeg < n := Nat.not_le.mp fun q => hin (Or.inr q)
  have h0 : ¬ i < 0 := fun q => hin (Or.inl q)
  have hK := C.2.2.2.2.2.2.2.2.1.1
  have hx : ∃ r : vw_C, vwCl[ci]? = some r ∧ (rp_T cT)[kd]? = some (cT kd, .object r.1) := by
    simp only [List.mem_cons, Prod.mk.injEq, List.not_mem_nil, or_false] at hkc
    rcases hkc with ⟨rfl, rfl⟩ | ⟨rfl, rfl⟩ | ⟨rfl, rfl⟩ <;> exact ⟨_, rfl, rfl⟩
  obtain ⟨r, hc, ht⟩ := hx
  obtain ⟨r', hr', cellV, g1, g2, g3, -⟩ := r1.2 v _ hv
  have hcls := (hK.1 ci r hc).2
  obtain ⟨kA, comp, k1, k2, k3, -⟩ := (hK.2 kd _ ht).2
  have hcomp : comp = D.1 ci := Option.some.inj (k3.symm.trans hcls.1)
  subst hcomp
  obtain ⟨kC, hkC, -⟩ := hcls.2
  refine W.aast C.1 C.2.1 (r1.2 a _ ha) (fun q h => by cases h) (fun h => by cases h) k1 k2 rfl hkC ⟨h0, by show _ < (arrV _ _ _).slots.size; rw [arrV_size]; exact hlt⟩ g1 (fun q h => by rw [g3] at h; cases h) (by rw [g2]; exact hkC) (by rw [g2]; exact va_assign hcls) rfl rfl hd fun H1 e1 z1 o1 => ?_
  refine w H1 _ z1 o1 ?_
  show H1[a]? = some (vp_cell _ _)
  rw [e1]
  rw [vp_cell_q, vp_cell_q, arrV_store]
  congr 2
  funext y
  by_cases hy : y = i.toNatClampNeg
  · subst hy
    simp [updV, va_up, va_rf]
  · simp [updV, va_up, hy]
end More
section Bools
variable {l : Launch} {μ : Mu} {sc : rp_S} {d kc ks pc q t y : Nat} {Q : Option Value → aH → Prop} {h : aH} {lv : List (Option Value)} {st : List Value} {o1 o2 : Int}
/-- if c then 1 else 0, as javac lays it -/
theorem wp_b2eq {c : Bool} (d1 : decode μ.2.1 pc = .ok (.ifCond .eq o1, 3)) (d2 : decode μ.2.1 q = .ok (.iconst 1, 1)) (d3 : decode μ.2.1 (q + 1) = .ok (.goto o2, 3)) (d4 : decode μ.2.1 t = .ok (.iconst 0, 1)) (ht : (pc : Int) + o1 = (t : Int)) (hq : pc + 3 = q) (hq2 : q + 1 = q + 1) (hy : ((q + 1 : Nat) : Int) + o2 = (y : Int)) (hy2 : t + 1 = y) (k : wp l μ sc d kc ks Q h y lv (.int (b2 c) :: st)) : wp l μ sc d kc ks Q h pc lv (.int (b2 c) :: st) := by
  refine wp_if_eq d1 ht hq (fun e => ?_) (fun e => ?_)
  · refine wp_iconst (v := 0) d4 (by decide) hy2 ?_
    rw [b2_eq0.mp e] at k
    exact k
  · refine wp_iconst (v := 1) d2 (by decide) rfl (wp_goto d3 hy ?_)
    rw [b2_ne0.mp e] at k
    exact k
theorem wp_b2ne {c : Bool} (d1 : decode μ.2.1 pc = .ok (.ifCond .ne o1, 3)) (d2 : decode μ.2.1 q = .ok (.iconst 1, 1)) (d3 : decode μ.2.1 (q + 1) = .ok (.goto o2, 3)) (d4 : decode μ.2.1 t = .ok (.iconst 0, 1)) (ht : (pc : Int) + o1 = (t : Int)) (hq : pc + 3 = q) (hq2 : q + 1 = q + 1) (hy : ((q + 1 : Nat) : Int) + o2 = (y : Int)) (hy2 : t + 1 = y) (k : wp l μ sc d kc ks Q h y lv (.int (b2 (!c)) :: st)) : wp l μ sc d kc ks Q h pc lv (.int (b2 c) :: st) := by
  refine wp_if_ne d1 ht hq (fun e => ?_) (fun e => ?_)
  · refine wp_iconst (v := 0) d4 (by decide) hy2 ?_
    rw [b2_ne0.mp e] at k
    exact k
  · refine wp_iconst (v := 1) d2 (by decide) rfl (wp_goto d3 hy ?_)
    rw [b2_eq0.mp e] at k
    exact k
theorem wp_b2clt {x z : Int32} (d1 : decode μ.2.1 pc = .ok (.if_icmp .lt o1, 3)) (d2 : decode μ.2.1 q = .ok (.iconst 1, 1)) (d3 : decode μ.2.1 (q + 1) = .ok (.goto o2, 3)) (d4 : decode μ.2.1 t = .ok (.iconst 0, 1)) (ht : (pc : Int) + o1 = (t : Int)) (hq : pc + 3 = q) (hq2 : q + 1 = q + 1) (hy : ((q + 1 : Nat) : Int) + o2 = (y : Int)) (hy2 : t + 1 = y) (k : wp l μ sc d kc ks Q h y lv (.int (b2 (!decide (x < z))) :: st)) : wp l μ sc d kc ks Q h pc lv (.int z :: .int x :: st) := by
  refine wp_icmp_lt d1 ht hq (fun e => ?_) (fun e => ?_)
  · refine wp_iconst (v := 0) d4 (by decide) hy2 ?_
    rw [decide_eq_true e] at k
    exact k
  · refine wp_iconst (v := 1) d2 (by decide) rfl (wp_goto d3 hy ?_)
    rw [decide_eq_false e] at k
    exact k
theorem wp_b2cgt {x z : Int32} (d1 : decode μ.2.1 pc = .ok (.if_icmp .gt o1, 3)) (d2 : decode μ.2.1 q = .ok (.iconst 1, 1)) (d3 : decode μ.2.1 (q + 1) = .ok (.goto o2, 3)) (d4 : decode μ.2.1 t = .ok (.iconst 0, 1)) (ht : (pc : Int) + o1 = (t : Int)) (hq : pc + 3 = q) (hq2 : q + 1 = q + 1) (hy : ((q + 1 : Nat) : Int) + o2 = (y : Int)) (hy2 : t + 1 = y) (k : wp l μ sc d kc ks Q h y lv (.int (b2 (!decide (z < x))) :: st)) : wp l μ sc d kc ks Q h pc lv (.int z :: .int x :: st) := by
  refine wp_icmp_gt d1 ht hq (fun e => ?_) (fun e => ?_)
  · refine wp_iconst (v := 0) d4 (by decide) hy2 ?_
    rw [decide_eq_true e] at k
    exact k
  · refine wp_iconst (v := 1) d2 (by decide) rfl (wp_goto d3 hy ?_)
    rw [decide_eq_false e] at k
    exact k
theorem wp_b2cge {x z : Int32} (d1 : decode μ.2.1 pc = .ok (.if_icmp .ge o1, 3)) (d2 : decode μ.2.1 q = .ok (.iconst 1, 1)) (d3 : decode μ.2.1 (q + 1) = .ok (.goto o2, 3)) (d4 : decode μ.2.1 t = .ok (.iconst 0, 1)) (ht : (pc : Int) + o1 = (t : Int)) (hq : pc + 3 = q) (hq2 : q + 1 = q + 1) (hy : ((q + 1 : Nat) : Int) + o2 = (y : Int)) (hy2 : t + 1 = y) (k : wp l μ sc d kc ks Q h y lv (.int (b2 (decide (x < z))) :: st)) : wp l μ sc d kc ks Q h pc lv (.int z :: .int x :: st) := by
  refine wp_icmp_ge d1 ht hq (fun e => ?_) (fun e => ?_)
  · refine wp_iconst (v := 0) d4 (by decide) hy2 ?_
    rw [decide_eq_false (Int32.not_lt.mpr e)] at k
    exact k
  · refine wp_iconst (v := 1) d2 (by decide) rfl (wp_goto d3 hy ?_)
    rw [decide_eq_true (Int32.not_le.mp e)] at k
    exact k
theorem wp_b2cne {x z : Int32} (d1 : decode μ.2.1 pc = .ok (.if_icmp .ne o1, 3)) (d2 : decode μ.2.1 q = .ok (.iconst 1, 1)) (d3 : decode μ.2.1 (q + 1) = .ok (.goto o2, 3)) (d4 : decode μ.2.1 t = .ok (.iconst 0, 1)) (ht : (pc : Int) + o1 = (t : Int)) (hq : pc + 3 = q) (hq2 : q + 1 = q + 1) (hy : ((q + 1 : Nat) : Int) + o2 = (y : Int)) (hy2 : t + 1 = y) (k : wp l μ sc d kc ks Q h y lv (.int (b2 (decide (x = z))) :: st)) : wp l μ sc d kc ks Q h pc lv (.int z :: .int x :: st) := by
  refine wp_icmp_ne d1 ht hq (fun e => ?_) (fun e => ?_)
  · refine wp_iconst (v := 0) d4 (by decide) hy2 ?_
    rw [decide_eq_false e] at k
    exact k
  · refine wp_iconst (v := 1) d2 (by decide) rfl (wp_goto d3 hy ?_)
    rw [decide_eq_true e] at k
    exact k
theorem wp_b2ceq {x z : Int32} (d1 : decode μ.2.1 pc = .ok (.if_icmp .eq o1, 3)) (d2 : decode μ.2.1 q = .ok (.iconst 1, 1)) (d3 : decode μ.2.1 (q + 1) = .ok (.goto o2, 3)) (d4 : decode μ.2.1 t = .ok (.iconst 0, 1)) (ht : (pc : Int) + o1 = (t : Int)) (hq : pc + 3 = q) (hq2 : q + 1 = q + 1) (hy : ((q + 1 : Nat) : Int) + o2 = (y : Int)) (hy2 : t + 1 = y) (k : wp l μ sc d kc ks Q h y lv (.int (b2 (!decide (x = z))) :: st)) : wp l μ sc d kc ks Q h pc lv (.int z :: .int x :: st) := by
  refine wp_icmp_eq d1 ht hq (fun e => ?_) (fun e => ?_)
  · refine wp_iconst (v := 0) d4 (by decide) hy2 ?_
    rw [decide_eq_true e] at k
    exact k
  · refine wp_iconst (v := 1) d2 (by decide) rfl (wp_goto d3 hy ?_)
    rw [decide_eq_false e] at k
    exact k
end Bools
