/-! RULES: a row an instruction, over the judgement wp -/
section Rules
variable {l : Launch} {μ : Mu} {sc : rp_S} {d kc ks : Nat} {Q : Option Value → aH → Prop} {h : aH} {pc q : Nat} {lv : List (Option Value)} {st : List Value}
theorem wp_pure {pc' : Nat} {st st' : List Value} (f : ∀ (p : Program) (e : Env) (R : Room) (s : State) (m : MethodId) (args : Array Value) (below : List Frame) (meth : Method) (c : Code) (Z : State → Prop) (H : Heap) (locs : List Loc) (cells slots : Nat) (ls : Array Slot), p.tables.exec = Jvm.exec → c.code = μ.2.1 → lw_L ls μ.2.2.1 lv → W p l e R s m args below meth c H locs cells slots Z (F0 m pc' ls st') → W p l e R s m args below meth c H locs cells slots Z (F0 m pc ls st))
    (k : wp l μ sc d kc ks Q h pc' lv st') : wp l μ sc d kc ks Q h pc lv st :=
  fun D cT p e R s m args below meth c A Z C z H locs cells slots ls r1 r2 r3 r4 r5 r6 => f p e R s m args below meth c Z H locs cells slots ls C.1 C.2.1 r4 (k D cT p e R s m args below meth c A Z C z H locs cells slots ls r1 r2 r3 r4 r5 r6)
theorem wp_iconst {n : Int} {v : Int32} (hd : decode μ.2.1 pc = .ok (.iconst n, 1)) (hv : Int32.ofInt n = v) (hq : pc + 1 = q) (k : wp l μ sc d kc ks Q h q lv (.int v :: st)) : wp l μ sc d kc ks Q h pc lv st := by
  subst hq
  exact wp_pure (fun _ _ _ _ _ _ _ _ _ _ _ _ _ _ _ hx hb _ w => lv_iconst hx hb hd hv w) k
theorem wp_bipush {n : Int} {v : Int32} (hd : decode μ.2.1 pc = .ok (.bipush n, 2)) (hv : (Int8.ofInt n).toInt32 = v) (hq : pc + 2 = q) (k : wp l μ sc d kc ks Q h q lv (.int v :: st)) : wp l μ sc d kc ks Q h pc lv st := by
  subst hq
  exact wp_pure (fun _ _ _ _ _ _ _ _ _ _ _ _ _ _ _ hx hb _ w => lv_bipush hx hb hd hv w) k
theorem wp_sipush {n : Int} {v : Int32} (hd : decode μ.2.1 pc = .ok (.sipush n, 3)) (hv : (Int16.ofInt n).toInt32 = v) (hq : pc + 3 = q) (k : wp l μ sc d kc ks Q h q lv (.int v :: st)) : wp l μ sc d kc ks Q h pc lv st := by
  subst hq
  exact wp_pure (fun _ _ _ _ _ _ _ _ _ _ _ _ _ _ _ hx hb _ w => lv_sipush hx hb hd hv w) k
theorem wp_lconst {n : Fin 2} {v : Int64} (hd : decode μ.2.1 pc = .ok (.lconst n, 1)) (hv : Int64.ofNat (n : Nat) = v) (hq : pc + 1 = q) (k : wp l μ sc d kc ks Q h q lv (.long v :: st)) : wp l μ sc d kc ks Q h pc lv st := by
  subst hq
  exact wp_pure (fun _ _ _ _ _ _ _ _ _ _ _ _ _ _ _ hx hb _ w => lv_lconst hx hb hd hv w) k
theorem wp_iload_n {n : Fin 4} {i : Nat} {x : Int32} (hd : decode μ.2.1 pc = .ok (.iload_n n, 1)) (hi : (n : Nat) = i) (hv : lv[i]? = some (some (.int x))) (hq : pc + 1 = q) (k : wp l μ sc d kc ks Q h q lv (.int x :: st)) : wp l μ sc d kc ks Q h pc lv st := by
  subst hq
  exact wp_pure (fun _ _ _ _ _ _ _ _ _ _ _ _ _ _ _ hx hb hl w => lv_iload_n hx hb hd hi (hl.2.2 _ _ hv) w) k
theorem wp_iload {i : Nat} {x : Int32} (hd : decode μ.2.1 pc = .ok (.iload i, 2)) (hv : lv[i]? = some (some (.int x))) (hq : pc + 2 = q) (k : wp l μ sc d kc ks Q h q lv (.int x :: st)) : wp l μ sc d kc ks Q h pc lv st := by
  subst hq
  exact wp_pure (fun _ _ _ _ _ _ _ _ _ _ _ _ _ _ _ hx hb hl w => lv_iload hx hb hd (hl.2.2 _ _ hv) w) k
theorem wp_lload_n {n : Fin 4} {i : Nat} {x : Int64} (hd : decode μ.2.1 pc = .ok (.lload_n n, 1)) (hi : (n : Nat) = i) (hv : lv[i]? = some (some (.long x))) (hq : pc + 1 = q) (k : wp l μ sc d kc ks Q h q lv (.long x :: st)) : wp l μ sc d kc ks Q h pc lv st := by
  subst hq
  exact wp_pure (fun _ _ _ _ _ _ _ _ _ _ _ _ _ _ _ hx hb hl w => lv_lload_n hx hb hd hi (hl.2.2 _ _ hv) w) k
theorem wp_lload {i : Nat} {x : Int64} (hd : decode μ.2.1 pc = .ok (.lload i, 2)) (hv : lv[i]? = some (some (.long x))) (hq : pc + 2 = q) (k : wp l μ sc d kc ks Q h q lv (.long x :: st)) : wp l μ sc d kc ks Q h pc lv st := by
  subst hq
  exact wp_pure (fun _ _ _ _ _ _ _ _ _ _ _ _ _ _ _ hx hb hl w => lv_lload hx hb hd (hl.2.2 _ _ hv) w) k
theorem wp_aload_n {n : Fin 4} {i : Nat} {x : Nat} (hd : decode μ.2.1 pc = .ok (.aload_n n, 1)) (hi : (n : Nat) = i) (hv : lv[i]? = some (some (.ref x))) (hq : pc + 1 = q) (k : wp l μ sc d kc ks Q h q lv (.ref x :: st)) : wp l μ sc d kc ks Q h pc lv st := by
  subst hq
  exact wp_pure (fun _ _ _ _ _ _ _ _ _ _ _ _ _ _ _ hx hb hl w => lv_aload_n hx hb hd hi (hl.2.2 _ _ hv) w) k
theorem wp_aload {i : Nat} {x : Nat} (hd : decode μ.2.1 pc = .ok (.aload i, 2)) (hv : lv[i]? = some (some (.ref x))) (hq : pc + 2 = q) (k : wp l μ sc d kc ks Q h q lv (.ref x :: st)) : wp l μ sc d kc ks Q h pc lv st := by
  subst hq
  exact wp_pure (fun _ _ _ _ _ _ _ _ _ _ _ _ _ _ _ hx hb hl w => lv_aload hx hb hd (hl.2.2 _ _ hv) w) k
theorem wp_aload_nN {n : Fin 4} {i : Nat} (hd : decode μ.2.1 pc = .ok (.aload_n n, 1)) (hi : (n : Nat) = i) (hv : lv[i]? = some (some .null)) (hq : pc + 1 = q) (k : wp l μ sc d kc ks Q h q lv (.null :: st)) : wp l μ sc d kc ks Q h pc lv st := by
  subst hq
  exact wp_pure (fun _ _ _ _ _ _ _ _ _ _ _ _ _ _ _ hx hb hl w => lv_aload_nN hx hb hd hi (hl.2.2 _ _ hv) w) k
theorem wp_aloadN {i : Nat} (hd : decode μ.2.1 pc = .ok (.aload i, 2)) (hv : lv[i]? = some (some .null)) (hq : pc + 2 = q) (k : wp l μ sc d kc ks Q h q lv (.null :: st)) : wp l μ sc d kc ks Q h pc lv st := by
  subst hq
  exact wp_pure (fun _ _ _ _ _ _ _ _ _ _ _ _ _ _ _ hx hb hl w => lv_aloadN hx hb hd (hl.2.2 _ _ hv) w) k
theorem wp_null (hd : decode μ.2.1 pc = .ok (.aconst_null, 1)) (hq : pc + 1 = q) (k : wp l μ sc d kc ks Q h q lv (.null :: st)) : wp l μ sc d kc ks Q h pc lv st := by
  subst hq
  exact wp_pure (fun _ _ _ _ _ _ _ _ _ _ _ _ _ _ _ hx hb _ w => lv_null hx hb hd w) k
theorem wp_iadd {x y : Int32} (hd : decode μ.2.1 pc = .ok (.iadd, 1)) (hq : pc + 1 = q) (k : wp l μ sc d kc ks Q h q lv (.int (x + y) :: st)) : wp l μ sc d kc ks Q h pc lv (.int y :: .int x :: st) := by
  subst hq
  exact wp_pure (fun _ _ _ _ _ _ _ _ _ _ _ _ _ _ _ hx hb _ w => lv_iadd hx hb hd w) k
theorem wp_isub {x y : Int32} (hd : decode μ.2.1 pc = .ok (.isub, 1)) (hq : pc + 1 = q) (k : wp l μ sc d kc ks Q h q lv (.int (x - y) :: st)) : wp l μ sc d kc ks Q h pc lv (.int y :: .int x :: st) := by
  subst hq
  exact wp_pure (fun _ _ _ _ _ _ _ _ _ _ _ _ _ _ _ hx hb _ w => lv_isub hx hb hd w) k
theorem wp_imul {x y : Int32} (hd : decode μ.2.1 pc = .ok (.imul, 1)) (hq : pc + 1 = q) (k : wp l μ sc d kc ks Q h q lv (.int (x * y) :: st)) : wp l μ sc d kc ks Q h pc lv (.int y :: .int x :: st) := by
  subst hq
  exact wp_pure (fun _ _ _ _ _ _ _ _ _ _ _ _ _ _ _ hx hb _ w => lv_imul hx hb hd w) k
theorem wp_iand {x y : Int32} (hd : decode μ.2.1 pc = .ok (.iand, 1)) (hq : pc + 1 = q) (k : wp l μ sc d kc ks Q h q lv (.int (x &&& y) :: st)) : wp l μ sc d kc ks Q h pc lv (.int y :: .int x :: st) := by
  subst hq
  exact wp_pure (fun _ _ _ _ _ _ _ _ _ _ _ _ _ _ _ hx hb _ w => lv_iand hx hb hd w) k
theorem wp_ior {x y : Int32} (hd : decode μ.2.1 pc = .ok (.ior, 1)) (hq : pc + 1 = q) (k : wp l μ sc d kc ks Q h q lv (.int (x ||| y) :: st)) : wp l μ sc d kc ks Q h pc lv (.int y :: .int x :: st) := by
  subst hq
  exact wp_pure (fun _ _ _ _ _ _ _ _ _ _ _ _ _ _ _ hx hb _ w => lv_ior hx hb hd w) k
theorem wp_ladd {x y : Int64} (hd : decode μ.2.1 pc = .ok (.ladd, 1)) (hq : pc + 1 = q) (k : wp l μ sc d kc ks Q h q lv (.long (x + y) :: st)) : wp l μ sc d kc ks Q h pc lv (.long y :: .long x :: st) := by
  subst hq
  exact wp_pure (fun _ _ _ _ _ _ _ _ _ _ _ _ _ _ _ hx hb _ w => lv_ladd hx hb hd w) k
theorem wp_lsub {x y : Int64} (hd : decode μ.2.1 pc = .ok (.lsub, 1)) (hq : pc + 1 = q) (k : wp l μ sc d kc ks Q h q lv (.long (x - y) :: st)) : wp l μ sc d kc ks Q h pc lv (.long y :: .long x :: st) := by
  subst hq
  exact wp_pure (fun _ _ _ _ _ _ _ _ _ _ _ _ _ _ _ hx hb _ w => lv_lsub hx hb hd w) k
theorem wp_lmul {x y : Int64} (hd : decode μ.2.1 pc = .ok (.lmul, 1)) (hq : pc + 1 = q) (k : wp l μ sc d kc ks Q h q lv (.long (x * y) :: st)) : wp l μ sc d kc ks Q h pc lv (.long y :: .long x :: st) := by
  subst hq
  exact wp_pure (fun _ _ _ _ _ _ _ _ _ _ _ _ _ _ _ hx hb _ w => lv_lmul hx hb hd w) k
theorem wp_idiv {x y : Int32} (hd : decode μ.2.1 pc = .ok (.idiv, 1)) (hne : ¬ y = 0) (hq : pc + 1 = q) (k : wp l μ sc d kc ks Q h q lv (.int (x / y) :: st)) : wp l μ sc d kc ks Q h pc lv (.int y :: .int x :: st) := by
  subst hq
  exact wp_pure (fun _ _ _ _ _ _ _ _ _ _ _ _ _ _ _ hx hb _ w => lv_idiv hx hb hd hne w) k
theorem wp_irem {x y : Int32} (hd : decode μ.2.1 pc = .ok (.irem, 1)) (hne : ¬ y = 0) (hq : pc + 1 = q) (k : wp l μ sc d kc ks Q h q lv (.int (x - x / y * y) :: st)) : wp l μ sc d kc ks Q h pc lv (.int y :: .int x :: st) := by
  subst hq
  exact wp_pure (fun _ _ _ _ _ _ _ _ _ _ _ _ _ _ _ hx hb _ w => lv_irem hx hb hd hne w) k
theorem wp_ldiv {x y : Int64} (hd : decode μ.2.1 pc = .ok (.ldiv, 1)) (hne : ¬ y = 0) (hq : pc + 1 = q) (k : wp l μ sc d kc ks Q h q lv (.long (x / y) :: st)) : wp l μ sc d kc ks Q h pc lv (.long y :: .long x :: st) := by
  subst hq
  exact wp_pure (fun _ _ _ _ _ _ _ _ _ _ _ _ _ _ _ hx hb _ w => lv_ldiv hx hb hd hne w) k
theorem wp_lrem {x y : Int64} (hd : decode μ.2.1 pc = .ok (.lrem, 1)) (hne : ¬ y = 0) (hq : pc + 1 = q) (k : wp l μ sc d kc ks Q h q lv (.long (x - x / y * y) :: st)) : wp l μ sc d kc ks Q h pc lv (.long y :: .long x :: st) := by
  subst hq
  exact wp_pure (fun _ _ _ _ _ _ _ _ _ _ _ _ _ _ _ hx hb _ w => lv_lrem hx hb hd hne w) k
theorem wp_ineg {x : Int32} (hd : decode μ.2.1 pc = .ok (.ineg, 1)) (hq : pc + 1 = q) (k : wp l μ sc d kc ks Q h q lv (.int (-x) :: st)) : wp l μ sc d kc ks Q h pc lv (.int x :: st) := by
  subst hq
  exact wp_pure (fun _ _ _ _ _ _ _ _ _ _ _ _ _ _ _ hx hb _ w => lv_ineg hx hb hd w) k
theorem wp_lneg {x : Int64} (hd : decode μ.2.1 pc = .ok (.lneg, 1)) (hq : pc + 1 = q) (k : wp l μ sc d kc ks Q h q lv (.long (-x) :: st)) : wp l μ sc d kc ks Q h pc lv (.long x :: st) := by
  subst hq
  exact wp_pure (fun _ _ _ _ _ _ _ _ _ _ _ _ _ _ _ hx hb _ w => lv_lneg hx hb hd w) k
theorem wp_i2l {x : Int32} (hd : decode μ.2.1 pc = .ok (.i2l, 1)) (hq : pc + 1 = q) (k : wp l μ sc d kc ks Q h q lv (.long x.toInt64 :: st)) : wp l μ sc d kc ks Q h pc lv (.int x :: st) := by
  subst hq
  exact wp_pure (fun _ _ _ _ _ _ _ _ _ _ _ _ _ _ _ hx hb _ w => lv_i2l hx hb hd rfl w) k
theorem wp_iushr {x y : Int32} (hd : decode μ.2.1 pc = .ok (.iushr, 1)) (hq : pc + 1 = q) (k : wp l μ sc d kc ks Q h q lv (.int (x.toUInt32 >>> (y.toUInt32 &&& Int32.toUInt32 31)).toInt32 :: st)) : wp l μ sc d kc ks Q h pc lv (.int y :: .int x :: st) := by
  subst hq
  exact wp_pure (fun _ _ _ _ _ _ _ _ _ _ _ _ _ _ _ hx hb _ w => lv_iushr hx hb hd rfl w) k
theorem wp_lcmp {x y : Int64} (hd : decode μ.2.1 pc = .ok (.lcmp, 1)) (hq : pc + 1 = q) (k : wp l μ sc d kc ks Q h q lv (.int (lg_cmp x y) :: st)) : wp l μ sc d kc ks Q h pc lv (.long y :: .long x :: st) := by
  subst hq
  exact wp_pure (fun _ _ _ _ _ _ _ _ _ _ _ _ _ _ _ hx hb _ w => W.lcmp hx hb hd w) k
theorem wp_dup {v : Value} (hd : decode μ.2.1 pc = .ok (.dup, 1)) (hv : v.category = 1) (hq : pc + 1 = q) (k : wp l μ sc d kc ks Q h q lv (v :: v :: st)) : wp l μ sc d kc ks Q h pc lv (v :: st) := by
  subst hq
  exact wp_pure (fun _ _ _ _ _ _ _ _ _ _ _ _ _ _ _ hx hb _ w => lv_dup hx hb hd hv w) k
theorem wp_dup2 {v u : Value} (hd : decode μ.2.1 pc = .ok (.dup2, 1)) (hv : v.category = 1) (hu : u.category = 1) (hq : pc + 1 = q) (k : wp l μ sc d kc ks Q h q lv (v :: u :: v :: u :: st)) : wp l μ sc d kc ks Q h pc lv (v :: u :: st) := by
  subst hq
  exact wp_pure (fun _ _ _ _ _ _ _ _ _ _ _ _ _ _ _ hx hb _ w => lv_dup2_11 hx hb hd hv hu w) k
theorem wp_goto {off : Int} (hd : decode μ.2.1 pc = .ok (.goto off, 3)) (hq : (pc : Int) + off = (q : Int)) (k : wp l μ sc d kc ks Q h q lv st) : wp l μ sc d kc ks Q h pc lv st :=
  wp_pure (fun _ _ _ _ _ _ _ _ _ _ _ _ _ _ _ hx hb _ w => lv_goto hx hb hd hq w) k
theorem wp_ifnull {x : Nat} {off : Int} (hd : decode μ.2.1 pc = .ok (.ifnull off, 3)) (hq : pc + 3 = q) (k : wp l μ sc d kc ks Q h q lv st) : wp l μ sc d kc ks Q h pc lv (.ref x :: st) := by
  subst hq
  exact wp_pure (fun _ _ _ _ _ _ _ _ _ _ _ _ _ _ _ hx hb _ w => lv_ifnull hx hb hd w) k
theorem wp_ifnullN {off : Int} (hd : decode μ.2.1 pc = .ok (.ifnull off, 3)) (hq : (pc : Int) + off = (q : Int)) (k : wp l μ sc d kc ks Q h q lv st) : wp l μ sc d kc ks Q h pc lv (.null :: st) :=
  wp_pure (fun _ _ _ _ _ _ _ _ _ _ _ _ _ _ _ hx hb _ w => lv_ifnullN hx hb hd hq w) k
theorem wp_ifnonnull {x : Nat} {off : Int} (hd : decode μ.2.1 pc = .ok (.ifnonnull off, 3)) (hq : (pc : Int) + off = (q : Int)) (k : wp l μ sc d kc ks Q h q lv st) : wp l μ sc d kc ks Q h pc lv (.ref x :: st) :=
  wp_pure (fun _ _ _ _ _ _ _ _ _ _ _ _ _ _ _ hx hb _ w => lv_ifnonnull hx hb hd hq w) k
theorem wp_ifnonnullN {off : Int} (hd : decode μ.2.1 pc = .ok (.ifnonnull off, 3)) (hq : pc + 3 = q) (k : wp l μ sc d kc ks Q h q lv st) : wp l μ sc d kc ks Q h pc lv (.null :: st) := by
  subst hq
  exact wp_pure (fun _ _ _ _ _ _ _ _ _ _ _ _ _ _ _ hx hb _ w => lv_ifnonnullN hx hb hd w) k
/-- two ways on -/
theorem wp_two {t1 t2 : Nat} {P : Prop} {st st' : List Value} (f : ∀ (p : Program) (e : Env) (R : Room) (s : State) (m : MethodId) (args : Array Value) (below : List Frame) (meth : Method) (c : Code) (Z : State → Prop) (H : Heap) (locs : List Loc) (cells slots : Nat) (ls : Array Slot), p.tables.exec = Jvm.exec → c.code = μ.2.1 → (P → W p l e R s m args below meth c H locs cells slots Z (F0 m t1 ls st')) → (¬ P → W p l e R s m args below meth c H locs cells slots Z (F0 m t2 ls st')) → W p l e R s m args below meth c H locs cells slots Z (F0 m pc ls st))
    (k1 : P → wp l μ sc d kc ks Q h t1 lv st') (k2 : ¬ P → wp l μ sc d kc ks Q h t2 lv st') : wp l μ sc d kc ks Q h pc lv st :=
  fun D cT p e R s m args below meth c A Z C z H locs cells slots ls r1 r2 r3 r4 r5 r6 => f p e R s m args below meth c Z H locs cells slots ls C.1 C.2.1 (fun hp => k1 hp D cT p e R s m args below meth c A Z C z H locs cells slots ls r1 r2 r3 r4 r5 r6) (fun hp => k2 hp D cT p e R s m args below meth c A Z C z H locs cells slots ls r1 r2 r3 r4 r5 r6)
theorem wp_if_eq {x : Int32} {off : Int} {t : Nat} (hd : decode μ.2.1 pc = .ok (.ifCond .eq off, 3)) (ht : (pc : Int) + off = (t : Int)) (hq : pc + 3 = q) (k1 : x = 0 → wp l μ sc d kc ks Q h t lv st) (k2 : ¬ (x = 0) → wp l μ sc d kc ks Q h q lv st) : wp l μ sc d kc ks Q h pc lv (.int x :: st) := by
  subst hq
  exact wp_two (P := x = 0) (fun _ _ _ _ _ _ _ _ _ _ _ _ _ _ _ hx hb w1 w2 => lv_if_eq hx hb hd ht w1 w2) k1 k2
theorem wp_if_ne {x : Int32} {off : Int} {t : Nat} (hd : decode μ.2.1 pc = .ok (.ifCond .ne off, 3)) (ht : (pc : Int) + off = (t : Int)) (hq : pc + 3 = q) (k1 : ¬ x = 0 → wp l μ sc d kc ks Q h t lv st) (k2 : x = 0 → wp l μ sc d kc ks Q h q lv st) : wp l μ sc d kc ks Q h pc lv (.int x :: st) := by
  subst hq
  exact wp_two (P := ¬ x = 0) (fun _ _ _ _ _ _ _ _ _ _ _ _ _ _ _ hx hb w1 w2 => lv_if_ne hx hb hd ht w1 (fun e => w2 (fun n => n e))) k1 (fun n => k2 (Decidable.not_not.mp n))
theorem wp_if_lt {x : Int32} {off : Int} {t : Nat} (hd : decode μ.2.1 pc = .ok (.ifCond .lt off, 3)) (ht : (pc : Int) + off = (t : Int)) (hq : pc + 3 = q) (k1 : x < 0 → wp l μ sc d kc ks Q h t lv st) (k2 : ¬ (x < 0) → wp l μ sc d kc ks Q h q lv st) : wp l μ sc d kc ks Q h pc lv (.int x :: st) := by
  subst hq
  exact wp_two (P := x < 0) (fun _ _ _ _ _ _ _ _ _ _ _ _ _ _ _ hx hb w1 w2 => lv_if_lt hx hb hd ht w1 w2) k1 k2
theorem wp_if_ge {x : Int32} {off : Int} {t : Nat} (hd : decode μ.2.1 pc = .ok (.ifCond .ge off, 3)) (ht : (pc : Int) + off = (t : Int)) (hq : pc + 3 = q) (k1 : 0 ≤ x → wp l μ sc d kc ks Q h t lv st) (k2 : ¬ (0 ≤ x) → wp l μ sc d kc ks Q h q lv st) : wp l μ sc d kc ks Q h pc lv (.int x :: st) := by
  subst hq
  exact wp_two (P := 0 ≤ x) (fun _ _ _ _ _ _ _ _ _ _ _ _ _ _ _ hx hb w1 w2 => lv_if_ge hx hb hd ht w1 w2) k1 k2
theorem wp_if_gt {x : Int32} {off : Int} {t : Nat} (hd : decode μ.2.1 pc = .ok (.ifCond .gt off, 3)) (ht : (pc : Int) + off = (t : Int)) (hq : pc + 3 = q) (k1 : 0 < x → wp l μ sc d kc ks Q h t lv st) (k2 : ¬ (0 < x) → wp l μ sc d kc ks Q h q lv st) : wp l μ sc d kc ks Q h pc lv (.int x :: st) := by
  subst hq
  exact wp_two (P := 0 < x) (fun _ _ _ _ _ _ _ _ _ _ _ _ _ _ _ hx hb w1 w2 => lv_if_gt hx hb hd ht w1 w2) k1 k2
theorem wp_if_le {x : Int32} {off : Int} {t : Nat} (hd : decode μ.2.1 pc = .ok (.ifCond .le off, 3)) (ht : (pc : Int) + off = (t : Int)) (hq : pc + 3 = q) (k1 : x ≤ 0 → wp l μ sc d kc ks Q h t lv st) (k2 : ¬ (x ≤ 0) → wp l μ sc d kc ks Q h q lv st) : wp l μ sc d kc ks Q h pc lv (.int x :: st) := by
  subst hq
  exact wp_two (P := x ≤ 0) (fun _ _ _ _ _ _ _ _ _ _ _ _ _ _ _ hx hb w1 w2 => lv_if_le hx hb hd ht w1 w2) k1 k2
theorem wp_icmp_eq {x y : Int32} {off : Int} {t : Nat} (hd : decode μ.2.1 pc = .ok (.if_icmp .eq off, 3)) (ht : (pc : Int) + off = (t : Int)) (hq : pc + 3 = q) (k1 : x = y → wp l μ sc d kc ks Q h t lv st) (k2 : ¬ (x = y) → wp l μ sc d kc ks Q h q lv st) : wp l μ sc d kc ks Q h pc lv (.int y :: .int x :: st) := by
  subst hq
  exact wp_two (P := x = y) (fun _ _ _ _ _ _ _ _ _ _ _ _ _ _ _ hx hb w1 w2 => lv_icmp_eq hx hb hd ht w1 w2) k1 k2
theorem wp_icmp_ne {x y : Int32} {off : Int} {t : Nat} (hd : decode μ.2.1 pc = .ok (.if_icmp .ne off, 3)) (ht : (pc : Int) + off = (t : Int)) (hq : pc + 3 = q) (k1 : ¬ x = y → wp l μ sc d kc ks Q h t lv st) (k2 : x = y → wp l μ sc d kc ks Q h q lv st) : wp l μ sc d kc ks Q h pc lv (.int y :: .int x :: st) := by
  subst hq
  exact wp_two (P := ¬ x = y) (fun _ _ _ _ _ _ _ _ _ _ _ _ _ _ _ hx hb w1 w2 => lv_icmp_ne hx hb hd ht w1 (fun e => w2 (fun n => n e))) k1 (fun n => k2 (Decidable.not_not.mp n))
theorem wp_icmp_lt {x y : Int32} {off : Int} {t : Nat} (hd : decode μ.2.1 pc = .ok (.if_icmp .lt off, 3)) (ht : (pc : Int) + off = (t : Int)) (hq : pc + 3 = q) (k1 : x < y → wp l μ sc d kc ks Q h t lv st) (k2 : ¬ (x < y) → wp l μ sc d kc ks Q h q lv st) : wp l μ sc d kc ks Q h pc lv (.int y :: .int x :: st) := by
  subst hq
  exact wp_two (P := x < y) (fun _ _ _ _ _ _ _ _ _ _ _ _ _ _ _ hx hb w1 w2 => lv_icmp_lt hx hb hd ht w1 w2) k1 k2
theorem wp_icmp_ge {x y : Int32} {off : Int} {t : Nat} (hd : decode μ.2.1 pc = .ok (.if_icmp .ge off, 3)) (ht : (pc : Int) + off = (t : Int)) (hq : pc + 3 = q) (k1 : y ≤ x → wp l μ sc d kc ks Q h t lv st) (k2 : ¬ (y ≤ x) → wp l μ sc d kc ks Q h q lv st) : wp l μ sc d kc ks Q h pc lv (.int y :: .int x :: st) := by
  subst hq
  exact wp_two (P := y ≤ x) (fun _ _ _ _ _ _ _ _ _ _ _ _ _ _ _ hx hb w1 w2 => lv_icmp_ge hx hb hd ht w1 w2) k1 k2
theorem wp_icmp_gt {x y : Int32} {off : Int} {t : Nat} (hd : decode μ.2.1 pc = .ok (.if_icmp .gt off, 3)) (ht : (pc : Int) + off = (t : Int)) (hq : pc + 3 = q) (k1 : y < x → wp l μ sc d kc ks Q h t lv st) (k2 : ¬ (y < x) → wp l μ sc d kc ks Q h q lv st) : wp l μ sc d kc ks Q h pc lv (.int y :: .int x :: st) := by
  subst hq
  exact wp_two (P := y < x) (fun _ _ _ _ _ _ _ _ _ _ _ _ _ _ _ hx hb w1 w2 => lv_icmp_gt hx hb hd ht w1 w2) k1 k2
theorem wp_icmp_le {x y : Int32} {off : Int} {t : Nat} (hd : decode μ.2.1 pc = .ok (.if_icmp .le off, 3)) (ht : (pc : Int) + off = (t : Int)) (hq : pc + 3 = q) (k1 : x ≤ y → wp l μ sc d kc ks Q h t lv st) (k2 : ¬ (x ≤ y) → wp l μ sc d kc ks Q h q lv st) : wp l μ sc d kc ks Q h pc lv (.int y :: .int x :: st) := by
  subst hq
  exact wp_two (P := x ≤ y) (fun _ _ _ _ _ _ _ _ _ _ _ _ _ _ _ hx hb w1 w2 => lv_icmp_le hx hb hd ht w1 w2) k1 k2
theorem wp_tableOut {dflt lo hi : Int} {offs : Array Int} {len : Nat} {x : Int32} (hd : decode μ.2.1 pc = .ok (.tableswitch dflt lo hi offs, len)) (hx : x.toInt < lo ∨ hi < x.toInt) (hq : (pc : Int) + dflt = (q : Int)) (k : wp l μ sc d kc ks Q h q lv st) : wp l μ sc d kc ks Q h pc lv (.int x :: st) :=
  wp_pure (fun _ _ _ _ _ _ _ _ _ _ _ _ _ _ _ he hb _ w => lv_tableOut he hb hd hx hq w) k
theorem wp_tableIn {dflt lo hi off : Int} {offs : Array Int} {len : Nat} {x : Int32} (hd : decode μ.2.1 pc = .ok (.tableswitch dflt lo hi offs, len)) (h1 : ¬ x.toInt < lo) (h2 : ¬ hi < x.toInt) (ho : offs[(x.toInt - lo).toNat]? = some off) (hq : (pc : Int) + off = (q : Int)) (k : wp l μ sc d kc ks Q h q lv st) : wp l μ sc d kc ks Q h pc lv (.int x :: st) :=
  wp_pure (fun _ _ _ _ _ _ _ _ _ _ _ _ _ _ _ he hb _ w => lv_tableIn he hb hd h1 h2 ho hq w) k
theorem wp_ldc {idx : Nat} {v : Int32} (hd : decode μ.2.1 pc = .ok (.ldc idx, 2)) (hw : Cond.constant μ.1.cls idx v ∈ gwl) (hq : pc + 2 = q) (k : wp l μ sc d kc ks Q h q lv (.int v :: st)) : wp l μ sc d kc ks Q h pc lv st := by
  subst hq
  exact fun D cT p e R s m args below meth c A Z C z H locs cells slots ls r1 r2 r3 r4 r5 r6 => lv_ldc C.1 C.2.1 C.2.2.2.2.1 (C.2.2.2.2.2.1 _ hw) hd (k D cT p e R s m args below meth c A Z C z H locs cells slots ls r1 r2 r3 r4 r5 r6)
theorem wp_ldc2 {idx : Nat} {v : Int64} (hd : decode μ.2.1 pc = .ok (.ldc2_w idx, 3)) (hw : Cond.constantLong μ.1.cls idx v ∈ gwl) (hq : pc + 3 = q) (k : wp l μ sc d kc ks Q h q lv (.long v :: st)) : wp l μ sc d kc ks Q h pc lv st := by
  subst hq
  exact fun D cT p e R s m args below meth c A Z C z H locs cells slots ls r1 r2 r3 r4 r5 r6 => lv_ldc2 C.1 C.2.1 C.2.2.2.2.1 (C.2.2.2.2.2.1 _ hw) hd (k D cT p e R s m args below meth c A Z C z H locs cells slots ls r1 r2 r3 r4 r5 r6)
/-- stores into locals -/
theorem wp_sto {pc' : Nat} {lv' : List (Option Value)} {st st' : List Value} (f : ∀ (p : Program) (e : Env) (R : Room) (s : State) (m : MethodId) (args : Array Value) (below : List Frame) (meth : Method) (c : Code) (Z : State → Prop) (H : Heap) (locs : List Loc) (cells slots : Nat) (ls : Array Slot), p.tables.exec = Jvm.exec → c.code = μ.2.1 → lw_L ls μ.2.2.1 lv → (∀ ls' : Array Slot, lw_L ls' μ.2.2.1 lv' → W p l e R s m args below meth c H locs cells slots Z (F0 m pc' ls' st')) → W p l e R s m args below meth c H locs cells slots Z (F0 m pc ls st))
    (k : wp l μ sc d kc ks Q h pc' lv' st') : wp l μ sc d kc ks Q h pc lv st :=
  fun D cT p e R s m args below meth c A Z C z H locs cells slots ls r1 r2 r3 r4 r5 r6 => f p e R s m args below meth c Z H locs cells slots ls C.1 C.2.1 r4 (fun ls' h' => k D cT p e R s m args below meth c A Z C z H locs cells slots ls' r1 r2 r3 h' r5 r6)
theorem wp_istore_n {n : Fin 4} {i : Nat} {x : Int32} {lv' : List (Option Value)} (hd : decode μ.2.1 pc = .ok (.istore_n n, 1)) (hi : (n : Nat) = i) (hn : i < μ.2.2.1) (hl : st1 lv i (.int x) = lv') (hq : pc + 1 = q) (k : wp l μ sc d kc ks Q h q lv' st) : wp l μ sc d kc ks Q h pc lv (.int x :: st) := by
  subst hq; subst hl
  exact wp_sto (fun _ _ _ _ _ _ _ _ _ _ _ _ _ _ _ hx hb hl w => lv_istore_n hx hb hd hi hl.has hn rfl (fun ls' h' => w ls' (lw_store1 h'))) k
theorem wp_istore {i : Nat} {x : Int32} {lv' : List (Option Value)} (hd : decode μ.2.1 pc = .ok (.istore i, 2)) (hn : i < μ.2.2.1) (hl : st1 lv i (.int x) = lv') (hq : pc + 2 = q) (k : wp l μ sc d kc ks Q h q lv' st) : wp l μ sc d kc ks Q h pc lv (.int x :: st) := by
  subst hq; subst hl
  exact wp_sto (fun _ _ _ _ _ _ _ _ _ _ _ _ _ _ _ hx hb hl w => lv_istore hx hb hd hl.has hn rfl (fun ls' h' => w ls' (lw_store1 h'))) k
theorem wp_astore_n {n : Fin 4} {i : Nat} {x : Nat} {lv' : List (Option Value)} (hd : decode μ.2.1 pc = .ok (.astore_n n, 1)) (hi : (n : Nat) = i) (hn : i < μ.2.2.1) (hl : st1 lv i (.ref x) = lv') (hq : pc + 1 = q) (k : wp l μ sc d kc ks Q h q lv' st) : wp l μ sc d kc ks Q h pc lv (.ref x :: st) := by
  subst hq; subst hl
  exact wp_sto (fun _ _ _ _ _ _ _ _ _ _ _ _ _ _ _ hx hb hl w => lv_astore_n hx hb hd hi hl.has hn rfl (fun ls' h' => w ls' (lw_store1 h'))) k
theorem wp_astore {i : Nat} {x : Nat} {lv' : List (Option Value)} (hd : decode μ.2.1 pc = .ok (.astore i, 2)) (hn : i < μ.2.2.1) (hl : st1 lv i (.ref x) = lv') (hq : pc + 2 = q) (k : wp l μ sc d kc ks Q h q lv' st) : wp l μ sc d kc ks Q h pc lv (.ref x :: st) := by
  subst hq; subst hl
  exact wp_sto (fun _ _ _ _ _ _ _ _ _ _ _ _ _ _ _ hx hb hl w => lv_astore hx hb hd hl.has hn rfl (fun ls' h' => w ls' (lw_store1 h'))) k
theorem wp_lstore_n {n : Fin 4} {i : Nat} {x : Int64} {lv' : List (Option Value)} (hd : decode μ.2.1 pc = .ok (.lstore_n n, 1)) (hi : (n : Nat) = i) (hn : i + 1 < μ.2.2.1) (hl : st2 lv i (.long x) = lv') (hq : pc + 1 = q) (k : wp l μ sc d kc ks Q h q lv' st) : wp l μ sc d kc ks Q h pc lv (.long x :: st) := by
  subst hq; subst hl
  exact wp_sto (fun _ _ _ _ _ _ _ _ _ _ _ _ _ _ _ hx hb hl w => lv_lstore_n hx hb hd hi hl.has hn rfl (fun ls' h' => w ls' (lw_store2 h'))) k
theorem wp_lstore {i : Nat} {x : Int64} {lv' : List (Option Value)} (hd : decode μ.2.1 pc = .ok (.lstore i, 2)) (hn : i + 1 < μ.2.2.1) (hl : st2 lv i (.long x) = lv') (hq : pc + 2 = q) (k : wp l μ sc d kc ks Q h q lv' st) : wp l μ sc d kc ks Q h pc lv (.long x :: st) := by
  subst hq; subst hl
  exact wp_sto (fun _ _ _ _ _ _ _ _ _ _ _ _ _ _ _ hx hb hl w => lv_lstore hx hb hd hl.has hn rfl (fun ls' h' => w ls' (lw_store2 h'))) k
theorem wp_astore_nN {n : Fin 4} {i : Nat} {lv' : List (Option Value)} (hd : decode μ.2.1 pc = .ok (.astore_n n, 1)) (hi : (n : Nat) = i) (hn : i < μ.2.2.1) (hl : st1 lv i .null = lv') (hq : pc + 1 = q) (k : wp l μ sc d kc ks Q h q lv' st) : wp l μ sc d kc ks Q h pc lv (.null :: st) := by
  subst hq; subst hl
  exact wp_sto (fun _ _ _ _ _ _ _ _ _ _ _ _ _ _ _ hx hb hl w => lv_astore_nN hx hb hd hi hl.has hn rfl (fun ls' h' => w ls' (lw_store1 h'))) k
theorem wp_astoreN {i : Nat} {lv' : List (Option Value)} (hd : decode μ.2.1 pc = .ok (.astore i, 2)) (hn : i < μ.2.2.1) (hl : st1 lv i .null = lv') (hq : pc + 2 = q) (k : wp l μ sc d kc ks Q h q lv' st) : wp l μ sc d kc ks Q h pc lv (.null :: st) := by
  subst hq; subst hl
  exact wp_sto (fun _ _ _ _ _ _ _ _ _ _ _ _ _ _ _ hx hb hl w => lv_astoreN hx hb hd hl.has hn rfl (fun ls' h' => w ls' (lw_store1 h'))) k
theorem wp_iinc {i : Nat} {n : Int} {x v : Int32} {lv' : List (Option Value)} (hd : decode μ.2.1 pc = .ok (.iinc i n, 3)) (hv : lv[i]? = some (some (.int x))) (he : x + Int32.ofInt n = v) (hn : i < μ.2.2.1) (hl : st1 lv i (.int v) = lv') (hq : pc + 3 = q) (k : wp l μ sc d kc ks Q h q lv' st) : wp l μ sc d kc ks Q h pc lv st := by
  subst hq; subst hl
  refine wp_sto (fun _ _ _ _ _ _ _ _ _ _ _ _ _ _ _ hx hb hl w => ?_) k
  obtain ⟨j, hj⟩ := List.getElem?_of_mem (toP_of lv 0 i _ hv)
  exact lv_iinc hx hb hd hl.has (k := j) (by simpa using hj) he hn rfl (fun ls' h' => w ls' (lw_store1 h'))
/-- ends -/
theorem wp_ret {rv : Option Value} {ri : Instr} (hd : decode μ.2.1 pc = .ok (ri, 1)) (ho : rOK μ.2.2.2 ri rv) (hQ : Q rv h) : wp l μ sc d kc ks Q h pc lv rv.toList :=
  fun D cT p e R s m args below meth c A Z C z H locs cells slots ls r1 r2 r3 r4 r5 r6 => z rv h H locs cells slots pc ls ri hQ r1 r2 r3 (by omega) (by omega) ho hd
theorem wp_vret (hd : decode μ.2.1 pc = .ok (.return_, 1)) (ho : μ.2.2.2 = none) (hQ : Q none h) : wp l μ sc d kc ks Q h pc lv [] := wp_ret (rv := none) hd (Or.inl ⟨ho, rfl, rfl⟩) hQ
theorem wp_iret {v : Int32} (hd : decode μ.2.1 pc = .ok (.ireturn, 1)) (ho : μ.2.2.2 = some .int) (hQ : Q (some (.int v)) h) : wp l μ sc d kc ks Q h pc lv [.int v] := wp_ret (rv := some (.int v)) hd (Or.inr (Or.inl ⟨v, ho, rfl, rfl⟩)) hQ
theorem wp_zret {v : Int32} (hd : decode μ.2.1 pc = .ok (.ireturn, 1)) (ho : μ.2.2.2 = some .boolean) (hv : v = 0 ∨ v = 1) (hQ : Q (some (.int v)) h) : wp l μ sc d kc ks Q h pc lv [.int v] := wp_ret (rv := some (.int v)) hd (Or.inr (Or.inr (Or.inl ⟨v, ho, rfl, rfl, hv⟩))) hQ
theorem wp_lret {v : Int64} (hd : decode μ.2.1 pc = .ok (.lreturn, 1)) (ho : μ.2.2.2 = some .long) (hQ : Q (some (.long v)) h) : wp l μ sc d kc ks Q h pc lv [.long v] := wp_ret (rv := some (.long v)) hd (Or.inr (Or.inr (Or.inr (Or.inl ⟨v, ho, rfl, rfl⟩)))) hQ
theorem wp_aret {v : Value} {t : FieldType} (hd : decode μ.2.1 pc = .ok (.areturn, 1)) (ho : μ.2.2.2 = some t) (ht : (∃ n, t = .object n) ∨ ∃ u, t = .array u) (hv : v = .null ∨ ∃ a, v = .ref a) (hQ : Q (some v) h) : wp l μ sc d kc ks Q h pc lv [v] := wp_ret (rv := some v) hd (Or.inr (Or.inr (Or.inr (Or.inr ⟨v, t, ho, ht, hv, rfl, rfl⟩)))) hQ
/-- the room left may be said larger than it is needed -/
theorem wp_room {kc' ks' : Nat} (h1 : kc' ≤ kc) (h2 : ks' ≤ ks) (k : wp l μ sc d kc' ks' Q h pc lv st) : wp l μ sc d kc ks Q h pc lv st :=
  fun D cT p e R s m args below meth c A Z C z H locs cells slots ls r1 r2 r3 r4 r5 r6 => k D cT p e R s m args below meth c A Z C z H locs cells slots ls r1 r2 r3 r4 (by omega) (by omega)
theorem wp_post {Q' : Option Value → aH → Prop} (f : ∀ rv h', Q' rv h' → Q rv h') (k : wp l μ sc d kc ks Q' h pc lv st) : wp l μ sc d kc ks Q h pc lv st :=
  fun D cT p e R s m args below meth c A Z C z H locs cells slots ls r1 r2 r3 r4 r5 r6 => k D cT p e R s m args below meth c A Z C (fun rv h' H' locs' cells' slots' pc' ls' ri hQ => z rv h' H' locs' cells' slots' pc' ls' ri (f rv h' hQ)) H locs cells slots ls r1 r2 r3 r4 r5 r6
end Rules
