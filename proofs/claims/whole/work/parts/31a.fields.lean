/-! THE CLASS: fields, arrays -/
section CF
variable {l : Launch} {μ : Mu} {sc : rp_S} {d kc ks : Nat} {Q : Option Value → aH → Prop} {h h' : aH} {pc q : Nat} {lv : List (Option Value)} {st : List Value}
def FD0 (x0 : Int32) (x1 : Int32) (x2 : Int32) (x3 : Int32) (r4 : Nat) : Nat → Value := fun k => match k with
  | 0 => .int x0
  | 1 => .int x1
  | 2 => .int x2
  | 3 => .int x3
  | 4 => .ref r4
  | _ => defaultValue (tyX0 k)
theorem wg0_0 {idx a : Nat} {ty : FieldType} {fin : Bool} {x0 : Int32} {x1 : Int32} {x2 : Int32} {x3 : Int32} {r4 : Nat} (hd : decode μ.2.1 pc = .ok (.getfield idx, 3)) (hf : fl μ.1.cls idx 0 0 ty fin) (ha : h.2 a = some (.inr (0, FD0 x0 x1 x2 x3 r4))) (hq : pc + 3 = q) (kk : wp l μ sc d kc ks Q h q lv (.int x0 :: st)) : wp l μ sc d kc ks Q h pc lv (.ref a :: st) := wp_get hd hf ha hq kk
theorem uF0_0 {x0 : Int32} {x1 : Int32} {x2 : Int32} {x3 : Int32} {r4 : Nat} {x : Int32} : updV (FD0 x0 x1 x2 x3 r4) 0 (.int x) = FD0 x x1 x2 x3 r4 := by
  funext j
  rcases j with _ | _ | _ | _ | _ | j <;> first | rfl | (unfold updV FD0; simp)
theorem wt0_0 {idx a : Nat} {x0 : Int32} {x1 : Int32} {x2 : Int32} {x3 : Int32} {r4 : Nat} {x : Int32} (hd : decode μ.2.1 pc = .ok (.putfield idx, 3)) (hf : fl μ.1.cls idx 0 0 .int false) (ha : h.2 a = some (.inr (0, FD0 x0 x1 x2 x3 r4))) (hs : hset h a (.inr (0, FD0 x x1 x2 x3 r4)) = h') (hq : pc + 3 = q) (kk : wp l μ sc d kc ks Q h' q lv st) : wp l μ sc d kc ks Q h pc lv (.int x :: .ref a :: st) := wp_put hd hf ha rfl rfl hq (by rw [uF0_0, hs]; exact kk)
theorem wg0_1 {idx a : Nat} {ty : FieldType} {fin : Bool} {x0 : Int32} {x1 : Int32} {x2 : Int32} {x3 : Int32} {r4 : Nat} (hd : decode μ.2.1 pc = .ok (.getfield idx, 3)) (hf : fl μ.1.cls idx 0 1 ty fin) (ha : h.2 a = some (.inr (0, FD0 x0 x1 x2 x3 r4))) (hq : pc + 3 = q) (kk : wp l μ sc d kc ks Q h q lv (.int x1 :: st)) : wp l μ sc d kc ks Q h pc lv (.ref a :: st) := wp_get hd hf ha hq kk
theorem uF0_1 {x0 : Int32} {x1 : Int32} {x2 : Int32} {x3 : Int32} {r4 : Nat} {x : Int32} : updV (FD0 x0 x1 x2 x3 r4) 1 (.int x) = FD0 x0 x x2 x3 r4 := by
  funext j
  rcases j with _ | _ | _ | _ | _ | j <;> first | rfl | (unfold updV FD0; simp)
theorem wt0_1 {idx a : Nat} {x0 : Int32} {x1 : Int32} {x2 : Int32} {x3 : Int32} {r4 : Nat} {x : Int32} (hd : decode μ.2.1 pc = .ok (.putfield idx, 3)) (hf : fl μ.1.cls idx 0 1 .int false) (ha : h.2 a = some (.inr (0, FD0 x0 x1 x2 x3 r4))) (hs : hset h a (.inr (0, FD0 x0 x x2 x3 r4)) = h') (hq : pc + 3 = q) (kk : wp l μ sc d kc ks Q h' q lv st) : wp l μ sc d kc ks Q h pc lv (.int x :: .ref a :: st) := wp_put hd hf ha rfl rfl hq (by rw [uF0_1, hs]; exact kk)
theorem wg0_2 {idx a : Nat} {ty : FieldType} {fin : Bool} {x0 : Int32} {x1 : Int32} {x2 : Int32} {x3 : Int32} {r4 : Nat} (hd : decode μ.2.1 pc = .ok (.getfield idx, 3)) (hf : fl μ.1.cls idx 0 2 ty fin) (ha : h.2 a = some (.inr (0, FD0 x0 x1 x2 x3 r4))) (hq : pc + 3 = q) (kk : wp l μ sc d kc ks Q h q lv (.int x2 :: st)) : wp l μ sc d kc ks Q h pc lv (.ref a :: st) := wp_get hd hf ha hq kk
theorem uF0_2 {x0 : Int32} {x1 : Int32} {x2 : Int32} {x3 : Int32} {r4 : Nat} {x : Int32} : updV (FD0 x0 x1 x2 x3 r4) 2 (.int x) = FD0 x0 x1 x x3 r4 := by
  funext j
  rcases j with _ | _ | _ | _ | _ | j <;> first | rfl | (unfold updV FD0; simp)
theorem wt0_2 {idx a : Nat} {x0 : Int32} {x1 : Int32} {x2 : Int32} {x3 : Int32} {r4 : Nat} {x : Int32} (hd : decode μ.2.1 pc = .ok (.putfield idx, 3)) (hf : fl μ.1.cls idx 0 2 .int false) (ha : h.2 a = some (.inr (0, FD0 x0 x1 x2 x3 r4))) (hs : hset h a (.inr (0, FD0 x0 x1 x x3 r4)) = h') (hq : pc + 3 = q) (kk : wp l μ sc d kc ks Q h' q lv st) : wp l μ sc d kc ks Q h pc lv (.int x :: .ref a :: st) := wp_put hd hf ha rfl rfl hq (by rw [uF0_2, hs]; exact kk)
theorem wg0_3 {idx a : Nat} {ty : FieldType} {fin : Bool} {x0 : Int32} {x1 : Int32} {x2 : Int32} {x3 : Int32} {r4 : Nat} (hd : decode μ.2.1 pc = .ok (.getfield idx, 3)) (hf : fl μ.1.cls idx 0 3 ty fin) (ha : h.2 a = some (.inr (0, FD0 x0 x1 x2 x3 r4))) (hq : pc + 3 = q) (kk : wp l μ sc d kc ks Q h q lv (.int x3 :: st)) : wp l μ sc d kc ks Q h pc lv (.ref a :: st) := wp_get hd hf ha hq kk
theorem uF0_3 {x0 : Int32} {x1 : Int32} {x2 : Int32} {x3 : Int32} {r4 : Nat} {x : Int32} : updV (FD0 x0 x1 x2 x3 r4) 3 (.int x) = FD0 x0 x1 x2 x r4 := by
  funext j
  rcases j with _ | _ | _ | _ | _ | j <;> first | rfl | (unfold updV FD0; simp)
theorem wt0_3 {idx a : Nat} {x0 : Int32} {x1 : Int32} {x2 : Int32} {x3 : Int32} {r4 : Nat} {x : Int32} (hd : decode μ.2.1 pc = .ok (.putfield idx, 3)) (hf : fl μ.1.cls idx 0 3 .int false) (ha : h.2 a = some (.inr (0, FD0 x0 x1 x2 x3 r4))) (hs : hset h a (.inr (0, FD0 x0 x1 x2 x r4)) = h') (hq : pc + 3 = q) (kk : wp l μ sc d kc ks Q h' q lv st) : wp l μ sc d kc ks Q h pc lv (.int x :: .ref a :: st) := wp_put hd hf ha rfl rfl hq (by rw [uF0_3, hs]; exact kk)
theorem wg0_4 {idx a : Nat} {ty : FieldType} {fin : Bool} {x0 : Int32} {x1 : Int32} {x2 : Int32} {x3 : Int32} {r4 : Nat} (hd : decode μ.2.1 pc = .ok (.getfield idx, 3)) (hf : fl μ.1.cls idx 0 4 ty fin) (ha : h.2 a = some (.inr (0, FD0 x0 x1 x2 x3 r4))) (hq : pc + 3 = q) (kk : wp l μ sc d kc ks Q h q lv (.ref r4 :: st)) : wp l μ sc d kc ks Q h pc lv (.ref a :: st) := wp_get hd hf ha hq kk
def FD1 (x0 : Int32) (r1 : Nat) (x2 : Int32) (r3 : Nat) (r4 : Nat) (r5 : Nat) (r6 : Nat) (r7 : Nat) (r8 : Nat) (r9 : Nat) (r10 : Nat) (r11 : Nat) (r12 : Nat) : Nat → Value := fun k => match k with
  | 0 => .int x0
  | 1 => .ref r1
  | 2 => .int x2
  | 3 => .ref r3
  | 4 => .ref r4
  | 5 => .ref r5
  | 6 => .ref r6
  | 7 => .ref r7
  | 8 => .ref r8
  | 9 => .ref r9
  | 10 => .ref r10
  | 11 => .ref r11
  | 12 => .ref r12
  | _ => defaultValue (tyX1 k)
theorem wg1_0 {idx a : Nat} {ty : FieldType} {fin : Bool} {x0 : Int32} {r1 : Nat} {x2 : Int32} {r3 : Nat} {r4 : Nat} {r5 : Nat} {r6 : Nat} {r7 : Nat} {r8 : Nat} {r9 : Nat} {r10 : Nat} {r11 : Nat} {r12 : Nat} (hd : decode μ.2.1 pc = .ok (.getfield idx, 3)) (hf : fl μ.1.cls idx 1 0 ty fin) (ha : h.2 a = some (.inr (1, FD1 x0 r1 x2 r3 r4 r5 r6 r7 r8 r9 r10 r11 r12))) (hq : pc + 3 = q) (kk : wp l μ sc d kc ks Q h q lv (.int x0 :: st)) : wp l μ sc d kc ks Q h pc lv (.ref a :: st) := wp_get hd hf ha hq kk
theorem uF1_0 {x0 : Int32} {r1 : Nat} {x2 : Int32} {r3 : Nat} {r4 : Nat} {r5 : Nat} {r6 : Nat} {r7 : Nat} {r8 : Nat} {r9 : Nat} {r10 : Nat} {r11 : Nat} {r12 : Nat} {x : Int32} : updV (FD1 x0 r1 x2 r3 r4 r5 r6 r7 r8 r9 r10 r11 r12) 0 (.int x) = FD1 x r1 x2 r3 r4 r5 r6 r7 r8 r9 r10 r11 r12 := by
  funext j
  rcases j with _ | _ | _ | _ | _ | _ | _ | _ | _ | _ | _ | _ | _ | j <;> first | rfl | (unfold updV FD1; simp)
theorem wt1_0 {idx a : Nat} {x0 : Int32} {r1 : Nat} {x2 : Int32} {r3 : Nat} {r4 : Nat} {r5 : Nat} {r6 : Nat} {r7 : Nat} {r8 : Nat} {r9 : Nat} {r10 : Nat} {r11 : Nat} {r12 : Nat} {x : Int32} (hd : decode μ.2.1 pc = .ok (.putfield idx, 3)) (hf : fl μ.1.cls idx 1 0 .int false) (ha : h.2 a = some (.inr (1, FD1 x0 r1 x2 r3 r4 r5 r6 r7 r8 r9 r10 r11 r12))) (hs : hset h a (.inr (1, FD1 x r1 x2 r3 r4 r5 r6 r7 r8 r9 r10 r11 r12)) = h') (hq : pc + 3 = q) (kk : wp l μ sc d kc ks Q h' q lv st) : wp l μ sc d kc ks Q h pc lv (.int x :: .ref a :: st) := wp_put hd hf ha rfl rfl hq (by rw [uF1_0, hs]; exact kk)
theorem wg1_1 {idx a : Nat} {ty : FieldType} {fin : Bool} {x0 : Int32} {r1 : Nat} {x2 : Int32} {r3 : Nat} {r4 : Nat} {r5 : Nat} {r6 : Nat} {r7 : Nat} {r8 : Nat} {r9 : Nat} {r10 : Nat} {r11 : Nat} {r12 : Nat} (hd : decode μ.2.1 pc = .ok (.getfield idx, 3)) (hf : fl μ.1.cls idx 1 1 ty fin) (ha : h.2 a = some (.inr (1, FD1 x0 r1 x2 r3 r4 r5 r6 r7 r8 r9 r10 r11 r12))) (hq : pc + 3 = q) (kk : wp l μ sc d kc ks Q h q lv (.ref r1 :: st)) : wp l μ sc d kc ks Q h pc lv (.ref a :: st) := wp_get hd hf ha hq kk
theorem wg1_2 {idx a : Nat} {ty : FieldType} {fin : Bool} {x0 : Int32} {r1 : Nat} {x2 : Int32} {r3 : Nat} {r4 : Nat} {r5 : Nat} {r6 : Nat} {r7 : Nat} {r8 : Nat} {r9 : Nat} {r10 : Nat} {r11 : Nat} {r12 : Nat} (hd : decode μ.2.1 pc = .ok (.getfield idx, 3)) (hf : fl μ.1.cls idx 1 2 ty fin) (ha : h.2 a = some (.inr (1, FD1 x0 r1 x2 r3 r4 r5 r6 r7 r8 r9 r10 r11 r12))) (hq : pc + 3 = q) (kk : wp l μ sc d kc ks Q h q lv (.int x2 :: st)) : wp l μ sc d kc ks Q h pc lv (.ref a :: st) := wp_get hd hf ha hq kk
theorem uF1_2 {x0 : Int32} {r1 : Nat} {x2 : Int32} {r3 : Nat} {r4 : Nat} {r5 : Nat} {r6 : Nat} {r7 : Nat} {r8 : Nat} {r9 : Nat} {r10 : Nat} {r11 : Nat} {r12 : Nat} {x : Int32} : updV (FD1 x0 r1 x2 r3 r4 r5 r6 r7 r8 r9 r10 r11 r12) 2 (.int x) = FD1 x0 r1 x r3 r4 r5 r6 r7 r8 r9 r10 r11 r12 := by
  funext j
  rcases j with _ | _ | _ | _ | _ | _ | _ | _ | _ | _ | _ | _ | _ | j <;> first | rfl | (unfold updV FD1; simp)
theorem wt1_2 {idx a : Nat} {x0 : Int32} {r1 : Nat} {x2 : Int32} {r3 : Nat} {r4 : Nat} {r5 : Nat} {r6 : Nat} {r7 : Nat} {r8 : Nat} {r9 : Nat} {r10 : Nat} {r11 : Nat} {r12 : Nat} {x : Int32} (hd : decode μ.2.1 pc = .ok (.putfield idx, 3)) (hf : fl μ.1.cls idx 1 2 .int false) (ha : h.2 a = some (.inr (1, FD1 x0 r1 x2 r3 r4 r5 r6 r7 r8 r9 r10 r11 r12))) (hs : hset h a (.inr (1, FD1 x0 r1 x r3 r4 r5 r6 r7 r8 r9 r10 r11 r12)) = h') (hq : pc + 3 = q) (kk : wp l μ sc d kc ks Q h' q lv st) : wp l μ sc d kc ks Q h pc lv (.int x :: .ref a :: st) := wp_put hd hf ha rfl rfl hq (by rw [uF1_2, hs]; exact kk)
theorem wg1_3 {idx a : Nat} {ty : FieldType} {fin : Bool} {x0 : Int32} {r1 : Nat} {x2 : Int32} {r3 : Nat} {r4 : Nat} {r5 : Nat} {r6 : Nat} {r7 : Nat} {r8 : Nat} {r9 : Nat} {r10 : Nat} {r11 : Nat} {r12 : Nat} (hd : decode μ.2.1 pc = .ok (.getfield idx, 3)) (hf : fl μ.1.cls idx 1 3 ty fin) (ha : h.2 a = some (.inr (1, FD1 x0 r1 x2 r3 r4 r5 r6 r7 r8 r9 r10 r11 r12))) (hq : pc + 3 = q) (kk : wp l μ sc d kc ks Q h q lv (.ref r3 :: st)) : wp l μ sc d kc ks Q h pc lv (.ref a :: st) := wp_get hd hf ha hq kk
theorem wg1_4 {idx a : Nat} {ty : FieldType} {fin : Bool} {x0 : Int32} {r1 : Nat} {x2 : Int32} {r3 : Nat} {r4 : Nat} {r5 : Nat} {r6 : Nat} {r7 : Nat} {r8 : Nat} {r9 : Nat} {r10 : Nat} {r11 : Nat} {r12 : Nat} (hd : decode μ.2.1 pc = .ok (.getfield idx, 3)) (hf : fl μ.1.cls idx 1 4 ty fin) (ha : h.2 a = some (.inr (1, FD1 x0 r1 x2 r3 r4 r5 r6 r7 r8 r9 r10 r11 r12))) (hq : pc + 3 = q) (kk : wp l μ sc d kc ks Q h q lv (.ref r4 :: st)) : wp l μ sc d kc ks Q h pc lv (.ref a :: st) := wp_get hd hf ha hq kk
theorem wg1_5 {idx a : Nat} {ty : FieldType} {fin : Bool} {x0 : Int32} {r1 : Nat} {x2 : Int32} {r3 : Nat} {r4 : Nat} {r5 : Nat} {r6 : Nat} {r7 : Nat} {r8 : Nat} {r9 : Nat} {r10 : Nat} {r11 : Nat} {r12 : Nat} (hd : decode μ.2.1 pc = .ok (.getfield idx, 3)) (hf : fl μ.1.cls idx 1 5 ty fin) (ha : h.2 a = some (.inr (1, FD1 x0 r1 x2 r3 r4 r5 r6 r7 r8 r9 r10 r11 r12))) (hq : pc + 3 = q) (kk : wp l μ sc d kc ks Q h q lv (.ref r5 :: st)) : wp l μ sc d kc ks Q h pc lv (.ref a :: st) := wp_get hd hf ha hq kk
theorem wg1_6 {idx a : Nat} {ty : FieldType} {fin : Bool} {x0 : Int32} {r1 : Nat} {x2 : Int32} {r3 : Nat} {r4 : Nat} {r5 : Nat} {r6 : Nat} {r7 : Nat} {r8 : Nat} {r9 : Nat} {r10 : Nat} {r11 : Nat} {r12 : Nat} (hd : decode μ.2.1 pc = .ok (.getfield idx, 3)) (hf : fl μ.1.cls idx 1 6 ty fin) (ha : h.2 a = some (.inr (1, FD1 x0 r1 x2 r3 r4 r5 r6 r7 r8 r9 r10 r11 r12))) (hq : pc + 3 = q) (kk : wp l μ sc d kc ks Q h q lv (.ref r6 :: st)) : wp l μ sc d kc ks Q h pc lv (.ref a :: st) := wp_get hd hf ha hq kk
theorem wg1_7 {idx a : Nat} {ty : FieldType} {fin : Bool} {x0 : Int32} {r1 : Nat} {x2 : Int32} {r3 : Nat} {r4 : Nat} {r5 : Nat} {r6 : Nat} {r7 : Nat} {r8 : Nat} {r9 : Nat} {r10 : Nat} {r11 : Nat} {r12 : Nat} (hd : decode μ.2.1 pc = .ok (.getfield idx, 3)) (hf : fl μ.1.cls idx 1 7 ty fin) (ha : h.2 a = some (.inr (1, FD1 x0 r1 x2 r3 r4 r5 r6 r7 r8 r9 r10 r11 r12))) (hq : pc + 3 = q) (kk : wp l μ sc d kc ks Q h q lv (.ref r7 :: st)) : wp l μ sc d kc ks Q h pc lv (.ref a :: st) := wp_get hd hf ha hq kk
theorem wg1_8 {idx a : Nat} {ty : FieldType} {fin : Bool} {x0 : Int32} {r1 : Nat} {x2 : Int32} {r3 : Nat} {r4 : Nat} {r5 : Nat} {r6 : Nat} {r7 : Nat} {r8 : Nat} {r9 : Nat} {r10 : Nat} {r11 : Nat} {r12 : Nat} (hd : decode μ.2.1 pc = .ok (.getfield idx, 3)) (hf : fl μ.1.cls idx 1 8 ty fin) (ha : h.2 a = some (.inr (1, FD1 x0 r1 x2 r3 r4 r5 r6 r7 r8 r9 r10 r11 r12))) (hq : pc + 3 = q) (kk : wp l μ sc d kc ks Q h q lv (.ref r8 :: st)) : wp l μ sc d kc ks Q h pc lv (.ref a :: st) := wp_get hd hf ha hq kk
theorem wg1_9 {idx a : Nat} {ty : FieldType} {fin : Bool} {x0 : Int32} {r1 : Nat} {x2 : Int32} {r3 : Nat} {r4 : Nat} {r5 : Nat} {r6 : Nat} {r7 : Nat} {r8 : Nat} {r9 : Nat} {r10 : Nat} {r11 : Nat} {r12 : Nat} (hd : decode μ.2.1 pc = .ok (.getfield idx, 3)) (hf : fl μ.1.cls idx 1 9 ty fin) (ha : h.2 a = some (.inr (1, FD1 x0 r1 x2 r3 r4 r5 r6 r7 r8 r9 r10 r11 r12))) (hq : pc + 3 = q) (kk : wp l μ sc d kc ks Q h q lv (.ref r9 :: st)) : wp l μ sc d kc ks Q h pc lv (.ref a :: st) := wp_get hd hf ha hq kk
theorem wg1_10 {idx a : Nat} {ty : FieldType} {fin : Bool} {x0 : Int32} {r1 : Nat} {x2 : Int32} {r3 : Nat} {r4 : Nat} {r5 : Nat} {r6 : Nat} {r7 : Nat} {r8 : Nat} {r9 : Nat} {r10 : Nat} {r11 : Nat} {r12 : Nat} (hd : decode μ.2.1 pc = .ok (.getfield idx, 3)) (hf : fl μ.1.cls idx 1 10 ty fin) (ha : h.2 a = some (.inr (1, FD1 x0 r1 x2 r3 r4 r5 r6 r7 r8 r9 r10 r11 r12))) (hq : pc + 3 = q) (kk : wp l μ sc d kc ks Q h q lv (.ref r10 :: st)) : wp l μ sc d kc ks Q h pc lv (.ref a :: st) := wp_get hd hf ha hq kk
theorem wg1_11 {idx a : Nat} {ty : FieldType} {fin : Bool} {x0 : Int32} {r1 : Nat} {x2 : Int32} {r3 : Nat} {r4 : Nat} {r5 : Nat} {r6 : Nat} {r7 : Nat} {r8 : Nat} {r9 : Nat} {r10 : Nat} {r11 : Nat} {r12 : Nat} (hd : decode μ.2.1 pc = .ok (.getfield idx, 3)) (hf : fl μ.1.cls idx 1 11 ty fin) (ha : h.2 a = some (.inr (1, FD1 x0 r1 x2 r3 r4 r5 r6 r7 r8 r9 r10 r11 r12))) (hq : pc + 3 = q) (kk : wp l μ sc d kc ks Q h q lv (.ref r11 :: st)) : wp l μ sc d kc ks Q h pc lv (.ref a :: st) := wp_get hd hf ha hq kk
theorem wg1_12 {idx a : Nat} {ty : FieldType} {fin : Bool} {x0 : Int32} {r1 : Nat} {x2 : Int32} {r3 : Nat} {r4 : Nat} {r5 : Nat} {r6 : Nat} {r7 : Nat} {r8 : Nat} {r9 : Nat} {r10 : Nat} {r11 : Nat} {r12 : Nat} (hd : decode μ.2.1 pc = .ok (.getfield idx, 3)) (hf : fl μ.1.cls idx 1 12 ty fin) (ha : h.2 a = some (.inr (1, FD1 x0 r1 x2 r3 r4 r5 r6 r7 r8 r9 r10 r11 r12))) (hq : pc + 3 = q) (kk : wp l μ sc d kc ks Q h q lv (.ref r12 :: st)) : wp l μ sc d kc ks Q h pc lv (.ref a :: st) := wp_get hd hf ha hq kk
def FD2 (r0 : Nat) (r1 : Nat) : Nat → Value := fun k => match k with
  | 0 => .ref r0
  | 1 => .ref r1
  | _ => defaultValue (tyX2 k)
theorem wg2_0 {idx a : Nat} {ty : FieldType} {fin : Bool} {r0 : Nat} {r1 : Nat} (hd : decode μ.2.1 pc = .ok (.getfield idx, 3)) (hf : fl μ.1.cls idx 2 0 ty fin) (ha : h.2 a = some (.inr (2, FD2 r0 r1))) (hq : pc + 3 = q) (kk : wp l μ sc d kc ks Q h q lv (.ref r0 :: st)) : wp l μ sc d kc ks Q h pc lv (.ref a :: st) := wp_get hd hf ha hq kk
theorem wg2_1 {idx a : Nat} {ty : FieldType} {fin : Bool} {r0 : Nat} {r1 : Nat} (hd : decode μ.2.1 pc = .ok (.getfield idx, 3)) (hf : fl μ.1.cls idx 2 1 ty fin) (ha : h.2 a = some (.inr (2, FD2 r0 r1))) (hq : pc + 3 = q) (kk : wp l μ sc d kc ks Q h q lv (.ref r1 :: st)) : wp l μ sc d kc ks Q h pc lv (.ref a :: st) := wp_get hd hf ha hq kk
def FD3 (x0 : Int32) (r1 : Nat) (r2 : Nat) (x3 : Int32) (x4 : Int32) (x5 : Int32) : Nat → Value := fun k => match k with
  | 0 => .int x0
  | 1 => .ref r1
  | 2 => .ref r2
  | 3 => .int x3
  | 4 => .int x4
  | 5 => .int x5
  | _ => defaultValue (tyX3 k)
theorem wg3_0 {idx a : Nat} {ty : FieldType} {fin : Bool} {x0 : Int32} {r1 : Nat} {r2 : Nat} {x3 : Int32} {x4 : Int32} {x5 : Int32} (hd : decode μ.2.1 pc = .ok (.getfield idx, 3)) (hf : fl μ.1.cls idx 3 0 ty fin) (ha : h.2 a = some (.inr (3, FD3 x0 r1 r2 x3 x4 x5))) (hq : pc + 3 = q) (kk : wp l μ sc d kc ks Q h q lv (.int x0 :: st)) : wp l μ sc d kc ks Q h pc lv (.ref a :: st) := wp_get hd hf ha hq kk
theorem uF3_0 {x0 : Int32} {r1 : Nat} {r2 : Nat} {x3 : Int32} {x4 : Int32} {x5 : Int32} {x : Int32} : updV (FD3 x0 r1 r2 x3 x4 x5) 0 (.int x) = FD3 x r1 r2 x3 x4 x5 := by
  funext j
  rcases j with _ | _ | _ | _ | _ | _ | j <;> first | rfl | (unfold updV FD3; simp)
theorem wt3_0 {idx a : Nat} {x0 : Int32} {r1 : Nat} {r2 : Nat} {x3 : Int32} {x4 : Int32} {x5 : Int32} {x : Int32} (hd : decode μ.2.1 pc = .ok (.putfield idx, 3)) (hf : fl μ.1.cls idx 3 0 .int false) (ha : h.2 a = some (.inr (3, FD3 x0 r1 r2 x3 x4 x5))) (hs : hset h a (.inr (3, FD3 x r1 r2 x3 x4 x5)) = h') (hq : pc + 3 = q) (kk : wp l μ sc d kc ks Q h' q lv st) : wp l μ sc d kc ks Q h pc lv (.int x :: .ref a :: st) := wp_put hd hf ha rfl rfl hq (by rw [uF3_0, hs]; exact kk)
theorem wg3_1 {idx a : Nat} {ty : FieldType} {fin : Bool} {x0 : Int32} {r1 : Nat} {r2 : Nat} {x3 : Int32} {x4 : Int32} {x5 : Int32} (hd : decode μ.2.1 pc = .ok (.getfield idx, 3)) (hf : fl μ.1.cls idx 3 1 ty fin) (ha : h.2 a = some (.inr (3, FD3 x0 r1 r2 x3 x4 x5))) (hq : pc + 3 = q) (kk : wp l μ sc d kc ks Q h q lv (.ref r1 :: st)) : wp l μ sc d kc ks Q h pc lv (.ref a :: st) := wp_get hd hf ha hq kk
theorem wg3_2 {idx a : Nat} {ty : FieldType} {fin : Bool} {x0 : Int32} {r1 : Nat} {r2 : Nat} {x3 : Int32} {x4 : Int32} {x5 : Int32} (hd : decode μ.2.1 pc = .ok (.getfield idx, 3)) (hf : fl μ.1.cls idx 3 2 ty fin) (ha : h.2 a = some (.inr (3, FD3 x0 r1 r2 x3 x4 x5))) (hq : pc + 3 = q) (kk : wp l μ sc d kc ks Q h q lv (.ref r2 :: st)) : wp l μ sc d kc ks Q h pc lv (.ref a :: st) := wp_get hd hf ha hq kk
theorem wg3_3 {idx a : Nat} {ty : FieldType} {fin : Bool} {x0 : Int32} {r1 : Nat} {r2 : Nat} {x3 : Int32} {x4 : Int32} {x5 : Int32} (hd : decode μ.2.1 pc = .ok (.getfield idx, 3)) (hf : fl μ.1.cls idx 3 3 ty fin) (ha : h.2 a = some (.inr (3, FD3 x0 r1 r2 x3 x4 x5))) (hq : pc + 3 = q) (kk : wp l μ sc d kc ks Q h q lv (.int x3 :: st)) : wp l μ sc d kc ks Q h pc lv (.ref a :: st) := wp_get hd hf ha hq kk
theorem uF3_3 {x0 : Int32} {r1 : Nat} {r2 : Nat} {x3 : Int32} {x4 : Int32} {x5 : Int32} {x : Int32} : updV (FD3 x0 r1 r2 x3 x4 x5) 3 (.int x) = FD3 x0 r1 r2 x x4 x5 := by
  funext j
  rcases j with _ | _ | _ | _ | _ | _ | j <;> first | rfl | (unfold updV FD3; simp)
theorem wt3_3 {idx a : Nat} {x0 : Int32} {r1 : Nat} {r2 : Nat} {x3 : Int32} {x4 : Int32} {x5 : Int32} {x : Int32} (hd : decode μ.2.1 pc = .ok (.putfield idx, 3)) (hf : fl μ.1.cls idx 3 3 .int false) (ha : h.2 a = some (.inr (3, FD3 x0 r1 r2 x3 x4 x5))) (hs : hset h a (.inr (3, FD3 x0 r1 r2 x x4 x5)) = h') (hq : pc + 3 = q) (kk : wp l μ sc d kc ks Q h' q lv st) : wp l μ sc d kc ks Q h pc lv (.int x :: .ref a :: st) := wp_put hd hf ha rfl rfl hq (by rw [uF3_3, hs]; exact kk)
theorem wg3_4 {idx a : Nat} {ty : FieldType} {fin : Bool} {x0 : Int32} {r1 : Nat} {r2 : Nat} {x3 : Int32} {x4 : Int32} {x5 : Int32} (hd : decode μ.2.1 pc = .ok (.getfield idx, 3)) (hf : fl μ.1.cls idx 3 4 ty fin) (ha : h.2 a = some (.inr (3, FD3 x0 r1 r2 x3 x4 x5))) (hq : pc + 3 = q) (kk : wp l μ sc d kc ks Q h q lv (.int x4 :: st)) : wp l μ sc d kc ks Q h pc lv (.ref a :: st) := wp_get hd hf ha hq kk
theorem uF3_4 {x0 : Int32} {r1 : Nat} {r2 : Nat} {x3 : Int32} {x4 : Int32} {x5 : Int32} {x : Int32} : updV (FD3 x0 r1 r2 x3 x4 x5) 4 (.int x) = FD3 x0 r1 r2 x3 x x5 := by
  funext j
  rcases j with _ | _ | _ | _ | _ | _ | j <;> first | rfl | (unfold updV FD3; simp)
theorem wt3_4 {idx a : Nat} {x0 : Int32} {r1 : Nat} {r2 : Nat} {x3 : Int32} {x4 : Int32} {x5 : Int32} {x : Int32} (hd : decode μ.2.1 pc = .ok (.putfield idx, 3)) (hf : fl μ.1.cls idx 3 4 .int false) (ha : h.2 a = some (.inr (3, FD3 x0 r1 r2 x3 x4 x5))) (hs : hset h a (.inr (3, FD3 x0 r1 r2 x3 x x5)) = h') (hq : pc + 3 = q) (kk : wp l μ sc d kc ks Q h' q lv st) : wp l μ sc d kc ks Q h pc lv (.int x :: .ref a :: st) := wp_put hd hf ha rfl rfl hq (by rw [uF3_4, hs]; exact kk)
theorem wg3_5 {idx a : Nat} {ty : FieldType} {fin : Bool} {x0 : Int32} {r1 : Nat} {r2 : Nat} {x3 : Int32} {x4 : Int32} {x5 : Int32} (hd : decode μ.2.1 pc = .ok (.getfield idx, 3)) (hf : fl μ.1.cls idx 3 5 ty fin) (ha : h.2 a = some (.inr (3, FD3 x0 r1 r2 x3 x4 x5))) (hq : pc + 3 = q) (kk : wp l μ sc d kc ks Q h q lv (.int x5 :: st)) : wp l μ sc d kc ks Q h pc lv (.ref a :: st) := wp_get hd hf ha hq kk
theorem uF3_5 {x0 : Int32} {r1 : Nat} {r2 : Nat} {x3 : Int32} {x4 : Int32} {x5 : Int32} {x : Int32} : updV (FD3 x0 r1 r2 x3 x4 x5) 5 (.int x) = FD3 x0 r1 r2 x3 x4 x := by
  funext j
  rcases j with _ | _ | _ | _ | _ | _ | j <;> first | rfl | (unfold updV FD3; simp)
theorem wt3_5 {idx a : Nat} {x0 : Int32} {r1 : Nat} {r2 : Nat} {x3 : Int32} {x4 : Int32} {x5 : Int32} {x : Int32} (hd : decode μ.2.1 pc = .ok (.putfield idx, 3)) (hf : fl μ.1.cls idx 3 5 .int false) (ha : h.2 a = some (.inr (3, FD3 x0 r1 r2 x3 x4 x5))) (hs : hset h a (.inr (3, FD3 x0 r1 r2 x3 x4 x)) = h') (hq : pc + 3 = q) (kk : wp l μ sc d kc ks Q h' q lv st) : wp l μ sc d kc ks Q h pc lv (.int x :: .ref a :: st) := wp_put hd hf ha rfl rfl hq (by rw [uF3_5, hs]; exact kk)
def FD4 (r0 : Nat) (r1 : Nat) (r2 : Nat) (r3 : Nat) (x4 : Int32) (x5 : Int32) (x6 : Int32) : Nat → Value := fun k => match k with
  | 0 => .ref r0
  | 1 => .ref r1
  | 2 => .ref r2
  | 3 => .ref r3
  | 4 => .int x4
  | 5 => .int x5
  | 6 => .int x6
  | _ => defaultValue (tyX4 k)
theorem wg4_0 {idx a : Nat} {ty : FieldType} {fin : Bool} {r0 : Nat} {r1 : Nat} {r2 : Nat} {r3 : Nat} {x4 : Int32} {x5 : Int32} {x6 : Int32} (hd : decode μ.2.1 pc = .ok (.getfield idx, 3)) (hf : fl μ.1.cls idx 4 0 ty fin) (ha : h.2 a = some (.inr (4, FD4 r0 r1 r2 r3 x4 x5 x6))) (hq : pc + 3 = q) (kk : wp l μ sc d kc ks Q h q lv (.ref r0 :: st)) : wp l μ sc d kc ks Q h pc lv (.ref a :: st) := wp_get hd hf ha hq kk
theorem wg4_1 {idx a : Nat} {ty : FieldType} {fin : Bool} {r0 : Nat} {r1 : Nat} {r2 : Nat} {r3 : Nat} {x4 : Int32} {x5 : Int32} {x6 : Int32} (hd : decode μ.2.1 pc = .ok (.getfield idx, 3)) (hf : fl μ.1.cls idx 4 1 ty fin) (ha : h.2 a = some (.inr (4, FD4 r0 r1 r2 r3 x4 x5 x6))) (hq : pc + 3 = q) (kk : wp l μ sc d kc ks Q h q lv (.ref r1 :: st)) : wp l μ sc d kc ks Q h pc lv (.ref a :: st) := wp_get hd hf ha hq kk
theorem wg4_2 {idx a : Nat} {ty : FieldType} {fin : Bool} {r0 : Nat} {r1 : Nat} {r2 : Nat} {r3 : Nat} {x4 : Int32} {x5 : Int32} {x6 : Int32} (hd : decode μ.2.1 pc = .ok (.getfield idx, 3)) (hf : fl μ.1.cls idx 4 2 ty fin) (ha : h.2 a = some (.inr (4, FD4 r0 r1 r2 r3 x4 x5 x6))) (hq : pc + 3 = q) (kk : wp l μ sc d kc ks Q h q lv (.ref r2 :: st)) : wp l μ sc d kc ks Q h pc lv (.ref a :: st) := wp_get hd hf ha hq kk
theorem wg4_3 {idx a : Nat} {ty : FieldType} {fin : Bool} {r0 : Nat} {r1 : Nat} {r2 : Nat} {r3 : Nat} {x4 : Int32} {x5 : Int32} {x6 : Int32} (hd : decode μ.2.1 pc = .ok (.getfield idx, 3)) (hf : fl μ.1.cls idx 4 3 ty fin) (ha : h.2 a = some (.inr (4, FD4 r0 r1 r2 r3 x4 x5 x6))) (hq : pc + 3 = q) (kk : wp l μ sc d kc ks Q h q lv (.ref r3 :: st)) : wp l μ sc d kc ks Q h pc lv (.ref a :: st) := wp_get hd hf ha hq kk
theorem wg4_4 {idx a : Nat} {ty : FieldType} {fin : Bool} {r0 : Nat} {r1 : Nat} {r2 : Nat} {r3 : Nat} {x4 : Int32} {x5 : Int32} {x6 : Int32} (hd : decode μ.2.1 pc = .ok (.getfield idx, 3)) (hf : fl μ.1.cls idx 4 4 ty fin) (ha : h.2 a = some (.inr (4, FD4 r0 r1 r2 r3 x4 x5 x6))) (hq : pc + 3 = q) (kk : wp l μ sc d kc ks Q h q lv (.int x4 :: st)) : wp l μ sc d kc ks Q h pc lv (.ref a :: st) := wp_get hd hf ha hq kk
theorem uF4_4 {r0 : Nat} {r1 : Nat} {r2 : Nat} {r3 : Nat} {x4 : Int32} {x5 : Int32} {x6 : Int32} {x : Int32} : updV (FD4 r0 r1 r2 r3 x4 x5 x6) 4 (.int x) = FD4 r0 r1 r2 r3 x x5 x6 := by
  funext j
  rcases j with _ | _ | _ | _ | _ | _ | _ | j <;> first | rfl | (unfold updV FD4; simp)
theorem wt4_4 {idx a : Nat} {r0 : Nat} {r1 : Nat} {r2 : Nat} {r3 : Nat} {x4 : Int32} {x5 : Int32} {x6 : Int32} {x : Int32} (hd : decode μ.2.1 pc = .ok (.putfield idx, 3)) (hf : fl μ.1.cls idx 4 4 .int false) (ha : h.2 a = some (.inr (4, FD4 r0 r1 r2 r3 x4 x5 x6))) (hs : hset h a (.inr (4, FD4 r0 r1 r2 r3 x x5 x6)) = h') (hq : pc + 3 = q) (kk : wp l μ sc d kc ks Q h' q lv st) : wp l μ sc d kc ks Q h pc lv (.int x :: .ref a :: st) := wp_put hd hf ha rfl rfl hq (by rw [uF4_4, hs]; exact kk)
theorem wg4_5 {idx a : Nat} {ty : FieldType} {fin : Bool} {r0 : Nat} {r1 : Nat} {r2 : Nat} {r3 : Nat} {x4 : Int32} {x5 : Int32} {x6 : Int32} (hd : decode μ.2.1 pc = .ok (.getfield idx, 3)) (hf : fl μ.1.cls idx 4 5 ty fin) (ha : h.2 a = some (.inr (4, FD4 r0 r1 r2 r3 x4 x5 x6))) (hq : pc + 3 = q) (kk : wp l μ sc d kc ks Q h q lv (.int x5 :: st)) : wp l μ sc d kc ks Q h pc lv (.ref a :: st) := wp_get hd hf ha hq kk
theorem uF4_5 {r0 : Nat} {r1 : Nat} {r2 : Nat} {r3 : Nat} {x4 : Int32} {x5 : Int32} {x6 : Int32} {x : Int32} : updV (FD4 r0 r1 r2 r3 x4 x5 x6) 5 (.int x) = FD4 r0 r1 r2 r3 x4 x x6 := by
  funext j
  rcases j with _ | _ | _ | _ | _ | _ | _ | j <;> first | rfl | (unfold updV FD4; simp)
theorem wt4_5 {idx a : Nat} {r0 : Nat} {r1 : Nat} {r2 : Nat} {r3 : Nat} {x4 : Int32} {x5 : Int32} {x6 : Int32} {x : Int32} (hd : decode μ.2.1 pc = .ok (.putfield idx, 3)) (hf : fl μ.1.cls idx 4 5 .int false) (ha : h.2 a = some (.inr (4, FD4 r0 r1 r2 r3 x4 x5 x6))) (hs : hset h a (.inr (4, FD4 r0 r1 r2 r3 x4 x x6)) = h') (hq : pc + 3 = q) (kk : wp l μ sc d kc ks Q h' q lv st) : wp l μ sc d kc ks Q h pc lv (.int x :: .ref a :: st) := wp_put hd hf ha rfl rfl hq (by rw [uF4_5, hs]; exact kk)
theorem wg4_6 {idx a : Nat} {ty : FieldType} {fin : Bool} {r0 : Nat} {r1 : Nat} {r2 : Nat} {r3 : Nat} {x4 : Int32} {x5 : Int32} {x6 : Int32} (hd : decode μ.2.1 pc = .ok (.getfield idx, 3)) (hf : fl μ.1.cls idx 4 6 ty fin) (ha : h.2 a = some (.inr (4, FD4 r0 r1 r2 r3 x4 x5 x6))) (hq : pc + 3 = q) (kk : wp l μ sc d kc ks Q h q lv (.int x6 :: st)) : wp l μ sc d kc ks Q h pc lv (.ref a :: st) := wp_get hd hf ha hq kk
theorem uF4_6 {r0 : Nat} {r1 : Nat} {r2 : Nat} {r3 : Nat} {x4 : Int32} {x5 : Int32} {x6 : Int32} {x : Int32} : updV (FD4 r0 r1 r2 r3 x4 x5 x6) 6 (.int x) = FD4 r0 r1 r2 r3 x4 x5 x := by
  funext j
  rcases j with _ | _ | _ | _ | _ | _ | _ | j <;> first | rfl | (unfold updV FD4; simp)
theorem wt4_6 {idx a : Nat} {r0 : Nat} {r1 : Nat} {r2 : Nat} {r3 : Nat} {x4 : Int32} {x5 : Int32} {x6 : Int32} {x : Int32} (hd : decode μ.2.1 pc = .ok (.putfield idx, 3)) (hf : fl μ.1.cls idx 4 6 .int false) (ha : h.2 a = some (.inr (4, FD4 r0 r1 r2 r3 x4 x5 x6))) (hs : hset h a (.inr (4, FD4 r0 r1 r2 r3 x4 x5 x)) = h') (hq : pc + 3 = q) (kk : wp l μ sc d kc ks Q h' q lv st) : wp l μ sc d kc ks Q h pc lv (.int x :: .ref a :: st) := wp_put hd hf ha rfl rfl hq (by rw [uF4_6, hs]; exact kk)
def FD5 (r0 : Nat) (r1 : Nat) (r2 : Nat) (r3 : Nat) (r4 : Nat) (r5 : Nat) (r6 : Nat) (x7 : Int32) (r8 : Nat) (r9 : Nat) (x10 : Int32) (x11 : Int32) (x12 : Int32) (x13 : Int32) : Nat → Value := fun k => match k with
  | 0 => .ref r0
  | 1 => .ref r1
  | 2 => .ref r2
  | 3 => .ref r3
  | 4 => .ref r4
  | 5 => .ref r5
  | 6 => .ref r6
  | 7 => .int x7
  | 8 => .ref r8
  | 9 => .ref r9
  | 10 => .int x10
  | 11 => .int x11
  | 12 => .int x12
  | 13 => .int x13
  | _ => defaultValue (tyX5 k)
theorem wg5_0 {idx a : Nat} {ty : FieldType} {fin : Bool} {r0 : Nat} {r1 : Nat} {r2 : Nat} {r3 : Nat} {r4 : Nat} {r5 : Nat} {r6 : Nat} {x7 : Int32} {r8 : Nat} {r9 : Nat} {x10 : Int32} {x11 : Int32} {x12 : Int32} {x13 : Int32} (hd : decode μ.2.1 pc = .ok (.getfield idx, 3)) (hf : fl μ.1.cls idx 5 0 ty fin) (ha : h.2 a = some (.inr (5, FD5 r0 r1 r2 r3 r4 r5 r6 x7 r8 r9 x10 x11 x12 x13))) (hq : pc + 3 = q) (kk : wp l μ sc d kc ks Q h q lv (.ref r0 :: st)) : wp l μ sc d kc ks Q h pc lv (.ref a :: st) := wp_get hd hf ha hq kk
theorem wg5_1 {idx a : Nat} {ty : FieldType} {fin : Bool} {r0 : Nat} {r1 : Nat} {r2 : Nat} {r3 : Nat} {r4 : Nat} {r5 : Nat} {r6 : Nat} {x7 : Int32} {r8 : Nat} {r9 : Nat} {x10 : Int32} {x11 : Int32} {x12 : Int32} {x13 : Int32} (hd : decode μ.2.1 pc = .ok (.getfield idx, 3)) (hf : fl μ.1.cls idx 5 1 ty fin) (ha : h.2 a = some (.inr (5, FD5 r0 r1 r2 r3 r4 r5 r6 x7 r8 r9 x10 x11 x12 x13))) (hq : pc + 3 = q) (kk : wp l μ sc d kc ks Q h q lv (.ref r1 :: st)) : wp l μ sc d kc ks Q h pc lv (.ref a :: st) := wp_get hd hf ha hq kk
theorem wg5_2 {idx a : Nat} {ty : FieldType} {fin : Bool} {r0 : Nat} {r1 : Nat} {r2 : Nat} {r3 : Nat} {r4 : Nat} {r5 : Nat} {r6 : Nat} {x7 : Int32} {r8 : Nat} {r9 : Nat} {x10 : Int32} {x11 : Int32} {x12 : Int32} {x13 : Int32} (hd : decode μ.2.1 pc = .ok (.getfield idx, 3)) (hf : fl μ.1.cls idx 5 2 ty fin) (ha : h.2 a = some (.inr (5, FD5 r0 r1 r2 r3 r4 r5 r6 x7 r8 r9 x10 x11 x12 x13))) (hq : pc + 3 = q) (kk : wp l μ sc d kc ks Q h q lv (.ref r2 :: st)) : wp l μ sc d kc ks Q h pc lv (.ref a :: st) := wp_get hd hf ha hq kk
theorem wg5_3 {idx a : Nat} {ty : FieldType} {fin : Bool} {r0 : Nat} {r1 : Nat} {r2 : Nat} {r3 : Nat} {r4 : Nat} {r5 : Nat} {r6 : Nat} {x7 : Int32} {r8 : Nat} {r9 : Nat} {x10 : Int32} {x11 : Int32} {x12 : Int32} {x13 : Int32} (hd : decode μ.2.1 pc = .ok (.getfield idx, 3)) (hf : fl μ.1.cls idx 5 3 ty fin) (ha : h.2 a = some (.inr (5, FD5 r0 r1 r2 r3 r4 r5 r6 x7 r8 r9 x10 x11 x12 x13))) (hq : pc + 3 = q) (kk : wp l μ sc d kc ks Q h q lv (.ref r3 :: st)) : wp l μ sc d kc ks Q h pc lv (.ref a :: st) := wp_get hd hf ha hq kk
theorem wg5_4 {idx a : Nat} {ty : FieldType} {fin : Bool} {r0 : Nat} {r1 : Nat} {r2 : Nat} {r3 : Nat} {r4 : Nat} {r5 : Nat} {r6 : Nat} {x7 : Int32} {r8 : Nat} {r9 : Nat} {x10 : Int32} {x11 : Int32} {x12 : Int32} {x13 : Int32} (hd : decode μ.2.1 pc = .ok (.getfield idx, 3)) (hf : fl μ.1.cls idx 5 4 ty fin) (ha : h.2 a = some (.inr (5, FD5 r0 r1 r2 r3 r4 r5 r6 x7 r8 r9 x10 x11 x12 x13))) (hq : pc + 3 = q) (kk : wp l μ sc d kc ks Q h q lv (.ref r4 :: st)) : wp l μ sc d kc ks Q h pc lv (.ref a :: st) := wp_get hd hf ha hq kk
theorem wg5_5 {idx a : Nat} {ty : FieldType} {fin : Bool} {r0 : Nat} {r1 : Nat} {r2 : Nat} {r3 : Nat} {r4 : Nat} {r5 : Nat} {r6 : Nat} {x7 : Int32} {r8 : Nat} {r9 : Nat} {x10 : Int32} {x11 : Int32} {x12 : Int32} {x13 : Int32} (hd : decode μ.2.1 pc = .ok (.getfield idx, 3)) (hf : fl μ.1.cls idx 5 5 ty fin) (ha : h.2 a = some (.inr (5, FD5 r0 r1 r2 r3 r4 r5 r6 x7 r8 r9 x10 x11 x12 x13))) (hq : pc + 3 = q) (kk : wp l μ sc d kc ks Q h q lv (.ref r5 :: st)) : wp l μ sc d kc ks Q h pc lv (.ref a :: st) := wp_get hd hf ha hq kk
theorem wg5_6 {idx a : Nat} {ty : FieldType} {fin : Bool} {r0 : Nat} {r1 : Nat} {r2 : Nat} {r3 : Nat} {r4 : Nat} {r5 : Nat} {r6 : Nat} {x7 : Int32} {r8 : Nat} {r9 : Nat} {x10 : Int32} {x11 : Int32} {x12 : Int32} {x13 : Int32} (hd : decode μ.2.1 pc = .ok (.getfield idx, 3)) (hf : fl μ.1.cls idx 5 6 ty fin) (ha : h.2 a = some (.inr (5, FD5 r0 r1 r2 r3 r4 r5 r6 x7 r8 r9 x10 x11 x12 x13))) (hq : pc + 3 = q) (kk : wp l μ sc d kc ks Q h q lv (.ref r6 :: st)) : wp l μ sc d kc ks Q h pc lv (.ref a :: st) := wp_get hd hf ha hq kk
theorem wg5_7 {idx a : Nat} {ty : FieldType} {fin : Bool} {r0 : Nat} {r1 : Nat} {r2 : Nat} {r3 : Nat} {r4 : Nat} {r5 : Nat} {r6 : Nat} {x7 : Int32} {r8 : Nat} {r9 : Nat} {x10 : Int32} {x11 : Int32} {x12 : Int32} {x13 : Int32} (hd : decode μ.2.1 pc = .ok (.getfield idx, 3)) (hf : fl μ.1.cls idx 5 7 ty fin) (ha : h.2 a = some (.inr (5, FD5 r0 r1 r2 r3 r4 r5 r6 x7 r8 r9 x10 x11 x12 x13))) (hq : pc + 3 = q) (kk : wp l μ sc d kc ks Q h q lv (.int x7 :: st)) : wp l μ sc d kc ks Q h pc lv (.ref a :: st) := wp_get hd hf ha hq kk
theorem uF5_7 {r0 : Nat} {r1 : Nat} {r2 : Nat} {r3 : Nat} {r4 : Nat} {r5 : Nat} {r6 : Nat} {x7 : Int32} {r8 : Nat} {r9 : Nat} {x10 : Int32} {x11 : Int32} {x12 : Int32} {x13 : Int32} {x : Int32} : updV (FD5 r0 r1 r2 r3 r4 r5 r6 x7 r8 r9 x10 x11 x12 x13) 7 (.int x) = FD5 r0 r1 r2 r3 r4 r5 r6 x r8 r9 x10 x11 x12 x13 := by
  funext j
  rcases j with _ | _ | _ | _ | _ | _ | _ | _ | _ | _ | _ | _ | _ | _ | j <;> first | rfl | (unfold updV FD5; simp)
theorem wt5_7 {idx a : Nat} {r0 : Nat} {r1 : Nat} {r2 : Nat} {r3 : Nat} {r4 : Nat} {r5 : Nat} {r6 : Nat} {x7 : Int32} {r8 : Nat} {r9 : Nat} {x10 : Int32} {x11 : Int32} {x12 : Int32} {x13 : Int32} {x : Int32} (hd : decode μ.2.1 pc = .ok (.putfield idx, 3)) (hf : fl μ.1.cls idx 5 7 .int false) (ha : h.2 a = some (.inr (5, FD5 r0 r1 r2 r3 r4 r5 r6 x7 r8 r9 x10 x11 x12 x13))) (hs : hset h a (.inr (5, FD5 r0 r1 r2 r3 r4 r5 r6 x r8 r9 x10 x11 x12 x13)) = h') (hq : pc + 3 = q) (kk : wp l μ sc d kc ks Q h' q lv st) : wp l μ sc d kc ks Q h pc lv (.int x :: .ref a :: st) := wp_put hd hf ha rfl rfl hq (by rw [uF5_7, hs]; exact kk)
theorem wg5_8 {idx a : Nat} {ty : FieldType} {fin : Bool} {r0 : Nat} {r1 : Nat} {r2 : Nat} {r3 : Nat} {r4 : Nat} {r5 : Nat} {r6 : Nat} {x7 : Int32} {r8 : Nat} {r9 : Nat} {x10 : Int32} {x11 : Int32} {x12 : Int32} {x13 : Int32} (hd : decode μ.2.1 pc = .ok (.getfield idx, 3)) (hf : fl μ.1.cls idx 5 8 ty fin) (ha : h.2 a = some (.inr (5, FD5 r0 r1 r2 r3 r4 r5 r6 x7 r8 r9 x10 x11 x12 x13))) (hq : pc + 3 = q) (kk : wp l μ sc d kc ks Q h q lv (.ref r8 :: st)) : wp l μ sc d kc ks Q h pc lv (.ref a :: st) := wp_get hd hf ha hq kk
theorem wg5_9 {idx a : Nat} {ty : FieldType} {fin : Bool} {r0 : Nat} {r1 : Nat} {r2 : Nat} {r3 : Nat} {r4 : Nat} {r5 : Nat} {r6 : Nat} {x7 : Int32} {r8 : Nat} {r9 : Nat} {x10 : Int32} {x11 : Int32} {x12 : Int32} {x13 : Int32} (hd : decode μ.2.1 pc = .ok (.getfield idx, 3)) (hf : fl μ.1.cls idx 5 9 ty fin) (ha : h.2 a = some (.inr (5, FD5 r0 r1 r2 r3 r4 r5 r6 x7 r8 r9 x10 x11 x12 x13))) (hq : pc + 3 = q) (kk : wp l μ sc d kc ks Q h q lv (.ref r9 :: st)) : wp l μ sc d kc ks Q h pc lv (.ref a :: st) := wp_get hd hf ha hq kk
theorem wg5_10 {idx a : Nat} {ty : FieldType} {fin : Bool} {r0 : Nat} {r1 : Nat} {r2 : Nat} {r3 : Nat} {r4 : Nat} {r5 : Nat} {r6 : Nat} {x7 : Int32} {r8 : Nat} {r9 : Nat} {x10 : Int32} {x11 : Int32} {x12 : Int32} {x13 : Int32} (hd : decode μ.2.1 pc = .ok (.getfield idx, 3)) (hf : fl μ.1.cls idx 5 10 ty fin) (ha : h.2 a = some (.inr (5, FD5 r0 r1 r2 r3 r4 r5 r6 x7 r8 r9 x10 x11 x12 x13))) (hq : pc + 3 = q) (kk : wp l μ sc d kc ks Q h q lv (.int x10 :: st)) : wp l μ sc d kc ks Q h pc lv (.ref a :: st) := wp_get hd hf ha hq kk
theorem uF5_10 {r0 : Nat} {r1 : Nat} {r2 : Nat} {r3 : Nat} {r4 : Nat} {r5 : Nat} {r6 : Nat} {x7 : Int32} {r8 : Nat} {r9 : Nat} {x10 : Int32} {x11 : Int32} {x12 : Int32} {x13 : Int32} {x : Int32} : updV (FD5 r0 r1 r2 r3 r4 r5 r6 x7 r8 r9 x10 x11 x12 x13) 10 (.int x) = FD5 r0 r1 r2 r3 r4 r5 r6 x7 r8 r9 x x11 x12 x13 := by
  funext j
  rcases j with _ | _ | _ | _ | _ | _ | _ | _ | _ | _ | _ | _ | _ | _ | j <;> first | rfl | (unfold updV FD5; simp)
theorem wt5_10 {idx a : Nat} {r0 : Nat} {r1 : Nat} {r2 : Nat} {r3 : Nat} {r4 : Nat} {r5 : Nat} {r6 : Nat} {x7 : Int32} {r8 : Nat} {r9 : Nat} {x10 : Int32} {x11 : Int32} {x12 : Int32} {x13 : Int32} {x : Int32} (hd : decode μ.2.1 pc = .ok (.putfield idx, 3)) (hf : fl μ.1.cls idx 5 10 .int false) (ha : h.2 a = some (.inr (5, FD5 r0 r1 r2 r3 r4 r5 r6 x7 r8 r9 x10 x11 x12 x13))) (hs : hset h a (.inr (5, FD5 r0 r1 r2 r3 r4 r5 r6 x7 r8 r9 x x11 x12 x13)) = h') (hq : pc + 3 = q) (kk : wp l μ sc d kc ks Q h' q lv st) : wp l μ sc d kc ks Q h pc lv (.int x :: .ref a :: st) := wp_put hd hf ha rfl rfl hq (by rw [uF5_10, hs]; exact kk)
theorem wg5_11 {idx a : Nat} {ty : FieldType} {fin : Bool} {r0 : Nat} {r1 : Nat} {r2 : Nat} {r3 : Nat} {r4 : Nat} {r5 : Nat} {r6 : Nat} {x7 : Int32} {r8 : Nat} {r9 : Nat} {x10 : Int32} {x11 : Int32} {x12 : Int32} {x13 : Int32} (hd : decode μ.2.1 pc = .ok (.getfield idx, 3)) (hf : fl μ.1.cls idx 5 11 ty fin) (ha : h.2 a = some (.inr (5, FD5 r0 r1 r2 r3 r4 r5 r6 x7 r8 r9 x10 x11 x12 x13))) (hq : pc + 3 = q) (kk : wp l μ sc d kc ks Q h q lv (.int x11 :: st)) : wp l μ sc d kc ks Q h pc lv (.ref a :: st) := wp_get hd hf ha hq kk
theorem uF5_11 {r0 : Nat} {r1 : Nat} {r2 : Nat} {r3 : Nat} {r4 : Nat} {r5 : Nat} {r6 : Nat} {x7 : Int32} {r8 : Nat} {r9 : Nat} {x10 : Int32} {x11 : Int32} {x12 : Int32} {x13 : Int32} {x : Int32} : updV (FD5 r0 r1 r2 r3 r4 r5 r6 x7 r8 r9 x10 x11 x12 x13) 11 (.int x) = FD5 r0 r1 r2 r3 r4 r5 r6 x7 r8 r9 x10 x x12 x13 := by
  funext j
  rcases j with _ | _ | _ | _ | _ | _ | _ | _ | _ | _ | _ | _ | _ | _ | j <;> first | rfl | (unfold updV FD5; simp)
theorem wt5_11 {idx a : Nat} {r0 : Nat} {r1 : Nat} {r2 : Nat} {r3 : Nat} {r4 : Nat} {r5 : Nat} {r6 : Nat} {x7 : Int32} {r8 : Nat} {r9 : Nat} {x10 : Int32} {x11 : Int32} {x12 : Int32} {x13 : Int32} {x : Int32} (hd : decode μ.2.1 pc = .ok (.putfield idx, 3)) (hf : fl μ.1.cls idx 5 11 .int false) (ha : h.2 a = some (.inr (5, FD5 r0 r1 r2 r3 r4 r5 r6 x7 r8 r9 x10 x11 x12 x13))) (hs : hset h a (.inr (5, FD5 r0 r1 r2 r3 r4 r5 r6 x7 r8 r9 x10 x x12 x13)) = h') (hq : pc + 3 = q) (kk : wp l μ sc d kc ks Q h' q lv st) : wp l μ sc d kc ks Q h pc lv (.int x :: .ref a :: st) := wp_put hd hf ha rfl rfl hq (by rw [uF5_11, hs]; exact kk)
theorem wg5_12 {idx a : Nat} {ty : FieldType} {fin : Bool} {r0 : Nat} {r1 : Nat} {r2 : Nat} {r3 : Nat} {r4 : Nat} {r5 : Nat} {r6 : Nat} {x7 : Int32} {r8 : Nat} {r9 : Nat} {x10 : Int32} {x11 : Int32} {x12 : Int32} {x13 : Int32} (hd : decode μ.2.1 pc = .ok (.getfield idx, 3)) (hf : fl μ.1.cls idx 5 12 ty fin) (ha : h.2 a = some (.inr (5, FD5 r0 r1 r2 r3 r4 r5 r6 x7 r8 r9 x10 x11 x12 x13))) (hq : pc + 3 = q) (kk : wp l μ sc d kc ks Q h q lv (.int x12 :: st)) : wp l μ sc d kc ks Q h pc lv (.ref a :: st) := wp_get hd hf ha hq kk
theorem uF5_12 {r0 : Nat} {r1 : Nat} {r2 : Nat} {r3 : Nat} {r4 : Nat} {r5 : Nat} {r6 : Nat} {x7 : Int32} {r8 : Nat} {r9 : Nat} {x10 : Int32} {x11 : Int32} {x12 : Int32} {x13 : Int32} {x : Int32} : updV (FD5 r0 r1 r2 r3 r4 r5 r6 x7 r8 r9 x10 x11 x12 x13) 12 (.int x) = FD5 r0 r1 r2 r3 r4 r5 r6 x7 r8 r9 x10 x11 x x13 := by
  funext j
  rcases j with _ | _ | _ | _ | _ | _ | _ | _ | _ | _ | _ | _ | _ | _ | j <;> first | rfl | (unfold updV FD5; simp)
theorem wt5_12 {idx a : Nat} {r0 : Nat} {r1 : Nat} {r2 : Nat} {r3 : Nat} {r4 : Nat} {r5 : Nat} {r6 : Nat} {x7 : Int32} {r8 : Nat} {r9 : Nat} {x10 : Int32} {x11 : Int32} {x12 : Int32} {x13 : Int32} {x : Int32} (hd : decode μ.2.1 pc = .ok (.putfield idx, 3)) (hf : fl μ.1.cls idx 5 12 .int false) (ha : h.2 a = some (.inr (5, FD5 r0 r1 r2 r3 r4 r5 r6 x7 r8 r9 x10 x11 x12 x13))) (hs : hset h a (.inr (5, FD5 r0 r1 r2 r3 r4 r5 r6 x7 r8 r9 x10 x11 x x13)) = h') (hq : pc + 3 = q) (kk : wp l μ sc d kc ks Q h' q lv st) : wp l μ sc d kc ks Q h pc lv (.int x :: .ref a :: st) := wp_put hd hf ha rfl rfl hq (by rw [uF5_12, hs]; exact kk)
theorem wg5_13 {idx a : Nat} {ty : FieldType} {fin : Bool} {r0 : Nat} {r1 : Nat} {r2 : Nat} {r3 : Nat} {r4 : Nat} {r5 : Nat} {r6 : Nat} {x7 : Int32} {r8 : Nat} {r9 : Nat} {x10 : Int32} {x11 : Int32} {x12 : Int32} {x13 : Int32} (hd : decode μ.2.1 pc = .ok (.getfield idx, 3)) (hf : fl μ.1.cls idx 5 13 ty fin) (ha : h.2 a = some (.inr (5, FD5 r0 r1 r2 r3 r4 r5 r6 x7 r8 r9 x10 x11 x12 x13))) (hq : pc + 3 = q) (kk : wp l μ sc d kc ks Q h q lv (.int x13 :: st)) : wp l μ sc d kc ks Q h pc lv (.ref a :: st) := wp_get hd hf ha hq kk
theorem uF5_13 {r0 : Nat} {r1 : Nat} {r2 : Nat} {r3 : Nat} {r4 : Nat} {r5 : Nat} {r6 : Nat} {x7 : Int32} {r8 : Nat} {r9 : Nat} {x10 : Int32} {x11 : Int32} {x12 : Int32} {x13 : Int32} {x : Int32} : updV (FD5 r0 r1 r2 r3 r4 r5 r6 x7 r8 r9 x10 x11 x12 x13) 13 (.int x) = FD5 r0 r1 r2 r3 r4 r5 r6 x7 r8 r9 x10 x11 x12 x := by
  funext j
  rcases j with _ | _ | _ | _ | _ | _ | _ | _ | _ | _ | _ | _ | _ | _ | j <;> first | rfl | (unfold updV FD5; simp)
theorem wt5_13 {idx a : Nat} {r0 : Nat} {r1 : Nat} {r2 : Nat} {r3 : Nat} {r4 : Nat} {r5 : Nat} {r6 : Nat} {x7 : Int32} {r8 : Nat} {r9 : Nat} {x10 : Int32} {x11 : Int32} {x12 : Int32} {x13 : Int32} {x : Int32} (hd : decode μ.2.1 pc = .ok (.putfield idx, 3)) (hf : fl μ.1.cls idx 5 13 .int false) (ha : h.2 a = some (.inr (5, FD5 r0 r1 r2 r3 r4 r5 r6 x7 r8 r9 x10 x11 x12 x13))) (hs : hset h a (.inr (5, FD5 r0 r1 r2 r3 r4 r5 r6 x7 r8 r9 x10 x11 x12 x)) = h') (hq : pc + 3 = q) (kk : wp l μ sc d kc ks Q h' q lv st) : wp l μ sc d kc ks Q h pc lv (.int x :: .ref a :: st) := wp_put hd hf ha rfl rfl hq (by rw [uF5_13, hs]; exact kk)
def FD6 (x0 : Int32) (r1 : Nat) (r2 : Nat) (r3 : Nat) (r4 : Nat) (x5 : Int32) : Nat → Value := fun k => match k with
  | 0 => .int x0
  | 1 => .ref r1
  | 2 => .ref r2
  | 3 => .ref r3
  | 4 => .ref r4
  | 5 => .int x5
  | _ => defaultValue (tyX6 k)
theorem wg6_0 {idx a : Nat} {ty : FieldType} {fin : Bool} {x0 : Int32} {r1 : Nat} {r2 : Nat} {r3 : Nat} {r4 : Nat} {x5 : Int32} (hd : decode μ.2.1 pc = .ok (.getfield idx, 3)) (hf : fl μ.1.cls idx 6 0 ty fin) (ha : h.2 a = some (.inr (6, FD6 x0 r1 r2 r3 r4 x5))) (hq : pc + 3 = q) (kk : wp l μ sc d kc ks Q h q lv (.int x0 :: st)) : wp l μ sc d kc ks Q h pc lv (.ref a :: st) := wp_get hd hf ha hq kk
theorem uF6_0 {x0 : Int32} {r1 : Nat} {r2 : Nat} {r3 : Nat} {r4 : Nat} {x5 : Int32} {x : Int32} : updV (FD6 x0 r1 r2 r3 r4 x5) 0 (.int x) = FD6 x r1 r2 r3 r4 x5 := by
  funext j
  rcases j with _ | _ | _ | _ | _ | _ | j <;> first | rfl | (unfold updV FD6; simp)
theorem wt6_0 {idx a : Nat} {x0 : Int32} {r1 : Nat} {r2 : Nat} {r3 : Nat} {r4 : Nat} {x5 : Int32} {x : Int32} (hd : decode μ.2.1 pc = .ok (.putfield idx, 3)) (hf : fl μ.1.cls idx 6 0 .int false) (ha : h.2 a = some (.inr (6, FD6 x0 r1 r2 r3 r4 x5))) (hs : hset h a (.inr (6, FD6 x r1 r2 r3 r4 x5)) = h') (hq : pc + 3 = q) (kk : wp l μ sc d kc ks Q h' q lv st) : wp l μ sc d kc ks Q h pc lv (.int x :: .ref a :: st) := wp_put hd hf ha rfl rfl hq (by rw [uF6_0, hs]; exact kk)
theorem wg6_1 {idx a : Nat} {ty : FieldType} {fin : Bool} {x0 : Int32} {r1 : Nat} {r2 : Nat} {r3 : Nat} {r4 : Nat} {x5 : Int32} (hd : decode μ.2.1 pc = .ok (.getfield idx, 3)) (hf : fl μ.1.cls idx 6 1 ty fin) (ha : h.2 a = some (.inr (6, FD6 x0 r1 r2 r3 r4 x5))) (hq : pc + 3 = q) (kk : wp l μ sc d kc ks Q h q lv (.ref r1 :: st)) : wp l μ sc d kc ks Q h pc lv (.ref a :: st) := wp_get hd hf ha hq kk
theorem wg6_2 {idx a : Nat} {ty : FieldType} {fin : Bool} {x0 : Int32} {r1 : Nat} {r2 : Nat} {r3 : Nat} {r4 : Nat} {x5 : Int32} (hd : decode μ.2.1 pc = .ok (.getfield idx, 3)) (hf : fl μ.1.cls idx 6 2 ty fin) (ha : h.2 a = some (.inr (6, FD6 x0 r1 r2 r3 r4 x5))) (hq : pc + 3 = q) (kk : wp l μ sc d kc ks Q h q lv (.ref r2 :: st)) : wp l μ sc d kc ks Q h pc lv (.ref a :: st) := wp_get hd hf ha hq kk
theorem wg6_3 {idx a : Nat} {ty : FieldType} {fin : Bool} {x0 : Int32} {r1 : Nat} {r2 : Nat} {r3 : Nat} {r4 : Nat} {x5 : Int32} (hd : decode μ.2.1 pc = .ok (.getfield idx, 3)) (hf : fl μ.1.cls idx 6 3 ty fin) (ha : h.2 a = some (.inr (6, FD6 x0 r1 r2 r3 r4 x5))) (hq : pc + 3 = q) (kk : wp l μ sc d kc ks Q h q lv (.ref r3 :: st)) : wp l μ sc d kc ks Q h pc lv (.ref a :: st) := wp_get hd hf ha hq kk
theorem wg6_4 {idx a : Nat} {ty : FieldType} {fin : Bool} {x0 : Int32} {r1 : Nat} {r2 : Nat} {r3 : Nat} {r4 : Nat} {x5 : Int32} (hd : decode μ.2.1 pc = .ok (.getfield idx, 3)) (hf : fl μ.1.cls idx 6 4 ty fin) (ha : h.2 a = some (.inr (6, FD6 x0 r1 r2 r3 r4 x5))) (hq : pc + 3 = q) (kk : wp l μ sc d kc ks Q h q lv (.ref r4 :: st)) : wp l μ sc d kc ks Q h pc lv (.ref a :: st) := wp_get hd hf ha hq kk
theorem wg6_5 {idx a : Nat} {ty : FieldType} {fin : Bool} {x0 : Int32} {r1 : Nat} {r2 : Nat} {r3 : Nat} {r4 : Nat} {x5 : Int32} (hd : decode μ.2.1 pc = .ok (.getfield idx, 3)) (hf : fl μ.1.cls idx 6 5 ty fin) (ha : h.2 a = some (.inr (6, FD6 x0 r1 r2 r3 r4 x5))) (hq : pc + 3 = q) (kk : wp l μ sc d kc ks Q h q lv (.int x5 :: st)) : wp l μ sc d kc ks Q h pc lv (.ref a :: st) := wp_get hd hf ha hq kk
theorem uF6_5 {x0 : Int32} {r1 : Nat} {r2 : Nat} {r3 : Nat} {r4 : Nat} {x5 : Int32} {x : Int32} : updV (FD6 x0 r1 r2 r3 r4 x5) 5 (.int x) = FD6 x0 r1 r2 r3 r4 x := by
  funext j
  rcases j with _ | _ | _ | _ | _ | _ | j <;> first | rfl | (unfold updV FD6; simp)
theorem wt6_5 {idx a : Nat} {x0 : Int32} {r1 : Nat} {r2 : Nat} {r3 : Nat} {r4 : Nat} {x5 : Int32} {x : Int32} (hd : decode μ.2.1 pc = .ok (.putfield idx, 3)) (hf : fl μ.1.cls idx 6 5 .int false) (ha : h.2 a = some (.inr (6, FD6 x0 r1 r2 r3 r4 x5))) (hs : hset h a (.inr (6, FD6 x0 r1 r2 r3 r4 x)) = h') (hq : pc + 3 = q) (kk : wp l μ sc d kc ks Q h' q lv st) : wp l μ sc d kc ks Q h pc lv (.int x :: .ref a :: st) := wp_put hd hf ha rfl rfl hq (by rw [uF6_5, hs]; exact kk)
def FD7 (r0 : Nat) (r1 : Nat) (r2 : Nat) (r3 : Nat) (r4 : Nat) (r5 : Nat) (x6 : Int32) : Nat → Value := fun k => match k with
  | 0 => .ref r0
  | 1 => .ref r1
  | 2 => .ref r2
  | 3 => .ref r3
  | 4 => .ref r4
  | 5 => .ref r5
  | 6 => .int x6
  | _ => defaultValue (tyX7 k)
theorem wg7_0 {idx a : Nat} {ty : FieldType} {fin : Bool} {r0 : Nat} {r1 : Nat} {r2 : Nat} {r3 : Nat} {r4 : Nat} {r5 : Nat} {x6 : Int32} (hd : decode μ.2.1 pc = .ok (.getfield idx, 3)) (hf : fl μ.1.cls idx 7 0 ty fin) (ha : h.2 a = some (.inr (7, FD7 r0 r1 r2 r3 r4 r5 x6))) (hq : pc + 3 = q) (kk : wp l μ sc d kc ks Q h q lv (.ref r0 :: st)) : wp l μ sc d kc ks Q h pc lv (.ref a :: st) := wp_get hd hf ha hq kk
theorem wg7_1 {idx a : Nat} {ty : FieldType} {fin : Bool} {r0 : Nat} {r1 : Nat} {r2 : Nat} {r3 : Nat} {r4 : Nat} {r5 : Nat} {x6 : Int32} (hd : decode μ.2.1 pc = .ok (.getfield idx, 3)) (hf : fl μ.1.cls idx 7 1 ty fin) (ha : h.2 a = some (.inr (7, FD7 r0 r1 r2 r3 r4 r5 x6))) (hq : pc + 3 = q) (kk : wp l μ sc d kc ks Q h q lv (.ref r1 :: st)) : wp l μ sc d kc ks Q h pc lv (.ref a :: st) := wp_get hd hf ha hq kk
theorem wg7_2 {idx a : Nat} {ty : FieldType} {fin : Bool} {r0 : Nat} {r1 : Nat} {r2 : Nat} {r3 : Nat} {r4 : Nat} {r5 : Nat} {x6 : Int32} (hd : decode μ.2.1 pc = .ok (.getfield idx, 3)) (hf : fl μ.1.cls idx 7 2 ty fin) (ha : h.2 a = some (.inr (7, FD7 r0 r1 r2 r3 r4 r5 x6))) (hq : pc + 3 = q) (kk : wp l μ sc d kc ks Q h q lv (.ref r2 :: st)) : wp l μ sc d kc ks Q h pc lv (.ref a :: st) := wp_get hd hf ha hq kk
theorem wg7_3 {idx a : Nat} {ty : FieldType} {fin : Bool} {r0 : Nat} {r1 : Nat} {r2 : Nat} {r3 : Nat} {r4 : Nat} {r5 : Nat} {x6 : Int32} (hd : decode μ.2.1 pc = .ok (.getfield idx, 3)) (hf : fl μ.1.cls idx 7 3 ty fin) (ha : h.2 a = some (.inr (7, FD7 r0 r1 r2 r3 r4 r5 x6))) (hq : pc + 3 = q) (kk : wp l μ sc d kc ks Q h q lv (.ref r3 :: st)) : wp l μ sc d kc ks Q h pc lv (.ref a :: st) := wp_get hd hf ha hq kk
theorem wg7_4 {idx a : Nat} {ty : FieldType} {fin : Bool} {r0 : Nat} {r1 : Nat} {r2 : Nat} {r3 : Nat} {r4 : Nat} {r5 : Nat} {x6 : Int32} (hd : decode μ.2.1 pc = .ok (.getfield idx, 3)) (hf : fl μ.1.cls idx 7 4 ty fin) (ha : h.2 a = some (.inr (7, FD7 r0 r1 r2 r3 r4 r5 x6))) (hq : pc + 3 = q) (kk : wp l μ sc d kc ks Q h q lv (.ref r4 :: st)) : wp l μ sc d kc ks Q h pc lv (.ref a :: st) := wp_get hd hf ha hq kk
theorem wg7_5 {idx a : Nat} {ty : FieldType} {fin : Bool} {r0 : Nat} {r1 : Nat} {r2 : Nat} {r3 : Nat} {r4 : Nat} {r5 : Nat} {x6 : Int32} (hd : decode μ.2.1 pc = .ok (.getfield idx, 3)) (hf : fl μ.1.cls idx 7 5 ty fin) (ha : h.2 a = some (.inr (7, FD7 r0 r1 r2 r3 r4 r5 x6))) (hq : pc + 3 = q) (kk : wp l μ sc d kc ks Q h q lv (.ref r5 :: st)) : wp l μ sc d kc ks Q h pc lv (.ref a :: st) := wp_get hd hf ha hq kk
theorem wg7_6 {idx a : Nat} {ty : FieldType} {fin : Bool} {r0 : Nat} {r1 : Nat} {r2 : Nat} {r3 : Nat} {r4 : Nat} {r5 : Nat} {x6 : Int32} (hd : decode μ.2.1 pc = .ok (.getfield idx, 3)) (hf : fl μ.1.cls idx 7 6 ty fin) (ha : h.2 a = some (.inr (7, FD7 r0 r1 r2 r3 r4 r5 x6))) (hq : pc + 3 = q) (kk : wp l μ sc d kc ks Q h q lv (.int x6 :: st)) : wp l μ sc d kc ks Q h pc lv (.ref a :: st) := wp_get hd hf ha hq kk
theorem uF7_6 {r0 : Nat} {r1 : Nat} {r2 : Nat} {r3 : Nat} {r4 : Nat} {r5 : Nat} {x6 : Int32} {x : Int32} : updV (FD7 r0 r1 r2 r3 r4 r5 x6) 6 (.int x) = FD7 r0 r1 r2 r3 r4 r5 x := by
  funext j
  rcases j with _ | _ | _ | _ | _ | _ | _ | j <;> first | rfl | (unfold updV FD7; simp)
theorem wt7_6 {idx a : Nat} {r0 : Nat} {r1 : Nat} {r2 : Nat} {r3 : Nat} {r4 : Nat} {r5 : Nat} {x6 : Int32} {x : Int32} (hd : decode μ.2.1 pc = .ok (.putfield idx, 3)) (hf : fl μ.1.cls idx 7 6 .int false) (ha : h.2 a = some (.inr (7, FD7 r0 r1 r2 r3 r4 r5 x6))) (hs : hset h a (.inr (7, FD7 r0 r1 r2 r3 r4 r5 x)) = h') (hq : pc + 3 = q) (kk : wp l μ sc d kc ks Q h' q lv st) : wp l μ sc d kc ks Q h pc lv (.int x :: .ref a :: st) := wp_put hd hf ha rfl rfl hq (by rw [uF7_6, hs]; exact kk)
theorem wq_iald {a n j : Nat} {f : Nat → Int32} {i : Int32} (hd : decode μ.2.1 pc = .ok (.iaload, 1)) (ha : h.2 a = some (.inl (0, n, .inl f))) (hi : i = nI j) (hj : j < n ∧ n < 2 ^ 31) (hq : pc + 1 = q) (kk : wp l μ sc d kc ks Q h q lv (.int (f j) :: st)) : wp l μ sc d kc ks Q h pc lv (.int i :: .ref a :: st) := by
  subst hi
  exact wp_iald hd ha (vp_in_nI hj.1 hj.2) hq (by rw [nI_clamp (by omega)]; exact kk)
theorem wq_zald {a n j : Nat} {f : Nat → Int32} {i : Int32} (hd : decode μ.2.1 pc = .ok (.baload, 1)) (ha : h.2 a = some (.inl (2, n, .inl f))) (hi : i = nI j) (hj : j < n ∧ n < 2 ^ 31) (hq : pc + 1 = q) (kk : wp l μ sc d kc ks Q h q lv (.int (f j) :: st)) : wp l μ sc d kc ks Q h pc lv (.int i :: .ref a :: st) := by
  subst hi
  exact wp_zald hd ha (vp_in_nI hj.1 hj.2) hq (by rw [nI_clamp (by omega)]; exact kk)
theorem wq_lald {a n j : Nat} {f : Nat → Int64} {i : Int32} (hd : decode μ.2.1 pc = .ok (.laload, 1)) (ha : h.2 a = some (.inl (1, n, .inr (.inl f)))) (hi : i = nI j) (hj : j < n ∧ n < 2 ^ 31) (hq : pc + 1 = q) (kk : wp l μ sc d kc ks Q h q lv (.long (f j) :: st)) : wp l μ sc d kc ks Q h pc lv (.int i :: .ref a :: st) := by
  subst hi
  exact wp_lald hd ha (vp_in_nI hj.1 hj.2) hq (by rw [nI_clamp (by omega)]; exact kk)
theorem wq_iast {a n j : Nat} {f : Nat → Int32} {i : Int32} {x : Int32} (hd : decode μ.2.1 pc = .ok (.iastore, 1)) (ha : h.2 a = some (.inl (0, n, .inl f))) (hi : i = nI j) (hj : j < n ∧ n < 2 ^ 31) (hs : hset h a (.inl (0, n, .inl (upd f j x))) = h') (hq : pc + 1 = q) (kk : wp l μ sc d kc ks Q h' q lv st) : wp l μ sc d kc ks Q h pc lv (.int x :: .int i :: .ref a :: st) := by
  subst hi
  exact wp_iast hd ha (vp_in_nI hj.1 hj.2) hq (by rw [nI_clamp (by omega), hs]; exact kk)
theorem wq_zast {a n j : Nat} {f : Nat → Int32} {i : Int32} {x : Int32} (hd : decode μ.2.1 pc = .ok (.bastore, 1)) (ha : h.2 a = some (.inl (2, n, .inl f))) (hi : i = nI j) (hj : j < n ∧ n < 2 ^ 31) (hx : x = 0 ∨ x = 1) (hs : hset h a (.inl (2, n, .inl (upd f j x))) = h') (hq : pc + 1 = q) (kk : wp l μ sc d kc ks Q h' q lv st) : wp l μ sc d kc ks Q h pc lv (.int x :: .int i :: .ref a :: st) := by
  subst hi
  exact wp_zast hd ha (vp_in_nI hj.1 hj.2) hx hq (by rw [nI_clamp (by omega), hs]; exact kk)
theorem wq_last {a n j : Nat} {f : Nat → Int64} {i : Int32} {x : Int64} (hd : decode μ.2.1 pc = .ok (.lastore, 1)) (ha : h.2 a = some (.inl (1, n, .inr (.inl f)))) (hi : i = nI j) (hj : j < n ∧ n < 2 ^ 31) (hs : hset h a (.inl (1, n, .inr (.inl (vp_updL f j x)))) = h') (hq : pc + 1 = q) (kk : wp l μ sc d kc ks Q h' q lv st) : wp l μ sc d kc ks Q h pc lv (.long x :: .int i :: .ref a :: st) := by
  subst hi
  exact wp_last hd ha (vp_in_nI hj.1 hj.2) hq (by rw [nI_clamp (by omega), hs]; exact kk)
theorem wq_aald {a n kd j y : Nat} {f : Nat → Option Nat} {i : Int32} (hd : decode μ.2.1 pc = .ok (.aaload, 1)) (ha : h.2 a = some (.inl (kd, n, .inr (.inr (.inr (.inr f)))))) (hk : kd = 3 ∨ kd = 4 ∨ kd = 5 ∨ kd = 6 ∨ kd = 7) (hi : i = nI j) (hj : j < n ∧ n < 2 ^ 31) (hf : f j = some y) (hq : pc + 1 = q) (kk : wp l μ sc d kc ks Q h q lv (.ref y :: st)) : wp l μ sc d kc ks Q h pc lv (.int i :: .ref a :: st) := by
  subst hi
  exact wp_aald hd ha hk (vp_in_nI hj.1 hj.2) hq (by rw [nI_clamp (by omega), hf]; exact kk)
theorem wq_alen {a kd n : Nat} {x : (Nat → Int32) ⊕ (Nat → Int64) ⊕ (Nat → UInt32) ⊕ (Nat → UInt64) ⊕ (Nat → Option Nat)} (hd : decode μ.2.1 pc = .ok (.arraylength, 1)) (ha : h.2 a = some (.inl (kd, n, x))) (hk : kd < 8) (hq : pc + 1 = q) (kk : wp l μ sc d kc ks Q h q lv (.int (nI n) :: st)) : wp l μ sc d kc ks Q h pc lv (.ref a :: st) := wp_alen hd ha hk rfl hq kk
theorem wp_ixor {x y : Int32} (hd : decode μ.2.1 pc = .ok (.ixor, 1)) (hq : pc + 1 = q) (k : wp l μ sc d kc ks Q h q lv (.int (x ^^^ y) :: st)) : wp l μ sc d kc ks Q h pc lv (.int y :: .int x :: st) := by
  subst hq
  exact wp_pure (fun _ _ _ _ _ _ _ _ _ _ _ _ _ _ _ hx hb _ w => lv_ixor hx hb hd w) k
theorem hset_hset {a : Nat} {e e' : aE} : hset (hset h a e) a e' = hset h a e' := by
  unfold hset
  congr 1
  funext x
  by_cases w : x = a <;> simp [w]
theorem hset_at {a : Nat} {e : aE} : (hset h a e).2 a = some e := by simp [hset]
theorem hset_ne {a b : Nat} {e : aE} (w : b ≠ a) : (hset h a e).2 b = h.2 b := by simp [hset, w]
theorem hset_self {a : Nat} {e : aE} (w : h.2 a = some e) : hset h a e = h := by
  unfold hset
  have : (fun q => if q = a then some e else h.2 q) = h.2 := by
    funext x
    by_cases w2 : x = a
    · rw [if_pos w2, w2, w]
    · rw [if_neg w2]
  rw [this]
end CF
