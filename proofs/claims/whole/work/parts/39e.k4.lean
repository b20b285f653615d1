/-! THE CLASS: constructors of Program, Passed, Search, RunLaws; of the reference -/

def pgC (q o : Nat) : aE := match o with
  | 0 => .inr (4, FD4 (q + 1) (q + 2) (q + 3) (q + 4) 0 0 (-9))
  | 1 => rA 5 6 (fun _ => none)
  | 2 => rA 7 10 (fun _ => none)
  | 3 => iA 4 (fun _ => 0)
  | _ => lA 5 (fun _ => 0)
def psC (q o : Nat) : aE := match o with
  | 0 => .inr (2, FD2 (q + 1) (q + 2))
  | _ => iA 1024 (fun _ => 0)
def seC (r q o : Nat) : aE := match o with
  | 0 => .inr (5, FD5 r (q + 1) (q + 4) (q + 11) (q + 12) (q + 19) (q + 20) 0 (q + 21) (q + 22) (-9) 0 0 0)
  | 1 => psC (q + 1) 0
  | 2 => psC (q + 1) 1
  | 3 => psC (q + 1) 2
  | 4 => rA 3 6 (rfs 6 (q + 5))
  | 11 => iA 6 (fun _ => 0)
  | 12 => rA 3 6 (rfs 6 (q + 13))
  | 13 => iA 4 (fun _ => 0)
  | 14 => iA 4 (fun _ => 0)
  | 15 => iA 4 (fun _ => 0)
  | 16 => iA 4 (fun _ => 0)
  | 17 => iA 4 (fun _ => 0)
  | 18 => iA 4 (fun _ => 0)
  | 19 => iA 6 (fun _ => 0)
  | 20 => iA 5 (fun _ => 0)
  | 21 => iA 4 (fun _ => 0)
  | 22 => iA 5 (fun _ => 0)
  | _ => iA 60 (fun _ => 0)
def I0 : Nat → Int32 := fun k => if k = 3 then -9 else if k = 5 then -9 else 0
def D0 : DS := (0, 0, fun _ => 0, fun _ => 0, fun _ => 0, fun _ => 0, fun _ => 0, fun _ => P0s, fun _ _ _ => 0)
/-- the reference's fields at first -/
def J0 : Nat → Int32 := fun k => if k = 25 then -1 else if k = 41 then -1 else 0
section K4
variable {l : Launch} {d q r b : Nat} {G : Nat → Option aE}
theorem tX4_init (hd : 1 ≤ d) : mt l mX4_init d 4 25 [.ref q] (hnew (q, G) (.inr (4, fun k => defaultValue (tyX4 k)))) (rV (q + 5, ov q 5 (pgC q) G)) := by
  rw [ov_one (c := pgC q)]
  refine mt_in (lv := [_]) (by decide) (Nat.le_of_ble_eq_true rfl) rfl ?_
  refine wp_aload_n (i := 0) (q := 1) dX4_init_0 rfl rfl rfl ?_
  refine wp_obj (q := 4) dX4_init_1 obX4 (by omega) (Nat.le_of_ble_eq_true rfl) rfl ?_
  refine wp_aload_n (i := 0) (q := 5) dX4_init_4 rfl rfl rfl ?_
  refine wp_bipush (v := nI 6) (q := 7) dX4_init_5 (by decide) rfl ?_
  refine wp_newq (kd := 5) (C := "RunLaws$Point") (q := 10) dX4_init_7 ckX4_9 aoP (by simp) (nI_pos (by omega)) (nI_clamp (by omega)) (by omega) (by omega) (by omega) rfl ?_
  rw [ov_new (by omega) (by first | rfl | simp [ptR, acR, D0, dNp, dNa]), show 1 + 1 = 2 from rfl]
  refine wp_putF (q := 13) dX4_init_10 ffX4_11 rfl rfl (by exact ov_o (by omega)) rfl rfl rfl ?_
  rw [ov_put (by omega)]
  refine wp_aload_n (i := 0) (q := 14) dX4_init_13 rfl rfl rfl ?_
  refine wp_bipush (v := nI 10) (q := 16) dX4_init_14 (by decide) rfl ?_
  refine wp_newq (kd := 7) (C := "RunLaws$Act") (q := 19) dX4_init_16 ckX4_17 aoA (by simp) (nI_pos (by omega)) (nI_clamp (by omega)) (by omega) (by omega) (by omega) rfl ?_
  rw [ov_new (by omega) (by first | rfl | simp [ptR, acR, D0, dNp, dNa]), show 2 + 1 = 3 from rfl]
  refine wp_putF (q := 22) dX4_init_19 ffX4_19 rfl rfl (by exact ov_o (by omega)) rfl rfl rfl ?_
  rw [ov_put (by omega)]
  refine wp_aload_n (i := 0) (q := 23) dX4_init_22 rfl rfl rfl ?_
  refine wp_iconst (v := nI 4) (q := 24) dX4_init_23 (by decide) rfl ?_
  refine wp_newI (q := 26) dX4_init_24 akI (nI_pos (by omega)) (nI_clamp (by omega)) (by omega) (by omega) (by omega) rfl ?_
  rw [ov_new (by omega) (by first | rfl | simp [ptR, acR, D0, dNp, dNa]), show 3 + 1 = 4 from rfl]
  refine wp_putF (q := 29) dX4_init_26 ffX4_23 rfl rfl (by exact ov_o (by omega)) rfl rfl rfl ?_
  rw [ov_put (by omega)]
  refine wp_aload_n (i := 0) (q := 30) dX4_init_29 rfl rfl rfl ?_
  refine wp_iconst (v := nI 5) (q := 31) dX4_init_30 (by decide) rfl ?_
  refine wp_newJ (q := 33) dX4_init_31 akJ (nI_pos (by omega)) (nI_clamp (by omega)) (by omega) (by omega) (by omega) rfl ?_
  rw [ov_new (by omega) (by first | rfl | simp [ptR, acR, D0, dNp, dNa]), show 4 + 1 = 5 from rfl]
  refine wp_putF (q := 36) dX4_init_33 ffX4_27 rfl rfl (by exact ov_o (by omega)) rfl rfl rfl ?_
  rw [ov_put (by omega)]
  refine wp_aload_n (i := 0) (q := 37) dX4_init_36 rfl rfl rfl ?_
  refine wp_iconst (v := nI 0) (q := 38) dX4_init_37 (by decide) rfl ?_
  refine wp_put (q := 41) dX4_init_38 ffX4_31 (by exact ov_o (by omega)) rfl rfl rfl ?_
  rw [ov_put (by omega)]
  refine wp_aload_n (i := 0) (q := 42) dX4_init_41 rfl rfl rfl ?_
  refine wp_iconst (v := nI 0) (q := 43) dX4_init_42 (by decide) rfl ?_
  refine wp_put (q := 46) dX4_init_43 ffX4_35 (by exact ov_o (by omega)) rfl rfl rfl ?_
  rw [ov_put (by omega)]
  refine wp_aload_n (i := 0) (q := 47) dX4_init_46 rfl rfl rfl ?_
  refine wp_bipush (v := (-9)) (q := 49) dX4_init_47 (by decide) rfl ?_
  refine wp_put (q := 52) dX4_init_49 ffX4_38 (by exact ov_o (by omega)) rfl rfl rfl ?_
  rw [ov_put (by omega)]
  refine wp_vret dX4_init_52 rfl ?_
  refine ⟨rfl, ?_⟩
  rw [ov_fin]
  · show pgC q 0 = _
    refine congrArg (fun F => Sum.inr (4, F)) (funext fun j => ?_)
    rcases j with _ | _ | _ | _ | _ | _ | _ | j <;> first | rfl | (unfold updV FD4; simp)

theorem tX2_init (hd : 1 ≤ d) : mt l mX2_init d 2 2048 [.ref q] (hnew (q, G) (.inr (2, fun k => defaultValue (tyX2 k)))) (rV (q + 3, ov q 3 (psC q) G)) := by
  rw [ov_one (c := psC q)]
  refine mt_in (lv := [_]) (by decide) (Nat.le_of_ble_eq_true rfl) rfl ?_
  refine wp_aload_n (i := 0) (q := 1) dX2_init_0 rfl rfl rfl ?_
  refine wp_obj (q := 4) dX2_init_1 obX2 (by omega) (Nat.le_of_ble_eq_true rfl) rfl ?_
  refine wp_aload_n (i := 0) (q := 5) dX2_init_4 rfl rfl rfl ?_
  refine wp_sipush (v := nI 1024) (q := 8) dX2_init_5 (by decide) rfl ?_
  refine wp_newI (q := 10) dX2_init_8 akI (nI_pos (by omega)) (nI_clamp (by omega)) (by omega) (by omega) (by omega) rfl ?_
  rw [ov_new (by omega) (by first | rfl | simp [ptR, acR, D0, dNp, dNa]), show 1 + 1 = 2 from rfl]
  refine wp_putF (q := 13) dX2_init_10 ffX2_9 rfl rfl (by exact ov_o (by omega)) rfl rfl rfl ?_
  rw [ov_put (by omega)]
  refine wp_aload_n (i := 0) (q := 14) dX2_init_13 rfl rfl rfl ?_
  refine wp_sipush (v := nI 1024) (q := 17) dX2_init_14 (by decide) rfl ?_
  refine wp_newI (q := 19) dX2_init_17 akI (nI_pos (by omega)) (nI_clamp (by omega)) (by omega) (by omega) (by omega) rfl ?_
  rw [ov_new (by omega) (by first | rfl | simp [ptR, acR, D0, dNp, dNa]), show 2 + 1 = 3 from rfl]
  refine wp_putF (q := 22) dX2_init_19 ffX2_13 rfl rfl (by exact ov_o (by omega)) rfl rfl rfl ?_
  rw [ov_put (by omega)]
  refine wp_vret dX2_init_22 rfl ?_
  refine ⟨rfl, ?_⟩
  rw [ov_fin]
  · show psC q 0 = _
    refine congrArg (fun F => Sum.inr (2, F)) (funext fun j => ?_)
    rcases j with _ | _ | j <;> first | rfl | (unfold updV FD2; simp)

theorem tX5_init (hd : 2 ≤ d) : mt l mX5_init d 22 2480 [.ref q, .ref r] (hnew (q, G) (.inr (5, fun k => defaultValue (tyX5 k)))) (rV (q + 23, ov q 23 (seC r q) G)) := by
  rw [ov_one (c := seC r q)]
  refine mt_in (lv := [_, _]) (by decide) (Nat.le_of_ble_eq_true rfl) rfl ?_
  refine wp_aload_n (i := 0) (q := 1) dX5_init_0 rfl rfl rfl ?_
  refine wp_obj (q := 4) dX5_init_1 obX5 (by omega) (Nat.le_of_ble_eq_true rfl) rfl ?_
  refine wp_aload_n (i := 0) (q := 5) dX5_init_4 rfl rfl rfl ?_
  refine wp_aload_n (i := 1) (q := 6) dX5_init_5 rfl rfl rfl ?_
  refine wp_putF (q := 9) dX5_init_6 ffX5_9 rfl rfl (by exact ov_o (by omega)) rfl rfl rfl ?_
  rw [ov_put (by omega)]
  refine wp_aload_n (i := 0) (q := 10) dX5_init_9 rfl rfl rfl ?_
  refine wp_new (q := 13) dX5_init_10 clX2 ckX5_15 niX2 nzX2 (by omega) (by omega) rfl ?_
  refine wp_dup (q := 14) dX5_init_13 rfl rfl ?_
  refine wp_callI (μ' := mX2_init) (q := 17) (tX2_init (d := d - 1) (q := q + 1) (by omega)) dX5_init_14 okX2_init rfl rfl lkX5_17 rfl rfl (Nat.le_of_ble_eq_true rfl) (by omega) (by omega) (by omega) rfl (fun rv hx hq => ?_)
  obtain ⟨rfl, rfl⟩ := hq
  show wp _ _ _ _ _ _ _ _ _ _ [.ref (q + 1), .ref q]
  rw [ov_sub (m := 1) (by omega) (fun o ho => by rcases (show o = 0 ∨ o = 1 ∨ o = 2 by omega) with rfl | rfl | rfl <;> rfl), show q + 1 + 3 = q + 4 from rfl, show 1 + 3 = 4 from rfl]
  refine wp_putF (q := 20) dX5_init_17 ffX5_18 rfl rfl (by exact ov_o (by omega)) rfl rfl rfl ?_
  rw [ov_put (by omega)]
  refine wp_aload_n (i := 0) (q := 21) dX5_init_20 rfl rfl rfl ?_
  refine wp_bipush (v := nI 6) (q := 23) dX5_init_21 (by decide) rfl ?_
  refine wp_bipush (v := nI 60) (q := 25) dX5_init_23 (by decide) rfl ?_
  refine wp_mul (kd := 3) (ki := 0) (ty := .int) (N := 6) (M := 60) (z0 := (60, .inl (fun _ => 0))) (q := 29) dX5_init_25 ckX5_22 aoI akI (by simp) (fun c => (arrV_new c _ _)) (nI_pos (by omega)) (nI_pos (by omega)) (nI_clamp (by omega)) (nI_clamp (by omega)) (by omega) (by omega) (by omega) (by omega) rfl ?_
  rw [ov_mul (by omega) rfl (fun i hi => by rcases (show i = 0 ∨ i = 1 ∨ i = 2 ∨ i = 3 ∨ i = 4 ∨ i = 5 by omega) with rfl | rfl | rfl | rfl | rfl | rfl <;> rfl), show 4 + 1 + 6 = 11 from rfl]
  refine wp_putF (q := 32) dX5_init_29 ffX5_24 rfl rfl (by exact ov_o (by omega)) rfl rfl rfl ?_
  rw [ov_put (by omega)]
  refine wp_aload_n (i := 0) (q := 33) dX5_init_32 rfl rfl rfl ?_
  refine wp_bipush (v := nI 6) (q := 35) dX5_init_33 (by decide) rfl ?_
  refine wp_newI (q := 37) dX5_init_35 akI (nI_pos (by omega)) (nI_clamp (by omega)) (by omega) (by omega) (by omega) rfl ?_
  rw [ov_new (by omega) (by first | rfl | simp [ptR, acR, D0, dNp, dNa]), show 11 + 1 = 12 from rfl]
  refine wp_putF (q := 40) dX5_init_37 ffX5_27 rfl rfl (by exact ov_o (by omega)) rfl rfl rfl ?_
  rw [ov_put (by omega)]
  refine wp_aload_n (i := 0) (q := 41) dX5_init_40 rfl rfl rfl ?_
  refine wp_bipush (v := nI 6) (q := 43) dX5_init_41 (by decide) rfl ?_
  refine wp_iconst (v := nI 4) (q := 44) dX5_init_43 (by decide) rfl ?_
  refine wp_mul (kd := 3) (ki := 0) (ty := .int) (N := 6) (M := 4) (z0 := (4, .inl (fun _ => 0))) (q := 48) dX5_init_44 ckX5_22 aoI akI (by simp) (fun c => (arrV_new c _ _)) (nI_pos (by omega)) (nI_pos (by omega)) (nI_clamp (by omega)) (nI_clamp (by omega)) (by omega) (by omega) (by omega) (by omega) rfl ?_
  rw [ov_mul (by omega) rfl (fun i hi => by rcases (show i = 0 ∨ i = 1 ∨ i = 2 ∨ i = 3 ∨ i = 4 ∨ i = 5 by omega) with rfl | rfl | rfl | rfl | rfl | rfl <;> rfl), show 12 + 1 + 6 = 19 from rfl]
  refine wp_putF (q := 51) dX5_init_48 ffX5_31 rfl rfl (by exact ov_o (by omega)) rfl rfl rfl ?_
  rw [ov_put (by omega)]
  refine wp_aload_n (i := 0) (q := 52) dX5_init_51 rfl rfl rfl ?_
  refine wp_bipush (v := nI 6) (q := 54) dX5_init_52 (by decide) rfl ?_
  refine wp_newI (q := 56) dX5_init_54 akI (nI_pos (by omega)) (nI_clamp (by omega)) (by omega) (by omega) (by omega) rfl ?_
  rw [ov_new (by omega) (by first | rfl | simp [ptR, acR, D0, dNp, dNa]), show 19 + 1 = 20 from rfl]
  refine wp_putF (q := 59) dX5_init_56 ffX5_34 rfl rfl (by exact ov_o (by omega)) rfl rfl rfl ?_
  rw [ov_put (by omega)]
  refine wp_aload_n (i := 0) (q := 60) dX5_init_59 rfl rfl rfl ?_
  refine wp_iconst (v := nI 5) (q := 61) dX5_init_60 (by decide) rfl ?_
  refine wp_newI (q := 63) dX5_init_61 akI (nI_pos (by omega)) (nI_clamp (by omega)) (by omega) (by omega) (by omega) rfl ?_
  rw [ov_new (by omega) (by first | rfl | simp [ptR, acR, D0, dNp, dNa]), show 20 + 1 = 21 from rfl]
  refine wp_putF (q := 66) dX5_init_63 ffX5_37 rfl rfl (by exact ov_o (by omega)) rfl rfl rfl ?_
  rw [ov_put (by omega)]
  refine wp_aload_n (i := 0) (q := 67) dX5_init_66 rfl rfl rfl ?_
  refine wp_iconst (v := nI 4) (q := 68) dX5_init_67 (by decide) rfl ?_
  refine wp_newI (q := 70) dX5_init_68 akI (nI_pos (by omega)) (nI_clamp (by omega)) (by omega) (by omega) (by omega) rfl ?_
  rw [ov_new (by omega) (by first | rfl | simp [ptR, acR, D0, dNp, dNa]), show 21 + 1 = 22 from rfl]
  refine wp_putF (q := 73) dX5_init_70 ffX5_40 rfl rfl (by exact ov_o (by omega)) rfl rfl rfl ?_
  rw [ov_put (by omega)]
  refine wp_aload_n (i := 0) (q := 74) dX5_init_73 rfl rfl rfl ?_
  refine wp_iconst (v := nI 5) (q := 75) dX5_init_74 (by decide) rfl ?_
  refine wp_newI (q := 77) dX5_init_75 akI (nI_pos (by omega)) (nI_clamp (by omega)) (by omega) (by omega) (by omega) rfl ?_
  rw [ov_new (by omega) (by first | rfl | simp [ptR, acR, D0, dNp, dNa]), show 22 + 1 = 23 from rfl]
  refine wp_putF (q := 80) dX5_init_77 ffX5_43 rfl rfl (by exact ov_o (by omega)) rfl rfl rfl ?_
  rw [ov_put (by omega)]
  refine wp_aload_n (i := 0) (q := 81) dX5_init_80 rfl rfl rfl ?_
  refine wp_bipush (v := (-9)) (q := 83) dX5_init_81 (by decide) rfl ?_
  refine wp_put (q := 86) dX5_init_83 ffX5_46 (by exact ov_o (by omega)) rfl rfl rfl ?_
  rw [ov_put (by omega)]
  refine wp_vret dX5_init_86 rfl ?_
  refine ⟨rfl, ?_⟩
  rw [ov_fin]
  · show seC r q 0 = _
    refine congrArg (fun F => Sum.inr (5, F)) (funext fun j => ?_)
    rcases j with _ | _ | _ | _ | _ | _ | _ | _ | _ | _ | _ | _ | _ | _ | j <;> first | rfl | (unfold updV FD5; simp)

theorem tX7_init (hd : 3 ≤ d) : mt l mX7_init d 32 2774 [.ref b] (hnew (b, G) (.inr (7, fun k => defaultValue (tyX7 k)))) (rV (b + 33, ch b I0 (fun _ _ => 0) (fun _ => 0) D0 G)) := by
  rw [ov_one (c := cC b I0 (fun _ _ => 0) (fun _ => 0) D0)]
  refine mt_in (lv := [_]) (by decide) (Nat.le_of_ble_eq_true rfl) rfl ?_
  refine wp_aload_n (i := 0) (q := 1) dX7_init_0 rfl rfl rfl ?_
  refine wp_obj (q := 4) dX7_init_1 obX7 (by omega) (Nat.le_of_ble_eq_true rfl) rfl ?_
  refine wp_aload_n (i := 0) (q := 5) dX7_init_4 rfl rfl rfl ?_
  refine wp_new (q := 8) dX7_init_5 clX4 ckX7_7 niX4 nzX4 (by omega) (by omega) rfl ?_
  refine wp_dup (q := 9) dX7_init_8 rfl rfl ?_
  refine wp_callI (μ' := mX4_init) (q := 12) (tX4_init (d := d - 1) (q := b + 1) (by omega)) dX7_init_9 okX4_init rfl rfl lkX7_9 rfl rfl (Nat.le_of_ble_eq_true rfl) (by omega) (by omega) (by omega) rfl (fun rv hx hq => ?_)
  obtain ⟨rfl, rfl⟩ := hq
  show wp _ _ _ _ _ _ _ _ _ _ [.ref (b + 1), .ref b]
  rw [ov_sub (m := 1) (by omega) (fun o ho => by rcases (show o = 0 ∨ o = 1 ∨ o = 2 ∨ o = 3 ∨ o = 4 by omega) with rfl | rfl | rfl | rfl | rfl <;> first | rfl | (refine congrArg (fun f => rA _ _ f) (funext fun p => ?_); exact if_neg (by show ¬ p < 0; omega))), show b + 1 + 5 = b + 6 from rfl, show 1 + 5 = 6 from rfl]
  refine wp_putF (q := 15) dX7_init_12 ffX7_10 rfl rfl (by exact ov_o (by omega)) rfl rfl rfl ?_
  rw [ov_put (by omega)]
  refine wp_aload_n (i := 0) (q := 16) dX7_init_15 rfl rfl rfl ?_
  refine wp_new (q := 19) dX7_init_16 clX5 ckX7_16 niX5 nzX5 (by omega) (by omega) rfl ?_
  refine wp_dup (q := 20) dX7_init_19 rfl rfl ?_
  refine wp_aload_n (i := 0) (q := 21) dX7_init_20 rfl rfl rfl ?_
  refine wp_get (q := 24) dX7_init_21 ffX7_10 (by show (if b = b + 6 then _ else _) = _; rw [if_neg (by omega)]; exact ov_o (by omega)) rfl ?_
  show wp _ _ _ _ _ _ _ _ _ _ [.ref (b + 1), .ref (b + 6), .ref (b + 6), .ref b]
  refine wp_callI (μ' := mX5_init) (q := 27) (tX5_init (d := d - 1) (q := b + 6) (r := b + 1) (by omega)) dX7_init_24 okX5_init rfl rfl lkX7_18 rfl rfl (Nat.le_of_ble_eq_true rfl) (by omega) (by omega) (by omega) rfl (fun rv hx hq => ?_)
  obtain ⟨rfl, rfl⟩ := hq
  show wp _ _ _ _ _ _ _ _ _ _ [.ref (b + 6), .ref b]
  rw [ov_sub (m := 6) (by omega) (fun o ho => by rcases (show o = 0 ∨ o = 1 ∨ o = 2 ∨ o = 3 ∨ o = 4 ∨ o = 5 ∨ o = 6 ∨ o = 7 ∨ o = 8 ∨ o = 9 ∨ o = 10 ∨ o = 11 ∨ o = 12 ∨ o = 13 ∨ o = 14 ∨ o = 15 ∨ o = 16 ∨ o = 17 ∨ o = 18 ∨ o = 19 ∨ o = 20 ∨ o = 21 ∨ o = 22 by omega) with rfl | rfl | rfl | rfl | rfl | rfl | rfl | rfl | rfl | rfl | rfl | rfl | rfl | rfl | rfl | rfl | rfl | rfl | rfl | rfl | rfl | rfl | rfl <;> rfl), show b + 6 + 23 = b + 29 from rfl, show 6 + 23 = 29 from rfl]
  refine wp_putF (q := 30) dX7_init_27 ffX7_21 rfl rfl (by exact ov_o (by omega)) rfl rfl rfl ?_
  rw [ov_put (by omega)]
  refine wp_aload_n (i := 0) (q := 31) dX7_init_30 rfl rfl rfl ?_
  refine wp_iconst (v := nI 4) (q := 32) dX7_init_31 (by decide) rfl ?_
  refine wp_newI (q := 34) dX7_init_32 akI (nI_pos (by omega)) (nI_clamp (by omega)) (by omega) (by omega) (by omega) rfl ?_
  dsimp only
  rw [ov_new (by omega) (by first | rfl | simp [ptR, acR, D0, dNp, dNa]), show 29 + 1 = 30 from rfl]
  refine wp_putF (q := 37) dX7_init_34 ffX7_25 rfl rfl (by exact ov_o (by omega)) rfl rfl rfl ?_
  rw [ov_put (by omega)]
  refine wp_aload_n (i := 0) (q := 38) dX7_init_37 rfl rfl rfl ?_
  refine wp_iconst (v := nI 4) (q := 39) dX7_init_38 (by decide) rfl ?_
  refine wp_newI (q := 41) dX7_init_39 akI (nI_pos (by omega)) (nI_clamp (by omega)) (by omega) (by omega) (by omega) rfl ?_
  dsimp only
  rw [ov_new (by omega) (by first | rfl | simp [ptR, acR, D0, dNp, dNa]), show 30 + 1 = 31 from rfl]
  refine wp_putF (q := 44) dX7_init_41 ffX7_29 rfl rfl (by exact ov_o (by omega)) rfl rfl rfl ?_
  rw [ov_put (by omega)]
  refine wp_aload_n (i := 0) (q := 45) dX7_init_44 rfl rfl rfl ?_
  refine wp_bipush (v := nI 60) (q := 47) dX7_init_45 (by decide) rfl ?_
  refine wp_newI (q := 49) dX7_init_47 akI (nI_pos (by omega)) (nI_clamp (by omega)) (by omega) (by omega) (by omega) rfl ?_
  dsimp only
  rw [ov_new (by omega) (by first | rfl | simp [ptR, acR, D0, dNp, dNa]), show 31 + 1 = 32 from rfl]
  refine wp_putF (q := 52) dX7_init_49 ffX7_32 rfl rfl (by exact ov_o (by omega)) rfl rfl rfl ?_
  rw [ov_put (by omega)]
  refine wp_aload_n (i := 0) (q := 53) dX7_init_52 rfl rfl rfl ?_
  refine wp_sipush (v := nI 180) (q := 56) dX7_init_53 (by decide) rfl ?_
  refine wp_newI (q := 58) dX7_init_56 akI (nI_pos (by omega)) (nI_clamp (by omega)) (by omega) (by omega) (by omega) rfl ?_
  dsimp only
  rw [ov_new (by omega) (by first | rfl | simp [ptR, acR, D0, dNp, dNa]), show 32 + 1 = 33 from rfl]
  refine wp_putF (q := 61) dX7_init_58 ffX7_35 rfl rfl (by exact ov_o (by omega)) rfl rfl rfl ?_
  rw [ov_put (by omega)]
  refine wp_aload_n (i := 0) (q := 62) dX7_init_61 rfl rfl rfl ?_
  refine wp_iconst (v := nI 0) (q := 63) dX7_init_62 (by decide) rfl ?_
  refine wp_put (q := 66) dX7_init_63 ffX7_38 (by exact ov_o (by omega)) rfl rfl rfl ?_
  rw [ov_put (by omega)]
  refine wp_vret dX7_init_66 rfl ?_
  refine ⟨rfl, ?_⟩
  rw [ov_fin]
  · rfl
  · show cC b I0 (fun _ _ => 0) (fun _ => 0) D0 0 = _
    refine congrArg (fun F => Sum.inr (7, F)) (funext fun j => ?_)
    rcases j with _ | _ | _ | _ | _ | _ | _ | j <;> first | rfl | (unfold updV FD7; simp)

theorem tX8_init (hd : 1 ≤ d) : mt l mX8_init d 31 5376 [.ref b] (hnew (b, G) (.inr (8, fun k => defaultValue (tyX8 k)))) (rV (b + 32, mh b J0 0 (fun _ _ => 0) (fun _ _ => 0) G)) := by
  rw [ov_one (c := mcell b J0 0 (fun _ _ => 0) (fun _ _ => 0))]
  refine mt_in (lv := [_]) (by decide) (Nat.le_of_ble_eq_true rfl) rfl ?_
  refine wp_aload_n (i := 0) (q := 1) dX8_init_0 rfl rfl rfl ?_
  refine wp_obj (q := 4) dX8_init_1 obX8 (by omega) (Nat.le_of_ble_eq_true rfl) rfl ?_
  refine wp_aload_n (i := 0) (q := 5) dX8_init_4 rfl rfl rfl ?_
  refine wp_bipush (v := nI 6) (q := 7) dX8_init_5 (by decide) rfl ?_
  refine wp_newI (q := 9) dX8_init_7 akI (nI_pos (by omega)) (nI_clamp (by omega)) (by omega) (by omega) (by omega) rfl ?_
  dsimp only
  rw [ov_new (by omega) (by first | rfl | simp [ptR, acR, D0, dNp, dNa]), show 1 + 1 = 2 from rfl]
  refine wp_putF (q := 12) dX8_init_9 ffX8_7 rfl rfl (by exact ov_o (by omega)) rfl rfl rfl ?_
  rw [ov_put (by omega)]
  refine wp_aload_n (i := 0) (q := 13) dX8_init_12 rfl rfl rfl ?_
  refine wp_bipush (v := nI 6) (q := 15) dX8_init_13 (by decide) rfl ?_
  refine wp_newI (q := 17) dX8_init_15 akI (nI_pos (by omega)) (nI_clamp (by omega)) (by omega) (by omega) (by omega) rfl ?_
  dsimp only
  rw [ov_new (by omega) (by first | rfl | simp [ptR, acR, D0, dNp, dNa]), show 2 + 1 = 3 from rfl]
  refine wp_putF (q := 20) dX8_init_17 ffX8_13 rfl rfl (by exact ov_o (by omega)) rfl rfl rfl ?_
  rw [ov_put (by omega)]
  refine wp_aload_n (i := 0) (q := 21) dX8_init_20 rfl rfl rfl ?_
  refine wp_bipush (v := nI 6) (q := 23) dX8_init_21 (by decide) rfl ?_
  refine wp_newZ (q := 25) dX8_init_23 akZ (nI_pos (by omega)) (nI_clamp (by omega)) (by omega) (by omega) (by omega) rfl ?_
  dsimp only
  rw [ov_new (by omega) (by first | rfl | simp [ptR, acR, D0, dNp, dNa]), show 3 + 1 = 4 from rfl]
  refine wp_putF (q := 28) dX8_init_25 ffX8_16 rfl rfl (by exact ov_o (by omega)) rfl rfl rfl ?_
  rw [ov_put (by omega)]
  refine wp_aload_n (i := 0) (q := 29) dX8_init_28 rfl rfl rfl ?_
  refine wp_bipush (v := nI 6) (q := 31) dX8_init_29 (by decide) rfl ?_
  refine wp_newI (q := 33) dX8_init_31 akI (nI_pos (by omega)) (nI_clamp (by omega)) (by omega) (by omega) (by omega) rfl ?_
  dsimp only
  rw [ov_new (by omega) (by first | rfl | simp [ptR, acR, D0, dNp, dNa]), show 4 + 1 = 5 from rfl]
  refine wp_putF (q := 36) dX8_init_33 ffX8_20 rfl rfl (by exact ov_o (by omega)) rfl rfl rfl ?_
  rw [ov_put (by omega)]
  refine wp_aload_n (i := 0) (q := 37) dX8_init_36 rfl rfl rfl ?_
  refine wp_bipush (v := nI 6) (q := 39) dX8_init_37 (by decide) rfl ?_
  refine wp_newI (q := 41) dX8_init_39 akI (nI_pos (by omega)) (nI_clamp (by omega)) (by omega) (by omega) (by omega) rfl ?_
  dsimp only
  rw [ov_new (by omega) (by first | rfl | simp [ptR, acR, D0, dNp, dNa]), show 5 + 1 = 6 from rfl]
  refine wp_putF (q := 44) dX8_init_41 ffX8_23 rfl rfl (by exact ov_o (by omega)) rfl rfl rfl ?_
  rw [ov_put (by omega)]
  refine wp_aload_n (i := 0) (q := 45) dX8_init_44 rfl rfl rfl ?_
  refine wp_sipush (v := nI 960) (q := 48) dX8_init_45 (by decide) rfl ?_
  refine wp_newI (q := 50) dX8_init_48 akI (nI_pos (by omega)) (nI_clamp (by omega)) (by omega) (by omega) (by omega) rfl ?_
  dsimp only
  rw [ov_new (by omega) (by first | rfl | simp [ptR, acR, D0, dNp, dNa]), show 6 + 1 = 7 from rfl]
  refine wp_putF (q := 53) dX8_init_50 ffX8_26 rfl rfl (by exact ov_o (by omega)) rfl rfl rfl ?_
  rw [ov_put (by omega)]
  refine wp_aload_n (i := 0) (q := 54) dX8_init_53 rfl rfl rfl ?_
  refine wp_iconst (v := nI 4) (q := 55) dX8_init_54 (by decide) rfl ?_
  refine wp_newI (q := 57) dX8_init_55 akI (nI_pos (by omega)) (nI_clamp (by omega)) (by omega) (by omega) (by omega) rfl ?_
  dsimp only
  rw [ov_new (by omega) (by first | rfl | simp [ptR, acR, D0, dNp, dNa]), show 7 + 1 = 8 from rfl]
  refine wp_putF (q := 60) dX8_init_57 ffX8_29 rfl rfl (by exact ov_o (by omega)) rfl rfl rfl ?_
  rw [ov_put (by omega)]
  refine wp_aload_n (i := 0) (q := 61) dX8_init_60 rfl rfl rfl ?_
  refine wp_bipush (v := nI 100) (q := 63) dX8_init_61 (by decide) rfl ?_
  refine wp_newI (q := 65) dX8_init_63 akI (nI_pos (by omega)) (nI_clamp (by omega)) (by omega) (by omega) (by omega) rfl ?_
  dsimp only
  rw [ov_new (by omega) (by first | rfl | simp [ptR, acR, D0, dNp, dNa]), show 8 + 1 = 9 from rfl]
  refine wp_putF (q := 68) dX8_init_65 ffX8_32 rfl rfl (by exact ov_o (by omega)) rfl rfl rfl ?_
  rw [ov_put (by omega)]
  refine wp_aload_n (i := 0) (q := 69) dX8_init_68 rfl rfl rfl ?_
  refine wp_sipush (v := nI 300) (q := 72) dX8_init_69 (by decide) rfl ?_
  refine wp_newI (q := 74) dX8_init_72 akI (nI_pos (by omega)) (nI_clamp (by omega)) (by omega) (by omega) (by omega) rfl ?_
  dsimp only
  rw [ov_new (by omega) (by first | rfl | simp [ptR, acR, D0, dNp, dNa]), show 9 + 1 = 10 from rfl]
  refine wp_putF (q := 77) dX8_init_74 ffX8_35 rfl rfl (by exact ov_o (by omega)) rfl rfl rfl ?_
  rw [ov_put (by omega)]
  refine wp_aload_n (i := 0) (q := 78) dX8_init_77 rfl rfl rfl ?_
  refine wp_sipush (v := nI 300) (q := 81) dX8_init_78 (by decide) rfl ?_
  refine wp_newI (q := 83) dX8_init_81 akI (nI_pos (by omega)) (nI_clamp (by omega)) (by omega) (by omega) (by omega) rfl ?_
  dsimp only
  rw [ov_new (by omega) (by first | rfl | simp [ptR, acR, D0, dNp, dNa]), show 10 + 1 = 11 from rfl]
  refine wp_putF (q := 86) dX8_init_83 ffX8_38 rfl rfl (by exact ov_o (by omega)) rfl rfl rfl ?_
  rw [ov_put (by omega)]
  refine wp_aload_n (i := 0) (q := 87) dX8_init_86 rfl rfl rfl ?_
  refine wp_sipush (v := nI 300) (q := 90) dX8_init_87 (by decide) rfl ?_
  refine wp_newI (q := 92) dX8_init_90 akI (nI_pos (by omega)) (nI_clamp (by omega)) (by omega) (by omega) (by omega) rfl ?_
  dsimp only
  rw [ov_new (by omega) (by first | rfl | simp [ptR, acR, D0, dNp, dNa]), show 11 + 1 = 12 from rfl]
  refine wp_putF (q := 95) dX8_init_92 ffX8_41 rfl rfl (by exact ov_o (by omega)) rfl rfl rfl ?_
  rw [ov_put (by omega)]
  refine wp_aload_n (i := 0) (q := 96) dX8_init_95 rfl rfl rfl ?_
  refine wp_sipush (v := nI 200) (q := 99) dX8_init_96 (by decide) rfl ?_
  refine wp_newJ (q := 101) dX8_init_99 akJ (nI_pos (by omega)) (nI_clamp (by omega)) (by omega) (by omega) (by omega) rfl ?_
  dsimp only
  rw [ov_new (by omega) (by first | rfl | simp [ptR, acR, D0, dNp, dNa]), show 12 + 1 = 13 from rfl]
  refine wp_putF (q := 104) dX8_init_101 ffX8_44 rfl rfl (by exact ov_o (by omega)) rfl rfl rfl ?_
  rw [ov_put (by omega)]
  refine wp_aload_n (i := 0) (q := 105) dX8_init_104 rfl rfl rfl ?_
  refine wp_iconst (v := nI 5) (q := 106) dX8_init_105 (by decide) rfl ?_
  refine wp_newI (q := 108) dX8_init_106 akI (nI_pos (by omega)) (nI_clamp (by omega)) (by omega) (by omega) (by omega) rfl ?_
  dsimp only
  rw [ov_new (by omega) (by first | rfl | simp [ptR, acR, D0, dNp, dNa]), show 13 + 1 = 14 from rfl]
  refine wp_putF (q := 111) dX8_init_108 ffX8_48 rfl rfl (by exact ov_o (by omega)) rfl rfl rfl ?_
  rw [ov_put (by omega)]
  refine wp_aload_n (i := 0) (q := 112) dX8_init_111 rfl rfl rfl ?_
  refine wp_iconst (v := nI 5) (q := 113) dX8_init_112 (by decide) rfl ?_
  refine wp_newZ (q := 115) dX8_init_113 akZ (nI_pos (by omega)) (nI_clamp (by omega)) (by omega) (by omega) (by omega) rfl ?_
  dsimp only
  rw [ov_new (by omega) (by first | rfl | simp [ptR, acR, D0, dNp, dNa]), show 14 + 1 = 15 from rfl]
  refine wp_putF (q := 118) dX8_init_115 ffX8_51 rfl rfl (by exact ov_o (by omega)) rfl rfl rfl ?_
  rw [ov_put (by omega)]
  refine wp_aload_n (i := 0) (q := 119) dX8_init_118 rfl rfl rfl ?_
  refine wp_bipush (v := nI 25) (q := 121) dX8_init_119 (by decide) rfl ?_
  refine wp_newJ (q := 123) dX8_init_121 akJ (nI_pos (by omega)) (nI_clamp (by omega)) (by omega) (by omega) (by omega) rfl ?_
  dsimp only
  rw [ov_new (by omega) (by first | rfl | simp [ptR, acR, D0, dNp, dNa]), show 15 + 1 = 16 from rfl]
  refine wp_putF (q := 126) dX8_init_123 ffX8_54 rfl rfl (by exact ov_o (by omega)) rfl rfl rfl ?_
  rw [ov_put (by omega)]
  refine wp_aload_n (i := 0) (q := 127) dX8_init_126 rfl rfl rfl ?_
  refine wp_iconst (v := nI 4) (q := 128) dX8_init_127 (by decide) rfl ?_
  refine wp_newI (q := 130) dX8_init_128 akI (nI_pos (by omega)) (nI_clamp (by omega)) (by omega) (by omega) (by omega) rfl ?_
  dsimp only
  rw [ov_new (by omega) (by first | rfl | simp [ptR, acR, D0, dNp, dNa]), show 16 + 1 = 17 from rfl]
  refine wp_putF (q := 133) dX8_init_130 ffX8_57 rfl rfl (by exact ov_o (by omega)) rfl rfl rfl ?_
  rw [ov_put (by omega)]
  refine wp_aload_n (i := 0) (q := 134) dX8_init_133 rfl rfl rfl ?_
  refine wp_bipush (v := nI 10) (q := 136) dX8_init_134 (by decide) rfl ?_
  refine wp_newI (q := 138) dX8_init_136 akI (nI_pos (by omega)) (nI_clamp (by omega)) (by omega) (by omega) (by omega) rfl ?_
  dsimp only
  rw [ov_new (by omega) (by first | rfl | simp [ptR, acR, D0, dNp, dNa]), show 17 + 1 = 18 from rfl]
  refine wp_putF (q := 141) dX8_init_138 ffX8_60 rfl rfl (by exact ov_o (by omega)) rfl rfl rfl ?_
  rw [ov_put (by omega)]
  refine wp_aload_n (i := 0) (q := 142) dX8_init_141 rfl rfl rfl ?_
  refine wp_bipush (v := nI 10) (q := 144) dX8_init_142 (by decide) rfl ?_
  refine wp_newI (q := 146) dX8_init_144 akI (nI_pos (by omega)) (nI_clamp (by omega)) (by omega) (by omega) (by omega) rfl ?_
  dsimp only
  rw [ov_new (by omega) (by first | rfl | simp [ptR, acR, D0, dNp, dNa]), show 18 + 1 = 19 from rfl]
  refine wp_putF (q := 149) dX8_init_146 ffX8_63 rfl rfl (by exact ov_o (by omega)) rfl rfl rfl ?_
  rw [ov_put (by omega)]
  refine wp_aload_n (i := 0) (q := 150) dX8_init_149 rfl rfl rfl ?_
  refine wp_sipush (v := nI 200) (q := 153) dX8_init_150 (by decide) rfl ?_
  refine wp_newI (q := 155) dX8_init_153 akI (nI_pos (by omega)) (nI_clamp (by omega)) (by omega) (by omega) (by omega) rfl ?_
  dsimp only
  rw [ov_new (by omega) (by first | rfl | simp [ptR, acR, D0, dNp, dNa]), show 19 + 1 = 20 from rfl]
  refine wp_putF (q := 158) dX8_init_155 ffX8_66 rfl rfl (by exact ov_o (by omega)) rfl rfl rfl ?_
  rw [ov_put (by omega)]
  refine wp_aload_n (i := 0) (q := 159) dX8_init_158 rfl rfl rfl ?_
  refine wp_iconst (v := nI 5) (q := 160) dX8_init_159 (by decide) rfl ?_
  refine wp_newJ (q := 162) dX8_init_160 akJ (nI_pos (by omega)) (nI_clamp (by omega)) (by omega) (by omega) (by omega) rfl ?_
  dsimp only
  rw [ov_new (by omega) (by first | rfl | simp [ptR, acR, D0, dNp, dNa]), show 20 + 1 = 21 from rfl]
  refine wp_putF (q := 165) dX8_init_162 ffX8_69 rfl rfl (by exact ov_o (by omega)) rfl rfl rfl ?_
  rw [ov_put (by omega)]
  refine wp_aload_n (i := 0) (q := 166) dX8_init_165 rfl rfl rfl ?_
  refine wp_bipush (v := nI 25) (q := 168) dX8_init_166 (by decide) rfl ?_
  refine wp_newJ (q := 170) dX8_init_168 akJ (nI_pos (by omega)) (nI_clamp (by omega)) (by omega) (by omega) (by omega) rfl ?_
  dsimp only
  rw [ov_new (by omega) (by first | rfl | simp [ptR, acR, D0, dNp, dNa]), show 21 + 1 = 22 from rfl]
  refine wp_putF (q := 173) dX8_init_170 ffX8_72 rfl rfl (by exact ov_o (by omega)) rfl rfl rfl ?_
  rw [ov_put (by omega)]
  refine wp_aload_n (i := 0) (q := 174) dX8_init_173 rfl rfl rfl ?_
  refine wp_bipush (v := nI 16) (q := 176) dX8_init_174 (by decide) rfl ?_
  refine wp_newI (q := 178) dX8_init_176 akI (nI_pos (by omega)) (nI_clamp (by omega)) (by omega) (by omega) (by omega) rfl ?_
  dsimp only
  rw [ov_new (by omega) (by first | rfl | simp [ptR, acR, D0, dNp, dNa]), show 22 + 1 = 23 from rfl]
  refine wp_putF (q := 181) dX8_init_178 ffX8_75 rfl rfl (by exact ov_o (by omega)) rfl rfl rfl ?_
  rw [ov_put (by omega)]
  refine wp_aload_n (i := 0) (q := 182) dX8_init_181 rfl rfl rfl ?_
  refine wp_bipush (v := nI 64) (q := 184) dX8_init_182 (by decide) rfl ?_
  refine wp_newI (q := 186) dX8_init_184 akI (nI_pos (by omega)) (nI_clamp (by omega)) (by omega) (by omega) (by omega) rfl ?_
  dsimp only
  rw [ov_new (by omega) (by first | rfl | simp [ptR, acR, D0, dNp, dNa]), show 23 + 1 = 24 from rfl]
  refine wp_putF (q := 189) dX8_init_186 ffX8_78 rfl rfl (by exact ov_o (by omega)) rfl rfl rfl ?_
  rw [ov_put (by omega)]
  refine wp_aload_n (i := 0) (q := 190) dX8_init_189 rfl rfl rfl ?_
  refine wp_bipush (v := nI 16) (q := 192) dX8_init_190 (by decide) rfl ?_
  refine wp_newI (q := 194) dX8_init_192 akI (nI_pos (by omega)) (nI_clamp (by omega)) (by omega) (by omega) (by omega) rfl ?_
  dsimp only
  rw [ov_new (by omega) (by first | rfl | simp [ptR, acR, D0, dNp, dNa]), show 24 + 1 = 25 from rfl]
  refine wp_putF (q := 197) dX8_init_194 ffX8_81 rfl rfl (by exact ov_o (by omega)) rfl rfl rfl ?_
  rw [ov_put (by omega)]
  refine wp_aload_n (i := 0) (q := 198) dX8_init_197 rfl rfl rfl ?_
  refine wp_bipush (v := nI 6) (q := 200) dX8_init_198 (by decide) rfl ?_
  refine wp_newI (q := 202) dX8_init_200 akI (nI_pos (by omega)) (nI_clamp (by omega)) (by omega) (by omega) (by omega) rfl ?_
  dsimp only
  rw [ov_new (by omega) (by first | rfl | simp [ptR, acR, D0, dNp, dNa]), show 25 + 1 = 26 from rfl]
  refine wp_putF (q := 205) dX8_init_202 ffX8_84 rfl rfl (by exact ov_o (by omega)) rfl rfl rfl ?_
  rw [ov_put (by omega)]
  refine wp_aload_n (i := 0) (q := 206) dX8_init_205 rfl rfl rfl ?_
  refine wp_sipush (v := nI 600) (q := 209) dX8_init_206 (by decide) rfl ?_
  refine wp_newI (q := 211) dX8_init_209 akI (nI_pos (by omega)) (nI_clamp (by omega)) (by omega) (by omega) (by omega) rfl ?_
  dsimp only
  rw [ov_new (by omega) (by first | rfl | simp [ptR, acR, D0, dNp, dNa]), show 26 + 1 = 27 from rfl]
  refine wp_putF (q := 214) dX8_init_211 ffX8_87 rfl rfl (by exact ov_o (by omega)) rfl rfl rfl ?_
  rw [ov_put (by omega)]
  refine wp_aload_n (i := 0) (q := 215) dX8_init_214 rfl rfl rfl ?_
  refine wp_sipush (v := nI 600) (q := 218) dX8_init_215 (by decide) rfl ?_
  refine wp_newI (q := 220) dX8_init_218 akI (nI_pos (by omega)) (nI_clamp (by omega)) (by omega) (by omega) (by omega) rfl ?_
  dsimp only
  rw [ov_new (by omega) (by first | rfl | simp [ptR, acR, D0, dNp, dNa]), show 27 + 1 = 28 from rfl]
  refine wp_putF (q := 223) dX8_init_220 ffX8_90 rfl rfl (by exact ov_o (by omega)) rfl rfl rfl ?_
  rw [ov_put (by omega)]
  refine wp_aload_n (i := 0) (q := 224) dX8_init_223 rfl rfl rfl ?_
  refine wp_sipush (v := nI 600) (q := 227) dX8_init_224 (by decide) rfl ?_
  refine wp_newI (q := 229) dX8_init_227 akI (nI_pos (by omega)) (nI_clamp (by omega)) (by omega) (by omega) (by omega) rfl ?_
  dsimp only
  rw [ov_new (by omega) (by first | rfl | simp [ptR, acR, D0, dNp, dNa]), show 28 + 1 = 29 from rfl]
  refine wp_putF (q := 232) dX8_init_229 ffX8_93 rfl rfl (by exact ov_o (by omega)) rfl rfl rfl ?_
  rw [ov_put (by omega)]
  refine wp_aload_n (i := 0) (q := 233) dX8_init_232 rfl rfl rfl ?_
  refine wp_sipush (v := nI 600) (q := 236) dX8_init_233 (by decide) rfl ?_
  refine wp_newI (q := 238) dX8_init_236 akI (nI_pos (by omega)) (nI_clamp (by omega)) (by omega) (by omega) (by omega) rfl ?_
  dsimp only
  rw [ov_new (by omega) (by first | rfl | simp [ptR, acR, D0, dNp, dNa]), show 29 + 1 = 30 from rfl]
  refine wp_putF (q := 241) dX8_init_238 ffX8_96 rfl rfl (by exact ov_o (by omega)) rfl rfl rfl ?_
  rw [ov_put (by omega)]
  refine wp_aload_n (i := 0) (q := 242) dX8_init_241 rfl rfl rfl ?_
  refine wp_iconst (v := nI 4) (q := 243) dX8_init_242 (by decide) rfl ?_
  refine wp_newI (q := 245) dX8_init_243 akI (nI_pos (by omega)) (nI_clamp (by omega)) (by omega) (by omega) (by omega) rfl ?_
  dsimp only
  rw [ov_new (by omega) (by first | rfl | simp [ptR, acR, D0, dNp, dNa]), show 30 + 1 = 31 from rfl]
  refine wp_putF (q := 248) dX8_init_245 ffX8_99 rfl rfl (by exact ov_o (by omega)) rfl rfl rfl ?_
  rw [ov_put (by omega)]
  refine wp_aload_n (i := 0) (q := 249) dX8_init_248 rfl rfl rfl ?_
  refine wp_bipush (v := nI 8) (q := 251) dX8_init_249 (by decide) rfl ?_
  refine wp_newI (q := 253) dX8_init_251 akI (nI_pos (by omega)) (nI_clamp (by omega)) (by omega) (by omega) (by omega) rfl ?_
  dsimp only
  rw [ov_new (by omega) (by first | rfl | simp [ptR, acR, D0, dNp, dNa]), show 31 + 1 = 32 from rfl]
  refine wp_putF (q := 256) dX8_init_253 ffX8_102 rfl rfl (by exact ov_o (by omega)) rfl rfl rfl ?_
  rw [ov_put (by omega)]
  refine wp_aload_n (i := 0) (q := 257) dX8_init_256 rfl rfl rfl ?_
  refine wp_iconst (v := nI 0) (q := 258) dX8_init_257 (by decide) rfl ?_
  refine wp_put (q := 261) dX8_init_258 ffX8_105 (by exact ov_o (by omega)) rfl rfl rfl ?_
  rw [ov_put (by omega)]
  refine wp_aload_n (i := 0) (q := 262) dX8_init_261 rfl rfl rfl ?_
  refine wp_iconst (v := (-1)) (q := 263) dX8_init_262 (by decide) rfl ?_
  refine wp_put (q := 266) dX8_init_263 ffX8_109 (by exact ov_o (by omega)) rfl rfl rfl ?_
  rw [ov_put (by omega)]
  refine wp_aload_n (i := 0) (q := 267) dX8_init_266 rfl rfl rfl ?_
  refine wp_iconst (v := (-1)) (q := 268) dX8_init_267 (by decide) rfl ?_
  refine wp_put (q := 271) dX8_init_268 ffX8_112 (by exact ov_o (by omega)) rfl rfl rfl ?_
  rw [ov_put (by omega)]
  refine wp_vret dX8_init_271 rfl ?_
  refine ⟨rfl, ?_⟩
  rw [ov_fin]
  · rfl
  · show mcell b J0 0 (fun _ _ => 0) (fun _ _ => 0) 0 = _
    refine congrArg (fun F => Sum.inr (8, F)) (funext fun j => ?_)
    rcases j with _ | _ | _ | _ | _ | _ | _ | _ | _ | _ | _ | _ | _ | _ | _ | _ | _ | _ | _ | _ | _ | _ | _ | _ | _ | _ | _ | _ | _ | _ | _ | _ | _ | _ | _ | _ | _ | _ | _ | _ | _ | _ | _ | _ | _ | _ | _ | j <;> first | rfl | (unfold updV; simp)

end K4
