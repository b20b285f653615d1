/-! THE CLASS: constructor of Point; addPoint, addAct, point, act -/

abbrev P0s : PS := (0, -9, 0, fun _ _ => 0, fun _ => F0s)
def cS (q k s : Nat) (o : Nat) : aE := if o = 42 then rA 6 3 (fun t => if t < s then some (fA q k t) else none) else pC q k P0s o
section K1
variable {l : Launch} {d q n k : Nat} {G : Nat → Option aE}
theorem wp_aastN {l : Launch} {μ : Mu} {sc : rp_S} {d kc ks : Nat} {Q : Option Value → aH → Prop} {h : aH} {pc q : Nat} {lv : List (Option Value)} {st : List Value} {ci : Nat} {F : Nat → Value} {a n kd v j : Nat} {f : Nat → Option Nat} (hd : decode μ.2.1 pc = .ok (.aastore, 1)) (ha : h.2 a = some (rA kd n f)) (hkc : (kd, ci) ∈ [(5, 3), (6, 1), (7, 0)]) (hv : h.2 v = some (.inr (ci, F))) (hj : j < n ∧ n < 2 ^ 31) (hq : pc + 1 = q) (kk : wp l μ sc d kc ks Q (hset h a (rA kd n (va_up f j (some v)))) q lv st) : wp l μ sc d kc ks Q h pc lv (.ref v :: .int (nI j) :: .ref a :: st) :=
  wp_aast hd ha hkc hv (vp_in_nI hj.1 hj.2) hq (by rw [nI_clamp (by omega)]; exact kk)
theorem cS_step {s m : Nat} {e : aE} (hs : s < 3) (hm : 43 ≤ m) (sz : Nat) : hset (sz, ov q m (cU e (cS q k s)) G) (q + 42) (rA 6 3 (va_up (fun t => if t < s then some (fA q k t) else none) s (some (fA q k s)))) = (sz, ov q m (cU e (cS q k (s + 1))) G) := by
  refine ov_set ⟨42, by omega, rfl, ?_, fun o h1 h2 => ?_⟩
  · unfold cU cS
    rw [if_neg (by omega), if_pos rfl]
    congr 6
    funext t
    unfold va_up
    dsimp only
    by_cases w : t = s
    · rw [if_pos w, if_pos (by omega), w]
    · rw [if_neg w]
      by_cases w2 : t < s
      · rw [if_pos w2, if_pos (by omega)]
      · rw [if_neg w2, if_neg (by omega)]
  · unfold cU cS
    by_cases w : o = 0
    · rw [if_pos w, if_pos w]
    · rw [if_neg w, if_neg w, if_neg h2, if_neg h2]
theorem tX3_init (hd : 3 ≤ d) (hk : k ≤ 4) : mt l mX3_init d 129 599 [.ref q, .int (nI k)] (hnew (q, G) (.inr (3, fun k => defaultValue (tyX3 k)))) (rV (q + (9 * k + 94), ph q k P0s G)) := by
  have hnn : 40 * k ≤ 40 * 4 := Nat.mul_le_mul_left 40 hk
  rw [ov_one (c := cS q k 0)]
  refine mt_in (lv := [_, _, _]) (by decide) (Nat.le_of_ble_eq_true rfl) rfl ?_
  refine wp_aload_n (i := 0) (q := 1) dX3_init_0 rfl rfl rfl ?_
  refine wp_obj (q := 4) dX3_init_1 obX3 (by omega) (Nat.le_of_ble_eq_true rfl) rfl ?_
  refine wp_aload_n (i := 0) (q := 5) dX3_init_4 rfl rfl rfl ?_
  refine wp_iload_n (i := 1) (q := 6) dX3_init_5 rfl rfl rfl ?_
  refine wp_putF (q := 9) dX3_init_6 ffX3_9 rfl rfl (by exact ov_o (by omega)) rfl rfl rfl ?_
  rw [ov_put (by omega)]
  refine wp_aload_n (i := 0) (q := 10) dX3_init_9 rfl rfl rfl ?_
  refine wp_bipush (v := nI 40) (q := 12) dX3_init_10 (by decide) rfl ?_
  refine wp_iload_n (i := 1) (q := 13) dX3_init_12 rfl rfl rfl ?_
  refine wp_mul (kd := 3) (ki := 0) (ty := .int) (N := 40) (M := k) (z0 := (k, .inl (fun _ => 0))) (q := 17) dX3_init_13 ckX3_15 aoI akI (by simp) (fun c => (arrV_new c _ _)) (nI_pos (by omega)) (nI_pos (by omega)) (nI_clamp (by omega)) (nI_clamp (by omega)) (by omega) (by omega) (by omega) (by omega) rfl ?_
  rw [ov_mul (by omega) (by unfold cS pC; rw [if_neg (by omega), if_neg (by omega), if_pos rfl]) (fun i hi => by unfold cS pC; rw [if_neg (by omega), if_neg (by omega), if_neg (by omega), if_pos (by omega)])]
  refine wp_putF (q := 20) dX3_init_17 ffX3_17 rfl rfl (by exact ov_o (by omega)) rfl rfl rfl ?_
  rw [ov_put (by omega)]
  refine wp_aload_n (i := 0) (q := 21) dX3_init_20 rfl rfl rfl ?_
  refine wp_iconst (v := nI 3) (q := 22) dX3_init_21 (by decide) rfl ?_
  refine wp_newq (kd := 6) (C := "RunLaws$Facts") (q := 25) dX3_init_22 ckX3_20 aoF (by simp) (nI_pos (by omega)) (nI_clamp (by omega)) (by omega) (by omega) (by omega) rfl ?_
  rw [ov_new (by omega) (by unfold cS; rw [if_pos rfl]; rfl)]
  refine wp_putF (q := 28) dX3_init_25 ffX3_22 rfl rfl (by exact ov_o (by omega)) rfl rfl rfl ?_
  rw [ov_put (by omega)]
  rw [show ∀ r1 r2 : Nat, updV (updV (updV (fun k => defaultValue (tyX3 k)) 0 (.int (nI k))) 1 (.ref r1)) 2 (.ref r2) = FD3 (nI k) r1 r2 0 0 0 from fun r1 r2 => by
    funext j
    rcases j with _ | _ | _ | _ | _ | _ | j <;> first | rfl | (unfold updV FD3; simp)]
  dsimp only
  rw [show q + (1 + 1 + 40) = q + 42 from rfl, show q + (1 + 1 + 40 + 1) = q + 43 from rfl, show 1 + 1 + 40 + 1 = 43 from rfl]
  refine wp_iconst (v := nI 0) (q := 29) dX3_init_28 (by decide) rfl ?_
  refine wp_istore_n (i := 2) (lv' := [_, some _, _]) (q := 30) dX3_init_29 rfl (by decide) rfl rfl ?_
  refine wp_iload_n (i := 2) (q := 31) dX3_init_30 rfl rfl rfl ?_
  refine wp_iconst (v := nI 3) (q := 32) dX3_init_31 (by decide) rfl ?_
  refine wp_icmp_ge (t := 55) (q := 35) dX3_init_32 (by decide) rfl (fun hc0 => ?_) (fun hc0 => ?_)
  · exact absurd hc0 (by decide)
  refine wp_aload_n (i := 0) (q := 36) dX3_init_35 rfl rfl rfl ?_
  refine wg3_2 (q := 39) dX3_init_36 ffX3_22 (by exact ov_o (by omega)) rfl ?_ -- sides
  refine wp_iload_n (i := 2) (q := 40) dX3_init_39 rfl rfl rfl ?_
  refine wp_new (q := 43) dX3_init_40 clX1 ckX3_20 niX1 nzX1 (by omega) (by omega) rfl ?_
  refine wp_dup (q := 44) dX3_init_43 rfl rfl ?_
  refine wp_iload_n (i := 1) (q := 45) dX3_init_44 rfl rfl rfl ?_
  refine wp_callI (μ' := mX1_init) (q := 48) (tX1_init (d := d - 1) (q := q + (43)) (k := k) (by omega) hk) dX3_init_45 okX1_init rfl rfl lkX3_26 rfl rfl (Nat.le_of_ble_eq_true rfl) (by omega) (by omega) (by omega) rfl (fun rv hx hq => ?_)
  obtain ⟨rfl, rfl⟩ := hq
  show wp _ _ _ _ _ _ _ _ _ _ [.ref (q + (43)), .int (nI 0), .ref (q + 42)]
  rw [show fh (q + (43)) k F0s = ov (q + (43)) (3 * k + 17) (fC (q + (43)) k F0s) from rfl, ov_sub (m := 43) (by omega) (fun o ho => by unfold cS pC; dsimp only; rw [if_neg (by omega), if_neg (by omega), if_neg (by omega), if_neg (by omega), if_neg (by omega), if_pos (by omega), show 43 + o - (43) = o by omega]), show 43 + (3 * k + 17) = 3 * k + 60 by omega, show q + (43) + (3 * k + 17) = q + (3 * k + 60) by omega]
  refine wp_aastN (q := 49) (ci := 1) dX3_init_48 (ov_at ⟨42, by omega, rfl, by show cU _ (cS q k 0) 42 = rA 6 3 (fun t => if t < 0 then some (fA q k t) else none); rfl⟩) (by simp) (ov_at ⟨43, by omega, rfl, by unfold cU cS pC; dsimp only; rw [if_neg (by omega), if_neg (by omega), if_neg (by omega), if_neg (by omega), if_neg (by omega), if_neg (by omega), if_pos (by omega), Nat.sub_self]; rfl⟩) (by omega) rfl ?_
  rw [show q + (43) = fA q k 0 from rfl, cS_step (by omega) (by omega)]
  refine wp_iinc (v := _ + nI 1) (lv' := [_, some _, _]) (q := 52) dX3_init_49 rfl rfl (by decide) rfl rfl ?_
  refine wp_goto (q := 30) dX3_init_52 (by decide) ?_
  rw [nI_add]
  refine wp_iload_n (i := 2) (q := 31) dX3_init_30 rfl rfl rfl ?_
  refine wp_iconst (v := nI 3) (q := 32) dX3_init_31 (by decide) rfl ?_
  refine wp_icmp_ge (t := 55) (q := 35) dX3_init_32 (by decide) rfl (fun hc1 => ?_) (fun hc1 => ?_)
  · exact absurd hc1 (by decide)
  refine wp_aload_n (i := 0) (q := 36) dX3_init_35 rfl rfl rfl ?_
  refine wg3_2 (q := 39) dX3_init_36 ffX3_22 (by exact ov_o (by omega)) rfl ?_ -- sides
  refine wp_iload_n (i := 2) (q := 40) dX3_init_39 rfl rfl rfl ?_
  refine wp_new (q := 43) dX3_init_40 clX1 ckX3_20 niX1 nzX1 (by omega) (by omega) rfl ?_
  refine wp_dup (q := 44) dX3_init_43 rfl rfl ?_
  refine wp_iload_n (i := 1) (q := 45) dX3_init_44 rfl rfl rfl ?_
  refine wp_callI (μ' := mX1_init) (q := 48) (tX1_init (d := d - 1) (q := q + (3 * k + 60)) (k := k) (by omega) hk) dX3_init_45 okX1_init rfl rfl lkX3_26 rfl rfl (Nat.le_of_ble_eq_true rfl) (by omega) (by omega) (by omega) rfl (fun rv hx hq => ?_)
  obtain ⟨rfl, rfl⟩ := hq
  show wp _ _ _ _ _ _ _ _ _ _ [.ref (q + (3 * k + 60)), .int (nI 1), .ref (q + 42)]
  rw [show fh (q + (3 * k + 60)) k F0s = ov (q + (3 * k + 60)) (3 * k + 17) (fC (q + (3 * k + 60)) k F0s) from rfl, ov_sub (m := 3 * k + 60) (by omega) (fun o ho => by unfold cS pC; dsimp only; rw [if_neg (by omega), if_neg (by omega), if_neg (by omega), if_neg (by omega), if_neg (by omega), if_neg (by omega), if_pos (by omega), show 3 * k + 60 + o - (3 * k + 60) = o by omega]), show 3 * k + 60 + (3 * k + 17) = 6 * k + 77 by omega, show q + (3 * k + 60) + (3 * k + 17) = q + (6 * k + 77) by omega]
  refine wp_aastN (q := 49) (ci := 1) dX3_init_48 (ov_at ⟨42, by omega, rfl, by show cU _ (cS q k 1) 42 = rA 6 3 (fun t => if t < 1 then some (fA q k t) else none); rfl⟩) (by simp) (ov_at ⟨3 * k + 60, by omega, rfl, by unfold cU cS pC; dsimp only; rw [if_neg (by omega), if_neg (by omega), if_neg (by omega), if_neg (by omega), if_neg (by omega), if_neg (by omega), if_neg (by omega), if_pos (by omega), Nat.sub_self]; rfl⟩) (by omega) rfl ?_
  rw [show q + (3 * k + 60) = fA q k 1 from rfl, cS_step (by omega) (by omega)]
  refine wp_iinc (v := _ + nI 1) (lv' := [_, some _, _]) (q := 52) dX3_init_49 rfl rfl (by decide) rfl rfl ?_
  refine wp_goto (q := 30) dX3_init_52 (by decide) ?_
  rw [nI_add]
  refine wp_iload_n (i := 2) (q := 31) dX3_init_30 rfl rfl rfl ?_
  refine wp_iconst (v := nI 3) (q := 32) dX3_init_31 (by decide) rfl ?_
  refine wp_icmp_ge (t := 55) (q := 35) dX3_init_32 (by decide) rfl (fun hc2 => ?_) (fun hc2 => ?_)
  · exact absurd hc2 (by decide)
  refine wp_aload_n (i := 0) (q := 36) dX3_init_35 rfl rfl rfl ?_
  refine wg3_2 (q := 39) dX3_init_36 ffX3_22 (by exact ov_o (by omega)) rfl ?_ -- sides
  refine wp_iload_n (i := 2) (q := 40) dX3_init_39 rfl rfl rfl ?_
  refine wp_new (q := 43) dX3_init_40 clX1 ckX3_20 niX1 nzX1 (by omega) (by omega) rfl ?_
  refine wp_dup (q := 44) dX3_init_43 rfl rfl ?_
  refine wp_iload_n (i := 1) (q := 45) dX3_init_44 rfl rfl rfl ?_
  refine wp_callI (μ' := mX1_init) (q := 48) (tX1_init (d := d - 1) (q := q + (6 * k + 77)) (k := k) (by omega) hk) dX3_init_45 okX1_init rfl rfl lkX3_26 rfl rfl (Nat.le_of_ble_eq_true rfl) (by omega) (by omega) (by omega) rfl (fun rv hx hq => ?_)
  obtain ⟨rfl, rfl⟩ := hq
  show wp _ _ _ _ _ _ _ _ _ _ [.ref (q + (6 * k + 77)), .int (nI 2), .ref (q + 42)]
  rw [show fh (q + (6 * k + 77)) k F0s = ov (q + (6 * k + 77)) (3 * k + 17) (fC (q + (6 * k + 77)) k F0s) from rfl, ov_sub (m := 6 * k + 77) (by omega) (fun o ho => by unfold cS pC; dsimp only; rw [if_neg (by omega), if_neg (by omega), if_neg (by omega), if_neg (by omega), if_neg (by omega), if_neg (by omega), if_neg (by omega), show 6 * k + 77 + o - (6 * k + 77) = o by omega]), show 6 * k + 77 + (3 * k + 17) = 9 * k + 94 by omega, show q + (6 * k + 77) + (3 * k + 17) = q + (9 * k + 94) by omega]
  refine wp_aastN (q := 49) (ci := 1) dX3_init_48 (ov_at ⟨42, by omega, rfl, by show cU _ (cS q k 2) 42 = rA 6 3 (fun t => if t < 2 then some (fA q k t) else none); rfl⟩) (by simp) (ov_at ⟨6 * k + 77, by omega, rfl, by unfold cU cS pC; dsimp only; rw [if_neg (by omega), if_neg (by omega), if_neg (by omega), if_neg (by omega), if_neg (by omega), if_neg (by omega), if_neg (by omega), if_neg (by omega), Nat.sub_self]; rfl⟩) (by omega) rfl ?_
  rw [show q + (6 * k + 77) = fA q k 2 from rfl, cS_step (by omega) (by omega)]
  refine wp_iinc (v := _ + nI 1) (lv' := [_, some _, _]) (q := 52) dX3_init_49 rfl rfl (by decide) rfl rfl ?_
  refine wp_goto (q := 30) dX3_init_52 (by decide) ?_
  rw [nI_add]
  refine wp_iload_n (i := 2) (q := 31) dX3_init_30 rfl rfl rfl ?_
  refine wp_iconst (v := nI 3) (q := 32) dX3_init_31 (by decide) rfl ?_
  refine wp_icmp_ge (t := 55) (q := 35) dX3_init_32 (by decide) rfl (fun hc3 => ?_) (fun hc3 => ?_)
  case _ =>
    refine wp_aload_n (i := 0) (q := 56) dX3_init_55 rfl rfl rfl ?_
    refine wp_iconst (v := nI 0) (q := 57) dX3_init_56 (by decide) rfl ?_
    refine wp_put (q := 60) dX3_init_57 ffX3_29 (by exact ov_o (by omega)) rfl rfl rfl ?_
    rw [ov_put (by omega)]
    refine wp_aload_n (i := 0) (q := 61) dX3_init_60 rfl rfl rfl ?_
    refine wp_bipush (v := (-9)) (q := 63) dX3_init_61 (by decide) rfl ?_
    refine wp_put (q := 66) dX3_init_63 ffX3_32 (by exact ov_o (by omega)) rfl rfl rfl ?_
    rw [ov_put (by omega)]
    refine wp_aload_n (i := 0) (q := 67) dX3_init_66 rfl rfl rfl ?_
    refine wp_iconst (v := nI 0) (q := 68) dX3_init_67 (by decide) rfl ?_
    refine wp_put (q := 71) dX3_init_68 ffX3_35 (by exact ov_o (by omega)) rfl rfl rfl ?_
    rw [ov_put (by omega)]
    refine wp_vret dX3_init_71 rfl ?_
    refine ⟨rfl, ?_⟩
    rw [ov_fin]
    · refine Prod.ext rfl (ov_cg (fun o ho => ?_))
      unfold cS
      by_cases w : o = 42
      · rw [if_pos w, w]
        unfold pC
        rw [if_neg (by omega), if_neg (by omega), if_neg (by omega), if_pos rfl]
      · rw [if_neg w]
    · show pC q k P0s 0 = _
      unfold pC
      rw [if_pos rfl]
      congr 2
      funext j
      rcases j with _ | _ | _ | _ | _ | _ | j <;> first | rfl | (unfold updV FD3; simp)
  · exact absurd (by decide) hc3
end K1
