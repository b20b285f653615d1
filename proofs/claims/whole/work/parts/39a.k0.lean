/-! THE CLASS: constructors of Table, Facts, Act -/
def cU (e : aE) (c : Nat → aE) : Nat → aE := fun o => if o = 0 then e else c o
section KO
variable {q m n sz N kd ki : Nat} {e e' x : aE} {c c' : Nat → aE} {G : Nat → Option aE} {z : vp_A}
theorem ov_one : hnew (q, G) e = (q + 1, ov q 1 (cU e c) G) := by
  unfold hnew
  congr 1
  funext a
  unfold ov
  by_cases w : a = q
  · subst w
    rw [if_pos rfl, if_pos ⟨by omega, by omega⟩, Nat.sub_self]
    rfl
  · rw [if_neg w, if_neg (by omega)]
theorem ov_new (hm : 1 ≤ m) (hx : c m = x) : hnew (q + m, ov q m (cU e c) G) x = (q + (m + 1), ov q (m + 1) (cU e c) G) := by
  unfold hnew
  congr 1
  funext a
  unfold ov
  by_cases w : a = q + m
  · rw [if_pos w, if_pos ⟨by omega, by omega⟩, w, show q + m - q = m by omega]
    show some x = some (if m = 0 then e else c m)
    rw [if_neg (by omega), hx]
  · rw [if_neg w]
    show (if q ≤ a ∧ a < q + m then some (cU e c (a - q)) else G a) = _
    by_cases w2 : q ≤ a ∧ a < q + m
    · rw [if_pos w2, if_pos ⟨by omega, by omega⟩]
    · rw [if_neg w2, if_neg (by omega)]
theorem ov_mul (hm : 1 ≤ m) (hx : c m = rA kd N (rfs N (q + m + 1))) (hy : ∀ i, i < N → c (m + 1 + i) = .inl (ki, z)) : hmul (q + m, ov q m (cU e c) G) kd ki N z = (q + (m + 1 + N), ov q (m + 1 + N) (cU e c) G) := by
  unfold hmul
  refine Prod.ext (by show q + m + 1 + N = _; omega) ?_
  funext a
  show (if a = q + m then some (.inl (kd, N, .inr (.inr (.inr (.inr (fun i => if i < N then some (q + m + 1 + i) else none)))))) else if q + m < a ∧ a ≤ q + m + N then some (.inl (ki, z)) else ov q m (cU e c) G a) = ov q (m + 1 + N) (cU e c) G a
  unfold ov
  by_cases w : a = q + m
  · rw [if_pos w, if_pos ⟨by omega, by omega⟩, w, show q + m - q = m by omega]
    show _ = some (if m = 0 then e else c m)
    rw [if_neg (by omega), hx]
    rfl
  · rw [if_neg w]
    by_cases w1 : q + m < a ∧ a ≤ q + m + N
    · rw [if_pos w1, if_pos ⟨by omega, by omega⟩]
      show _ = some (if a - q = 0 then e else c (a - q))
      rw [if_neg (by omega), show a - q = m + 1 + (a - (q + m + 1)) by omega, hy _ (by omega)]
    · rw [if_neg w1]
      by_cases w2 : q ≤ a ∧ a < q + m
      · rw [if_pos w2, if_pos ⟨by omega, by omega⟩]
      · rw [if_neg w2, if_neg (by omega)]
theorem ov_o (hm : 1 ≤ m) : ov q m (cU e c) G q = some e := ov_at ⟨0, by omega, rfl, rfl⟩
theorem ov_put (hm : 1 ≤ m) : hset (sz, ov q m (cU e c) G) q e' = (sz, ov q m (cU e' c) G) := by
  refine ov_set ⟨0, by omega, rfl, rfl, fun o h1 h2 => ?_⟩
  show (if o = 0 then e' else c o) = (if o = 0 then e else c o)
  rw [if_neg h2, if_neg h2]
theorem ov_sub (hm : 1 ≤ m) (h : ∀ o, o < n → c (m + o) = c' o) : ov (q + m) n c' (ov q m (cU e c) G) = ov q (m + n) (cU e c) G := by
  funext a
  unfold ov
  by_cases w : q + m ≤ a ∧ a < q + m + n
  · rw [if_pos w, if_pos ⟨by omega, by omega⟩]
    show _ = some (if a - q = 0 then e else c (a - q))
    rw [if_neg (by omega), show a - q = m + (a - (q + m)) by omega, h _ (by omega)]
  · rw [if_neg w]
    by_cases w2 : q ≤ a ∧ a < q + m
    · rw [if_pos w2, if_pos ⟨by omega, by omega⟩]
    · rw [if_neg w2, if_neg (by omega)]
theorem ov_fin (h : c 0 = e) : ov q n (cU e c) G = ov q n c G := ov_cg (fun o _ => by
  show (if o = 0 then e else c o) = c o
  by_cases w : o = 0
  · rw [if_pos w, w, h]
  · rw [if_neg w])
end KO
abbrev T0 : TS := (0, fun _ => 0, fun _ _ => 0, fun _ => 0, fun _ => 0)
abbrev V0 : VS := (0, 0, 0, 0, false, 0, 0, 0, fun _ => 0, fun _ => 0)
abbrev F0s : FS := (0, T0, fun _ => V0)
section K0
variable {l : Launch} {d q n k : Nat} {G : Nat → Option aE}
theorem tX6_init (hd : 1 ≤ d) (hn : n ≤ 5) : mt l mX6_init d 9 45 [.ref q, .int (nI n)] (hnew (q, G) (.inr (6, fun k => defaultValue (tyX6 k)))) (rV (q + (n + 5), th q n T0 G)) := by
  have hnn : n * n ≤ 5 * 5 := Nat.mul_le_mul hn hn
  rw [ov_one (c := tC q n T0)]
  refine mt_in (lv := [_, _]) (by decide) (Nat.le_of_ble_eq_true rfl) rfl ?_
  refine wp_aload_n (i := 0) (q := 1) dX6_init_0 rfl rfl rfl ?_
  refine wp_obj (q := 4) dX6_init_1 obX6 (by omega) (Nat.le_of_ble_eq_true rfl) rfl ?_
  refine wp_aload_n (i := 0) (q := 5) dX6_init_4 rfl rfl rfl ?_
  refine wp_iload_n (i := 1) (q := 6) dX6_init_5 rfl rfl rfl ?_
  refine wp_putF (q := 9) dX6_init_6 ffX6_7 rfl rfl (by exact ov_o (by omega)) rfl rfl rfl ?_
  rw [ov_put (by omega)]
  refine wp_aload_n (i := 0) (q := 10) dX6_init_9 rfl rfl rfl ?_
  refine wp_iload_n (i := 1) (q := 11) dX6_init_10 rfl rfl rfl ?_
  refine wp_iload_n (i := 1) (q := 12) dX6_init_11 rfl rfl rfl ?_
  refine wp_mul (kd := 4) (ki := 1) (ty := .long) (N := n) (M := n) (z0 := (n, .inr (.inl (fun _ => 0)))) (q := 16) dX6_init_12 ckX6_13 aoJ akJ (by simp) (fun c => (arrV_new c _ _)) (nI_pos (by omega)) (nI_pos (by omega)) (nI_clamp (by omega)) (nI_clamp (by omega)) (by omega) (by omega) (by omega) (by omega) rfl ?_
  rw [ov_mul (by omega) (by unfold tC; rw [if_neg (by omega), if_pos rfl]) (fun i hi => by unfold tC; rw [if_neg (by omega), if_neg (by omega), if_pos (by omega)])]
  refine wp_putF (q := 19) dX6_init_16 ffX6_15 rfl rfl (by exact ov_o (by omega)) rfl rfl rfl ?_
  rw [ov_put (by omega), show 1 + 1 + n = n + 2 by omega]
  refine wp_aload_n (i := 0) (q := 20) dX6_init_19 rfl rfl rfl ?_
  refine wp_iload_n (i := 1) (q := 21) dX6_init_20 rfl rfl rfl ?_
  refine wp_newI (q := 23) dX6_init_21 akI (nI_pos (by omega)) (nI_clamp (by omega)) (by omega) (by omega) (by omega) rfl ?_
  rw [ov_new (by omega) (by unfold tC; rw [if_neg (by omega), if_neg (by omega), if_neg (by omega), if_pos rfl]; rfl)]
  refine wp_putF (q := 26) dX6_init_23 ffX6_18 rfl rfl (by exact ov_o (by omega)) rfl rfl rfl ?_
  rw [ov_put (by omega)]
  refine wp_aload_n (i := 0) (q := 27) dX6_init_26 rfl rfl rfl ?_
  refine wp_iload_n (i := 1) (q := 28) dX6_init_27 rfl rfl rfl ?_
  refine wp_newJ (q := 30) dX6_init_28 akJ (nI_pos (by omega)) (nI_clamp (by omega)) (by omega) (by omega) (by omega) rfl ?_
  rw [ov_new (by omega) (by unfold tC; rw [if_neg (by omega), if_neg (by omega), if_neg (by omega), if_neg (by omega), if_pos rfl])]
  refine wp_putF (q := 33) dX6_init_30 ffX6_22 rfl rfl (by exact ov_o (by omega)) rfl rfl rfl ?_
  rw [ov_put (by omega)]
  refine wp_aload_n (i := 0) (q := 34) dX6_init_33 rfl rfl rfl ?_
  refine wp_iload_n (i := 1) (q := 35) dX6_init_34 rfl rfl rfl ?_
  refine wp_newJ (q := 37) dX6_init_35 akJ (nI_pos (by omega)) (nI_clamp (by omega)) (by omega) (by omega) (by omega) rfl ?_
  rw [ov_new (by omega) (by unfold tC; rw [if_neg (by omega), if_neg (by omega), if_neg (by omega), if_neg (by omega), if_neg (by omega)])]
  refine wp_putF (q := 40) dX6_init_37 ffX6_26 rfl rfl (by exact ov_o (by omega)) rfl rfl rfl ?_
  rw [ov_put (by omega)]
  refine wp_aload_n (i := 0) (q := 41) dX6_init_40 rfl rfl rfl ?_
  refine wp_iconst (v := nI 0) (q := 42) dX6_init_41 (by decide) rfl ?_
  refine wp_put (q := 45) dX6_init_42 ffX6_29 (by exact ov_o (by omega)) rfl rfl rfl ?_
  rw [ov_put (by omega)]
  refine wp_vret dX6_init_45 rfl ?_
  refine ⟨rfl, ?_⟩
  rw [ov_fin]
  · rfl
  · show tC q n T0 0 = _
    unfold tC
    rw [if_pos rfl]
    congr 2
    funext j
    rcases j with _ | _ | _ | _ | _ | _ | j <;> first | rfl | (unfold updV FD6; simp)
theorem tX1_init (hd : 2 ≤ d) (hk : k ≤ 4) : mt l mX1_init d 28 119 [.ref q, .int (nI k)] (hnew (q, G) (.inr (1, fun k => defaultValue (tyX1 k)))) (rV (q + (3 * k + 17), fh q k F0s G)) := by
  have hnn : k * k ≤ 4 * 4 := Nat.mul_le_mul hk hk
  rw [ov_one (c := fC q k F0s)]
  refine mt_in (lv := [_, _]) (by decide) (Nat.le_of_ble_eq_true rfl) rfl ?_
  refine wp_aload_n (i := 0) (q := 1) dX1_init_0 rfl rfl rfl ?_
  refine wp_obj (q := 4) dX1_init_1 obX1 (by omega) (Nat.le_of_ble_eq_true rfl) rfl ?_
  refine wp_aload_n (i := 0) (q := 5) dX1_init_4 rfl rfl rfl ?_
  refine wp_iload_n (i := 1) (q := 6) dX1_init_5 rfl rfl rfl ?_
  refine wp_putF (q := 9) dX1_init_6 ffX1_9 rfl rfl (by exact ov_o (by omega)) rfl rfl rfl ?_
  rw [ov_put (by omega)]
  refine wp_aload_n (i := 0) (q := 10) dX1_init_9 rfl rfl rfl ?_
  refine wp_new (q := 13) dX1_init_10 clX6 ckX1_15 niX6 nzX6 (by omega) (by omega) rfl ?_
  refine wp_dup (q := 14) dX1_init_13 rfl rfl ?_
  refine wp_iload_n (i := 1) (q := 15) dX1_init_14 rfl rfl rfl ?_
  refine wp_iconst (v := nI 1) (q := 16) dX1_init_15 (by decide) rfl ?_
  refine wp_iadd (q := 17) dX1_init_16 rfl ?_
  rw [nI_add]
  refine wp_callI (μ' := mX6_init) (q := 20) (tX6_init (d := d - 1) (q := q + 1) (n := k + 1) (by omega) (by omega)) dX1_init_17 okX6_init rfl rfl lkX1_17 rfl rfl (Nat.le_of_ble_eq_true rfl) (by omega) (by omega) (by omega) rfl (fun rv hx hq => ?_)
  obtain ⟨rfl, rfl⟩ := hq
  show wp _ _ _ _ _ _ _ _ _ _ [.ref (q + 1), .ref q]
  rw [show th (q + 1) (k + 1) T0 = ov (q + 1) (k + 1 + 5) (tC (q + 1) (k + 1) T0) from rfl, ov_sub (m := 1) (by omega) (fun o ho => by unfold fC; rw [if_neg (by omega), if_pos (by omega), show 1 + o - 1 = o by omega]), show 1 + (k + 1 + 5) = k + 7 by omega, show q + 1 + (k + 1 + 5) = q + (k + 7) by omega]
  refine wp_putF (q := 23) dX1_init_20 ffX1_20 rfl rfl (by exact ov_o (by omega)) rfl rfl rfl ?_
  rw [ov_put (by omega)]
  refine wp_aload_n (i := 0) (q := 24) dX1_init_23 rfl rfl rfl ?_
  refine wp_iload_n (i := 1) (q := 25) dX1_init_24 rfl rfl rfl ?_
  refine wp_newI (q := 27) dX1_init_25 akI (nI_pos (by omega)) (nI_clamp (by omega)) (by omega) (by omega) (by omega) rfl ?_
  rw [ov_new (by omega) (by unfold fC; rw [if_neg (by omega), if_neg (by omega), if_pos rfl]; rfl)]
  refine wp_putF (q := 30) dX1_init_27 ffX1_24 rfl rfl (by exact ov_o (by omega)) rfl rfl rfl ?_
  rw [ov_put (by omega)]
  refine wp_aload_n (i := 0) (q := 31) dX1_init_30 rfl rfl rfl ?_
  refine wp_iload_n (i := 1) (q := 32) dX1_init_31 rfl rfl rfl ?_
  refine wp_newI (q := 34) dX1_init_32 akI (nI_pos (by omega)) (nI_clamp (by omega)) (by omega) (by omega) (by omega) rfl ?_
  rw [ov_new (by omega) (by unfold fC; rw [if_neg (by omega), if_neg (by omega), if_neg (by omega), if_pos rfl]; rfl)]
  refine wp_putF (q := 37) dX1_init_34 ffX1_28 rfl rfl (by exact ov_o (by omega)) rfl rfl rfl ?_
  rw [ov_put (by omega)]
  refine wp_aload_n (i := 0) (q := 38) dX1_init_37 rfl rfl rfl ?_
  refine wp_iload_n (i := 1) (q := 39) dX1_init_38 rfl rfl rfl ?_
  refine wp_newI (q := 41) dX1_init_39 akI (nI_pos (by omega)) (nI_clamp (by omega)) (by omega) (by omega) (by omega) rfl ?_
  rw [ov_new (by omega) (by unfold fC; rw [if_neg (by omega), if_neg (by omega), if_neg (by omega), if_neg (by omega), if_pos rfl]; rfl)]
  refine wp_putF (q := 44) dX1_init_41 ffX1_31 rfl rfl (by exact ov_o (by omega)) rfl rfl rfl ?_
  rw [ov_put (by omega)]
  refine wp_aload_n (i := 0) (q := 45) dX1_init_44 rfl rfl rfl ?_
  refine wp_iload_n (i := 1) (q := 46) dX1_init_45 rfl rfl rfl ?_
  refine wp_newI (q := 48) dX1_init_46 akI (nI_pos (by omega)) (nI_clamp (by omega)) (by omega) (by omega) (by omega) rfl ?_
  rw [ov_new (by omega) (by unfold fC; rw [if_neg (by omega), if_neg (by omega), if_neg (by omega), if_neg (by omega), if_neg (by omega), if_pos rfl]; rfl)]
  refine wp_putF (q := 51) dX1_init_48 ffX1_34 rfl rfl (by exact ov_o (by omega)) rfl rfl rfl ?_
  rw [ov_put (by omega)]
  refine wp_aload_n (i := 0) (q := 52) dX1_init_51 rfl rfl rfl ?_
  refine wp_iload_n (i := 1) (q := 53) dX1_init_52 rfl rfl rfl ?_
  refine wp_newZ (q := 55) dX1_init_53 akZ (nI_pos (by omega)) (nI_clamp (by omega)) (by omega) (by omega) (by omega) rfl ?_
  rw [ov_new (by omega) (by unfold fC; rw [if_neg (by omega), if_neg (by omega), if_neg (by omega), if_neg (by omega), if_neg (by omega), if_neg (by omega), if_pos rfl]; rfl)]
  refine wp_putF (q := 58) dX1_init_55 ffX1_37 rfl rfl (by exact ov_o (by omega)) rfl rfl rfl ?_
  rw [ov_put (by omega)]
  refine wp_aload_n (i := 0) (q := 59) dX1_init_58 rfl rfl rfl ?_
  refine wp_iload_n (i := 1) (q := 60) dX1_init_59 rfl rfl rfl ?_
  refine wp_newJ (q := 62) dX1_init_60 akJ (nI_pos (by omega)) (nI_clamp (by omega)) (by omega) (by omega) (by omega) rfl ?_
  rw [ov_new (by omega) (by unfold fC; rw [if_neg (by omega), if_neg (by omega), if_neg (by omega), if_neg (by omega), if_neg (by omega), if_neg (by omega), if_neg (by omega), if_pos rfl]; rfl)]
  refine wp_putF (q := 65) dX1_init_62 ffX1_41 rfl rfl (by exact ov_o (by omega)) rfl rfl rfl ?_
  rw [ov_put (by omega)]
  refine wp_aload_n (i := 0) (q := 66) dX1_init_65 rfl rfl rfl ?_
  refine wp_iload_n (i := 1) (q := 67) dX1_init_66 rfl rfl rfl ?_
  refine wp_newI (q := 69) dX1_init_67 akI (nI_pos (by omega)) (nI_clamp (by omega)) (by omega) (by omega) (by omega) rfl ?_
  rw [ov_new (by omega) (by unfold fC; rw [if_neg (by omega), if_neg (by omega), if_neg (by omega), if_neg (by omega), if_neg (by omega), if_neg (by omega), if_neg (by omega), if_neg (by omega), if_pos rfl]; rfl)]
  refine wp_putF (q := 72) dX1_init_69 ffX1_45 rfl rfl (by exact ov_o (by omega)) rfl rfl rfl ?_
  rw [ov_put (by omega)]
  refine wp_aload_n (i := 0) (q := 73) dX1_init_72 rfl rfl rfl ?_
  refine wp_iload_n (i := 1) (q := 74) dX1_init_73 rfl rfl rfl ?_
  refine wp_newI (q := 76) dX1_init_74 akI (nI_pos (by omega)) (nI_clamp (by omega)) (by omega) (by omega) (by omega) rfl ?_
  rw [ov_new (by omega) (by unfold fC; rw [if_neg (by omega), if_neg (by omega), if_neg (by omega), if_neg (by omega), if_neg (by omega), if_neg (by omega), if_neg (by omega), if_neg (by omega), if_neg (by omega), if_pos rfl]; rfl)]
  refine wp_putF (q := 79) dX1_init_76 ffX1_48 rfl rfl (by exact ov_o (by omega)) rfl rfl rfl ?_
  rw [ov_put (by omega)]
  refine wp_aload_n (i := 0) (q := 80) dX1_init_79 rfl rfl rfl ?_
  refine wp_iload_n (i := 1) (q := 81) dX1_init_80 rfl rfl rfl ?_
  refine wp_iconst (v := nI 3) (q := 82) dX1_init_81 (by decide) rfl ?_
  refine wp_mul (kd := 3) (ki := 0) (ty := .int) (N := k) (M := 3) (z0 := (3, .inl (fun _ => 0))) (q := 86) dX1_init_82 ckX1_51 aoI akI (by simp) (fun c => (arrV_new c _ _)) (nI_pos (by omega)) (nI_pos (by omega)) (nI_clamp (by omega)) (nI_clamp (by omega)) (by omega) (by omega) (by omega) (by omega) rfl ?_
  rw [ov_mul (by omega) (by unfold fC; rw [if_neg (by omega), if_neg (by omega), if_neg (by omega), if_neg (by omega), if_neg (by omega), if_neg (by omega), if_neg (by omega), if_neg (by omega), if_neg (by omega), if_neg (by omega), if_pos rfl]; rfl) (fun i hi => by unfold fC; rw [if_neg (by omega), if_neg (by omega), if_neg (by omega), if_neg (by omega), if_neg (by omega), if_neg (by omega), if_neg (by omega), if_neg (by omega), if_neg (by omega), if_neg (by omega), if_neg (by omega), if_pos (by omega)]; rfl)]
  refine wp_putF (q := 89) dX1_init_86 ffX1_53 rfl rfl (by exact ov_o (by omega)) rfl rfl rfl ?_
  rw [ov_put (by omega), show k + 7 + 1 + 1 + 1 + 1 + 1 + 1 + 1 + 1 + 1 + k = 2 * k + 16 by omega]
  refine wp_aload_n (i := 0) (q := 90) dX1_init_89 rfl rfl rfl ?_
  refine wp_iload_n (i := 1) (q := 91) dX1_init_90 rfl rfl rfl ?_
  refine wp_iload_n (i := 1) (q := 92) dX1_init_91 rfl rfl rfl ?_
  refine wp_mul (kd := 3) (ki := 0) (ty := .int) (N := k) (M := k) (z0 := (k, .inl (fun _ => 0))) (q := 96) dX1_init_92 ckX1_51 aoI akI (by simp) (fun c => (arrV_new c _ _)) (nI_pos (by omega)) (nI_pos (by omega)) (nI_clamp (by omega)) (nI_clamp (by omega)) (by omega) (by omega) (by omega) (by omega) rfl ?_
  rw [ov_mul (by omega) (by unfold fC; rw [if_neg (by omega), if_neg (by omega), if_neg (by omega), if_neg (by omega), if_neg (by omega), if_neg (by omega), if_neg (by omega), if_neg (by omega), if_neg (by omega), if_neg (by omega), if_neg (by omega), if_neg (by omega), if_pos rfl]; rfl) (fun i hi => by unfold fC; rw [if_neg (by omega), if_neg (by omega), if_neg (by omega), if_neg (by omega), if_neg (by omega), if_neg (by omega), if_neg (by omega), if_neg (by omega), if_neg (by omega), if_neg (by omega), if_neg (by omega), if_neg (by omega), if_neg (by omega)]; rfl)]
  refine wp_putF (q := 99) dX1_init_96 ffX1_56 rfl rfl (by exact ov_o (by omega)) rfl rfl rfl ?_
  rw [ov_put (by omega), show 2 * k + 16 + 1 + k = 3 * k + 17 by omega]
  refine wp_aload_n (i := 0) (q := 100) dX1_init_99 rfl rfl rfl ?_
  refine wp_iconst (v := nI 0) (q := 101) dX1_init_100 (by decide) rfl ?_
  refine wp_put (q := 104) dX1_init_101 ffX1_59 (by exact ov_o (by omega)) rfl rfl rfl ?_
  rw [ov_put (by omega)]
  refine wp_vret dX1_init_104 rfl ?_
  refine ⟨rfl, ?_⟩
  rw [ov_fin]
  · rfl
  · show fC q k F0s 0 = _
    unfold fC
    rw [if_pos rfl]
    congr 2
    funext j
    rcases j with _ | _ | _ | _ | _ | _ | _ | _ | _ | _ | _ | _ | _ | j <;> first | rfl | (unfold updV FD1; simp)
theorem tX0_init {f t m : Nat} (hd : 1 ≤ d) (hn : n ≤ 4) : mt l mX0_init d 5 24 [.ref q, .int (nI f), .int (nI t), .int (nI m), .int (nI n)] (hnew (q, G) (.inr (0, fun k => defaultValue (tyX0 k)))) (rV (q + (n + 2), ah q f t m n (fun _ _ => 0) G)) := by
  rw [ov_one (c := aC q f t m n (fun _ _ => 0))]
  refine mt_in (lv := [_, _, _, _, _]) (by decide) (Nat.le_of_ble_eq_true rfl) rfl ?_
  refine wp_aload_n (i := 0) (q := 1) dX0_init_0 rfl rfl rfl ?_
  refine wp_obj (q := 4) dX0_init_1 obX0 (by omega) (Nat.le_of_ble_eq_true rfl) rfl ?_
  refine wp_aload_n (i := 0) (q := 5) dX0_init_4 rfl rfl rfl ?_
  refine wp_iload_n (i := 1) (q := 6) dX0_init_5 rfl rfl rfl ?_
  refine wp_putF (q := 9) dX0_init_6 ffX0_9 rfl rfl (by exact ov_o (by omega)) rfl rfl rfl ?_
  rw [ov_put (by omega)]
  refine wp_aload_n (i := 0) (q := 10) dX0_init_9 rfl rfl rfl ?_
  refine wp_iload_n (i := 2) (q := 11) dX0_init_10 rfl rfl rfl ?_
  refine wp_putF (q := 14) dX0_init_11 ffX0_15 rfl rfl (by exact ov_o (by omega)) rfl rfl rfl ?_
  rw [ov_put (by omega)]
  refine wp_aload_n (i := 0) (q := 15) dX0_init_14 rfl rfl rfl ?_
  refine wp_iload_n (i := 3) (q := 16) dX0_init_15 rfl rfl rfl ?_
  refine wp_putF (q := 19) dX0_init_16 ffX0_18 rfl rfl (by exact ov_o (by omega)) rfl rfl rfl ?_
  rw [ov_put (by omega)]
  refine wp_aload_n (i := 0) (q := 20) dX0_init_19 rfl rfl rfl ?_
  refine wp_iload (q := 22) dX0_init_20 rfl rfl ?_
  refine wp_putF (q := 25) dX0_init_22 ffX0_21 rfl rfl (by exact ov_o (by omega)) rfl rfl rfl ?_
  rw [ov_put (by omega)]
  refine wp_aload_n (i := 0) (q := 26) dX0_init_25 rfl rfl rfl ?_
  refine wp_iload (q := 28) dX0_init_26 rfl rfl ?_
  refine wp_iconst (v := nI 5) (q := 29) dX0_init_28 (by decide) rfl ?_
  refine wp_mul (kd := 3) (ki := 0) (ty := .int) (N := n) (M := 5) (z0 := (5, .inl (fun _ => 0))) (q := 33) dX0_init_29 ckX0_24 aoI akI (by simp) (fun c => (arrV_new c _ _)) (nI_pos (by omega)) (nI_pos (by omega)) (nI_clamp (by omega)) (nI_clamp (by omega)) (by omega) (by omega) (by omega) (by omega) rfl ?_
  rw [ov_mul (by omega) (by unfold aC; rw [if_neg (by omega), if_pos rfl]) (fun i hi => by unfold aC; rw [if_neg (by omega), if_neg (by omega)])]
  refine wp_putF (q := 36) dX0_init_33 ffX0_26 rfl rfl (by exact ov_o (by omega)) rfl rfl rfl ?_
  rw [ov_put (by omega), show 1 + 1 + n = n + 2 by omega]
  refine wp_vret dX0_init_36 rfl ?_
  refine ⟨rfl, ?_⟩
  rw [ov_fin]
  · rfl
  · show aC q f t m n (fun _ _ => 0) 0 = _
    unfold aC
    rw [if_pos rfl]
    congr 2
    funext j
    rcases j with _ | _ | _ | _ | _ | j <;> first | rfl | (unfold updV FD0; simp)
end K0
