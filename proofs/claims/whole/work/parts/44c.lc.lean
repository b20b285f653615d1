/-! THE LAW: from its entry; the world at the start -/
section LC
variable {l : Launch} {d s0 L sz lo : Nat} {xs : Nat → Int32} {g : Nat → Option aE}
theorem DW_0 (h : lo ≤ sz) : DW lo sz g D0 := ⟨Nat.zero_le _, Nat.zero_le _, h, fun p hp => absurd hp (Nat.not_lt_zero _), fun p hp => absurd hp (Nat.not_lt_zero _), fun p _ hp => absurd hp (Nat.not_lt_zero _), fun p _ hp => absurd hp (Nat.not_lt_zero _), fun p _ hp => absurd hp (Nat.not_lt_zero _)⟩
theorem law_all (hd : 13 ≤ d) (hL : L ≤ 4096) : wp l mL_law [(s0, L, xs)] d 66625 317964 Qw (sz, g) 0 [some (.ref s0), none, none, none] [] := by
  have hsc : (s0, L, xs) ∈ [(s0, L, xs)] := List.mem_singleton.mpr rfl
  refine wp_new (q := 3) dL_law_0 clX7 ckL_7 niX7 nzX7 (by omega) (by omega) rfl ?_
  refine wp_dup (q := 4) dL_law_3 rfl rfl ?_
  refine wp_callI (μ' := mX7_init) (q := 7) (tX7_init (d := d - 1) (b := sz) (G := g) (by omega)) dL_law_4 okX7_init rfl rfl lkL_9 rfl rfl (Nat.le_of_ble_eq_true rfl) (by omega) (by omega) (by omega) rfl (fun rv hx hq => ?_)
  obtain ⟨rfl, rfl⟩ := hq
  refine wp_astore_n (i := 1) (lv' := [some _, _, _, _]) (q := 8) dL_law_7 rfl (by decide) rfl rfl ?_
  refine wp_new (q := 11) dL_law_8 clX8 ckL_10 niX8 nzX8 (by omega) (by omega) rfl ?_
  refine wp_dup (q := 12) dL_law_11 rfl rfl ?_
  refine wp_callI (μ' := mX8_init) (q := 15) (tX8_init (d := d - 1) (b := sz + 33) (G := ch sz I0 (fun _ _ => 0) (fun _ => 0) D0 g) (by omega)) dL_law_12 okX8_init rfl rfl lkL_12 rfl rfl (Nat.le_of_ble_eq_true rfl) (by omega) (by omega) (by omega) rfl (fun rv hx hq => ?_)
  obtain ⟨rfl, rfl⟩ := hq
  refine wp_astore_n (i := 2) (lv' := [_, some _, _, _]) (q := 16) dL_law_15 rfl (by decide) rfl rfl ?_
  refine wp_iconst (v := nI 0) (q := 17) dL_law_16 (by decide) rfl ?_
  refine wp_istore_n (i := 3) (lv' := [_, _, some _, _]) (q := 18) dL_law_17 rfl (by decide) rfl rfl ?_
  exact wp_room (by omega) (by omega) (law_loop (by omega) hL hsc 512 0 _ (by omega) (by omega) (LW_mid (DW_0 (by omega)) WR_0))
theorem arr_K {s : State} {c : ClassId} {k : Class} {comp : ClassId} {ty : FieldType} (h2 : s.vm.classes[c]? = some k) (h3 : k.kind = .array comp ty) : ArrOfT s c ty := fun n z => ⟨fun k h => (by cases h), k, h2, comp, h3⟩
/-- what the tables say, at the start -/
theorem rp_K_0 {s : State} {args : Array Value} (hts : ∀ w ∈ lw_tbl, w.before args s = true) : ∃ (D : va_G) (cT : Nat → ClassId), rp_K D cT s := by
  have hg : ∀ w ∈ gwl, w.before args s = true := fun w hw => hts w (List.mem_filter.mp hw).1
  obtain ⟨c0, i0, k0⟩ := u_known (C := RX0) (T := TX0) (N := 5) (n := 5) hg clX0.2.1 (hg _ niX0)
  obtain ⟨c1, i1, k1⟩ := u_known (C := RX1) (T := TX1) (N := 13) (n := 13) hg clX1.2.1 (hg _ niX1)
  obtain ⟨c2, i2, k2⟩ := u_known (C := RX2) (T := TX2) (N := 2) (n := 2) hg clX2.2.1 (hg _ niX2)
  obtain ⟨c3, i3, k3⟩ := u_known (C := RX3) (T := TX3) (N := 6) (n := 6) hg clX3.2.1 (hg _ niX3)
  obtain ⟨c4, i4, k4⟩ := u_known (C := RX4) (T := TX4) (N := 7) (n := 7) hg clX4.2.1 (hg _ niX4)
  obtain ⟨c5, i5, k5⟩ := u_known (C := RX5) (T := TX5) (N := 14) (n := 14) hg clX5.2.1 (hg _ niX5)
  obtain ⟨c6, i6, k6⟩ := u_known (C := RX6) (T := TX6) (N := 6) (n := 6) hg clX6.2.1 (hg _ niX6)
  obtain ⟨c7, i7, k7⟩ := u_known (C := RX7) (T := TX7) (N := 7) (n := 7) hg clX7.2.1 (hg _ niX7)
  obtain ⟨c8, i8, k8⟩ := u_known (C := RX8) (T := TX8) (N := 47) (n := 47) hg clX8.2.1 (hg _ niX8)
  obtain ⟨a0, q0, m0, f0, g0, e0⟩ := Cond.arrayClass_spec (hg _ akI)
  obtain ⟨a1, q1, m1, f1, g1, e1⟩ := Cond.arrayClass_spec (hg _ akJ)
  obtain ⟨a2, q2, m2, f2, g2, e2⟩ := Cond.arrayClass_spec (hg _ akZ)
  obtain ⟨m3, a3, q3, -, -, g3, e3, f3⟩ := arrayOverA_spec (hts _ aoI)
  obtain ⟨m4, a4, q4, -, -, g4, e4, f4⟩ := arrayOverA_spec (hts _ aoJ)
  obtain ⟨m5, a5, q5, n5, -, g5, e5, f5⟩ := Cond.arrayOver_spec (hts _ aoP)
  obtain ⟨m6, a6, q6, n6, -, g6, e6, f6⟩ := Cond.arrayOver_spec (hts _ aoF)
  obtain ⟨m7, a7, q7, n7, -, g7, e7, f7⟩ := Cond.arrayOver_spec (hts _ aoA)
  refine ⟨(fun k => [c0, c1, c2, c3, c4, c5, c6, c7, c8].getD k c0, fun k => [i0, i1, i2, i3, i4, i5, i6, i7, i8].getD k i0), fun k => [a0, a1, a2, a3, a4, a5, a6, a7].getD k a0, ⟨?_, ?_⟩, ?_, ?_, ?_⟩
  · intro k q hq
    match k, hq with
    | 0, hq => cases hq; exact k0
    | 1, hq => cases hq; exact k1
    | 2, hq => cases hq; exact k2
    | 3, hq => cases hq; exact k3
    | 4, hq => cases hq; exact k4
    | 5, hq => cases hq; exact k5
    | 6, hq => cases hq; exact k6
    | 7, hq => cases hq; exact k7
    | 8, hq => cases hq; exact k8
    | k + 9, hq => simp [vwCl] at hq
  · intro k q hq
    match k, hq with
    | 0, hq => cases hq; exact ⟨arr_K g0 e0, f0⟩
    | 1, hq => cases hq; exact ⟨arr_K g1 e1, f1⟩
    | 2, hq => cases hq; exact ⟨arr_K g2 e2, f2⟩
    | 3, hq => cases hq; exact ⟨arr_K g3 e3, f3⟩
    | 4, hq => cases hq; exact ⟨arr_K g4 e4, f4⟩
    | 5, hq => cases hq; exact ⟨arr_K g5 e5, _, _, g5, e5, n5, f5⟩
    | 6, hq => cases hq; exact ⟨arr_K g6 e6, _, _, g6, e6, n6, f6⟩
    | 7, hq => cases hq; exact ⟨arr_K g7 e7, _, _, g7, e7, n7, f7⟩
    | k + 8, hq => simp [rp_T] at hq
  · intro a i x b hm
    exact va_Nw.of rfl (hts _ hm)
  · intro C hm
    exact va_AO.of (hts _ hm)
  · intro t hm
    exact Jvm.Stand.arrayOver_alikeB (s := s) (U := s) (Vm.Alike.refl s.vm) (hts _ hm)
end LC
