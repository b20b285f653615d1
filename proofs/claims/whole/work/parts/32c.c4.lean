/-! THE CLASS: Table, add, the basis -/
/-- the fresh row, cleared by the rows from r on -/
def clF (n : Nat) (L : Nat → Nat) (R : Nat → Nat → Int64) : Nat → Nat → (Nat → Int64) → Nat → Int64
  | 0, _, f => f
  | m + 1, r, f => clF n L R m (r + 1) (clP n f (R r) (L r))
/-- the other rows, cleared by row at1 -/
def clO (n at1 p : Nat) : Nat → Nat → (Nat → Nat → Int64) → Nat → Nat → Int64
  | 0, _, R => R
  | m + 1, r, R => clO n at1 p m (r + 1) (if r = at1 then R else upR R r (clP n (R r) (R at1) p))
def frs (n : Nat) (x : Nat → Int32) (f : Nat → Int64) : Nat → Int64 := fun c => if c < n - 1 then (x c).toInt64 else if c = n - 1 then 1 else f c
def adA (n : Nat) (T : TS) (x : Nat → Int32) : TS := (T.1, T.2.1, T.2.2.1, clF n T.2.1 T.2.2.1 T.1 0 (frs n x T.2.2.2.1), T.2.2.2.2)
def adB (n p : Nat) (T : TS) : TS := ((inS n p T).1, (inS n p T).2.1, clO n (isS n p T.1 T.2.1 T.2.2.1).1 p (inS n p T).1 0 (inS n p T).2.2.1, (inS n p T).2.2.2)
def adT (n : Nat) (T : TS) (x : Nat → Int32) : TS := if ldF (adA n T x).2.2.2.1 n 0 < n ∧ T.1 < n then adB n (ldF (adA n T x).2.2.2.1 n 0) (adA n T x) else adA n T x
section C4
variable {l : Launch} {d sz q n a : Nat} {G : Nat → Option aE} {k : Nat} {L : Nat → Nat} {R : Nat → Nat → Int64} {F B : Nat → Int64}
theorem tX6_add {w mm : Nat} {x : Nat → Int32} (hd : 3 ≤ d) (hk : k ≤ n) (hL : ∀ r, r < k → L r < n) (hn1 : 1 ≤ n) (hn : n < 2 ^ 30) (hw : G w = some (iA mm x)) (hwo : w < q ∨ q + (n + 5) ≤ w) (hm : n - 1 ≤ mm) (hm2 : mm < 2 ^ 30) : mt l mX6_add d 0 0 [.ref q, .ref w] (sz, th q n (k, L, R, F, B) G) (rV (sz, th q n (adT n (k, L, R, F, B) x) G)) := by
  refine mt_in (lv := [_, _, _, _, _]) (by decide) (Nat.le_of_ble_eq_true rfl) rfl ?_
  refine wp_iconst (v := nI 0) (q := 1) dX6_add_0 (by decide) rfl ?_
  refine wp_istore_n (i := 2) (lv' := [_, some _, _, _, _]) (q := 2) dX6_add_1 rfl (by decide) rfl rfl ?_
  have P114 : ∀ (T : TS) (at1 p : Nat), adT n (k, L, R, F, B) x = (T.1, T.2.1, clO n at1 p T.1 0 T.2.2.1, T.2.2.2) → at1 < n → p < n → T.1 ≤ n → ∀ m r (R1 : Nat → Nat → Int64), r + m = T.1 → clO n at1 p m r R1 = clO n at1 p T.1 0 T.2.2.1 → wp l mX6_add [] d 0 0 (rV (sz, th q n (adT n (k, L, R, F, B) x) G)) (sz, th q n (T.1, T.2.1, R1, T.2.2.2) G) 114 [some (.ref q), some (.ref w), some (.int (nI p)), some (.int (nI at1)), some (.int (nI r))] [] := by
    intro T at1 p hT hat hp hTn m
    obtain ⟨k1, L1, R0, F1, B1⟩ := T
    dsimp only at hT hTn ⊢
    induction m with
    | zero =>
      intro r R1 hr he
      rw [show clO n at1 p 0 r R1 = R1 from rfl] at he
      refine wp_iload (q := 116) dX6_add_114 rfl rfl ?_
      refine wp_aload_n (i := 0) (q := 117) dX6_add_116 rfl rfl rfl ?_
      refine wg6_5 (q := 120) dX6_add_117 ffX6_29 (by first | exact th_obj | exact th_rws | exact th_row (by omega) | exact th_leads | exact th_fresh | exact th_basis | assumption | exact (th_out (by omega)).trans (by assumption)) rfl ?_ -- rank
      refine wp_icmp_ge (t := 153) (q := 123) dX6_add_120 (by decide) rfl (fun hc => ?_) (fun hc => ?_)
      · rw [hT, he]
        refine wp_vret dX6_add_153 rfl ?_
        exact ⟨rfl, rfl⟩
      · exact absurd ((nI_leI (by omega) (by omega)).mpr (by omega)) hc
    | succ m ih =>
      intro r R1 hr he
      rw [show clO n at1 p (m + 1) r R1 = clO n at1 p m (r + 1) (if r = at1 then R1 else upR R1 r (clP n (R1 r) (R1 at1) p)) from rfl] at he
      refine wp_iload (q := 116) dX6_add_114 rfl rfl ?_
      refine wp_aload_n (i := 0) (q := 117) dX6_add_116 rfl rfl rfl ?_
      refine wg6_5 (q := 120) dX6_add_117 ffX6_29 (by first | exact th_obj | exact th_rws | exact th_row (by omega) | exact th_leads | exact th_fresh | exact th_basis | assumption | exact (th_out (by omega)).trans (by assumption)) rfl ?_ -- rank
      refine wp_icmp_ge (t := 153) (q := 123) dX6_add_120 (by decide) rfl (fun hc => ?_) (fun hc => ?_)
      · exact absurd ((nI_leI (by omega) (by omega)).mp hc) (by omega)
      refine wp_iload (q := 125) dX6_add_123 rfl rfl ?_
      refine wp_iload_n (i := 3) (q := 126) dX6_add_125 rfl rfl rfl ?_
      refine wp_icmp_eq (t := 147) (q := 129) dX6_add_126 (by decide) rfl (fun hra => ?_) (fun hra => ?_)
      · have hra : r = at1 := (nI_eq (by omega) (by omega)).mp hra
        rw [if_pos hra] at he
        refine wp_iinc (v := _ + nI 1) (lv' := [_, _, _, some _, _]) (q := 150) dX6_add_147 rfl rfl (by decide) rfl rfl ?_
        refine wp_goto (q := 114) dX6_add_150 (by decide) ?_
        rw [nI_add]
        exact ih (r + 1) R1 (by omega) he
      · have hra : ¬ r = at1 := fun q => hra (by rw [q])
        rw [if_neg hra] at he
        refine wp_aload_n (i := 0) (q := 130) dX6_add_129 rfl rfl rfl ?_
        refine wp_aload_n (i := 0) (q := 131) dX6_add_130 rfl rfl rfl ?_
        refine wg6_1 (q := 134) dX6_add_131 ffX6_15 (by first | exact th_obj | exact th_rws | exact th_row (by omega) | exact th_leads | exact th_fresh | exact th_basis | assumption | exact (th_out (by omega)).trans (by assumption)) rfl ?_ -- rows
        refine wp_iload (q := 136) dX6_add_134 rfl rfl ?_
        refine wq_aald (q := 137) dX6_add_136 (by first | exact th_obj | exact th_rws | exact th_row (by omega) | exact th_leads | exact th_fresh | exact th_basis | assumption | exact (th_out (by omega)).trans (by assumption)) (by decide) rfl (by first | omega | exact ⟨by omega, by omega⟩) (by exact if_pos (by omega)) rfl ?_
        refine wp_aload_n (i := 0) (q := 138) dX6_add_137 rfl rfl rfl ?_
        refine wg6_1 (q := 141) dX6_add_138 ffX6_15 (by first | exact th_obj | exact th_rws | exact th_row (by omega) | exact th_leads | exact th_fresh | exact th_basis | assumption | exact (th_out (by omega)).trans (by assumption)) rfl ?_ -- rows
        refine wp_iload_n (i := 3) (q := 142) dX6_add_141 rfl rfl rfl ?_
        refine wq_aald (q := 143) dX6_add_142 (by first | exact th_obj | exact th_rws | exact th_row (by omega) | exact th_leads | exact th_fresh | exact th_basis | assumption | exact (th_out (by omega)).trans (by assumption)) (by decide) rfl (by first | omega | exact ⟨by omega, by omega⟩) (by exact if_pos (by omega)) rfl ?_
        refine wp_iload_n (i := 2) (q := 144) dX6_add_143 rfl rfl rfl ?_
        refine wp_Vv (μ' := mX6_clearPlace) (ci := 6) (q := 147) (tX6_clearPlace (d := d - 1) (by omega) th_obj (th_row (by omega)) (th_row (by omega)) (by omega) (by omega) hp hn) dX6_add_144 okX6_clearPlace lkX6_32 (by first | exact th_obj | exact th_rws | exact th_row (by omega) | exact th_leads | exact th_fresh | exact th_basis | assumption | exact (th_out (by omega)).trans (by assumption)) rfl rfl rfl (Nat.le_of_ble_eq_true rfl) (by omega) rfl ?_
        rw [th_sR (by omega)]
        refine wp_iinc (v := _ + nI 1) (lv' := [_, _, _, some _, _]) (q := 150) dX6_add_147 rfl rfl (by decide) rfl rfl ?_
        refine wp_goto (q := 114) dX6_add_150 (by decide) ?_
        rw [nI_add]
        exact ih (r + 1) _ (by omega) he
  have P42 : ∀ m r (f : Nat → Int64) (y3 y4 : Option Value), r + m = k → clF n L R m r f = (adA n (k, L, R, F, B) x).2.2.2.1 → wp l mX6_add [] d 0 0 (rV (sz, th q n (adT n (k, L, R, F, B) x) G)) (sz, th q n (k, L, R, f, B) G) 42 [some (.ref q), some (.ref w), some (.int (nI r)), y3, y4] [] := by
    intro m
    induction m with
    | zero =>
      intro r f y3 y4 hr he
      rw [show clF n L R 0 r f = f from rfl] at he
      refine wp_iload_n (i := 2) (q := 43) dX6_add_42 rfl rfl rfl ?_
      refine wp_aload_n (i := 0) (q := 44) dX6_add_43 rfl rfl rfl ?_
      refine wg6_5 (q := 47) dX6_add_44 ffX6_29 (by first | exact th_obj | exact th_rws | exact th_row (by omega) | exact th_leads | exact th_fresh | exact th_basis | assumption | exact (th_out (by omega)).trans (by assumption)) rfl ?_ -- rank
      refine wp_icmp_ge (t := 76) (q := 50) dX6_add_47 (by decide) rfl (fun hc => ?_) (fun hc => ?_)
      · refine wp_aload_n (i := 0) (q := 77) dX6_add_76 rfl rfl rfl ?_
        refine wp_aload_n (i := 0) (q := 78) dX6_add_77 rfl rfl rfl ?_
        refine wg6_3 (q := 81) dX6_add_78 ffX6_22 (by first | exact th_obj | exact th_rws | exact th_row (by omega) | exact th_leads | exact th_fresh | exact th_basis | assumption | exact (th_out (by omega)).trans (by assumption)) rfl ?_ -- fresh
        refine wp_Vi (μ' := mX6_leadOf) (ci := 6) (q := 84) (tX6_leadOf (d := d - 1) th_obj th_fresh hn) dX6_add_81 okX6_leadOf lkX6_36 (by first | exact th_obj | exact th_rws | exact th_row (by omega) | exact th_leads | exact th_fresh | exact th_basis | assumption | exact (th_out (by omega)).trans (by assumption)) rfl rfl rfl (Nat.le_of_ble_eq_true rfl) (by omega) rfl ?_
        have hle := (ldF_le (f := f) n 0).2
        have hA : adA n (k, L, R, F, B) x = (k, L, R, f, B) := by
          have : adA n (k, L, R, F, B) x = (k, L, R, (adA n (k, L, R, F, B) x).2.2.2.1, B) := rfl
          rw [this, ← he]
        refine wp_istore_n (i := 2) (lv' := [_, some _, _, _, _]) (q := 85) dX6_add_84 rfl (by decide) rfl rfl ?_
        refine wp_iload_n (i := 2) (q := 86) dX6_add_85 rfl rfl rfl ?_
        refine wp_aload_n (i := 0) (q := 87) dX6_add_86 rfl rfl rfl ?_
        refine wg6_0 (q := 90) dX6_add_87 ffX6_7 (by first | exact th_obj | exact th_rws | exact th_row (by omega) | exact th_leads | exact th_fresh | exact th_basis | assumption | exact (th_out (by omega)).trans (by assumption)) rfl ?_ -- places
        refine wp_icmp_ge (t := 104) (q := 93) dX6_add_90 (by decide) rfl (fun hc2 => ?_) (fun hc2 => ?_)
        · have hge : n ≤ ldF f n 0 := (nI_leI (by omega) (by omega)).mp hc2
          rw [show adT n (k, L, R, F, B) x = (k, L, R, f, B) by unfold adT; rw [hA, if_neg (by dsimp only; omega)]]
          refine wp_vret dX6_add_104 rfl ?_
          exact ⟨rfl, rfl⟩
        have hlt : ldF f n 0 < n := by
          rcases Nat.lt_or_ge (ldF f n 0) n with q | q
          · exact q
          · exact absurd ((nI_leI (by omega) (by omega)).mpr q) hc2
        refine wp_aload_n (i := 0) (q := 94) dX6_add_93 rfl rfl rfl ?_
        refine wg6_5 (q := 97) dX6_add_94 ffX6_29 (by first | exact th_obj | exact th_rws | exact th_row (by omega) | exact th_leads | exact th_fresh | exact th_basis | assumption | exact (th_out (by omega)).trans (by assumption)) rfl ?_ -- rank
        refine wp_aload_n (i := 0) (q := 98) dX6_add_97 rfl rfl rfl ?_
        refine wg6_0 (q := 101) dX6_add_98 ffX6_7 (by first | exact th_obj | exact th_rws | exact th_row (by omega) | exact th_leads | exact th_fresh | exact th_basis | assumption | exact (th_out (by omega)).trans (by assumption)) rfl ?_ -- places
        refine wp_icmp_lt (t := 105) (q := 104) dX6_add_101 (by decide) rfl (fun hc3 => ?_) (fun hc3 => ?_)
        · have hkn : k < n := (nI_ltI (by omega) (by omega)).mp hc3
          refine wp_aload_n (i := 0) (q := 106) dX6_add_105 rfl rfl rfl ?_
          refine wp_iload_n (i := 2) (q := 107) dX6_add_106 rfl rfl rfl ?_
          refine wp_Vi (μ' := mX6_insertFresh) (ci := 6) (q := 110) (tX6_insertFresh (d := d - 1) hlt hkn hL hn) dX6_add_107 okX6_insertFresh lkX6_40 (by first | exact th_obj | exact th_rws | exact th_row (by omega) | exact th_leads | exact th_fresh | exact th_basis | assumption | exact (th_out (by omega)).trans (by assumption)) rfl rfl rfl (Nat.le_of_ble_eq_true rfl) (by omega) rfl ?_
          refine wp_istore_n (i := 3) (lv' := [_, _, some _, _, _]) (q := 111) dX6_add_110 rfl (by decide) rfl rfl ?_
          refine wp_iconst (v := nI 0) (q := 112) dX6_add_111 (by decide) rfl ?_
          refine wp_istore (lv' := [_, _, _, some _, _]) (q := 114) dX6_add_112 (by decide) rfl rfl ?_
          have hat := isS_le (n := n) (l := ldF f n 0) k L R
          exact P114 (inS n (ldF f n 0) (k, L, R, f, B)) (isS n (ldF f n 0) k L R).1 (ldF f n 0) (by unfold adT; rw [hA, if_pos ⟨hlt, hkn⟩]; rfl) (by omega) hlt (by show k + 1 ≤ n; omega) (k + 1) 0 _ (by show 0 + (k + 1) = k + 1; omega) rfl
        · have hkn : ¬ k < n := fun q => hc3 ((nI_ltI (by omega) (by omega)).mpr q)
          rw [show adT n (k, L, R, F, B) x = (k, L, R, f, B) by unfold adT; rw [hA, if_neg (fun q => hkn q.2)]]
          refine wp_vret dX6_add_104 rfl ?_
          exact ⟨rfl, rfl⟩
      · exact absurd ((nI_leI (by omega) (by omega)).mpr (by omega)) hc
    | succ m ih =>
      intro r f y3 y4 hr he
      rw [show clF n L R (m + 1) r f = clF n L R m (r + 1) (clP n f (R r) (L r)) from rfl] at he
      have hLr := hL r (by omega)
      refine wp_iload_n (i := 2) (q := 43) dX6_add_42 rfl rfl rfl ?_
      refine wp_aload_n (i := 0) (q := 44) dX6_add_43 rfl rfl rfl ?_
      refine wg6_5 (q := 47) dX6_add_44 ffX6_29 (by first | exact th_obj | exact th_rws | exact th_row (by omega) | exact th_leads | exact th_fresh | exact th_basis | assumption | exact (th_out (by omega)).trans (by assumption)) rfl ?_ -- rank
      refine wp_icmp_ge (t := 76) (q := 50) dX6_add_47 (by decide) rfl (fun hc => ?_) (fun hc => ?_)
      · exact absurd ((nI_leI (by omega) (by omega)).mp hc) (by omega)
      refine wp_aload_n (i := 0) (q := 51) dX6_add_50 rfl rfl rfl ?_
      refine wp_aload_n (i := 0) (q := 52) dX6_add_51 rfl rfl rfl ?_
      refine wg6_3 (q := 55) dX6_add_52 ffX6_22 (by first | exact th_obj | exact th_rws | exact th_row (by omega) | exact th_leads | exact th_fresh | exact th_basis | assumption | exact (th_out (by omega)).trans (by assumption)) rfl ?_ -- fresh
      refine wp_aload_n (i := 0) (q := 56) dX6_add_55 rfl rfl rfl ?_
      refine wg6_1 (q := 59) dX6_add_56 ffX6_15 (by first | exact th_obj | exact th_rws | exact th_row (by omega) | exact th_leads | exact th_fresh | exact th_basis | assumption | exact (th_out (by omega)).trans (by assumption)) rfl ?_ -- rows
      refine wp_iload_n (i := 2) (q := 60) dX6_add_59 rfl rfl rfl ?_
      refine wq_aald (q := 61) dX6_add_60 (by first | exact th_obj | exact th_rws | exact th_row (by omega) | exact th_leads | exact th_fresh | exact th_basis | assumption | exact (th_out (by omega)).trans (by assumption)) (by decide) rfl (by first | omega | exact ⟨by omega, by omega⟩) (by exact if_pos (by omega)) rfl ?_
      refine wp_aload_n (i := 0) (q := 62) dX6_add_61 rfl rfl rfl ?_
      refine wg6_2 (q := 65) dX6_add_62 ffX6_18 (by first | exact th_obj | exact th_rws | exact th_row (by omega) | exact th_leads | exact th_fresh | exact th_basis | assumption | exact (th_out (by omega)).trans (by assumption)) rfl ?_ -- leads
      refine wp_iload_n (i := 2) (q := 66) dX6_add_65 rfl rfl rfl ?_
      refine wq_iald (q := 67) dX6_add_66 (by first | exact th_obj | exact th_rws | exact th_row (by omega) | exact th_leads | exact th_fresh | exact th_basis | assumption | exact (th_out (by omega)).trans (by assumption)) rfl (by first | omega | exact ⟨by omega, by omega⟩) rfl ?_
      refine wp_Vv (μ' := mX6_clearPlace) (ci := 6) (q := 70) (tX6_clearPlace (d := d - 1) (by omega) th_obj th_fresh (th_row (by omega)) (by omega) (by omega) hLr hn) dX6_add_67 okX6_clearPlace lkX6_32 (by first | exact th_obj | exact th_rws | exact th_row (by omega) | exact th_leads | exact th_fresh | exact th_basis | assumption | exact (th_out (by omega)).trans (by assumption)) rfl rfl rfl (Nat.le_of_ble_eq_true rfl) (by omega) rfl ?_
      rw [th_sF]
      refine wp_iinc (v := _ + nI 1) (lv' := [_, some _, _, _, _]) (q := 73) dX6_add_70 rfl rfl (by decide) rfl rfl ?_
      refine wp_goto (q := 42) dX6_add_73 (by decide) ?_
      rw [nI_add]
      exact ih (r + 1) _ _ _ (by omega) he
  have P2 : ∀ m c (y3 y4 : Option Value), c + m = n - 1 → wp l mX6_add [] d 0 0 (rV (sz, th q n (adT n (k, L, R, F, B) x) G)) (sz, th q n (k, L, R, (fun e => if e < c then (x e).toInt64 else F e), B) G) 2 [some (.ref q), some (.ref w), some (.int (nI c)), y3, y4] [] := by
    intro m
    induction m with
    | zero =>
      intro c y3 y4 hc
      refine wp_iload_n (i := 2) (q := 3) dX6_add_2 rfl rfl rfl ?_
      refine wp_aload_n (i := 0) (q := 4) dX6_add_3 rfl rfl rfl ?_
      refine wg6_0 (q := 7) dX6_add_4 ffX6_7 (by first | exact th_obj | exact th_rws | exact th_row (by omega) | exact th_leads | exact th_fresh | exact th_basis | assumption | exact (th_out (by omega)).trans (by assumption)) rfl ?_ -- places
      refine wp_iconst (v := nI 1) (q := 8) dX6_add_7 (by decide) rfl ?_
      refine wp_isub (q := 9) dX6_add_8 rfl ?_
      rw [pk_sub (by omega)]
      refine wp_icmp_ge (t := 28) (q := 12) dX6_add_9 (by decide) rfl (fun hc1 => ?_) (fun hc1 => ?_)
      · refine wp_aload_n (i := 0) (q := 29) dX6_add_28 rfl rfl rfl ?_
        refine wg6_3 (q := 32) dX6_add_29 ffX6_22 (by first | exact th_obj | exact th_rws | exact th_row (by omega) | exact th_leads | exact th_fresh | exact th_basis | assumption | exact (th_out (by omega)).trans (by assumption)) rfl ?_ -- fresh
        refine wp_aload_n (i := 0) (q := 33) dX6_add_32 rfl rfl rfl ?_
        refine wg6_0 (q := 36) dX6_add_33 ffX6_7 (by first | exact th_obj | exact th_rws | exact th_row (by omega) | exact th_leads | exact th_fresh | exact th_basis | assumption | exact (th_out (by omega)).trans (by assumption)) rfl ?_ -- places
        refine wp_iconst (v := nI 1) (q := 37) dX6_add_36 (by decide) rfl ?_
        refine wp_isub (q := 38) dX6_add_37 rfl ?_
        rw [pk_sub (by omega)]
        refine wp_lconst (v := 1) (q := 39) dX6_add_38 (by decide) rfl ?_
        refine wq_last (q := 40) dX6_add_39 (by first | exact th_obj | exact th_rws | exact th_row (by omega) | exact th_leads | exact th_fresh | exact th_basis | assumption | exact (th_out (by omega)).trans (by assumption)) rfl (by first | omega | exact ⟨by omega, by omega⟩) (by first | exact th_sR (by omega) | exact th_sF | exact th_sB | exact th_sK | exact th_sL) rfl ?_
        refine wp_iconst (v := nI 0) (q := 41) dX6_add_40 (by decide) rfl ?_
        refine wp_istore_n (i := 2) (lv' := [_, some _, _, _, _]) (q := 42) dX6_add_41 rfl (by decide) rfl rfl ?_
        refine P42 k 0 _ _ _ (by omega) ?_
        show clF n L R k 0 _ = clF n L R k 0 (frs n x F)
        congr 1
        funext e
        unfold frs vp_updL
        dsimp only
        by_cases w1 : e = n - 1
        · rw [if_pos w1, if_neg (by omega), if_pos w1]
        · rw [if_neg w1]
          by_cases w2 : e < n - 1
          · rw [if_pos (by omega), if_pos w2]
          · rw [if_neg (by omega), if_neg w2, if_neg w1]
      · exact absurd ((nI_leI (by omega) (by omega)).mpr (by omega)) hc1
    | succ m ih =>
      intro c y3 y4 hc
      refine wp_iload_n (i := 2) (q := 3) dX6_add_2 rfl rfl rfl ?_
      refine wp_aload_n (i := 0) (q := 4) dX6_add_3 rfl rfl rfl ?_
      refine wg6_0 (q := 7) dX6_add_4 ffX6_7 (by first | exact th_obj | exact th_rws | exact th_row (by omega) | exact th_leads | exact th_fresh | exact th_basis | assumption | exact (th_out (by omega)).trans (by assumption)) rfl ?_ -- places
      refine wp_iconst (v := nI 1) (q := 8) dX6_add_7 (by decide) rfl ?_
      refine wp_isub (q := 9) dX6_add_8 rfl ?_
      rw [pk_sub (by omega)]
      refine wp_icmp_ge (t := 28) (q := 12) dX6_add_9 (by decide) rfl (fun hc1 => ?_) (fun hc1 => ?_)
      · exact absurd ((nI_leI (by omega) (by omega)).mp hc1) (by omega)
      refine wp_aload_n (i := 0) (q := 13) dX6_add_12 rfl rfl rfl ?_
      refine wg6_3 (q := 16) dX6_add_13 ffX6_22 (by first | exact th_obj | exact th_rws | exact th_row (by omega) | exact th_leads | exact th_fresh | exact th_basis | assumption | exact (th_out (by omega)).trans (by assumption)) rfl ?_ -- fresh
      refine wp_iload_n (i := 2) (q := 17) dX6_add_16 rfl rfl rfl ?_
      refine wp_aload_n (i := 1) (q := 18) dX6_add_17 rfl rfl rfl ?_
      refine wp_iload_n (i := 2) (q := 19) dX6_add_18 rfl rfl rfl ?_
      refine wq_iald (q := 20) dX6_add_19 (by first | exact th_obj | exact th_rws | exact th_row (by omega) | exact th_leads | exact th_fresh | exact th_basis | assumption | exact (th_out (by omega)).trans (by assumption)) rfl (by first | omega | exact ⟨by omega, by omega⟩) rfl ?_
      refine wp_i2l (q := 21) dX6_add_20 rfl ?_
      refine wq_last (q := 22) dX6_add_21 (by first | exact th_obj | exact th_rws | exact th_row (by omega) | exact th_leads | exact th_fresh | exact th_basis | assumption | exact (th_out (by omega)).trans (by assumption)) rfl (by first | omega | exact ⟨by omega, by omega⟩) (by first | exact th_sR (by omega) | exact th_sF | exact th_sB | exact th_sK | exact th_sL) rfl ?_
      refine wp_iinc (v := _ + nI 1) (lv' := [_, some _, _, _, _]) (q := 25) dX6_add_22 rfl rfl (by decide) rfl rfl ?_
      refine wp_goto (q := 2) dX6_add_25 (by decide) ?_
      rw [nI_add]
      rw [show vp_updL (fun e => if e < c then (x e).toInt64 else F e) c (x c).toInt64 = (fun e => if e < c + 1 then (x e).toInt64 else F e) by
        funext i
        unfold vp_updL
        dsimp only
        by_cases w : i = c
        · rw [if_pos w, if_pos (by omega), w]
        · rw [if_neg w]
          by_cases w2 : i < c
          · rw [if_pos w2, if_pos (by omega)]
          · rw [if_neg w2, if_neg (by omega)]]
      exact ih (c + 1) _ _ (by omega)
  have := P2 (n - 1) 0 none none (by omega)
  rw [show (fun e => if e < 0 then (x e).toInt64 else F e) = F by funext e; rw [if_neg (by omega)]] at this
  exact this
theorem tX6_clear : mt l mX6_clear d 0 0 [.ref q] (sz, th q n (k, L, R, F, B) G) (rV (sz, th q n (0, L, R, F, B) G)) := by
  refine mt_in (lv := [_]) (by decide) (Nat.le_of_ble_eq_true rfl) rfl ?_
  refine wp_aload_n (i := 0) (q := 1) dX6_clear_0 rfl rfl rfl ?_
  refine wp_iconst (v := nI 0) (q := 2) dX6_clear_1 (by decide) rfl ?_
  refine wt6_5 (q := 5) dX6_clear_2 ffX6_29 (by first | exact th_obj | exact th_rws | exact th_row (by omega) | exact th_leads | exact th_fresh | exact th_basis | assumption | exact (th_out (by omega)).trans (by assumption)) (by first | exact th_sR (by omega) | exact th_sF | exact th_sB | exact th_sK | exact th_sL) rfl ?_ -- rank
  refine wp_vret dX6_clear_5 rfl ?_
  exact ⟨rfl, rfl⟩
theorem tX6_freeCount (hk : k ≤ n) : mt l mX6_freeCount d 0 0 [.ref q] (sz, th q n (k, L, R, F, B) G) (rI (nI (n - k)) (sz, th q n (k, L, R, F, B) G)) := by
  refine mt_in (lv := [_]) (by decide) (Nat.le_of_ble_eq_true rfl) rfl ?_
  refine wp_aload_n (i := 0) (q := 1) dX6_freeCount_0 rfl rfl rfl ?_
  refine wg6_0 (q := 4) dX6_freeCount_1 ffX6_7 (by first | exact th_obj | exact th_rws | exact th_row (by omega) | exact th_leads | exact th_fresh | exact th_basis | assumption | exact (th_out (by omega)).trans (by assumption)) rfl ?_ -- places
  refine wp_aload_n (i := 0) (q := 5) dX6_freeCount_4 rfl rfl rfl ?_
  refine wg6_5 (q := 8) dX6_freeCount_5 ffX6_29 (by first | exact th_obj | exact th_rws | exact th_row (by omega) | exact th_leads | exact th_fresh | exact th_basis | assumption | exact (th_out (by omega)).trans (by assumption)) rfl ?_ -- rank
  refine wp_isub (q := 9) dX6_freeCount_8 rfl ?_
  rw [pk_sub hk]
  refine wp_iret dX6_freeCount_9 rfl ?_
  exact ⟨rfl, rfl⟩
end C4
