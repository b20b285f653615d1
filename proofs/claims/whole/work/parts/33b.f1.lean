/-! THE CLASS: Facts, what a reading does -/
def bg0 (v : VS) (x : Int32) : VS := sFw (sUn (sMo (sSt (sFe (sGr (sLe (sL (sF v x) x) x) x) false) 0) 12) 1) (upd (vFw v) 0 x)
def bgV (k : Nat) (v : VS) (x : Int32) : VS := sOr (bg0 v x) (fun e => if e < k then 0 else vOr v e)
def gmF (s : Int64) : Nat → Nat
  | 0 => 0
  | m + 1 => if m + 1 < 2 then 0 else if s - s / (nI (m + 1)).toInt64 * (nI (m + 1)).toInt64 = 0 then m + 1 else gmF s m
theorem gmF_le {s : Int64} : ∀ m, gmF s m ≤ m
  | 0 => Nat.le_refl _
  | m + 1 => by
    unfold gmF
    have := gmF_le (s := s) m
    split
    · omega
    · split <;> omega
def amR (f : Nat → Int32) (x : Int32) : Nat → Nat → Bool
  | 0, _ => false
  | m + 1, j => decide (f j = x) || amR f x m (j + 1)
def amB (f : Nat → Int32) (u : Nat) (x : Int32) : Bool := amR f x (min u 3) 0
def nnF (x : Int32) : Nat → (Nat → Int32) → Nat → Int32
  | 0, f => upd f 0 x
  | p + 1, f => if x < f p then nnF x p (upd f (p + 1) (f p)) else upd f (p + 1) x
def nnV (v : VS) (x : Int32) : VS := if 3 < vUn v then v else if amB (vFw v) (vUn v) x = true then v else if 3 ≤ vUn v then sUn v (vUn v + 1) else sFw (sUn v (vUn v + 1)) (nnF x (vUn v) (vFw v))
def g1 (v : VS) (x : Int32) : VS := if x < vL v then sFe v true else v
def gSt (v : VS) (x : Int32) : VS := sSt v (gcD (vSt v) (x - vF v).toInt64)
def gA (v : VS) (x : Int32) : VS := gSt (sGr (sLe (sL (g1 v x) x) (mn2 (vLe (g1 v x)) x)) (mx2 (vGr (g1 v x)) x)) x
def goV (v : VS) (x : Int32) : VS := nnV (sMo (gA v x) (gmF (vSt (gA v x)) 12)) x
def odV (k : Nat) (x : Nat → Int32) (i : Nat) (v : VS) : VS := sOr v (fun j => if j < k then vOr v j ||| ordO (x i) (x j) else vOr v j)
def adV (k c : Nat) (x : Nat → Int32) (v : VS) (i : Nat) : VS := odV k x i (if c = 0 then bgV k v (x i) else goV v (x i))
def adF (k : Nat) (S : FS) (x : Nat → Int32) : FS := (S.1 + 1, adT (k + 1) S.2.1 x, fun i => if i < k then adV k S.1 x (S.2.2 i) i else S.2.2 i)
section F1
variable {l : Launch} {d sz q k c : Nat} {T : TS} {V : Nat → VS} {G : Nat → Option aE} {h : aH}
theorem tX1_begin {i : Nat} {x : Int32} (hi : i < k) (hk : k < 2 ^ 20) : mt l mX1_begin d 0 0 [.ref q, .int (nI i), .int x] (sz, fh q k (c, T, V) G) (rV (sz, fh q k (c, T, upG V i (bgV k (V i) x)) G)) := by
  refine mt_in (lv := [_, _, _, _]) (by decide) (Nat.le_of_ble_eq_true rfl) rfl ?_
  refine wp_aload_n (i := 0) (q := 1) dX1_begin_0 rfl rfl rfl ?_
  refine wg1_3 (q := 4) dX1_begin_1 ffX1_24 (by first | exact fh_obj | exact fh_F | exact fh_L | exact fh_Le | exact fh_Gr | exact fh_Fe | exact fh_St | exact fh_Mo | exact fh_Un | exact fh_few | exact fh_Fw (by omega) | exact fh_ord | exact fh_Or (by omega) | assumption | exact (fh_out (by omega)).trans (by assumption)) rfl ?_ -- first
  refine wp_iload_n (i := 1) (q := 5) dX1_begin_4 rfl rfl rfl ?_
  refine wp_iload_n (i := 2) (q := 6) dX1_begin_5 rfl rfl rfl ?_
  refine wq_iast (q := 7) dX1_begin_6 (by first | exact fh_obj | exact fh_F | exact fh_L | exact fh_Le | exact fh_Gr | exact fh_Fe | exact fh_St | exact fh_Mo | exact fh_Un | exact fh_few | exact fh_Fw (by omega) | exact fh_ord | exact fh_Or (by omega) | assumption | exact (fh_out (by omega)).trans (by assumption)) rfl (by first | omega | exact ⟨by omega, by omega⟩) (by first | exact fh_sF | exact fh_sL | exact fh_sLe | exact fh_sGr | exact fh_sSt | exact fh_sMo | exact fh_sUn | exact fh_sFw (by omega) | exact fh_sOr (by omega) | exact fh_sFe (x := true) | exact fh_sFe (x := false) | exact fh_sc) rfl ?_
  refine wp_aload_n (i := 0) (q := 8) dX1_begin_7 rfl rfl rfl ?_
  refine wg1_4 (q := 11) dX1_begin_8 ffX1_28 (by first | exact fh_obj | exact fh_F | exact fh_L | exact fh_Le | exact fh_Gr | exact fh_Fe | exact fh_St | exact fh_Mo | exact fh_Un | exact fh_few | exact fh_Fw (by omega) | exact fh_ord | exact fh_Or (by omega) | assumption | exact (fh_out (by omega)).trans (by assumption)) rfl ?_ -- last
  refine wp_iload_n (i := 1) (q := 12) dX1_begin_11 rfl rfl rfl ?_
  refine wp_iload_n (i := 2) (q := 13) dX1_begin_12 rfl rfl rfl ?_
  refine wq_iast (q := 14) dX1_begin_13 (by first | exact fh_obj | exact fh_F | exact fh_L | exact fh_Le | exact fh_Gr | exact fh_Fe | exact fh_St | exact fh_Mo | exact fh_Un | exact fh_few | exact fh_Fw (by omega) | exact fh_ord | exact fh_Or (by omega) | assumption | exact (fh_out (by omega)).trans (by assumption)) rfl (by first | omega | exact ⟨by omega, by omega⟩) (by first | exact fh_sF | exact fh_sL | exact fh_sLe | exact fh_sGr | exact fh_sSt | exact fh_sMo | exact fh_sUn | exact fh_sFw (by omega) | exact fh_sOr (by omega) | exact fh_sFe (x := true) | exact fh_sFe (x := false) | exact fh_sc) rfl ?_
  refine wp_aload_n (i := 0) (q := 15) dX1_begin_14 rfl rfl rfl ?_
  refine wg1_5 (q := 18) dX1_begin_15 ffX1_31 (by first | exact fh_obj | exact fh_F | exact fh_L | exact fh_Le | exact fh_Gr | exact fh_Fe | exact fh_St | exact fh_Mo | exact fh_Un | exact fh_few | exact fh_Fw (by omega) | exact fh_ord | exact fh_Or (by omega) | assumption | exact (fh_out (by omega)).trans (by assumption)) rfl ?_ -- least
  refine wp_iload_n (i := 1) (q := 19) dX1_begin_18 rfl rfl rfl ?_
  refine wp_iload_n (i := 2) (q := 20) dX1_begin_19 rfl rfl rfl ?_
  refine wq_iast (q := 21) dX1_begin_20 (by first | exact fh_obj | exact fh_F | exact fh_L | exact fh_Le | exact fh_Gr | exact fh_Fe | exact fh_St | exact fh_Mo | exact fh_Un | exact fh_few | exact fh_Fw (by omega) | exact fh_ord | exact fh_Or (by omega) | assumption | exact (fh_out (by omega)).trans (by assumption)) rfl (by first | omega | exact ⟨by omega, by omega⟩) (by first | exact fh_sF | exact fh_sL | exact fh_sLe | exact fh_sGr | exact fh_sSt | exact fh_sMo | exact fh_sUn | exact fh_sFw (by omega) | exact fh_sOr (by omega) | exact fh_sFe (x := true) | exact fh_sFe (x := false) | exact fh_sc) rfl ?_
  refine wp_aload_n (i := 0) (q := 22) dX1_begin_21 rfl rfl rfl ?_
  refine wg1_6 (q := 25) dX1_begin_22 ffX1_34 (by first | exact fh_obj | exact fh_F | exact fh_L | exact fh_Le | exact fh_Gr | exact fh_Fe | exact fh_St | exact fh_Mo | exact fh_Un | exact fh_few | exact fh_Fw (by omega) | exact fh_ord | exact fh_Or (by omega) | assumption | exact (fh_out (by omega)).trans (by assumption)) rfl ?_ -- greatest
  refine wp_iload_n (i := 1) (q := 26) dX1_begin_25 rfl rfl rfl ?_
  refine wp_iload_n (i := 2) (q := 27) dX1_begin_26 rfl rfl rfl ?_
  refine wq_iast (q := 28) dX1_begin_27 (by first | exact fh_obj | exact fh_F | exact fh_L | exact fh_Le | exact fh_Gr | exact fh_Fe | exact fh_St | exact fh_Mo | exact fh_Un | exact fh_few | exact fh_Fw (by omega) | exact fh_ord | exact fh_Or (by omega) | assumption | exact (fh_out (by omega)).trans (by assumption)) rfl (by first | omega | exact ⟨by omega, by omega⟩) (by first | exact fh_sF | exact fh_sL | exact fh_sLe | exact fh_sGr | exact fh_sSt | exact fh_sMo | exact fh_sUn | exact fh_sFw (by omega) | exact fh_sOr (by omega) | exact fh_sFe (x := true) | exact fh_sFe (x := false) | exact fh_sc) rfl ?_
  refine wp_aload_n (i := 0) (q := 29) dX1_begin_28 rfl rfl rfl ?_
  refine wg1_7 (q := 32) dX1_begin_29 ffX1_37 (by first | exact fh_obj | exact fh_F | exact fh_L | exact fh_Le | exact fh_Gr | exact fh_Fe | exact fh_St | exact fh_Mo | exact fh_Un | exact fh_few | exact fh_Fw (by omega) | exact fh_ord | exact fh_Or (by omega) | assumption | exact (fh_out (by omega)).trans (by assumption)) rfl ?_ -- fell
  refine wp_iload_n (i := 1) (q := 33) dX1_begin_32 rfl rfl rfl ?_
  refine wp_iconst (v := nI 0) (q := 34) dX1_begin_33 (by decide) rfl ?_
  refine wq_zast (q := 35) dX1_begin_34 (by first | exact fh_obj | exact fh_F | exact fh_L | exact fh_Le | exact fh_Gr | exact fh_Fe | exact fh_St | exact fh_Mo | exact fh_Un | exact fh_few | exact fh_Fw (by omega) | exact fh_ord | exact fh_Or (by omega) | assumption | exact (fh_out (by omega)).trans (by assumption)) rfl (by first | omega | exact ⟨by omega, by omega⟩) (by first | exact Or.inl rfl | exact Or.inr rfl | exact b2_01 _ | assumption) (by first | exact fh_sF | exact fh_sL | exact fh_sLe | exact fh_sGr | exact fh_sSt | exact fh_sMo | exact fh_sUn | exact fh_sFw (by omega) | exact fh_sOr (by omega) | exact fh_sFe (x := true) | exact fh_sFe (x := false) | exact fh_sc) rfl ?_
  refine wp_aload_n (i := 0) (q := 36) dX1_begin_35 rfl rfl rfl ?_
  refine wg1_8 (q := 39) dX1_begin_36 ffX1_41 (by first | exact fh_obj | exact fh_F | exact fh_L | exact fh_Le | exact fh_Gr | exact fh_Fe | exact fh_St | exact fh_Mo | exact fh_Un | exact fh_few | exact fh_Fw (by omega) | exact fh_ord | exact fh_Or (by omega) | assumption | exact (fh_out (by omega)).trans (by assumption)) rfl ?_ -- step
  refine wp_iload_n (i := 1) (q := 40) dX1_begin_39 rfl rfl rfl ?_
  refine wp_lconst (v := 0) (q := 41) dX1_begin_40 (by decide) rfl ?_
  refine wq_last (q := 42) dX1_begin_41 (by first | exact fh_obj | exact fh_F | exact fh_L | exact fh_Le | exact fh_Gr | exact fh_Fe | exact fh_St | exact fh_Mo | exact fh_Un | exact fh_few | exact fh_Fw (by omega) | exact fh_ord | exact fh_Or (by omega) | assumption | exact (fh_out (by omega)).trans (by assumption)) rfl (by first | omega | exact ⟨by omega, by omega⟩) (by first | exact fh_sF | exact fh_sL | exact fh_sLe | exact fh_sGr | exact fh_sSt | exact fh_sMo | exact fh_sUn | exact fh_sFw (by omega) | exact fh_sOr (by omega) | exact fh_sFe (x := true) | exact fh_sFe (x := false) | exact fh_sc) rfl ?_
  refine wp_aload_n (i := 0) (q := 43) dX1_begin_42 rfl rfl rfl ?_
  refine wg1_9 (q := 46) dX1_begin_43 ffX1_45 (by first | exact fh_obj | exact fh_F | exact fh_L | exact fh_Le | exact fh_Gr | exact fh_Fe | exact fh_St | exact fh_Mo | exact fh_Un | exact fh_few | exact fh_Fw (by omega) | exact fh_ord | exact fh_Or (by omega) | assumption | exact (fh_out (by omega)).trans (by assumption)) rfl ?_ -- modulus
  refine wp_iload_n (i := 1) (q := 47) dX1_begin_46 rfl rfl rfl ?_
  refine wp_bipush (v := nI 12) (q := 49) dX1_begin_47 (by decide) rfl ?_
  refine wq_iast (q := 50) dX1_begin_49 (by first | exact fh_obj | exact fh_F | exact fh_L | exact fh_Le | exact fh_Gr | exact fh_Fe | exact fh_St | exact fh_Mo | exact fh_Un | exact fh_few | exact fh_Fw (by omega) | exact fh_ord | exact fh_Or (by omega) | assumption | exact (fh_out (by omega)).trans (by assumption)) rfl (by first | omega | exact ⟨by omega, by omega⟩) (by first | exact fh_sF | exact fh_sL | exact fh_sLe | exact fh_sGr | exact fh_sSt | exact fh_sMo | exact fh_sUn | exact fh_sFw (by omega) | exact fh_sOr (by omega) | exact fh_sFe (x := true) | exact fh_sFe (x := false) | exact fh_sc) rfl ?_
  refine wp_aload_n (i := 0) (q := 51) dX1_begin_50 rfl rfl rfl ?_
  refine wg1_10 (q := 54) dX1_begin_51 ffX1_48 (by first | exact fh_obj | exact fh_F | exact fh_L | exact fh_Le | exact fh_Gr | exact fh_Fe | exact fh_St | exact fh_Mo | exact fh_Un | exact fh_few | exact fh_Fw (by omega) | exact fh_ord | exact fh_Or (by omega) | assumption | exact (fh_out (by omega)).trans (by assumption)) rfl ?_ -- unlike
  refine wp_iload_n (i := 1) (q := 55) dX1_begin_54 rfl rfl rfl ?_
  refine wp_iconst (v := nI 1) (q := 56) dX1_begin_55 (by decide) rfl ?_
  refine wq_iast (q := 57) dX1_begin_56 (by first | exact fh_obj | exact fh_F | exact fh_L | exact fh_Le | exact fh_Gr | exact fh_Fe | exact fh_St | exact fh_Mo | exact fh_Un | exact fh_few | exact fh_Fw (by omega) | exact fh_ord | exact fh_Or (by omega) | assumption | exact (fh_out (by omega)).trans (by assumption)) rfl (by first | omega | exact ⟨by omega, by omega⟩) (by first | exact fh_sF | exact fh_sL | exact fh_sLe | exact fh_sGr | exact fh_sSt | exact fh_sMo | exact fh_sUn | exact fh_sFw (by omega) | exact fh_sOr (by omega) | exact fh_sFe (x := true) | exact fh_sFe (x := false) | exact fh_sc) rfl ?_
  refine wp_aload_n (i := 0) (q := 58) dX1_begin_57 rfl rfl rfl ?_
  refine wg1_11 (q := 61) dX1_begin_58 ffX1_53 (by first | exact fh_obj | exact fh_F | exact fh_L | exact fh_Le | exact fh_Gr | exact fh_Fe | exact fh_St | exact fh_Mo | exact fh_Un | exact fh_few | exact fh_Fw (by omega) | exact fh_ord | exact fh_Or (by omega) | assumption | exact (fh_out (by omega)).trans (by assumption)) rfl ?_ -- few
  refine wp_iload_n (i := 1) (q := 62) dX1_begin_61 rfl rfl rfl ?_
  refine wq_aald (q := 63) dX1_begin_62 (by first | exact fh_obj | exact fh_F | exact fh_L | exact fh_Le | exact fh_Gr | exact fh_Fe | exact fh_St | exact fh_Mo | exact fh_Un | exact fh_few | exact fh_Fw (by omega) | exact fh_ord | exact fh_Or (by omega) | assumption | exact (fh_out (by omega)).trans (by assumption)) (by decide) rfl (by first | omega | exact ⟨by omega, by omega⟩) (by exact if_pos (by omega)) rfl ?_
  refine wp_iconst (v := nI 0) (q := 64) dX1_begin_63 (by decide) rfl ?_
  refine wp_iload_n (i := 2) (q := 65) dX1_begin_64 rfl rfl rfl ?_
  refine wq_iast (q := 66) dX1_begin_65 (by first | exact fh_obj | exact fh_F | exact fh_L | exact fh_Le | exact fh_Gr | exact fh_Fe | exact fh_St | exact fh_Mo | exact fh_Un | exact fh_few | exact fh_Fw (by omega) | exact fh_ord | exact fh_Or (by omega) | assumption | exact (fh_out (by omega)).trans (by assumption)) rfl (by first | omega | exact ⟨by omega, by omega⟩) (by first | exact fh_sF | exact fh_sL | exact fh_sLe | exact fh_sGr | exact fh_sSt | exact fh_sMo | exact fh_sUn | exact fh_sFw (by omega) | exact fh_sOr (by omega) | exact fh_sFe (x := true) | exact fh_sFe (x := false) | exact fh_sc) rfl ?_
  refine wp_iconst (v := nI 0) (q := 67) dX1_begin_66 (by decide) rfl ?_
  refine wp_istore_n (i := 3) (lv' := [_, _, some _, _]) (q := 68) dX1_begin_67 rfl (by decide) rfl rfl ?_
  simp only [upG_upG, upG_at]
  have P : ∀ m j, j + m = k → wp l mX1_begin [] d 0 0 (rV (sz, fh q k (c, T, upG V i (bgV k (V i) x)) G)) (sz, fh q k (c, T, upG V i (sOr (bg0 (V i) x) (fun e => if e < j then 0 else vOr (V i) e))) G) 68 [some (.ref q), some (.int (nI i)), some (.int x), some (.int (nI j))] [] := by
    intro m
    induction m with
    | zero =>
      intro j hj
      refine wp_iload_n (i := 3) (q := 69) dX1_begin_68 rfl rfl rfl ?_
      refine wp_aload_n (i := 0) (q := 70) dX1_begin_69 rfl rfl rfl ?_
      refine wg1_0 (q := 73) dX1_begin_70 ffX1_9 (by first | exact fh_obj | exact fh_F | exact fh_L | exact fh_Le | exact fh_Gr | exact fh_Fe | exact fh_St | exact fh_Mo | exact fh_Un | exact fh_few | exact fh_Fw (by omega) | exact fh_ord | exact fh_Or (by omega) | assumption | exact (fh_out (by omega)).trans (by assumption)) rfl ?_ -- size
      refine wp_icmp_ge (t := 91) (q := 76) dX1_begin_73 (by decide) rfl (fun hc => ?_) (fun hc => ?_)
      · rw [show j = k by omega]
        refine wp_vret dX1_begin_91 rfl ?_
        exact ⟨rfl, rfl⟩
      · exact absurd ((nI_leI (by omega) (by omega)).mpr (by omega)) hc
    | succ m ih =>
      intro j hj
      refine wp_iload_n (i := 3) (q := 69) dX1_begin_68 rfl rfl rfl ?_
      refine wp_aload_n (i := 0) (q := 70) dX1_begin_69 rfl rfl rfl ?_
      refine wg1_0 (q := 73) dX1_begin_70 ffX1_9 (by first | exact fh_obj | exact fh_F | exact fh_L | exact fh_Le | exact fh_Gr | exact fh_Fe | exact fh_St | exact fh_Mo | exact fh_Un | exact fh_few | exact fh_Fw (by omega) | exact fh_ord | exact fh_Or (by omega) | assumption | exact (fh_out (by omega)).trans (by assumption)) rfl ?_ -- size
      refine wp_icmp_ge (t := 91) (q := 76) dX1_begin_73 (by decide) rfl (fun hc => ?_) (fun hc => ?_)
      · exact absurd ((nI_leI (by omega) (by omega)).mp hc) (by omega)
      refine wp_aload_n (i := 0) (q := 77) dX1_begin_76 rfl rfl rfl ?_
      refine wg1_12 (q := 80) dX1_begin_77 ffX1_56 (by first | exact fh_obj | exact fh_F | exact fh_L | exact fh_Le | exact fh_Gr | exact fh_Fe | exact fh_St | exact fh_Mo | exact fh_Un | exact fh_few | exact fh_Fw (by omega) | exact fh_ord | exact fh_Or (by omega) | assumption | exact (fh_out (by omega)).trans (by assumption)) rfl ?_ -- orders
      refine wp_iload_n (i := 1) (q := 81) dX1_begin_80 rfl rfl rfl ?_
      refine wq_aald (q := 82) dX1_begin_81 (by first | exact fh_obj | exact fh_F | exact fh_L | exact fh_Le | exact fh_Gr | exact fh_Fe | exact fh_St | exact fh_Mo | exact fh_Un | exact fh_few | exact fh_Fw (by omega) | exact fh_ord | exact fh_Or (by omega) | assumption | exact (fh_out (by omega)).trans (by assumption)) (by decide) rfl (by first | omega | exact ⟨by omega, by omega⟩) (by exact if_pos (by omega)) rfl ?_
      refine wp_iload_n (i := 3) (q := 83) dX1_begin_82 rfl rfl rfl ?_
      refine wp_iconst (v := nI 0) (q := 84) dX1_begin_83 (by decide) rfl ?_
      refine wq_iast (q := 85) dX1_begin_84 (by first | exact fh_obj | exact fh_F | exact fh_L | exact fh_Le | exact fh_Gr | exact fh_Fe | exact fh_St | exact fh_Mo | exact fh_Un | exact fh_few | exact fh_Fw (by omega) | exact fh_ord | exact fh_Or (by omega) | assumption | exact (fh_out (by omega)).trans (by assumption)) rfl (by first | omega | exact ⟨by omega, by omega⟩) (by first | exact fh_sF | exact fh_sL | exact fh_sLe | exact fh_sGr | exact fh_sSt | exact fh_sMo | exact fh_sUn | exact fh_sFw (by omega) | exact fh_sOr (by omega) | exact fh_sFe (x := true) | exact fh_sFe (x := false) | exact fh_sc) rfl ?_
      refine wp_iinc (v := _ + nI 1) (lv' := [_, _, some _, _]) (q := 88) dX1_begin_85 rfl rfl (by decide) rfl rfl ?_
      refine wp_goto (q := 68) dX1_begin_88 (by decide) ?_
      rw [nI_add, upG_upG, upG_at]
      have e : sOr (sOr (bg0 (V i) x) (fun e => if e < j then 0 else vOr (V i) e)) (upd (vOr (sOr (bg0 (V i) x) (fun e => if e < j then 0 else vOr (V i) e))) j (nI 0)) = sOr (bg0 (V i) x) (fun e => if e < j + 1 then 0 else vOr (V i) e) := by
        refine congrArg (sOr (bg0 (V i) x)) (funext fun e => ?_)
        show upd (fun e => if e < j then 0 else vOr (V i) e) j (nI 0) e = _
        unfold upd
        dsimp only
        by_cases w : e = j
        · rw [if_pos w, if_pos (by omega)]; rfl
        · rw [if_neg w]
          by_cases w2 : e < j
          · rw [if_pos w2, if_pos (by omega)]
          · rw [if_neg w2, if_neg (by omega)]
      rw [e]
      exact ih (j + 1) (by omega)
  exact P k 0 (by omega)
theorem tX1_greatestModulus {s : Int64} : mt l mX1_greatestModulus d 0 0 [.long s] h (rI (nI (gmF s 12)) h) := by
  refine mt_in (lv := [_, _, _]) (by decide) (Nat.le_of_ble_eq_true rfl) rfl ?_
  refine wp_bipush (v := nI 12) (q := 2) dX1_greatestModulus_0 (by decide) rfl ?_
  refine wp_istore_n (i := 2) (lv' := [_, _, _]) (q := 3) dX1_greatestModulus_2 rfl (by decide) rfl rfl ?_
  have P : ∀ m, m ≤ 12 → gmF s m = gmF s 12 → wp l mX1_greatestModulus [] d 0 0 (rI (nI (gmF s 12)) h) h 3 [some (.long s), none, some (.int (nI m))] [] := by
    intro m
    induction m with
    | zero =>
      intro hm he
      refine wp_iload_n (i := 2) (q := 4) dX1_greatestModulus_3 rfl rfl rfl ?_
      refine wp_iconst (v := nI 2) (q := 5) dX1_greatestModulus_4 (by decide) rfl ?_
      refine wp_icmp_lt (t := 25) (q := 8) dX1_greatestModulus_5 (by decide) rfl (fun hc => ?_) (fun hc => ?_)
      · rw [← he]
        refine wp_iconst (v := nI 0) (q := 26) dX1_greatestModulus_25 (by decide) rfl ?_
        refine wp_iret dX1_greatestModulus_26 rfl ?_
        exact ⟨rfl, rfl⟩
      · exact absurd (by decide) hc
    | succ m ih =>
      intro hm he
      rw [show gmF s (m + 1) = if m + 1 < 2 then 0 else if s - s / (nI (m + 1)).toInt64 * (nI (m + 1)).toInt64 = 0 then m + 1 else gmF s m from rfl] at he
      refine wp_iload_n (i := 2) (q := 4) dX1_greatestModulus_3 rfl rfl rfl ?_
      refine wp_iconst (v := nI 2) (q := 5) dX1_greatestModulus_4 (by decide) rfl ?_
      refine wp_icmp_lt (t := 25) (q := 8) dX1_greatestModulus_5 (by decide) rfl (fun hc => ?_) (fun hc => ?_)
      · have hc : m + 1 < 2 := (nI_ltI (by omega) (by omega)).mp hc
        rw [if_pos hc] at he
        rw [← he]
        refine wp_iconst (v := nI 0) (q := 26) dX1_greatestModulus_25 (by decide) rfl ?_
        refine wp_iret dX1_greatestModulus_26 rfl ?_
        exact ⟨rfl, rfl⟩
      have hc : ¬ m + 1 < 2 := fun q => hc ((nI_ltI (by omega) (by omega)).mpr q)
      rw [if_neg hc] at he
      have hnz : ¬ (nI (m + 1)).toInt64 = 0 := by
        rw [nI_l (by omega)]
        intro q
        have q2 := congrArg Int64.toInt q
        rw [lN_toInt (by omega)] at q2
        have : (0 : Int64).toInt = 0 := rfl
        omega
      refine wp_lload_n (i := 0) (q := 9) dX1_greatestModulus_8 rfl rfl rfl ?_
      refine wp_iload_n (i := 2) (q := 10) dX1_greatestModulus_9 rfl rfl rfl ?_
      refine wp_i2l (q := 11) dX1_greatestModulus_10 rfl ?_
      refine wp_lrem (q := 12) dX1_greatestModulus_11 (by first | assumption | decide) rfl ?_
      refine wp_lconst (v := 0) (q := 13) dX1_greatestModulus_12 (by decide) rfl ?_
      refine wp_lcmp (q := 14) dX1_greatestModulus_13 rfl ?_
      refine wp_if_ne (t := 19) (q := 17) dX1_greatestModulus_14 (by decide) rfl (fun hz => ?_) (fun hz => ?_)
      · rw [if_neg (fun q => hz (lg_cmp0.mpr q))] at he
        refine wp_iinc (v := _ + (-1)) (lv' := [_, _, _]) (q := 22) dX1_greatestModulus_19 rfl rfl (by decide) rfl rfl ?_
        refine wp_goto (q := 3) dX1_greatestModulus_22 (by decide) ?_
        rw [show nI (m + 1) + -1 = nI m from pk_m1 m]
        exact ih (by omega) he
      · rw [if_pos (lg_cmp0.mp hz)] at he
        rw [← he]
        refine wp_iload_n (i := 2) (q := 18) dX1_greatestModulus_17 rfl rfl rfl ?_
        refine wp_iret dX1_greatestModulus_18 rfl ?_
        exact ⟨rfl, rfl⟩
  exact P 12 (Nat.le_refl _) rfl
theorem tX1_isAmongFew {i : Nat} {x : Int32} (hi : i < k) (hk : k < 2 ^ 20) (hu : vUn (V i) < 2 ^ 20) : mt l mX1_isAmongFew d 0 0 [.ref q, .int (nI i), .int x] (sz, fh q k (c, T, V) G) (rI (b2 (amB (vFw (V i)) (vUn (V i)) x)) (sz, fh q k (c, T, V) G)) := by
  refine mt_in (lv := [_, _, _, _]) (by decide) (Nat.le_of_ble_eq_true rfl) rfl ?_
  refine wp_iconst (v := nI 0) (q := 1) dX1_isAmongFew_0 (by decide) rfl ?_
  refine wp_istore_n (i := 3) (lv' := [_, _, some _, _]) (q := 2) dX1_isAmongFew_1 rfl (by decide) rfl rfl ?_
  have P : ∀ m j, j + m = min (vUn (V i)) 3 → amR (vFw (V i)) x m j = amB (vFw (V i)) (vUn (V i)) x → wp l mX1_isAmongFew [] d 0 0 (rI (b2 (amB (vFw (V i)) (vUn (V i)) x)) (sz, fh q k (c, T, V) G)) (sz, fh q k (c, T, V) G) 2 [some (.ref q), some (.int (nI i)), some (.int x), some (.int (nI j))] [] := by
    intro m
    induction m with
    | zero =>
      intro j hj he
      have K37 : wp l mX1_isAmongFew [] d 0 0 (rI (b2 (amB (vFw (V i)) (vUn (V i)) x)) (sz, fh q k (c, T, V) G)) (sz, fh q k (c, T, V) G) 37 [some (.ref q), some (.int (nI i)), some (.int x), some (.int (nI j))] [] := by
        rw [← he]
        refine wp_iconst (v := nI 0) (q := 38) dX1_isAmongFew_37 (by decide) rfl ?_
        refine wp_zret dX1_isAmongFew_38 rfl (by first | exact Or.inl rfl | exact Or.inr rfl | exact b2_01 _ | assumption) ?_
        exact ⟨rfl, rfl⟩
      refine wp_iload_n (i := 3) (q := 3) dX1_isAmongFew_2 rfl rfl rfl ?_
      refine wp_aload_n (i := 0) (q := 4) dX1_isAmongFew_3 rfl rfl rfl ?_
      refine wg1_10 (q := 7) dX1_isAmongFew_4 ffX1_48 (by first | exact fh_obj | exact fh_F | exact fh_L | exact fh_Le | exact fh_Gr | exact fh_Fe | exact fh_St | exact fh_Mo | exact fh_Un | exact fh_few | exact fh_Fw (by omega) | exact fh_ord | exact fh_Or (by omega) | assumption | exact (fh_out (by omega)).trans (by assumption)) rfl ?_ -- unlike
      refine wp_iload_n (i := 1) (q := 8) dX1_isAmongFew_7 rfl rfl rfl ?_
      refine wq_iald (q := 9) dX1_isAmongFew_8 (by first | exact fh_obj | exact fh_F | exact fh_L | exact fh_Le | exact fh_Gr | exact fh_Fe | exact fh_St | exact fh_Mo | exact fh_Un | exact fh_few | exact fh_Fw (by omega) | exact fh_ord | exact fh_Or (by omega) | assumption | exact (fh_out (by omega)).trans (by assumption)) rfl (by first | omega | exact ⟨by omega, by omega⟩) rfl ?_
      refine wp_icmp_ge (t := 37) (q := 12) dX1_isAmongFew_9 (by decide) rfl (fun hc => ?_) (fun hc => ?_)
      · exact K37
      have hc : ¬ vUn (V i) ≤ j := fun q => hc ((nI_leI (by omega) (by omega)).mpr q)
      refine wp_iload_n (i := 3) (q := 13) dX1_isAmongFew_12 rfl rfl rfl ?_
      refine wp_iconst (v := nI 3) (q := 14) dX1_isAmongFew_13 (by decide) rfl ?_
      refine wp_icmp_ge (t := 37) (q := 17) dX1_isAmongFew_14 (by decide) rfl (fun hc2 => ?_) (fun hc2 => ?_)
      · exact K37
      have hc2 : ¬ 3 ≤ j := fun q => hc2 ((nI_leI (by omega) (by omega)).mpr q)
      omega
    | succ m ih =>
      intro j hj he
      rw [show amR (vFw (V i)) x (m + 1) j = (decide (vFw (V i) j = x) || amR (vFw (V i)) x m (j + 1)) from rfl] at he
      refine wp_iload_n (i := 3) (q := 3) dX1_isAmongFew_2 rfl rfl rfl ?_
      refine wp_aload_n (i := 0) (q := 4) dX1_isAmongFew_3 rfl rfl rfl ?_
      refine wg1_10 (q := 7) dX1_isAmongFew_4 ffX1_48 (by first | exact fh_obj | exact fh_F | exact fh_L | exact fh_Le | exact fh_Gr | exact fh_Fe | exact fh_St | exact fh_Mo | exact fh_Un | exact fh_few | exact fh_Fw (by omega) | exact fh_ord | exact fh_Or (by omega) | assumption | exact (fh_out (by omega)).trans (by assumption)) rfl ?_ -- unlike
      refine wp_iload_n (i := 1) (q := 8) dX1_isAmongFew_7 rfl rfl rfl ?_
      refine wq_iald (q := 9) dX1_isAmongFew_8 (by first | exact fh_obj | exact fh_F | exact fh_L | exact fh_Le | exact fh_Gr | exact fh_Fe | exact fh_St | exact fh_Mo | exact fh_Un | exact fh_few | exact fh_Fw (by omega) | exact fh_ord | exact fh_Or (by omega) | assumption | exact (fh_out (by omega)).trans (by assumption)) rfl (by first | omega | exact ⟨by omega, by omega⟩) rfl ?_
      refine wp_icmp_ge (t := 37) (q := 12) dX1_isAmongFew_9 (by decide) rfl (fun hc => ?_) (fun hc => ?_)
      · exact absurd ((nI_leI (by omega) (by omega)).mp hc) (by omega)
      refine wp_iload_n (i := 3) (q := 13) dX1_isAmongFew_12 rfl rfl rfl ?_
      refine wp_iconst (v := nI 3) (q := 14) dX1_isAmongFew_13 (by decide) rfl ?_
      refine wp_icmp_ge (t := 37) (q := 17) dX1_isAmongFew_14 (by decide) rfl (fun hc2 => ?_) (fun hc2 => ?_)
      · exact absurd ((nI_leI (by omega) (by omega)).mp hc2) (by omega)
      refine wp_aload_n (i := 0) (q := 18) dX1_isAmongFew_17 rfl rfl rfl ?_
      refine wg1_11 (q := 21) dX1_isAmongFew_18 ffX1_53 (by first | exact fh_obj | exact fh_F | exact fh_L | exact fh_Le | exact fh_Gr | exact fh_Fe | exact fh_St | exact fh_Mo | exact fh_Un | exact fh_few | exact fh_Fw (by omega) | exact fh_ord | exact fh_Or (by omega) | assumption | exact (fh_out (by omega)).trans (by assumption)) rfl ?_ -- few
      refine wp_iload_n (i := 1) (q := 22) dX1_isAmongFew_21 rfl rfl rfl ?_
      refine wq_aald (q := 23) dX1_isAmongFew_22 (by first | exact fh_obj | exact fh_F | exact fh_L | exact fh_Le | exact fh_Gr | exact fh_Fe | exact fh_St | exact fh_Mo | exact fh_Un | exact fh_few | exact fh_Fw (by omega) | exact fh_ord | exact fh_Or (by omega) | assumption | exact (fh_out (by omega)).trans (by assumption)) (by decide) rfl (by first | omega | exact ⟨by omega, by omega⟩) (by exact if_pos (by omega)) rfl ?_
      refine wp_iload_n (i := 3) (q := 24) dX1_isAmongFew_23 rfl rfl rfl ?_
      refine wq_iald (q := 25) dX1_isAmongFew_24 (by first | exact fh_obj | exact fh_F | exact fh_L | exact fh_Le | exact fh_Gr | exact fh_Fe | exact fh_St | exact fh_Mo | exact fh_Un | exact fh_few | exact fh_Fw (by omega) | exact fh_ord | exact fh_Or (by omega) | assumption | exact (fh_out (by omega)).trans (by assumption)) rfl (by first | omega | exact ⟨by omega, by omega⟩) rfl ?_
      refine wp_iload_n (i := 2) (q := 26) dX1_isAmongFew_25 rfl rfl rfl ?_
      refine wp_icmp_ne (t := 31) (q := 29) dX1_isAmongFew_26 (by decide) rfl (fun hx => ?_) (fun hx => ?_)
      · rw [decide_eq_false hx, Bool.false_or] at he
        refine wp_iinc (v := _ + nI 1) (lv' := [_, _, some _, _]) (q := 34) dX1_isAmongFew_31 rfl rfl (by decide) rfl rfl ?_
        refine wp_goto (q := 2) dX1_isAmongFew_34 (by decide) ?_
        rw [nI_add]
        exact ih (j + 1) (by omega) he
      · rw [decide_eq_true hx, Bool.true_or] at he
        rw [← he]
        refine wp_iconst (v := nI 1) (q := 30) dX1_isAmongFew_29 (by decide) rfl ?_
        refine wp_zret dX1_isAmongFew_30 rfl (by first | exact Or.inl rfl | exact Or.inr rfl | exact b2_01 _ | assumption) ?_
        exact ⟨rfl, rfl⟩
  exact P (min (vUn (V i)) 3) 0 (by omega) rfl
theorem tX1_noteNumber {i : Nat} {x : Int32} (hd : 1 ≤ d) (hi : i < k) (hk : k < 2 ^ 20) (hu : vUn (V i) < 2 ^ 20) : mt l mX1_noteNumber d 0 0 [.ref q, .int (nI i), .int x] (sz, fh q k (c, T, V) G) (rV (sz, fh q k (c, T, upG V i (nnV (V i) x)) G)) := by
  refine mt_in (lv := [_, _, _, _, _]) (by decide) (Nat.le_of_ble_eq_true rfl) rfl ?_
  refine wp_aload_n (i := 0) (q := 1) dX1_noteNumber_0 rfl rfl rfl ?_
  refine wg1_10 (q := 4) dX1_noteNumber_1 ffX1_48 (by first | exact fh_obj | exact fh_F | exact fh_L | exact fh_Le | exact fh_Gr | exact fh_Fe | exact fh_St | exact fh_Mo | exact fh_Un | exact fh_few | exact fh_Fw (by omega) | exact fh_ord | exact fh_Or (by omega) | assumption | exact (fh_out (by omega)).trans (by assumption)) rfl ?_ -- unlike
  refine wp_iload_n (i := 1) (q := 5) dX1_noteNumber_4 rfl rfl rfl ?_
  refine wq_iald (q := 6) dX1_noteNumber_5 (by first | exact fh_obj | exact fh_F | exact fh_L | exact fh_Le | exact fh_Gr | exact fh_Fe | exact fh_St | exact fh_Mo | exact fh_Un | exact fh_few | exact fh_Fw (by omega) | exact fh_ord | exact fh_Or (by omega) | assumption | exact (fh_out (by omega)).trans (by assumption)) rfl (by first | omega | exact ⟨by omega, by omega⟩) rfl ?_
  refine wp_iconst (v := nI 3) (q := 7) dX1_noteNumber_6 (by decide) rfl ?_
  unfold nnV
  refine wp_icmp_gt (t := 19) (q := 10) dX1_noteNumber_7 (by decide) rfl (fun hc => ?_) (fun hc => ?_)
  · rw [if_pos ((nI_ltI (by omega) (by omega)).mp hc), upG_self]
    refine wp_vret dX1_noteNumber_19 rfl ?_
    exact ⟨rfl, rfl⟩
  rw [if_neg (fun q => hc ((nI_ltI (by omega) (by omega)).mpr q))]
  have hc : vUn (V i) ≤ 3 := Nat.not_lt.mp (fun q => hc ((nI_ltI (by omega) (by omega)).mpr q))
  refine wp_aload_n (i := 0) (q := 11) dX1_noteNumber_10 rfl rfl rfl ?_
  refine wp_iload_n (i := 1) (q := 12) dX1_noteNumber_11 rfl rfl rfl ?_
  refine wp_iload_n (i := 2) (q := 13) dX1_noteNumber_12 rfl rfl rfl ?_
  refine wp_Vi (μ' := mX1_isAmongFew) (ci := 1) (q := 16) (tX1_isAmongFew (d := d - 1) hi hk hu) dX1_noteNumber_13 okX1_isAmongFew lkX1_99 (by first | exact fh_obj | exact fh_F | exact fh_L | exact fh_Le | exact fh_Gr | exact fh_Fe | exact fh_St | exact fh_Mo | exact fh_Un | exact fh_few | exact fh_Fw (by omega) | exact fh_ord | exact fh_Or (by omega) | assumption | exact (fh_out (by omega)).trans (by assumption)) rfl rfl rfl (Nat.le_of_ble_eq_true rfl) (by omega) rfl ?_
  refine wp_if_eq (t := 20) (q := 19) dX1_noteNumber_16 (by decide) rfl (fun hb => ?_) (fun hb => ?_)
  · rw [if_neg (fun q => by rw [b2_eq0.mp hb] at q; cases q)]
    refine wp_aload_n (i := 0) (q := 21) dX1_noteNumber_20 rfl rfl rfl ?_
    refine wg1_10 (q := 24) dX1_noteNumber_21 ffX1_48 (by first | exact fh_obj | exact fh_F | exact fh_L | exact fh_Le | exact fh_Gr | exact fh_Fe | exact fh_St | exact fh_Mo | exact fh_Un | exact fh_few | exact fh_Fw (by omega) | exact fh_ord | exact fh_Or (by omega) | assumption | exact (fh_out (by omega)).trans (by assumption)) rfl ?_ -- unlike
    refine wp_iload_n (i := 1) (q := 25) dX1_noteNumber_24 rfl rfl rfl ?_
    refine wq_iald (q := 26) dX1_noteNumber_25 (by first | exact fh_obj | exact fh_F | exact fh_L | exact fh_Le | exact fh_Gr | exact fh_Fe | exact fh_St | exact fh_Mo | exact fh_Un | exact fh_few | exact fh_Fw (by omega) | exact fh_ord | exact fh_Or (by omega) | assumption | exact (fh_out (by omega)).trans (by assumption)) rfl (by first | omega | exact ⟨by omega, by omega⟩) rfl ?_
    refine wp_istore_n (i := 3) (lv' := [_, _, some _, _, _]) (q := 27) dX1_noteNumber_26 rfl (by decide) rfl rfl ?_
    refine wp_aload_n (i := 0) (q := 28) dX1_noteNumber_27 rfl rfl rfl ?_
    refine wg1_10 (q := 31) dX1_noteNumber_28 ffX1_48 (by first | exact fh_obj | exact fh_F | exact fh_L | exact fh_Le | exact fh_Gr | exact fh_Fe | exact fh_St | exact fh_Mo | exact fh_Un | exact fh_few | exact fh_Fw (by omega) | exact fh_ord | exact fh_Or (by omega) | assumption | exact (fh_out (by omega)).trans (by assumption)) rfl ?_ -- unlike
    refine wp_iload_n (i := 1) (q := 32) dX1_noteNumber_31 rfl rfl rfl ?_
    refine wp_dup2 (q := 33) dX1_noteNumber_32 rfl rfl rfl ?_
    refine wq_iald (q := 34) dX1_noteNumber_33 (by first | exact fh_obj | exact fh_F | exact fh_L | exact fh_Le | exact fh_Gr | exact fh_Fe | exact fh_St | exact fh_Mo | exact fh_Un | exact fh_few | exact fh_Fw (by omega) | exact fh_ord | exact fh_Or (by omega) | assumption | exact (fh_out (by omega)).trans (by assumption)) rfl (by first | omega | exact ⟨by omega, by omega⟩) rfl ?_
    refine wp_iconst (v := nI 1) (q := 35) dX1_noteNumber_34 (by decide) rfl ?_
    refine wp_iadd (q := 36) dX1_noteNumber_35 rfl ?_
    rw [nI_add]
    refine wq_iast (q := 37) dX1_noteNumber_36 (by first | exact fh_obj | exact fh_F | exact fh_L | exact fh_Le | exact fh_Gr | exact fh_Fe | exact fh_St | exact fh_Mo | exact fh_Un | exact fh_few | exact fh_Fw (by omega) | exact fh_ord | exact fh_Or (by omega) | assumption | exact (fh_out (by omega)).trans (by assumption)) rfl (by first | omega | exact ⟨by omega, by omega⟩) (by first | exact fh_sF | exact fh_sL | exact fh_sLe | exact fh_sGr | exact fh_sSt | exact fh_sMo | exact fh_sUn | exact fh_sFw (by omega) | exact fh_sOr (by omega) | exact fh_sFe (x := true) | exact fh_sFe (x := false) | exact fh_sc) rfl ?_
    refine wp_iload_n (i := 3) (q := 38) dX1_noteNumber_37 rfl rfl rfl ?_
    refine wp_iconst (v := nI 3) (q := 39) dX1_noteNumber_38 (by decide) rfl ?_
    refine wp_icmp_lt (t := 43) (q := 42) dX1_noteNumber_39 (by decide) rfl (fun hlt => ?_) (fun hlt => ?_)
    · have hlt : vUn (V i) < 3 := (nI_ltI (by omega) (by omega)).mp hlt
      rw [if_neg (by omega)]
      refine wp_aload_n (i := 0) (q := 44) dX1_noteNumber_43 rfl rfl rfl ?_
      refine wg1_11 (q := 47) dX1_noteNumber_44 ffX1_53 (by first | exact fh_obj | exact fh_F | exact fh_L | exact fh_Le | exact fh_Gr | exact fh_Fe | exact fh_St | exact fh_Mo | exact fh_Un | exact fh_few | exact fh_Fw (by omega) | exact fh_ord | exact fh_Or (by omega) | assumption | exact (fh_out (by omega)).trans (by assumption)) rfl ?_ -- few
      refine wp_iload_n (i := 1) (q := 48) dX1_noteNumber_47 rfl rfl rfl ?_
      refine wq_aald (q := 49) dX1_noteNumber_48 (by first | exact fh_obj | exact fh_F | exact fh_L | exact fh_Le | exact fh_Gr | exact fh_Fe | exact fh_St | exact fh_Mo | exact fh_Un | exact fh_few | exact fh_Fw (by omega) | exact fh_ord | exact fh_Or (by omega) | assumption | exact (fh_out (by omega)).trans (by assumption)) (by decide) rfl (by first | omega | exact ⟨by omega, by omega⟩) (by exact if_pos (by omega)) rfl ?_
      refine wp_astore (lv' := [_, _, _, some _, _]) (q := 51) dX1_noteNumber_49 (by decide) rfl rfl ?_
      have P : ∀ p (f : Nat → Int32), p < 3 → nnF x p f = nnF x (vUn (V i)) (vFw (V i)) → wp l mX1_noteNumber [] d 0 0 (rV (sz, fh q k (c, T, upG V i (sFw (sUn (V i) (vUn (V i) + 1)) (nnF x (vUn (V i)) (vFw (V i))))) G)) (sz, fh q k (c, T, upG V i (sFw (sUn (V i) (vUn (V i) + 1)) f)) G) 51 [some (.ref q), some (.int (nI i)), some (.int x), some (.int (nI p)), some (.ref (q + (k + 16) + i))] [] := by
        intro p
        have K81 : ∀ p (f : Nat → Int32), p < 3 → upd f p x = nnF x (vUn (V i)) (vFw (V i)) → wp l mX1_noteNumber [] d 0 0 (rV (sz, fh q k (c, T, upG V i (sFw (sUn (V i) (vUn (V i) + 1)) (nnF x (vUn (V i)) (vFw (V i))))) G)) (sz, fh q k (c, T, upG V i (sFw (sUn (V i) (vUn (V i) + 1)) f)) G) 81 [some (.ref q), some (.int (nI i)), some (.int x), some (.int (nI p)), some (.ref (q + (k + 16) + i))] [] := by
          intro p f hp he
          refine wp_aload (q := 83) dX1_noteNumber_81 rfl rfl ?_
          refine wp_iload_n (i := 3) (q := 84) dX1_noteNumber_83 rfl rfl rfl ?_
          refine wp_iload_n (i := 2) (q := 85) dX1_noteNumber_84 rfl rfl rfl ?_
          refine wq_iast (q := 86) dX1_noteNumber_85 (by first | exact fh_obj | exact fh_F | exact fh_L | exact fh_Le | exact fh_Gr | exact fh_Fe | exact fh_St | exact fh_Mo | exact fh_Un | exact fh_few | exact fh_Fw (by omega) | exact fh_ord | exact fh_Or (by omega) | assumption | exact (fh_out (by omega)).trans (by assumption)) rfl (by first | omega | exact ⟨by omega, by omega⟩) (by first | exact fh_sF | exact fh_sL | exact fh_sLe | exact fh_sGr | exact fh_sSt | exact fh_sMo | exact fh_sUn | exact fh_sFw (by omega) | exact fh_sOr (by omega) | exact fh_sFe (x := true) | exact fh_sFe (x := false) | exact fh_sc) rfl ?_
          rw [upG_upG, upG_at]
          have e : sFw (sFw (sUn (V i) (vUn (V i) + 1)) f) (upd (vFw (sFw (sUn (V i) (vUn (V i) + 1)) f)) p x) = sFw (sUn (V i) (vUn (V i) + 1)) (nnF x (vUn (V i)) (vFw (V i))) := by
            rw [← he]; rfl
          rw [e]
          refine wp_vret dX1_noteNumber_86 rfl ?_
          exact ⟨rfl, rfl⟩
        induction p with
        | zero =>
          intro f hp he
          refine wp_iload_n (i := 3) (q := 52) dX1_noteNumber_51 rfl rfl rfl ?_
          refine wp_if_le (t := 81) (q := 55) dX1_noteNumber_52 (by decide) rfl (fun h0 => ?_) (fun h0 => ?_)
          · exact K81 0 f hp he
          · exact absurd (by decide) h0
        | succ p ih =>
          intro f hp he
          rw [show nnF x (p + 1) f = if x < f p then nnF x p (upd f (p + 1) (f p)) else upd f (p + 1) x from rfl] at he
          refine wp_iload_n (i := 3) (q := 52) dX1_noteNumber_51 rfl rfl rfl ?_
          refine wp_if_le (t := 81) (q := 55) dX1_noteNumber_52 (by decide) rfl (fun h0 => ?_) (fun h0 => ?_)
          · exact absurd ((nI_leI (a := p + 1) (b := 0) (by omega) (by omega)).mp h0) (by omega)
          refine wp_aload (q := 57) dX1_noteNumber_55 rfl rfl ?_
          refine wp_iload_n (i := 3) (q := 58) dX1_noteNumber_57 rfl rfl rfl ?_
          refine wp_iconst (v := nI 1) (q := 59) dX1_noteNumber_58 (by decide) rfl ?_
          refine wp_isub (q := 60) dX1_noteNumber_59 rfl ?_
          rw [pk_sub (by omega), show p + 1 - 1 = p by omega]
          refine wq_iald (q := 61) dX1_noteNumber_60 (by first | exact fh_obj | exact fh_F | exact fh_L | exact fh_Le | exact fh_Gr | exact fh_Fe | exact fh_St | exact fh_Mo | exact fh_Un | exact fh_few | exact fh_Fw (by omega) | exact fh_ord | exact fh_Or (by omega) | assumption | exact (fh_out (by omega)).trans (by assumption)) rfl (by first | omega | exact ⟨by omega, by omega⟩) rfl ?_
          refine wp_iload_n (i := 2) (q := 62) dX1_noteNumber_61 rfl rfl rfl ?_
          rw [upG_at]
          refine wp_icmp_le (t := 81) (q := 65) dX1_noteNumber_62 (by decide) rfl (fun hle => ?_) (fun hle => ?_)
          · rw [if_neg (show ¬ x < f p from Int32.not_lt.mpr hle)] at he
            exact K81 (p + 1) f hp he
          rw [if_pos (show x < f p from Int32.not_le.mp hle)] at he
          refine wp_aload (q := 67) dX1_noteNumber_65 rfl rfl ?_
          refine wp_iload_n (i := 3) (q := 68) dX1_noteNumber_67 rfl rfl rfl ?_
          refine wp_aload (q := 70) dX1_noteNumber_68 rfl rfl ?_
          refine wp_iload_n (i := 3) (q := 71) dX1_noteNumber_70 rfl rfl rfl ?_
          refine wp_iconst (v := nI 1) (q := 72) dX1_noteNumber_71 (by decide) rfl ?_
          refine wp_isub (q := 73) dX1_noteNumber_72 rfl ?_
          rw [pk_sub (by omega), show p + 1 - 1 = p by omega]
          refine wq_iald (q := 74) dX1_noteNumber_73 (by first | exact fh_obj | exact fh_F | exact fh_L | exact fh_Le | exact fh_Gr | exact fh_Fe | exact fh_St | exact fh_Mo | exact fh_Un | exact fh_few | exact fh_Fw (by omega) | exact fh_ord | exact fh_Or (by omega) | assumption | exact (fh_out (by omega)).trans (by assumption)) rfl (by first | omega | exact ⟨by omega, by omega⟩) rfl ?_
          refine wq_iast (q := 75) dX1_noteNumber_74 (by first | exact fh_obj | exact fh_F | exact fh_L | exact fh_Le | exact fh_Gr | exact fh_Fe | exact fh_St | exact fh_Mo | exact fh_Un | exact fh_few | exact fh_Fw (by omega) | exact fh_ord | exact fh_Or (by omega) | assumption | exact (fh_out (by omega)).trans (by assumption)) rfl (by first | omega | exact ⟨by omega, by omega⟩) (by first | exact fh_sF | exact fh_sL | exact fh_sLe | exact fh_sGr | exact fh_sSt | exact fh_sMo | exact fh_sUn | exact fh_sFw (by omega) | exact fh_sOr (by omega) | exact fh_sFe (x := true) | exact fh_sFe (x := false) | exact fh_sc) rfl ?_
          refine wp_iinc (v := _ + (-1)) (lv' := [_, _, some _, _, _]) (q := 78) dX1_noteNumber_75 rfl rfl (by decide) rfl rfl ?_
          refine wp_goto (q := 51) dX1_noteNumber_78 (by decide) ?_
          rw [upG_upG, upG_at, show nI (p + 1) + -1 = nI p from pk_m1 p]
          exact ih (upd f (p + 1) (f p)) (by omega) he
      have := P (vUn (V i)) (vFw (V i)) (by omega) rfl
      exact this
    · have hlt : ¬ vUn (V i) < 3 := fun q => hlt ((nI_ltI (by omega) (by omega)).mpr q)
      rw [if_pos (by omega)]
      refine wp_vret dX1_noteNumber_42 rfl ?_
      exact ⟨rfl, rfl⟩
  · rw [if_pos (b2_ne0.mp hb), upG_self]
    refine wp_vret dX1_noteNumber_19 rfl ?_
    exact ⟨rfl, rfl⟩
end F1
