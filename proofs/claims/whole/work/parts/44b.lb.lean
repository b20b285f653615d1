/-! THE LAW: its loop -/
section LB
variable {l : Launch} {sc : rp_S} {d kc ks s0 b i L : Nat} {xs : Nat → Int32} {h : aH}
def Qw (rv : Option Value) (_ : aH) : Prop := rv = some (.int 1)
theorem law_sw (w : Int32) : (w.toInt = 0 ∨ w.toInt = 1 ∨ w.toInt = 2 ∨ w.toInt = 3 ∨ w.toInt = 4 ∨ w.toInt = 5 ∨ w.toInt = 6 ∨ w.toInt = 7 ∨ w.toInt = 8 ∨ w.toInt = 9 ∨ w.toInt = 10 ∨ w.toInt = 11 ∨ w.toInt = 12 ∨ w.toInt = 13 ∨ w.toInt = 14 ∨ w.toInt = 15 ∨ w.toInt = 16 ∨ w.toInt = 17 ∨ w.toInt = 18 ∨ w.toInt = 19 ∨ w.toInt = 20 ∨ w.toInt = 21) ∨ (w.toInt < 0 ∨ 21 < w.toInt) := by omega
theorem nI_m8 {L : Nat} (h : L ≤ 4096) : (nI L - nI 8).toInt = (L : Int) - 8 := by
  rw [Int32.toInt_sub, nI_toInt (by omega), nI_toInt (by omega)]
  rw [Int.bmod_eq_of_le (by omega) (by omega)]
  rfl
theorem law_le {L i : Nat} (h : L ≤ 4096) (hi : i ≤ 4104) : nI L - nI 8 < nI i ↔ L < i + 8 := by
  rw [Int32.lt_iff_toInt_lt, nI_m8 h, nI_toInt (by omega)]
  omega
theorem mt_not {P R : Prop} (h : P ↔ R) (n : ¬ P) : ¬ R := fun r => n (h.mpr r)
theorem law_end {lv : List (Option Value)} : wp l mL_law sc d kc ks Qw h 1023 lv [] := by
  refine wp_iconst (v := nI 1) (q := 1024) dL_law_1023 (by decide) rfl ?_
  refine wp_zret dL_law_1024 rfl (by first | exact Or.inl rfl | exact Or.inr rfl | exact b2_01 _ | assumption) ?_
  exact rfl
theorem law_case (hd : 12 ≤ d) (hsc : (s0, L, xs) ∈ sc) (hin : ∀ k, k < 8 → vp_in (nI i + nI k) L) (hkc : 130 ≤ kc) (hks : 605 ≤ ks) (hW : LW b h) (w : Int32) (kk : ∀ h', LW b h' → wp l mL_law sc d (kc - 130) (ks - 605) Qw h' 1017 [some (.ref s0), some (.ref b), some (.ref (b + 33)), some (.int (nI i))] []) : wp l mL_law sc d kc ks Qw h 33 [some (.ref s0), some (.ref b), some (.ref (b + 33)), some (.int (nI i))] [.int w] := by
  rcases law_sw w with (hw | hw | hw | hw | hw | hw | hw | hw | hw | hw | hw | hw | hw | hw | hw | hw | hw | hw | hw | hw | hw | hw) | hw
  · refine wp_tableIn (off := 103) (q := 136) dL_law_33 (by rw [hw]; decide) (by rw [hw]; decide) (by rw [hw]; rfl) (by decide) ?_
    exact law_point hd hsc hin hkc hks hW kk
  · refine wp_tableIn (off := 126) (q := 159) dL_law_33 (by rw [hw]; decide) (by rw [hw]; decide) (by rw [hw]; rfl) (by decide) ?_
    exact law_split hd hsc hin hkc hks hW kk
  · refine wp_tableIn (off := 169) (q := 202) dL_law_33 (by rw [hw]; decide) (by rw [hw]; decide) (by rw [hw]; rfl) (by decide) ?_
    exact law_read hd hsc hin hkc hks hW kk
  · refine wp_tableIn (off := 232) (q := 265) dL_law_33 (by rw [hw]; decide) (by rw [hw]; decide) (by rw [hw]; rfl) (by decide) ?_
    exact law_died hd hsc hin hkc hks hW kk
  · refine wp_tableIn (off := 255) (q := 288) dL_law_33 (by rw [hw]; decide) (by rw [hw]; decide) (by rw [hw]; rfl) (by decide) ?_
    exact law_reading hd hsc hin hkc hks hW kk
  · refine wp_tableIn (off := 298) (q := 331) dL_law_33 (by rw [hw]; decide) (by rw [hw]; decide) (by rw [hw]; rfl) (by decide) ?_
    exact law_tried hd hsc hin hkc hks hW kk
  · refine wp_tableIn (off := 331) (q := 364) dL_law_33 (by rw [hw]; decide) (by rw [hw]; decide) (by rw [hw]; rfl) (by decide) ?_
    exact law_holds hd hsc hin hkc hks hW kk
  · refine wp_tableIn (off := 394) (q := 427) dL_law_33 (by rw [hw]; decide) (by rw [hw]; decide) (by rw [hw]; rfl) (by decide) ?_
    exact law_number hd hsc hin hkc hks hW kk
  · refine wp_tableIn (off := 457) (q := 490) dL_law_33 (by rw [hw]; decide) (by rw [hw]; decide) (by rw [hw]; rfl) (by decide) ?_
    exact law_guesses hd hsc hin hkc hks hW kk
  · refine wp_tableIn (off := 490) (q := 523) dL_law_33 (by rw [hw]; decide) (by rw [hw]; decide) (by rw [hw]; rfl) (by decide) ?_
    exact law_guess hd hsc hin hkc hks hW kk
  · refine wp_tableIn (off := 533) (q := 566) dL_law_33 (by rw [hw]; decide) (by rw [hw]; decide) (by rw [hw]; rfl) (by decide) ?_
    exact law_sums hd hsc hin hkc hks hW kk
  · refine wp_tableIn (off := 566) (q := 599) dL_law_33 (by rw [hw]; decide) (by rw [hw]; decide) (by rw [hw]; rfl) (by decide) ?_
    exact law_sum hd hsc hin hkc hks hW kk
  · refine wp_tableIn (off := 620) (q := 653) dL_law_33 (by rw [hw]; decide) (by rw [hw]; decide) (by rw [hw]; rfl) (by decide) ?_
    exact law_start hd hsc hin hkc hks hW kk
  · refine wp_tableIn (off := 683) (q := 716) dL_law_33 (by rw [hw]; decide) (by rw [hw]; decide) (by rw [hw]; rfl) (by decide) ?_
    exact law_act hd hsc hin hkc hks hW kk
  · refine wp_tableIn (off := 716) (q := 749) dL_law_33 (by rw [hw]; decide) (by rw [hw]; decide) (by rw [hw]; rfl) (by decide) ?_
    exact law_makes hd hsc hin hkc hks hW kk
  · refine wp_tableIn (off := 803) (q := 836) dL_law_33 (by rw [hw]; decide) (by rw [hw]; decide) (by rw [hw]; rfl) (by decide) ?_
    exact law_made hd hsc hin hkc hks hW kk
  · refine wp_tableIn (off := 846) (q := 879) dL_law_33 (by rw [hw]; decide) (by rw [hw]; decide) (by rw [hw]; rfl) (by decide) ?_
    exact law_kept hd hsc hin hkc hks hW kk
  · refine wp_tableIn (off := 859) (q := 892) dL_law_33 (by rw [hw]; decide) (by rw [hw]; decide) (by rw [hw]; rfl) (by decide) ?_
    exact law_search hd hsc hin hkc hks hW kk
  · refine wp_tableIn (off := 882) (q := 915) dL_law_33 (by rw [hw]; decide) (by rw [hw]; decide) (by rw [hw]; rfl) (by decide) ?_
    exact law_broke hd hsc hin hkc hks hW kk
  · refine wp_tableIn (off := 905) (q := 938) dL_law_33 (by rw [hw]; decide) (by rw [hw]; decide) (by rw [hw]; rfl) (by decide) ?_
    exact law_run hd hsc hin hkc hks hW kk
  · refine wp_tableIn (off := 938) (q := 971) dL_law_33 (by rw [hw]; decide) (by rw [hw]; decide) (by rw [hw]; rfl) (by decide) ?_
    exact law_told hd hsc hin hkc hks hW kk
  · refine wp_tableIn (off := 961) (q := 994) dL_law_33 (by rw [hw]; decide) (by rw [hw]; decide) (by rw [hw]; rfl) (by decide) ?_
    exact law_variables hd hsc hin hkc hks hW kk
  · refine wp_tableOut (q := 1017) dL_law_33 hw (by decide) ?_
    exact wp_room (by omega) (by omega) (kk _ hW)
theorem law_loop (hd : 12 ≤ d) (hL : L ≤ 4096) (hsc : (s0, L, xs) ∈ sc) : ∀ (n i : Nat) (h : aH), L < i + 8 * n + 8 → i ≤ 4104 → LW b h → wp l mL_law sc d (130 * n) (605 * n) Qw h 18 [some (.ref s0), some (.ref b), some (.ref (b + 33)), some (.int (nI i))] [] := by
  intro n
  induction n with
  | zero =>
    intro i h h1 h2 hW
    refine wp_iload_n (i := 3) (q := 19) dL_law_18 rfl rfl rfl ?_
    refine wp_aload_n (i := 0) (q := 20) dL_law_19 rfl rfl rfl ?_
    refine wp_slen (q := 21) dL_law_20 hsc rfl ?_
    refine wp_bipush (v := nI 8) (q := 23) dL_law_21 (by decide) rfl ?_
    refine wp_isub (q := 24) dL_law_23 rfl ?_
    exact wp_icmp_gt (t := 1023) (q := 27) dL_law_24 (by decide) rfl (fun _ => law_end) (fun hc => absurd ((law_le hL h2).mpr (by omega)) hc)
  | succ n ih =>
    intro i h h1 h2 hW
    refine wp_iload_n (i := 3) (q := 19) dL_law_18 rfl rfl rfl ?_
    refine wp_aload_n (i := 0) (q := 20) dL_law_19 rfl rfl rfl ?_
    refine wp_slen (q := 21) dL_law_20 hsc rfl ?_
    refine wp_bipush (v := nI 8) (q := 23) dL_law_21 (by decide) rfl ?_
    refine wp_isub (q := 24) dL_law_23 rfl ?_
    refine wp_icmp_gt (t := 1023) (q := 27) dL_law_24 (by decide) rfl (fun _ => law_end) (fun hc => ?_)
    have hi : i + 8 ≤ L := by
      have := mt_not (law_le hL h2) hc
      omega
    have hin : ∀ k, k < 8 → vp_in (nI i + nI k) L := fun k hk => by
      rw [nI_add]
      exact vp_in_nI (by omega) (by omega)
    have hin0 : vp_in (nI i) L := vp_in_nI (by omega) (by omega)
    refine wp_aload_n (i := 0) (q := 28) dL_law_27 rfl rfl rfl ?_
    refine wp_iload_n (i := 3) (q := 29) dL_law_28 rfl rfl rfl ?_
    refine wp_sld (q := 30) dL_law_29 hsc (by exact hin0) rfl ?_
    refine wp_bipush (v := nI 31) (q := 32) dL_law_30 (by decide) rfl ?_
    refine wp_iand (q := 33) dL_law_32 rfl ?_
    refine law_case hd hsc hin (by omega) (by omega) hW _ (fun h' hW' => ?_)
    refine wp_iinc (v := _ + nI 8) (lv' := [_, _, some _, _]) (q := 1020) dL_law_1017 rfl rfl (by decide) rfl rfl ?_
    refine wp_goto (q := 18) dL_law_1020 (by decide) ?_
    rw [nI_add]
    exact wp_room (by omega) (by omega) (ih (i + 8) h' (by omega) (by omega) hW')
end LB
