/-! THE CLASS: Table, its methods -/
/-- rows and leads from place at on move one place up, over n places -/
def isS (n l : Nat) : Nat → (Nat → Nat) → (Nat → Nat → Int64) → Nat × (Nat → Nat) × (Nat → Nat → Int64)
  | 0, L, R => (0, L, R)
  | m + 1, L, R => if l < L m then isS n l m (fun r => if r = m + 1 then L m else L r) (upR R (m + 1) (fun c => if c < n then R m c else R (m + 1) c)) else (m + 1, L, R)
theorem isS_le {n l : Nat} : ∀ m L R, (isS n l m L R).1 ≤ m
  | 0, L, R => Nat.le_refl _
  | m + 1, L, R => by
    unfold isS
    split
    · have := isS_le (n := n) (l := l) m (fun r => if r = m + 1 then L m else L r) (upR R (m + 1) (fun c => if c < n then R m c else R (m + 1) c))
      omega
    · exact Nat.le_refl _
def inS (n l : Nat) (T : TS) : TS :=
  (T.1 + 1, fun r => if r = (isS n l T.1 T.2.1 T.2.2.1).1 then l else (isS n l T.1 T.2.1 T.2.2.1).2.1 r, upR (isS n l T.1 T.2.1 T.2.2.1).2.2 (isS n l T.1 T.2.1 T.2.2.1).1 (fun c => if c < n then (if T.2.2.2.1 l < 0 then -T.2.2.2.1 c else T.2.2.2.1 c) else (isS n l T.1 T.2.1 T.2.2.1).2.2 (isS n l T.1 T.2.1 T.2.2.1).1 c), T.2.2.2.1, T.2.2.2.2)
section C3
variable {l : Launch} {d sz q n a : Nat} {G : Nat → Option aE} {k : Nat} {L : Nat → Nat} {R : Nat → Nat → Int64} {F B : Nat → Int64}
theorem upN_eq {L : Nat → Nat} {j x : Nat} : upd (fun r => nI (L r)) j (nI x) = fun r => nI (if r = j then x else L r) := by
  funext r
  unfold upd
  by_cases w : r = j
  · rw [if_pos w, if_pos w]
  · rw [if_neg w, if_neg w]
theorem wq_sL {l : Launch} {μ : Mu} {sc : rp_S} {d kc ks : Nat} {Q : Option Value → aH → Prop} {pc p : Nat} {lv : List (Option Value)} {st : List Value} {j x : Nat} (hd : decode μ.2.1 pc = .ok (.iastore, 1)) (hj : j < n ∧ n < 2 ^ 31) (hq : pc + 1 = p) (kk : wp l μ sc d kc ks Q (sz, th q n (k, (fun r => if r = j then x else L r), R, F, B) G) p lv st) : wp l μ sc d kc ks Q (sz, th q n (k, L, R, F, B) G) pc lv (.int (nI x) :: .int (nI j) :: .ref (q + (n + 2)) :: st) :=
  wq_iast hd th_leads rfl hj (by rw [upN_eq]; exact th_sL) hq kk
theorem tX6_insertFresh {p : Nat} (hp : p < n) (hk : k < n) (hL : ∀ r, r < k → L r < n) (hn : n < 2 ^ 30) : mt l mX6_insertFresh d 0 0 [.ref q, .int (nI p)] (sz, th q n (k, L, R, F, B) G) (rI (nI (isS n p k L R).1) (sz, th q n (inS n p (k, L, R, F, B)) G)) := by
  refine mt_in (lv := [_, _, _, _, _]) (by decide) (Nat.le_of_ble_eq_true rfl) rfl ?_
  refine wp_aload_n (i := 0) (q := 1) dX6_insertFresh_0 rfl rfl rfl ?_
  refine wg6_5 (q := 4) dX6_insertFresh_1 ffX6_29 (by first | exact th_obj | exact th_rws | exact th_row (by omega) | exact th_leads | exact th_fresh | exact th_basis | assumption) rfl ?_ -- rank
  refine wp_istore_n (i := 2) (lv' := [_, some _, _, _, _]) (q := 5) dX6_insertFresh_4 rfl (by decide) rfl rfl ?_
  have P95 : ∀ (L1 : Nat → Nat) (R1 : Nat → Nat → Int64) at1 m c, c + m = n → at1 < n → isS n p k L R = (at1, L1, R1) → wp l mX6_insertFresh [] d 0 0 (rI (nI (isS n p k L R).1) (sz, th q n (inS n p (k, L, R, F, B)) G)) (sz, th q n (k, L1, upR R1 at1 (fun e => if e < c then (if F p < 0 then -F e else F e) else R1 at1 e), F, B) G) 95 [some (.ref q), some (.int (nI p)), some (.int (nI at1)), some (.int (b2 (decide (F p < 0)))), some (.int (nI c))] [] := by
    intro L1 R1 at1 m
    induction m with
    | zero =>
      intro c hc hat he
      have hc : c = n := by omega
      subst hc
      refine wp_iload (q := 97) dX6_insertFresh_95 rfl rfl ?_
      refine wp_aload_n (i := 0) (q := 98) dX6_insertFresh_97 rfl rfl rfl ?_
      refine wg6_0 (q := 101) dX6_insertFresh_98 ffX6_7 (by first | exact th_obj | exact th_rws | exact th_row (by omega) | exact th_leads | exact th_fresh | exact th_basis | assumption) rfl ?_ -- places
      refine wp_icmp_ge (t := 141) (q := 104) dX6_insertFresh_101 (by decide) rfl (fun hc1 => ?_) (fun hc1 => ?_)
      · refine wp_aload_n (i := 0) (q := 142) dX6_insertFresh_141 rfl rfl rfl ?_
        refine wg6_2 (q := 145) dX6_insertFresh_142 ffX6_18 (by first | exact th_obj | exact th_rws | exact th_row (by omega) | exact th_leads | exact th_fresh | exact th_basis | assumption) rfl ?_ -- leads
        refine wp_iload_n (i := 2) (q := 146) dX6_insertFresh_145 rfl rfl rfl ?_
        refine wp_iload_n (i := 1) (q := 147) dX6_insertFresh_146 rfl rfl rfl ?_
        refine wq_sL (p := 148) dX6_insertFresh_147 (by omega) rfl ?_
        refine wp_aload_n (i := 0) (q := 149) dX6_insertFresh_148 rfl rfl rfl ?_
        refine wp_dup (q := 150) dX6_insertFresh_149 rfl rfl ?_
        refine wg6_5 (q := 153) dX6_insertFresh_150 ffX6_29 (by first | exact th_obj | exact th_rws | exact th_row (by omega) | exact th_leads | exact th_fresh | exact th_basis | assumption) rfl ?_ -- rank
        refine wp_iconst (v := nI 1) (q := 154) dX6_insertFresh_153 (by decide) rfl ?_
        refine wp_iadd (q := 155) dX6_insertFresh_154 rfl ?_
        rw [nI_add]
        refine wt6_5 (q := 158) dX6_insertFresh_155 ffX6_29 (by first | exact th_obj | exact th_rws | exact th_row (by omega) | exact th_leads | exact th_fresh | exact th_basis | assumption) (by first | exact th_sR (by omega) | exact th_sF | exact th_sB | exact th_sK | exact th_sL) rfl ?_ -- rank
        refine wp_iload_n (i := 2) (q := 159) dX6_insertFresh_158 rfl rfl rfl ?_
        refine wp_iret dX6_insertFresh_159 rfl ?_
        unfold inS
        dsimp only
        rw [he]
        exact ⟨rfl, rfl⟩
      · exact absurd ((nI_leI (by omega) (by omega)).mpr (by omega)) hc1
    | succ m ih =>
      intro c hc hat he
      refine wp_iload (q := 97) dX6_insertFresh_95 rfl rfl ?_
      refine wp_aload_n (i := 0) (q := 98) dX6_insertFresh_97 rfl rfl rfl ?_
      refine wg6_0 (q := 101) dX6_insertFresh_98 ffX6_7 (by first | exact th_obj | exact th_rws | exact th_row (by omega) | exact th_leads | exact th_fresh | exact th_basis | assumption) rfl ?_ -- places
      refine wp_icmp_ge (t := 141) (q := 104) dX6_insertFresh_101 (by decide) rfl (fun hc1 => ?_) (fun hc1 => ?_)
      · exact absurd ((nI_leI (by omega) (by omega)).mp hc1) (by omega)
      refine wp_aload_n (i := 0) (q := 105) dX6_insertFresh_104 rfl rfl rfl ?_
      refine wg6_1 (q := 108) dX6_insertFresh_105 ffX6_15 (by first | exact th_obj | exact th_rws | exact th_row (by omega) | exact th_leads | exact th_fresh | exact th_basis | assumption) rfl ?_ -- rows
      refine wp_iload_n (i := 2) (q := 109) dX6_insertFresh_108 rfl rfl rfl ?_
      refine wq_aald (q := 110) dX6_insertFresh_109 (by first | exact th_obj | exact th_rws | exact th_row (by omega) | exact th_leads | exact th_fresh | exact th_basis | assumption) (by decide) rfl (by first | omega | exact ⟨by omega, by omega⟩) (by exact if_pos (by omega)) rfl ?_
      refine wp_iload (q := 112) dX6_insertFresh_110 rfl rfl ?_
      refine wp_iload_n (i := 3) (q := 113) dX6_insertFresh_112 rfl rfl rfl ?_
      have K134 : ∀ z : Int64, z = (if F p < 0 then -F c else F c) → wp l mX6_insertFresh [] d 0 0 (rI (nI (isS n p k L R).1) (sz, th q n (inS n p (k, L, R, F, B)) G)) (sz, th q n (k, L1, upR R1 at1 (fun e => if e < c then (if F p < 0 then -F e else F e) else R1 at1 e), F, B) G) 134 [some (.ref q), some (.int (nI p)), some (.int (nI at1)), some (.int (b2 (decide (F p < 0)))), some (.int (nI c))] [.long z, .int (nI c), .ref (q + 2 + at1)] := by
        intro z hz
        refine wq_last (q := 135) dX6_insertFresh_134 (by first | exact th_obj | exact th_rws | exact th_row (by omega) | exact th_leads | exact th_fresh | exact th_basis | assumption) rfl (by first | omega | exact ⟨by omega, by omega⟩) (by first | exact th_sR (by omega) | exact th_sF | exact th_sB | exact th_sK | exact th_sL) rfl ?_
        refine wp_iinc (v := _ + nI 1) (lv' := [_, _, _, some _, _]) (q := 138) dX6_insertFresh_135 rfl rfl (by decide) rfl rfl ?_
        refine wp_goto (q := 95) dX6_insertFresh_138 (by decide) ?_
        rw [nI_add, upR_upR, upR_at]
        rw [show vp_updL (fun e => if e < c then (if F p < 0 then -F e else F e) else R1 at1 e) c z = (fun e => if e < c + 1 then (if F p < 0 then -F e else F e) else R1 at1 e) by
          funext i
          unfold vp_updL
          dsimp only
          by_cases w : i = c
          · rw [if_pos w, if_pos (by omega), hz, w]
          · rw [if_neg w]
            by_cases w2 : i < c
            · rw [if_pos w2, if_pos (show i < c + 1 by omega)]
            · rw [if_neg w2, if_neg (show ¬ i < c + 1 by omega)]]
        exact ih (c + 1) (by omega) hat he
      refine wp_if_eq (t := 127) (q := 116) dX6_insertFresh_113 (by decide) rfl (fun ht => ?_) (fun ht => ?_)
      · refine wp_aload_n (i := 0) (q := 128) dX6_insertFresh_127 rfl rfl rfl ?_
        refine wg6_3 (q := 131) dX6_insertFresh_128 ffX6_22 (by first | exact th_obj | exact th_rws | exact th_row (by omega) | exact th_leads | exact th_fresh | exact th_basis | assumption) rfl ?_ -- fresh
        refine wp_iload (q := 133) dX6_insertFresh_131 rfl rfl ?_
        refine wq_lald (q := 134) dX6_insertFresh_133 (by first | exact th_obj | exact th_rws | exact th_row (by omega) | exact th_leads | exact th_fresh | exact th_basis | assumption) rfl (by first | omega | exact ⟨by omega, by omega⟩) rfl ?_
        exact K134 _ (by rw [if_neg (of_decide_eq_false (b2_eq0.mp ht))])
      · refine wp_aload_n (i := 0) (q := 117) dX6_insertFresh_116 rfl rfl rfl ?_
        refine wg6_3 (q := 120) dX6_insertFresh_117 ffX6_22 (by first | exact th_obj | exact th_rws | exact th_row (by omega) | exact th_leads | exact th_fresh | exact th_basis | assumption) rfl ?_ -- fresh
        refine wp_iload (q := 122) dX6_insertFresh_120 rfl rfl ?_
        refine wq_lald (q := 123) dX6_insertFresh_122 (by first | exact th_obj | exact th_rws | exact th_row (by omega) | exact th_leads | exact th_fresh | exact th_basis | assumption) rfl (by first | omega | exact ⟨by omega, by omega⟩) rfl ?_
        refine wp_lneg (q := 124) dX6_insertFresh_123 rfl ?_
        refine wp_goto (q := 134) dX6_insertFresh_124 (by decide) ?_
        exact K134 _ (by rw [if_pos (of_decide_eq_true (b2_ne0.mp ht))])
  have P5 : ∀ m (L1 : Nat → Nat) (R1 : Nat → Nat → Int64) (y3 : Option Value), m ≤ k → (∀ r, r < m → L1 r < n) → isS n p m L1 R1 = isS n p k L R → wp l mX6_insertFresh [] d 0 0 (rI (nI (isS n p k L R).1) (sz, th q n (inS n p (k, L, R, F, B)) G)) (sz, th q n (k, L1, R1, F, B) G) 5 [some (.ref q), some (.int (nI p)), some (.int (nI m)), y3, none] [] := by
    have K75 : ∀ m (L1 : Nat → Nat) (R1 : Nat → Nat → Int64) (y3 : Option Value), m ≤ k → (m, L1, R1) = isS n p k L R → wp l mX6_insertFresh [] d 0 0 (rI (nI (isS n p k L R).1) (sz, th q n (inS n p (k, L, R, F, B)) G)) (sz, th q n (k, L1, R1, F, B) G) 75 [some (.ref q), some (.int (nI p)), some (.int (nI m)), y3, none] [] := by
      intro m L1 R1 y3 hm he
      have K91 : ∀ z : Bool, z = decide (F p < 0) → wp l mX6_insertFresh [] d 0 0 (rI (nI (isS n p k L R).1) (sz, th q n (inS n p (k, L, R, F, B)) G)) (sz, th q n (k, L1, R1, F, B) G) 91 [some (.ref q), some (.int (nI p)), some (.int (nI m)), y3, none] [.int (b2 z)] := by
        intro z hz
        refine wp_istore_n (i := 3) (lv' := [_, _, some _, _, _]) (q := 92) dX6_insertFresh_91 rfl (by decide) rfl rfl ?_
        refine wp_iconst (v := nI 0) (q := 93) dX6_insertFresh_92 (by decide) rfl ?_
        refine wp_istore (lv' := [_, _, _, some _, _]) (q := 95) dX6_insertFresh_93 (by decide) rfl rfl ?_
        rw [hz]
        have := P95 L1 R1 m n 0 (by omega) (by omega) he.symm
        rw [show (fun e => if e < 0 then (if F p < 0 then -F e else F e) else R1 m e) = R1 m by funext e; rw [if_neg (by omega)], upR_self] at this
        exact this
      refine wp_aload_n (i := 0) (q := 76) dX6_insertFresh_75 rfl rfl rfl ?_
      refine wg6_3 (q := 79) dX6_insertFresh_76 ffX6_22 (by first | exact th_obj | exact th_rws | exact th_row (by omega) | exact th_leads | exact th_fresh | exact th_basis | assumption) rfl ?_ -- fresh
      refine wp_iload_n (i := 1) (q := 80) dX6_insertFresh_79 rfl rfl rfl ?_
      refine wq_lald (q := 81) dX6_insertFresh_80 (by first | exact th_obj | exact th_rws | exact th_row (by omega) | exact th_leads | exact th_fresh | exact th_basis | assumption) rfl (by first | omega | exact ⟨by omega, by omega⟩) rfl ?_
      refine wp_lconst (v := 0) (q := 82) dX6_insertFresh_81 (by decide) rfl ?_
      refine wp_lcmp (q := 83) dX6_insertFresh_82 rfl ?_
      refine wp_if_ge (t := 90) (q := 86) dX6_insertFresh_83 (by decide) rfl (fun hge => ?_) (fun hge => ?_)
      · refine wp_iconst (v := nI 0) (q := 91) dX6_insertFresh_90 (by decide) rfl ?_
        exact K91 false (decide_eq_false (Int64.not_lt.mpr ((lg_cmp_ge _ _).mp hge))).symm
      · refine wp_iconst (v := nI 1) (q := 87) dX6_insertFresh_86 (by decide) rfl ?_
        refine wp_goto (q := 91) dX6_insertFresh_87 (by decide) ?_
        exact K91 true (decide_eq_true (Int64.not_le.mp (fun q => hge ((lg_cmp_ge _ _).mpr q)))).symm
    intro m
    induction m with
    | zero =>
      intro L1 R1 y3 hm hl he
      refine wp_iload_n (i := 2) (q := 6) dX6_insertFresh_5 rfl rfl rfl ?_
      refine wp_if_le (t := 75) (q := 9) dX6_insertFresh_6 (by decide) rfl (fun hc => ?_) (fun hc => ?_)
      · exact K75 0 L1 R1 y3 hm he
      · exact absurd (by decide) hc
    | succ m ih =>
      intro L1 R1 y3 hm hl he
      rw [show isS n p (m + 1) L1 R1 = if p < L1 m then isS n p m (fun r => if r = m + 1 then L1 m else L1 r) (upR R1 (m + 1) (fun c => if c < n then R1 m c else R1 (m + 1) c)) else (m + 1, L1, R1) from rfl] at he
      have hLm := hl m (by omega)
      refine wp_iload_n (i := 2) (q := 6) dX6_insertFresh_5 rfl rfl rfl ?_
      refine wp_if_le (t := 75) (q := 9) dX6_insertFresh_6 (by decide) rfl (fun hc => ?_) (fun hc => ?_)
      · exact absurd ((nI_leI (a := m + 1) (b := 0) (by omega) (by omega)).mp hc) (by omega)
      refine wp_aload_n (i := 0) (q := 10) dX6_insertFresh_9 rfl rfl rfl ?_
      refine wg6_2 (q := 13) dX6_insertFresh_10 ffX6_18 (by first | exact th_obj | exact th_rws | exact th_row (by omega) | exact th_leads | exact th_fresh | exact th_basis | assumption) rfl ?_ -- leads
      refine wp_iload_n (i := 2) (q := 14) dX6_insertFresh_13 rfl rfl rfl ?_
      refine wp_iconst (v := nI 1) (q := 15) dX6_insertFresh_14 (by decide) rfl ?_
      refine wp_isub (q := 16) dX6_insertFresh_15 rfl ?_
      rw [pk_sub (by omega), show m + 1 - 1 = m by omega]
      refine wq_iald (q := 17) dX6_insertFresh_16 (by first | exact th_obj | exact th_rws | exact th_row (by omega) | exact th_leads | exact th_fresh | exact th_basis | assumption) rfl (by first | omega | exact ⟨by omega, by omega⟩) rfl ?_
      refine wp_iload_n (i := 1) (q := 18) dX6_insertFresh_17 rfl rfl rfl ?_
      refine wp_icmp_le (t := 75) (q := 21) dX6_insertFresh_18 (by decide) rfl (fun hle => ?_) (fun hle => ?_)
      · rw [if_neg (fun q => absurd ((nI_leI (by omega) (by omega)).mp hle) (by omega))] at he
        exact K75 (m + 1) L1 R1 y3 hm he
      have hlt : p < L1 m := by
        rcases Nat.lt_or_ge p (L1 m) with q | q
        · exact q
        · exact absurd ((nI_leI (by omega) (by omega)).mpr q) hle
      rw [if_pos hlt] at he
      refine wp_aload_n (i := 0) (q := 22) dX6_insertFresh_21 rfl rfl rfl ?_
      refine wg6_2 (q := 25) dX6_insertFresh_22 ffX6_18 (by first | exact th_obj | exact th_rws | exact th_row (by omega) | exact th_leads | exact th_fresh | exact th_basis | assumption) rfl ?_ -- leads
      refine wp_iload_n (i := 2) (q := 26) dX6_insertFresh_25 rfl rfl rfl ?_
      refine wp_aload_n (i := 0) (q := 27) dX6_insertFresh_26 rfl rfl rfl ?_
      refine wg6_2 (q := 30) dX6_insertFresh_27 ffX6_18 (by first | exact th_obj | exact th_rws | exact th_row (by omega) | exact th_leads | exact th_fresh | exact th_basis | assumption) rfl ?_ -- leads
      refine wp_iload_n (i := 2) (q := 31) dX6_insertFresh_30 rfl rfl rfl ?_
      refine wp_iconst (v := nI 1) (q := 32) dX6_insertFresh_31 (by decide) rfl ?_
      refine wp_isub (q := 33) dX6_insertFresh_32 rfl ?_
      rw [pk_sub (by omega), show m + 1 - 1 = m by omega]
      refine wq_iald (q := 34) dX6_insertFresh_33 (by first | exact th_obj | exact th_rws | exact th_row (by omega) | exact th_leads | exact th_fresh | exact th_basis | assumption) rfl (by first | omega | exact ⟨by omega, by omega⟩) rfl ?_
      refine wq_sL (p := 35) dX6_insertFresh_34 (by omega) rfl ?_
      refine wp_iconst (v := nI 0) (q := 36) dX6_insertFresh_35 (by decide) rfl ?_
      refine wp_istore_n (i := 3) (lv' := [_, _, some _, _, _]) (q := 37) dX6_insertFresh_36 rfl (by decide) rfl rfl ?_
      have P37 : ∀ mm c, c + mm = n → wp l mX6_insertFresh [] d 0 0 (rI (nI (isS n p k L R).1) (sz, th q n (inS n p (k, L, R, F, B)) G)) (sz, th q n (k, (fun r => if r = m + 1 then L1 m else L1 r), upR R1 (m + 1) (fun e => if e < c then R1 m e else R1 (m + 1) e), F, B) G) 37 [some (.ref q), some (.int (nI p)), some (.int (nI (m + 1))), some (.int (nI c)), none] [] := by
        intro mm
        induction mm with
        | zero =>
          intro c hcc
          have hcc : c = n := by omega
          subst hcc
          refine wp_iload_n (i := 3) (q := 38) dX6_insertFresh_37 rfl rfl rfl ?_
          refine wp_aload_n (i := 0) (q := 39) dX6_insertFresh_38 rfl rfl rfl ?_
          refine wg6_0 (q := 42) dX6_insertFresh_39 ffX6_7 (by first | exact th_obj | exact th_rws | exact th_row (by omega) | exact th_leads | exact th_fresh | exact th_basis | assumption) rfl ?_ -- places
          refine wp_icmp_ge (t := 69) (q := 45) dX6_insertFresh_42 (by decide) rfl (fun hc1 => ?_) (fun hc1 => ?_)
          · refine wp_iinc (v := _ + (-1)) (lv' := [_, some _, _, _, _]) (q := 72) dX6_insertFresh_69 rfl rfl (by decide) rfl rfl ?_
            refine wp_goto (q := 5) dX6_insertFresh_72 (by decide) ?_
            rw [show nI (m + 1) + -1 = nI m by rw [show (-1 : Int32) = -nI 1 from rfl, ← Int32.sub_eq_add_neg, pk_sub (by omega)]; rfl]
            exact ih _ _ _ (by omega) (fun r hr => by show (if r = m + 1 then L1 m else L1 r) < c; rw [if_neg (by omega)]; exact hl r (by omega)) he
          · exact absurd ((nI_leI (by omega) (by omega)).mpr (by omega)) hc1
        | succ mm ihc =>
          intro c hcc
          refine wp_iload_n (i := 3) (q := 38) dX6_insertFresh_37 rfl rfl rfl ?_
          refine wp_aload_n (i := 0) (q := 39) dX6_insertFresh_38 rfl rfl rfl ?_
          refine wg6_0 (q := 42) dX6_insertFresh_39 ffX6_7 (by first | exact th_obj | exact th_rws | exact th_row (by omega) | exact th_leads | exact th_fresh | exact th_basis | assumption) rfl ?_ -- places
          refine wp_icmp_ge (t := 69) (q := 45) dX6_insertFresh_42 (by decide) rfl (fun hc1 => ?_) (fun hc1 => ?_)
          · exact absurd ((nI_leI (by omega) (by omega)).mp hc1) (by omega)
          refine wp_aload_n (i := 0) (q := 46) dX6_insertFresh_45 rfl rfl rfl ?_
          refine wg6_1 (q := 49) dX6_insertFresh_46 ffX6_15 (by first | exact th_obj | exact th_rws | exact th_row (by omega) | exact th_leads | exact th_fresh | exact th_basis | assumption) rfl ?_ -- rows
          refine wp_iload_n (i := 2) (q := 50) dX6_insertFresh_49 rfl rfl rfl ?_
          refine wq_aald (q := 51) dX6_insertFresh_50 (by first | exact th_obj | exact th_rws | exact th_row (by omega) | exact th_leads | exact th_fresh | exact th_basis | assumption) (by decide) rfl (by first | omega | exact ⟨by omega, by omega⟩) (by exact if_pos (by omega)) rfl ?_
          refine wp_iload_n (i := 3) (q := 52) dX6_insertFresh_51 rfl rfl rfl ?_
          refine wp_aload_n (i := 0) (q := 53) dX6_insertFresh_52 rfl rfl rfl ?_
          refine wg6_1 (q := 56) dX6_insertFresh_53 ffX6_15 (by first | exact th_obj | exact th_rws | exact th_row (by omega) | exact th_leads | exact th_fresh | exact th_basis | assumption) rfl ?_ -- rows
          refine wp_iload_n (i := 2) (q := 57) dX6_insertFresh_56 rfl rfl rfl ?_
          refine wp_iconst (v := nI 1) (q := 58) dX6_insertFresh_57 (by decide) rfl ?_
          refine wp_isub (q := 59) dX6_insertFresh_58 rfl ?_
          rw [pk_sub (by omega), show m + 1 - 1 = m by omega]
          refine wq_aald (q := 60) dX6_insertFresh_59 (by first | exact th_obj | exact th_rws | exact th_row (by omega) | exact th_leads | exact th_fresh | exact th_basis | assumption) (by decide) rfl (by first | omega | exact ⟨by omega, by omega⟩) (by exact if_pos (by omega)) rfl ?_
          refine wp_iload_n (i := 3) (q := 61) dX6_insertFresh_60 rfl rfl rfl ?_
          refine wq_lald (q := 62) dX6_insertFresh_61 (by first | exact th_obj | exact th_rws | exact th_row (by omega) | exact th_leads | exact th_fresh | exact th_basis | assumption) rfl (by first | omega | exact ⟨by omega, by omega⟩) rfl ?_
          refine wq_last (q := 63) dX6_insertFresh_62 (by first | exact th_obj | exact th_rws | exact th_row (by omega) | exact th_leads | exact th_fresh | exact th_basis | assumption) rfl (by first | omega | exact ⟨by omega, by omega⟩) (by first | exact th_sR (by omega) | exact th_sF | exact th_sB | exact th_sK | exact th_sL) rfl ?_
          refine wp_iinc (v := _ + nI 1) (lv' := [_, _, some _, _, _]) (q := 66) dX6_insertFresh_63 rfl rfl (by decide) rfl rfl ?_
          refine wp_goto (q := 37) dX6_insertFresh_66 (by decide) ?_
          rw [nI_add, upR_upR, upR_at, upR_ne (by omega)]
          rw [show vp_updL (fun e => if e < c then R1 m e else R1 (m + 1) e) c (R1 m c) = (fun e => if e < c + 1 then R1 m e else R1 (m + 1) e) by
            funext i
            unfold vp_updL
            dsimp only
            by_cases w : i = c
            · rw [if_pos w, if_pos (by omega), w]
            · rw [if_neg w]
              by_cases w2 : i < c
              · rw [if_pos w2, if_pos (by omega)]
              · rw [if_neg w2, if_neg (by omega)]]
          exact ihc (c + 1) (by omega)
      have := P37 n 0 (by omega)
      rw [show (fun e => if e < 0 then R1 m e else R1 (m + 1) e) = R1 (m + 1) by funext e; rw [if_neg (by omega)], upR_self] at this
      exact this
  exact P5 k L R none (Nat.le_refl _) hL rfl
end C3
