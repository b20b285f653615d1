/-! THE CLASS: Table, the basis -/
def fpF (n k : Nat) (L : Nat → Nat) (s : Nat) : Nat → Nat → Nat → Nat → Nat
  | 0, _, _, _ => n - 1
  | m + 1, c, r, f => if r < k ∧ L r = c then fpF n k L s m (c + 1) (r + 1) f else if f = s then c else fpF n k L s m (c + 1) r (f + 1)
theorem fpF_lt {n k s : Nat} {L : Nat → Nat} (hn : 1 ≤ n) : ∀ m c r f, c + m = n → fpF n k L s m c r f < n
  | 0, _, _, _, _ => by unfold fpF; omega
  | m + 1, c, r, f, h => by
    unfold fpF
    split
    · exact fpF_lt hn m _ _ _ (by omega)
    · split
      · omega
      · exact fpF_lt hn m _ _ _ (by omega)
def frP (n k : Nat) (L : Nat → Nat) (s : Nat) : Nat := fpF n k L s n 0 0 0
def slD (R : Nat → Nat → Int64) (L : Nat → Nat) (r p : Nat) : Int64 := if 0 < gcD (R r (L r)) (R r p) then R r (L r) / gcD (R r (L r)) (R r p) else 1
def cmL (a b : Int64) : Int64 := if 0 < gcD a b then a / gcD a b * b else 1
def scF (R : Nat → Nat → Int64) (L : Nat → Nat) (p : Nat) : Nat → Nat → Int64 → Int64
  | 0, _, z => z
  | m + 1, r, z => scF R L p m (r + 1) (cmL z (slD R L r p))
def baR (R : Nat → Nat → Int64) (L : Nat → Nat) (p : Nat) (sc : Int64) : Nat → Nat → (Nat → Int64) → Nat → Int64
  | 0, _, b => b
  | m + 1, r, b => baR R L p sc m (r + 1) (if R r (L r) = 0 then b else vp_updL b (L r) (-(R r p * sc / R r (L r))))
def bsW (n k : Nat) (L : Nat → Nat) (R : Nat → Nat → Int64) (B : Nat → Int64) (s : Nat) : Nat → Int64 := baR R L (frP n k L s) (scF R L (frP n k L s) k 0 1) k 0 (vp_updL (fun c => if c < n then 0 else B c) (frP n k L s) (scF R L (frP n k L s) k 0 1))
def ztF (row g : Nat → Int64) : Nat → Nat → Int64 → Int64
  | 0, _, z => z
  | m + 1, c, z => ztF row g m (c + 1) (z + row c * g c)
section C5
variable {l : Launch} {d sz q n a : Nat} {G : Nat → Option aE} {k : Nat} {L : Nat → Nat} {R : Nat → Nat → Int64} {F B : Nat → Int64} {h : aH}
theorem tX6_commonMultiple {x y : Int64} (hd : 1 ≤ d) : mt l mX6_commonMultiple d 0 0 [.long x, .long y] h (rL (cmL x y) h) := by
  refine mt_in (lv := [_, _, _, _, _, _]) (by decide) (Nat.le_of_ble_eq_true rfl) rfl ?_
  refine wp_lload_n (i := 0) (q := 1) dX6_commonMultiple_0 rfl rfl rfl ?_
  refine wp_lload_n (i := 2) (q := 2) dX6_commonMultiple_1 rfl rfl rfl ?_
  refine wp_SNl (μ' := mX7_divisorOf) (q := 5) (tX7_divisorOf (d := d - 1)) dX6_commonMultiple_2 okX7_divisorOf lkX6_48 rfl rfl (Nat.le_of_ble_eq_true rfl) (by omega) rfl ?_
  unfold cmL
  generalize gcD x y = g
  refine wp_lstore (lv' := [_, _, _, _, _, _]) (q := 7) dX6_commonMultiple_5 (by decide) rfl rfl ?_
  refine wp_lload (q := 9) dX6_commonMultiple_7 rfl rfl ?_
  refine wp_lconst (v := 0) (q := 10) dX6_commonMultiple_9 (by decide) rfl ?_
  refine wp_lcmp (q := 11) dX6_commonMultiple_10 rfl ?_
  refine wp_if_le (t := 23) (q := 14) dX6_commonMultiple_11 (by decide) rfl (fun hle => ?_) (fun hle => ?_)
  · rw [if_neg (Int64.not_lt.mpr ((lg_cmp_le _ _).mp hle))]
    refine wp_lconst (v := 1) (q := 24) dX6_commonMultiple_23 (by decide) rfl ?_
    refine wp_lret dX6_commonMultiple_24 rfl ?_
    exact ⟨rfl, rfl⟩
  · have h0 : 0 < g := Int64.not_le.mp (fun q => hle ((lg_cmp_le _ _).mpr q))
    have hnz : ¬ g = 0 := fun q => by rw [q] at h0; exact absurd h0 (by decide)
    rw [if_pos h0]
    refine wp_lload_n (i := 0) (q := 15) dX6_commonMultiple_14 rfl rfl rfl ?_
    refine wp_lload (q := 17) dX6_commonMultiple_15 rfl rfl ?_
    refine wp_ldiv (q := 18) dX6_commonMultiple_17 (by first | assumption | decide) rfl ?_
    refine wp_lload_n (i := 2) (q := 19) dX6_commonMultiple_18 rfl rfl rfl ?_
    refine wp_lmul (q := 20) dX6_commonMultiple_19 rfl ?_
    refine wp_goto (q := 24) dX6_commonMultiple_20 (by decide) ?_
    refine wp_lret dX6_commonMultiple_24 rfl ?_
    exact ⟨rfl, rfl⟩
theorem tX6_shortLead {r p : Nat} (hd : 1 ≤ d) (hr : r < n) (hp : p < n) (hL : L r < n) (hn : n < 2 ^ 30) : mt l mX6_shortLead d 0 0 [.ref q, .int (nI r), .int (nI p)] (sz, th q n (k, L, R, F, B) G) (rL (slD R L r p) (sz, th q n (k, L, R, F, B) G)) := by
  refine mt_in (lv := [_, _, _, _, _, _, _]) (by decide) (Nat.le_of_ble_eq_true rfl) rfl ?_
  refine wp_aload_n (i := 0) (q := 1) dX6_shortLead_0 rfl rfl rfl ?_
  refine wg6_1 (q := 4) dX6_shortLead_1 ffX6_15 (by first | exact th_obj | exact th_rws | exact th_row (by omega) | exact th_leads | exact th_fresh | exact th_basis | assumption | exact (th_out (by omega)).trans (by assumption)) rfl ?_ -- rows
  refine wp_iload_n (i := 1) (q := 5) dX6_shortLead_4 rfl rfl rfl ?_
  refine wq_aald (q := 6) dX6_shortLead_5 (by first | exact th_obj | exact th_rws | exact th_row (by omega) | exact th_leads | exact th_fresh | exact th_basis | assumption | exact (th_out (by omega)).trans (by assumption)) (by decide) rfl (by first | omega | exact ⟨by omega, by omega⟩) (by exact if_pos (by omega)) rfl ?_
  refine wp_aload_n (i := 0) (q := 7) dX6_shortLead_6 rfl rfl rfl ?_
  refine wg6_2 (q := 10) dX6_shortLead_7 ffX6_18 (by first | exact th_obj | exact th_rws | exact th_row (by omega) | exact th_leads | exact th_fresh | exact th_basis | assumption | exact (th_out (by omega)).trans (by assumption)) rfl ?_ -- leads
  refine wp_iload_n (i := 1) (q := 11) dX6_shortLead_10 rfl rfl rfl ?_
  refine wq_iald (q := 12) dX6_shortLead_11 (by first | exact th_obj | exact th_rws | exact th_row (by omega) | exact th_leads | exact th_fresh | exact th_basis | assumption | exact (th_out (by omega)).trans (by assumption)) rfl (by first | omega | exact ⟨by omega, by omega⟩) rfl ?_
  refine wq_lald (q := 13) dX6_shortLead_12 (by first | exact th_obj | exact th_rws | exact th_row (by omega) | exact th_leads | exact th_fresh | exact th_basis | assumption | exact (th_out (by omega)).trans (by assumption)) rfl (by first | omega | exact ⟨by omega, by omega⟩) rfl ?_
  refine wp_lstore_n (i := 3) (lv' := [_, _, some _, _, _, _, _]) (q := 14) dX6_shortLead_13 rfl (by decide) rfl rfl ?_
  refine wp_lload_n (i := 3) (q := 15) dX6_shortLead_14 rfl rfl rfl ?_
  refine wp_aload_n (i := 0) (q := 16) dX6_shortLead_15 rfl rfl rfl ?_
  refine wg6_1 (q := 19) dX6_shortLead_16 ffX6_15 (by first | exact th_obj | exact th_rws | exact th_row (by omega) | exact th_leads | exact th_fresh | exact th_basis | assumption | exact (th_out (by omega)).trans (by assumption)) rfl ?_ -- rows
  refine wp_iload_n (i := 1) (q := 20) dX6_shortLead_19 rfl rfl rfl ?_
  refine wq_aald (q := 21) dX6_shortLead_20 (by first | exact th_obj | exact th_rws | exact th_row (by omega) | exact th_leads | exact th_fresh | exact th_basis | assumption | exact (th_out (by omega)).trans (by assumption)) (by decide) rfl (by first | omega | exact ⟨by omega, by omega⟩) (by exact if_pos (by omega)) rfl ?_
  refine wp_iload_n (i := 2) (q := 22) dX6_shortLead_21 rfl rfl rfl ?_
  refine wq_lald (q := 23) dX6_shortLead_22 (by first | exact th_obj | exact th_rws | exact th_row (by omega) | exact th_leads | exact th_fresh | exact th_basis | assumption | exact (th_out (by omega)).trans (by assumption)) rfl (by first | omega | exact ⟨by omega, by omega⟩) rfl ?_
  refine wp_SNl (μ' := mX7_divisorOf) (q := 26) (tX7_divisorOf (d := d - 1)) dX6_shortLead_23 okX7_divisorOf lkX6_48 rfl rfl (Nat.le_of_ble_eq_true rfl) (by omega) rfl ?_
  unfold slD
  generalize gcD (R r (L r)) (R r p) = g
  refine wp_lstore (lv' := [_, _, _, _, _, _, _]) (q := 28) dX6_shortLead_26 (by decide) rfl rfl ?_
  refine wp_lload (q := 30) dX6_shortLead_28 rfl rfl ?_
  refine wp_lconst (v := 0) (q := 31) dX6_shortLead_30 (by decide) rfl ?_
  refine wp_lcmp (q := 32) dX6_shortLead_31 rfl ?_
  refine wp_if_le (t := 42) (q := 35) dX6_shortLead_32 (by decide) rfl (fun hle => ?_) (fun hle => ?_)
  · rw [if_neg (Int64.not_lt.mpr ((lg_cmp_le _ _).mp hle))]
    refine wp_lconst (v := 1) (q := 43) dX6_shortLead_42 (by decide) rfl ?_
    refine wp_lret dX6_shortLead_43 rfl ?_
    exact ⟨rfl, rfl⟩
  · have h0 : 0 < g := Int64.not_le.mp (fun q => hle ((lg_cmp_le _ _).mpr q))
    have hnz : ¬ g = 0 := fun q => by rw [q] at h0; exact absurd h0 (by decide)
    rw [if_pos h0]
    refine wp_lload_n (i := 3) (q := 36) dX6_shortLead_35 rfl rfl rfl ?_
    refine wp_lload (q := 38) dX6_shortLead_36 rfl rfl ?_
    refine wp_ldiv (q := 39) dX6_shortLead_38 (by first | assumption | decide) rfl ?_
    refine wp_goto (q := 43) dX6_shortLead_39 (by decide) ?_
    refine wp_lret dX6_shortLead_43 rfl ?_
    exact ⟨rfl, rfl⟩
theorem tX6_freePlace {s : Nat} (hs : s < 2 ^ 30) (hk : k ≤ n) (hL : ∀ r, r < k → L r < n) (hn1 : 1 ≤ n) (hn : n < 2 ^ 30) : mt l mX6_freePlace d 0 0 [.ref q, .int (nI s)] (sz, th q n (k, L, R, F, B) G) (rI (nI (frP n k L s)) (sz, th q n (k, L, R, F, B) G)) := by
  refine mt_in (lv := [_, _, _, _, _]) (by decide) (Nat.le_of_ble_eq_true rfl) rfl ?_
  refine wp_iconst (v := nI 0) (q := 1) dX6_freePlace_0 (by decide) rfl ?_
  refine wp_istore_n (i := 2) (lv' := [_, some _, _, _, _]) (q := 2) dX6_freePlace_1 rfl (by decide) rfl rfl ?_
  refine wp_iconst (v := nI 0) (q := 3) dX6_freePlace_2 (by decide) rfl ?_
  refine wp_istore_n (i := 3) (lv' := [_, _, some _, _, _]) (q := 4) dX6_freePlace_3 rfl (by decide) rfl rfl ?_
  refine wp_iconst (v := nI 0) (q := 5) dX6_freePlace_4 (by decide) rfl ?_
  refine wp_istore (lv' := [_, _, _, some _, _]) (q := 7) dX6_freePlace_5 (by decide) rfl rfl ?_
  have P : ∀ m c r f, c + m = n → r ≤ c → f ≤ c → fpF n k L s m c r f = frP n k L s → wp l mX6_freePlace [] d 0 0 (rI (nI (frP n k L s)) (sz, th q n (k, L, R, F, B) G)) (sz, th q n (k, L, R, F, B) G) 7 [some (.ref q), some (.int (nI s)), some (.int (nI r)), some (.int (nI f)), some (.int (nI c))] [] := by
    intro m
    induction m with
    | zero =>
      intro c r f hc hr hf he
      refine wp_iload (q := 9) dX6_freePlace_7 rfl rfl ?_
      refine wp_aload_n (i := 0) (q := 10) dX6_freePlace_9 rfl rfl rfl ?_
      refine wg6_0 (q := 13) dX6_freePlace_10 ffX6_7 (by first | exact th_obj | exact th_rws | exact th_row (by omega) | exact th_leads | exact th_fresh | exact th_basis | assumption | exact (th_out (by omega)).trans (by assumption)) rfl ?_ -- places
      refine wp_icmp_ge (t := 58) (q := 16) dX6_freePlace_13 (by decide) rfl (fun hc1 => ?_) (fun hc1 => ?_)
      · rw [← he]
        refine wp_aload_n (i := 0) (q := 59) dX6_freePlace_58 rfl rfl rfl ?_
        refine wg6_0 (q := 62) dX6_freePlace_59 ffX6_7 (by first | exact th_obj | exact th_rws | exact th_row (by omega) | exact th_leads | exact th_fresh | exact th_basis | assumption | exact (th_out (by omega)).trans (by assumption)) rfl ?_ -- places
        refine wp_iconst (v := nI 1) (q := 63) dX6_freePlace_62 (by decide) rfl ?_
        refine wp_isub (q := 64) dX6_freePlace_63 rfl ?_
        rw [pk_sub hn1]
        refine wp_iret dX6_freePlace_64 rfl ?_
        exact ⟨rfl, rfl⟩
      · exact absurd ((nI_leI (by omega) (by omega)).mpr (by omega)) hc1
    | succ m ih =>
      intro c r f hc hr hf he
      rw [show fpF n k L s (m + 1) c r f = if r < k ∧ L r = c then fpF n k L s m (c + 1) (r + 1) f else if f = s then c else fpF n k L s m (c + 1) r (f + 1) from rfl] at he
      refine wp_iload (q := 9) dX6_freePlace_7 rfl rfl ?_
      refine wp_aload_n (i := 0) (q := 10) dX6_freePlace_9 rfl rfl rfl ?_
      refine wg6_0 (q := 13) dX6_freePlace_10 ffX6_7 (by first | exact th_obj | exact th_rws | exact th_row (by omega) | exact th_leads | exact th_fresh | exact th_basis | assumption | exact (th_out (by omega)).trans (by assumption)) rfl ?_ -- places
      refine wp_icmp_ge (t := 58) (q := 16) dX6_freePlace_13 (by decide) rfl (fun hc1 => ?_) (fun hc1 => ?_)
      · exact absurd ((nI_leI (by omega) (by omega)).mp hc1) (by omega)
      have K41 : ¬ (r < k ∧ L r = c) → wp l mX6_freePlace [] d 0 0 (rI (nI (frP n k L s)) (sz, th q n (k, L, R, F, B) G)) (sz, th q n (k, L, R, F, B) G) 41 [some (.ref q), some (.int (nI s)), some (.int (nI r)), some (.int (nI f)), some (.int (nI c))] [] := by
        intro hno
        rw [if_neg hno] at he
        refine wp_iload_n (i := 3) (q := 42) dX6_freePlace_41 rfl rfl rfl ?_
        refine wp_iload_n (i := 1) (q := 43) dX6_freePlace_42 rfl rfl rfl ?_
        refine wp_icmp_ne (t := 49) (q := 46) dX6_freePlace_43 (by decide) rfl (fun hfs => ?_) (fun hfs => ?_)
        · rw [if_neg (fun q => hfs (by rw [q]))] at he
          refine wp_iinc (v := _ + nI 1) (lv' := [_, _, some _, _, _]) (q := 52) dX6_freePlace_49 rfl rfl (by decide) rfl rfl ?_
          refine wp_iinc (v := _ + nI 1) (lv' := [_, _, _, some _, _]) (q := 55) dX6_freePlace_52 rfl rfl (by decide) rfl rfl ?_
          refine wp_goto (q := 7) dX6_freePlace_55 (by decide) ?_
          rw [nI_add, nI_add]
          exact ih (c + 1) r (f + 1) (by omega) (by omega) (by omega) he
        · rw [if_pos ((nI_eq (by omega) (by omega)).mp hfs)] at he
          rw [← he]
          refine wp_iload (q := 48) dX6_freePlace_46 rfl rfl ?_
          refine wp_iret dX6_freePlace_48 rfl ?_
          exact ⟨rfl, rfl⟩
      refine wp_iload_n (i := 2) (q := 17) dX6_freePlace_16 rfl rfl rfl ?_
      refine wp_aload_n (i := 0) (q := 18) dX6_freePlace_17 rfl rfl rfl ?_
      refine wg6_5 (q := 21) dX6_freePlace_18 ffX6_29 (by first | exact th_obj | exact th_rws | exact th_row (by omega) | exact th_leads | exact th_fresh | exact th_basis | assumption | exact (th_out (by omega)).trans (by assumption)) rfl ?_ -- rank
      refine wp_icmp_ge (t := 41) (q := 24) dX6_freePlace_21 (by decide) rfl (fun hrk => ?_) (fun hrk => ?_)
      · exact K41 (fun q => absurd ((nI_leI (by omega) (by omega)).mp hrk) (by omega))
      have hrk : r < k := by
        rcases Nat.lt_or_ge r k with q | q
        · exact q
        · exact absurd ((nI_leI (by omega) (by omega)).mpr q) hrk
      have hLr := hL r hrk
      refine wp_aload_n (i := 0) (q := 25) dX6_freePlace_24 rfl rfl rfl ?_
      refine wg6_2 (q := 28) dX6_freePlace_25 ffX6_18 (by first | exact th_obj | exact th_rws | exact th_row (by omega) | exact th_leads | exact th_fresh | exact th_basis | assumption | exact (th_out (by omega)).trans (by assumption)) rfl ?_ -- leads
      refine wp_iload_n (i := 2) (q := 29) dX6_freePlace_28 rfl rfl rfl ?_
      refine wq_iald (q := 30) dX6_freePlace_29 (by first | exact th_obj | exact th_rws | exact th_row (by omega) | exact th_leads | exact th_fresh | exact th_basis | assumption | exact (th_out (by omega)).trans (by assumption)) rfl (by first | omega | exact ⟨by omega, by omega⟩) rfl ?_
      refine wp_iload (q := 32) dX6_freePlace_30 rfl rfl ?_
      refine wp_icmp_ne (t := 41) (q := 35) dX6_freePlace_32 (by decide) rfl (fun hlc => ?_) (fun hlc => ?_)
      · exact K41 (fun q => hlc (by rw [q.2]))
      rw [if_pos ⟨hrk, (nI_eq (by omega) (by omega)).mp hlc⟩] at he
      refine wp_iinc (v := _ + nI 1) (lv' := [_, some _, _, _, _]) (q := 38) dX6_freePlace_35 rfl rfl (by decide) rfl rfl ?_
      refine wp_goto (q := 52) dX6_freePlace_38 (by decide) ?_
      refine wp_iinc (v := _ + nI 1) (lv' := [_, _, _, some _, _]) (q := 55) dX6_freePlace_52 rfl rfl (by decide) rfl rfl ?_
      refine wp_goto (q := 7) dX6_freePlace_55 (by decide) ?_
      rw [nI_add, nI_add]
      exact ih (c + 1) (r + 1) f (by omega) (by omega) (by omega) he
  exact P n 0 0 0 (by omega) (by omega) (by omega) rfl
theorem tX6_basisRow {s : Nat} (hd : 2 ≤ d) (hs : s < 2 ^ 30) (hk : k ≤ n) (hL : ∀ r, r < k → L r < n) (hn1 : 1 ≤ n) (hn : n < 2 ^ 30) : mt l mX6_basisRow d 0 0 [.ref q, .int (nI s)] (sz, th q n (k, L, R, F, B) G) (rR (.ref (q + (n + 4))) (sz, th q n (k, L, R, F, bsW n k L R B s) G)) := by
  have hp : frP n k L s < n := fpF_lt hn1 n 0 0 0 (by omega)
  refine mt_in (lv := [_, _, _, _, _, _, _, _]) (by decide) (Nat.le_of_ble_eq_true rfl) rfl ?_
  refine wp_aload_n (i := 0) (q := 1) dX6_basisRow_0 rfl rfl rfl ?_
  refine wp_iload_n (i := 1) (q := 2) dX6_basisRow_1 rfl rfl rfl ?_
  refine wp_Vi (μ' := mX6_freePlace) (ci := 6) (q := 5) (tX6_freePlace (d := d - 1) hs hk hL hn1 hn) dX6_basisRow_2 okX6_freePlace lkX6_54 (by first | exact th_obj | exact th_rws | exact th_row (by omega) | exact th_leads | exact th_fresh | exact th_basis | assumption | exact (th_out (by omega)).trans (by assumption)) rfl rfl rfl (Nat.le_of_ble_eq_true rfl) (by omega) rfl ?_
  unfold bsW
  generalize frP n k L s = p at hp
  refine wp_istore_n (i := 2) (lv' := [_, some _, _, _, _, _, _, _]) (q := 6) dX6_basisRow_5 rfl (by decide) rfl rfl ?_
  refine wp_lconst (v := 1) (q := 7) dX6_basisRow_6 (by decide) rfl ?_
  refine wp_lstore_n (i := 3) (lv' := [_, _, some _, _, _, _, _, _]) (q := 8) dX6_basisRow_7 rfl (by decide) rfl rfl ?_
  refine wp_iconst (v := nI 0) (q := 9) dX6_basisRow_8 (by decide) rfl ?_
  refine wp_istore (lv' := [_, _, _, _, _, _, _, _]) (q := 11) dX6_basisRow_9 (by decide) rfl rfl ?_
  have P74 : ∀ (sc : Int64), scF R L p k 0 1 = sc → ∀ m r (b : Nat → Int64) (y6 y7 : Option Value), r + m = k → baR R L p sc m r b = baR R L p sc k 0 (vp_updL (fun c => if c < n then 0 else B c) p sc) → wp l mX6_basisRow [] d 0 0 (rR (.ref (q + (n + 4))) (sz, th q n (k, L, R, F, baR R L p (scF R L p k 0 1) k 0 (vp_updL (fun c => if c < n then 0 else B c) p (scF R L p k 0 1))) G)) (sz, th q n (k, L, R, F, b) G) 74 [some (.ref q), some (.int (nI s)), some (.int (nI p)), some (.long sc), none, some (.int (nI r)), y6, y7] [] := by
    intro sc hsc m
    rw [hsc]
    induction m with
    | zero =>
      intro r b y6 y7 hr he
      refine wp_iload (q := 76) dX6_basisRow_74 rfl rfl ?_
      refine wp_aload_n (i := 0) (q := 77) dX6_basisRow_76 rfl rfl rfl ?_
      refine wg6_5 (q := 80) dX6_basisRow_77 ffX6_29 (by first | exact th_obj | exact th_rws | exact th_row (by omega) | exact th_leads | exact th_fresh | exact th_basis | assumption | exact (th_out (by omega)).trans (by assumption)) rfl ?_ -- rank
      refine wp_icmp_ge (t := 140) (q := 83) dX6_basisRow_80 (by decide) rfl (fun hc => ?_) (fun hc => ?_)
      · rw [← he]
        refine wp_aload_n (i := 0) (q := 141) dX6_basisRow_140 rfl rfl rfl ?_
        refine wg6_4 (q := 144) dX6_basisRow_141 ffX6_26 (by first | exact th_obj | exact th_rws | exact th_row (by omega) | exact th_leads | exact th_fresh | exact th_basis | assumption | exact (th_out (by omega)).trans (by assumption)) rfl ?_ -- basis
        refine wp_aret dX6_basisRow_144 rfl (by first | exact Or.inl ⟨_, rfl⟩ | exact Or.inr ⟨_, rfl⟩) (by first | exact Or.inl rfl | exact Or.inr ⟨_, rfl⟩) ?_
        exact ⟨rfl, rfl⟩
      · exact absurd ((nI_leI (by omega) (by omega)).mpr (by omega)) hc
    | succ m ih =>
      intro r b y6 y7 hr he
      rw [show baR R L p sc (m + 1) r b = baR R L p sc m (r + 1) (if R r (L r) = 0 then b else vp_updL b (L r) (-(R r p * sc / R r (L r)))) from rfl] at he
      have hLr := hL r (by omega)
      refine wp_iload (q := 76) dX6_basisRow_74 rfl rfl ?_
      refine wp_aload_n (i := 0) (q := 77) dX6_basisRow_76 rfl rfl rfl ?_
      refine wg6_5 (q := 80) dX6_basisRow_77 ffX6_29 (by first | exact th_obj | exact th_rws | exact th_row (by omega) | exact th_leads | exact th_fresh | exact th_basis | assumption | exact (th_out (by omega)).trans (by assumption)) rfl ?_ -- rank
      refine wp_icmp_ge (t := 140) (q := 83) dX6_basisRow_80 (by decide) rfl (fun hc => ?_) (fun hc => ?_)
      · exact absurd ((nI_leI (by omega) (by omega)).mp hc) (by omega)
      refine wp_aload_n (i := 0) (q := 84) dX6_basisRow_83 rfl rfl rfl ?_
      refine wg6_1 (q := 87) dX6_basisRow_84 ffX6_15 (by first | exact th_obj | exact th_rws | exact th_row (by omega) | exact th_leads | exact th_fresh | exact th_basis | assumption | exact (th_out (by omega)).trans (by assumption)) rfl ?_ -- rows
      refine wp_iload (q := 89) dX6_basisRow_87 rfl rfl ?_
      refine wq_aald (q := 90) dX6_basisRow_89 (by first | exact th_obj | exact th_rws | exact th_row (by omega) | exact th_leads | exact th_fresh | exact th_basis | assumption | exact (th_out (by omega)).trans (by assumption)) (by decide) rfl (by first | omega | exact ⟨by omega, by omega⟩) (by exact if_pos (by omega)) rfl ?_
      refine wp_aload_n (i := 0) (q := 91) dX6_basisRow_90 rfl rfl rfl ?_
      refine wg6_2 (q := 94) dX6_basisRow_91 ffX6_18 (by first | exact th_obj | exact th_rws | exact th_row (by omega) | exact th_leads | exact th_fresh | exact th_basis | assumption | exact (th_out (by omega)).trans (by assumption)) rfl ?_ -- leads
      refine wp_iload (q := 96) dX6_basisRow_94 rfl rfl ?_
      refine wq_iald (q := 97) dX6_basisRow_96 (by first | exact th_obj | exact th_rws | exact th_row (by omega) | exact th_leads | exact th_fresh | exact th_basis | assumption | exact (th_out (by omega)).trans (by assumption)) rfl (by first | omega | exact ⟨by omega, by omega⟩) rfl ?_
      refine wq_lald (q := 98) dX6_basisRow_97 (by first | exact th_obj | exact th_rws | exact th_row (by omega) | exact th_leads | exact th_fresh | exact th_basis | assumption | exact (th_out (by omega)).trans (by assumption)) rfl (by first | omega | exact ⟨by omega, by omega⟩) rfl ?_
      refine wp_lstore (lv' := [_, _, _, _, _, some _, _, _]) (q := 100) dX6_basisRow_98 (by decide) rfl rfl ?_
      refine wp_lload (q := 102) dX6_basisRow_100 rfl rfl ?_
      refine wp_lconst (v := 0) (q := 103) dX6_basisRow_102 (by decide) rfl ?_
      refine wp_lcmp (q := 104) dX6_basisRow_103 rfl ?_
      refine wp_if_eq (t := 134) (q := 107) dX6_basisRow_104 (by decide) rfl (fun hz => ?_) (fun hz => ?_)
      · rw [if_pos (lg_cmp0.mp hz)] at he
        refine wp_iinc (v := _ + nI 1) (lv' := [_, _, _, _, _, _, _, _]) (q := 137) dX6_basisRow_134 rfl rfl (by decide) rfl rfl ?_
        refine wp_goto (q := 74) dX6_basisRow_137 (by decide) ?_
        rw [nI_add]
        exact ih (r + 1) b _ _ (by omega) he
      · have hz : ¬ R r (L r) = 0 := fun q => hz (lg_cmp0.mpr q)
        rw [if_neg hz] at he
        refine wp_aload_n (i := 0) (q := 108) dX6_basisRow_107 rfl rfl rfl ?_
        refine wg6_4 (q := 111) dX6_basisRow_108 ffX6_26 (by first | exact th_obj | exact th_rws | exact th_row (by omega) | exact th_leads | exact th_fresh | exact th_basis | assumption | exact (th_out (by omega)).trans (by assumption)) rfl ?_ -- basis
        refine wp_aload_n (i := 0) (q := 112) dX6_basisRow_111 rfl rfl rfl ?_
        refine wg6_2 (q := 115) dX6_basisRow_112 ffX6_18 (by first | exact th_obj | exact th_rws | exact th_row (by omega) | exact th_leads | exact th_fresh | exact th_basis | assumption | exact (th_out (by omega)).trans (by assumption)) rfl ?_ -- leads
        refine wp_iload (q := 117) dX6_basisRow_115 rfl rfl ?_
        refine wq_iald (q := 118) dX6_basisRow_117 (by first | exact th_obj | exact th_rws | exact th_row (by omega) | exact th_leads | exact th_fresh | exact th_basis | assumption | exact (th_out (by omega)).trans (by assumption)) rfl (by first | omega | exact ⟨by omega, by omega⟩) rfl ?_
        refine wp_aload_n (i := 0) (q := 119) dX6_basisRow_118 rfl rfl rfl ?_
        refine wg6_1 (q := 122) dX6_basisRow_119 ffX6_15 (by first | exact th_obj | exact th_rws | exact th_row (by omega) | exact th_leads | exact th_fresh | exact th_basis | assumption | exact (th_out (by omega)).trans (by assumption)) rfl ?_ -- rows
        refine wp_iload (q := 124) dX6_basisRow_122 rfl rfl ?_
        refine wq_aald (q := 125) dX6_basisRow_124 (by first | exact th_obj | exact th_rws | exact th_row (by omega) | exact th_leads | exact th_fresh | exact th_basis | assumption | exact (th_out (by omega)).trans (by assumption)) (by decide) rfl (by first | omega | exact ⟨by omega, by omega⟩) (by exact if_pos (by omega)) rfl ?_
        refine wp_iload_n (i := 2) (q := 126) dX6_basisRow_125 rfl rfl rfl ?_
        refine wq_lald (q := 127) dX6_basisRow_126 (by first | exact th_obj | exact th_rws | exact th_row (by omega) | exact th_leads | exact th_fresh | exact th_basis | assumption | exact (th_out (by omega)).trans (by assumption)) rfl (by first | omega | exact ⟨by omega, by omega⟩) rfl ?_
        refine wp_lload_n (i := 3) (q := 128) dX6_basisRow_127 rfl rfl rfl ?_
        refine wp_lmul (q := 129) dX6_basisRow_128 rfl ?_
        refine wp_lload (q := 131) dX6_basisRow_129 rfl rfl ?_
        refine wp_ldiv (q := 132) dX6_basisRow_131 (by first | assumption | decide) rfl ?_
        refine wp_lneg (q := 133) dX6_basisRow_132 rfl ?_
        refine wq_last (q := 134) dX6_basisRow_133 (by first | exact th_obj | exact th_rws | exact th_row (by omega) | exact th_leads | exact th_fresh | exact th_basis | assumption | exact (th_out (by omega)).trans (by assumption)) rfl (by first | omega | exact ⟨by omega, by omega⟩) (by first | exact th_sR (by omega) | exact th_sF | exact th_sB | exact th_sK | exact th_sL) rfl ?_
        refine wp_iinc (v := _ + nI 1) (lv' := [_, _, _, _, _, _, _, _]) (q := 137) dX6_basisRow_134 rfl rfl (by decide) rfl rfl ?_
        refine wp_goto (q := 74) dX6_basisRow_137 (by decide) ?_
        rw [nI_add]
        exact ih (r + 1) _ _ _ (by omega) he
  have P41 : ∀ (sc : Int64), scF R L p k 0 1 = sc → ∀ m c (y6 y7 : Option Value), c + m = n → wp l mX6_basisRow [] d 0 0 (rR (.ref (q + (n + 4))) (sz, th q n (k, L, R, F, baR R L p (scF R L p k 0 1) k 0 (vp_updL (fun c => if c < n then 0 else B c) p (scF R L p k 0 1))) G)) (sz, th q n (k, L, R, F, (fun e => if e < c then 0 else B e)) G) 41 [some (.ref q), some (.int (nI s)), some (.int (nI p)), some (.long sc), none, some (.int (nI c)), y6, y7] [] := by
    intro sc hsc m
    induction m with
    | zero =>
      intro c y6 y7 hc
      have hc : c = n := by omega
      subst hc
      refine wp_iload (q := 43) dX6_basisRow_41 rfl rfl ?_
      refine wp_aload_n (i := 0) (q := 44) dX6_basisRow_43 rfl rfl rfl ?_
      refine wg6_0 (q := 47) dX6_basisRow_44 ffX6_7 (by first | exact th_obj | exact th_rws | exact th_row (by omega) | exact th_leads | exact th_fresh | exact th_basis | assumption | exact (th_out (by omega)).trans (by assumption)) rfl ?_ -- places
      refine wp_icmp_ge (t := 64) (q := 50) dX6_basisRow_47 (by decide) rfl (fun hc1 => ?_) (fun hc1 => ?_)
      · refine wp_aload_n (i := 0) (q := 65) dX6_basisRow_64 rfl rfl rfl ?_
        refine wg6_4 (q := 68) dX6_basisRow_65 ffX6_26 (by first | exact th_obj | exact th_rws | exact th_row (by omega) | exact th_leads | exact th_fresh | exact th_basis | assumption | exact (th_out (by omega)).trans (by assumption)) rfl ?_ -- basis
        refine wp_iload_n (i := 2) (q := 69) dX6_basisRow_68 rfl rfl rfl ?_
        refine wp_lload_n (i := 3) (q := 70) dX6_basisRow_69 rfl rfl rfl ?_
        refine wq_last (q := 71) dX6_basisRow_70 (by first | exact th_obj | exact th_rws | exact th_row (by omega) | exact th_leads | exact th_fresh | exact th_basis | assumption | exact (th_out (by omega)).trans (by assumption)) rfl (by first | omega | exact ⟨by omega, by omega⟩) (by first | exact th_sR (by omega) | exact th_sF | exact th_sB | exact th_sK | exact th_sL) rfl ?_
        refine wp_iconst (v := nI 0) (q := 72) dX6_basisRow_71 (by decide) rfl ?_
        refine wp_istore (lv' := [_, _, _, _, _, _, _, _]) (q := 74) dX6_basisRow_72 (by decide) rfl rfl ?_
        exact P74 sc hsc k 0 _ _ _ (by omega) rfl
      · exact absurd ((nI_leI (by omega) (by omega)).mpr (by omega)) hc1
    | succ m ih =>
      intro c y6 y7 hc
      refine wp_iload (q := 43) dX6_basisRow_41 rfl rfl ?_
      refine wp_aload_n (i := 0) (q := 44) dX6_basisRow_43 rfl rfl rfl ?_
      refine wg6_0 (q := 47) dX6_basisRow_44 ffX6_7 (by first | exact th_obj | exact th_rws | exact th_row (by omega) | exact th_leads | exact th_fresh | exact th_basis | assumption | exact (th_out (by omega)).trans (by assumption)) rfl ?_ -- places
      refine wp_icmp_ge (t := 64) (q := 50) dX6_basisRow_47 (by decide) rfl (fun hc1 => ?_) (fun hc1 => ?_)
      · exact absurd ((nI_leI (by omega) (by omega)).mp hc1) (by omega)
      refine wp_aload_n (i := 0) (q := 51) dX6_basisRow_50 rfl rfl rfl ?_
      refine wg6_4 (q := 54) dX6_basisRow_51 ffX6_26 (by first | exact th_obj | exact th_rws | exact th_row (by omega) | exact th_leads | exact th_fresh | exact th_basis | assumption | exact (th_out (by omega)).trans (by assumption)) rfl ?_ -- basis
      refine wp_iload (q := 56) dX6_basisRow_54 rfl rfl ?_
      refine wp_lconst (v := 0) (q := 57) dX6_basisRow_56 (by decide) rfl ?_
      refine wq_last (q := 58) dX6_basisRow_57 (by first | exact th_obj | exact th_rws | exact th_row (by omega) | exact th_leads | exact th_fresh | exact th_basis | assumption | exact (th_out (by omega)).trans (by assumption)) rfl (by first | omega | exact ⟨by omega, by omega⟩) (by first | exact th_sR (by omega) | exact th_sF | exact th_sB | exact th_sK | exact th_sL) rfl ?_
      refine wp_iinc (v := _ + nI 1) (lv' := [_, _, _, _, _, _, _, _]) (q := 61) dX6_basisRow_58 rfl rfl (by decide) rfl rfl ?_
      refine wp_goto (q := 41) dX6_basisRow_61 (by decide) ?_
      rw [nI_add]
      rw [show vp_updL (fun e => if e < c then 0 else B e) c 0 = (fun e => if e < c + 1 then 0 else B e) by
        funext i
        unfold vp_updL
        dsimp only
        by_cases w : i = c
        · rw [if_pos w, if_pos (by omega)]
        · rw [if_neg w]
          by_cases w2 : i < c
          · rw [if_pos w2, if_pos (by omega)]
          · rw [if_neg w2, if_neg (by omega)]]
      exact ih (c + 1) _ _ (by omega)
  have P11 : ∀ m r (z : Int64) (y6 y7 : Option Value), r + m = k → scF R L p m r z = scF R L p k 0 1 → wp l mX6_basisRow [] d 0 0 (rR (.ref (q + (n + 4))) (sz, th q n (k, L, R, F, baR R L p (scF R L p k 0 1) k 0 (vp_updL (fun c => if c < n then 0 else B c) p (scF R L p k 0 1))) G)) (sz, th q n (k, L, R, F, B) G) 11 [some (.ref q), some (.int (nI s)), some (.int (nI p)), some (.long z), none, some (.int (nI r)), y6, y7] [] := by
    intro m
    induction m with
    | zero =>
      intro r z y6 y7 hr he
      rw [show scF R L p 0 r z = z from rfl] at he
      refine wp_iload (q := 13) dX6_basisRow_11 rfl rfl ?_
      refine wp_aload_n (i := 0) (q := 14) dX6_basisRow_13 rfl rfl rfl ?_
      refine wg6_5 (q := 17) dX6_basisRow_14 ffX6_29 (by first | exact th_obj | exact th_rws | exact th_row (by omega) | exact th_leads | exact th_fresh | exact th_basis | assumption | exact (th_out (by omega)).trans (by assumption)) rfl ?_ -- rank
      refine wp_icmp_ge (t := 38) (q := 20) dX6_basisRow_17 (by decide) rfl (fun hc => ?_) (fun hc => ?_)
      · refine wp_iconst (v := nI 0) (q := 39) dX6_basisRow_38 (by decide) rfl ?_
        refine wp_istore (lv' := [_, _, _, _, _, _, _, _]) (q := 41) dX6_basisRow_39 (by decide) rfl rfl ?_
        have := P41 z he.symm n 0 y6 y7 (by omega)
        rw [show (fun e => if e < 0 then 0 else B e) = B by funext e; rw [if_neg (by omega)]] at this
        exact this
      · exact absurd ((nI_leI (by omega) (by omega)).mpr (by omega)) hc
    | succ m ih =>
      intro r z y6 y7 hr he
      rw [show scF R L p (m + 1) r z = scF R L p m (r + 1) (cmL z (slD R L r p)) from rfl] at he
      refine wp_iload (q := 13) dX6_basisRow_11 rfl rfl ?_
      refine wp_aload_n (i := 0) (q := 14) dX6_basisRow_13 rfl rfl rfl ?_
      refine wg6_5 (q := 17) dX6_basisRow_14 ffX6_29 (by first | exact th_obj | exact th_rws | exact th_row (by omega) | exact th_leads | exact th_fresh | exact th_basis | assumption | exact (th_out (by omega)).trans (by assumption)) rfl ?_ -- rank
      refine wp_icmp_ge (t := 38) (q := 20) dX6_basisRow_17 (by decide) rfl (fun hc => ?_) (fun hc => ?_)
      · exact absurd ((nI_leI (by omega) (by omega)).mp hc) (by omega)
      refine wp_lload_n (i := 3) (q := 21) dX6_basisRow_20 rfl rfl rfl ?_
      refine wp_aload_n (i := 0) (q := 22) dX6_basisRow_21 rfl rfl rfl ?_
      refine wp_iload (q := 24) dX6_basisRow_22 rfl rfl ?_
      refine wp_iload_n (i := 2) (q := 25) dX6_basisRow_24 rfl rfl rfl ?_
      refine wp_Vl (μ' := mX6_shortLead) (ci := 6) (q := 28) (tX6_shortLead (d := d - 1) (by omega) (by omega) hp (hL r (by omega)) hn) dX6_basisRow_25 okX6_shortLead lkX6_57 (by first | exact th_obj | exact th_rws | exact th_row (by omega) | exact th_leads | exact th_fresh | exact th_basis | assumption | exact (th_out (by omega)).trans (by assumption)) rfl rfl rfl (Nat.le_of_ble_eq_true rfl) (by omega) rfl ?_
      refine wp_Sl (μ' := mX6_commonMultiple) (q := 31) (tX6_commonMultiple (d := d - 1) (by omega)) dX6_basisRow_28 okX6_commonMultiple lkX6_61 rfl rfl (Nat.le_of_ble_eq_true rfl) (by omega) rfl ?_
      refine wp_lstore_n (i := 3) (lv' := [_, _, some _, _, _, _, _, _]) (q := 32) dX6_basisRow_31 rfl (by decide) rfl rfl ?_
      refine wp_iinc (v := _ + nI 1) (lv' := [_, _, _, _, _, _, _, _]) (q := 35) dX6_basisRow_32 rfl rfl (by decide) rfl rfl ?_
      refine wp_goto (q := 11) dX6_basisRow_35 (by decide) ?_
      rw [nI_add]
      exact ih (r + 1) _ _ _ (by omega) he
  exact P11 k 0 1 _ _ (by omega) rfl
theorem tX6_isZeroOnAll {w mm : Nat} {row : Nat → Int64} (hk : k ≤ n) (hn : n < 2 ^ 30) (hw : G w = some (lA mm row)) (hwo : w < q ∨ q + (n + 5) ≤ w) (hm : n ≤ mm) (hm2 : mm < 2 ^ 30) : mt l mX6_isZeroOnAll d 0 0 [.ref q, .ref w] (sz, th q n (k, L, R, F, B) G) (rI (b2 ((List.range' 0 k).all (fun r => decide (ztF row (R r) n 0 0 = 0)))) (sz, th q n (k, L, R, F, B) G)) := by
  generalize hP : (fun r => decide (ztF row (R r) n 0 0 = 0)) = P
  refine mt_in (lv := [_, _, _, _, _, _]) (by decide) (Nat.le_of_ble_eq_true rfl) rfl ?_
  refine wp_iconst (v := nI 0) (q := 1) dX6_isZeroOnAll_0 (by decide) rfl ?_
  refine wp_istore_n (i := 2) (lv' := [_, some _, _, _, _, _]) (q := 2) dX6_isZeroOnAll_1 rfl (by decide) rfl rfl ?_
  have P2 : ∀ m r (y3 y4 y5 : Option Value), r + m = k → (List.range' r (k - r)).all P = (List.range' 0 k).all P → wp l mX6_isZeroOnAll [] d 0 0 (rI (b2 ((List.range' 0 k).all P)) (sz, th q n (k, L, R, F, B) G)) (sz, th q n (k, L, R, F, B) G) 2 [some (.ref q), some (.ref w), some (.int (nI r)), y3, y4, y5] [] := by
    intro m
    induction m with
    | zero =>
      intro r y3 y4 y5 hr he
      refine wp_iload_n (i := 2) (q := 3) dX6_isZeroOnAll_2 rfl rfl rfl ?_
      refine wp_aload_n (i := 0) (q := 4) dX6_isZeroOnAll_3 rfl rfl rfl ?_
      refine wg6_5 (q := 7) dX6_isZeroOnAll_4 ffX6_29 (by first | exact th_obj | exact th_rws | exact th_row (by omega) | exact th_leads | exact th_fresh | exact th_basis | assumption | exact (th_out (by omega)).trans (by assumption)) rfl ?_ -- rank
      refine wp_icmp_ge (t := 61) (q := 10) dX6_isZeroOnAll_7 (by decide) rfl (fun hc => ?_) (fun hc => ?_)
      · rw [← he, all_end (by omega)]
        refine wp_iconst (v := nI 1) (q := 62) dX6_isZeroOnAll_61 (by decide) rfl ?_
        refine wp_zret dX6_isZeroOnAll_62 rfl (by first | exact Or.inl rfl | exact Or.inr rfl | exact b2_01 _ | assumption) ?_
        exact ⟨rfl, rfl⟩
      · exact absurd ((nI_leI (by omega) (by omega)).mpr (by omega)) hc
    | succ m ih =>
      intro r y3 y4 y5 hr he
      rw [all_step (by omega)] at he
      refine wp_iload_n (i := 2) (q := 3) dX6_isZeroOnAll_2 rfl rfl rfl ?_
      refine wp_aload_n (i := 0) (q := 4) dX6_isZeroOnAll_3 rfl rfl rfl ?_
      refine wg6_5 (q := 7) dX6_isZeroOnAll_4 ffX6_29 (by first | exact th_obj | exact th_rws | exact th_row (by omega) | exact th_leads | exact th_fresh | exact th_basis | assumption | exact (th_out (by omega)).trans (by assumption)) rfl ?_ -- rank
      refine wp_icmp_ge (t := 61) (q := 10) dX6_isZeroOnAll_7 (by decide) rfl (fun hc => ?_) (fun hc => ?_)
      · exact absurd ((nI_leI (by omega) (by omega)).mp hc) (by omega)
      refine wp_lconst (v := 0) (q := 11) dX6_isZeroOnAll_10 (by decide) rfl ?_
      refine wp_lstore_n (i := 3) (lv' := [_, _, some _, _, _, _]) (q := 12) dX6_isZeroOnAll_11 rfl (by decide) rfl rfl ?_
      refine wp_iconst (v := nI 0) (q := 13) dX6_isZeroOnAll_12 (by decide) rfl ?_
      refine wp_istore (lv' := [_, _, _, _, _, _]) (q := 15) dX6_isZeroOnAll_13 (by decide) rfl rfl ?_
      have P15 : ∀ mm c (z : Int64), c + mm = n → ztF row (R r) mm c z = ztF row (R r) n 0 0 → wp l mX6_isZeroOnAll [] d 0 0 (rI (b2 ((List.range' 0 k).all P)) (sz, th q n (k, L, R, F, B) G)) (sz, th q n (k, L, R, F, B) G) 15 [some (.ref q), some (.ref w), some (.int (nI r)), some (.long z), none, some (.int (nI c))] [] := by
        intro mm
        induction mm with
        | zero =>
          intro c z hcc hz
          rw [show ztF row (R r) 0 c z = z from rfl] at hz
          refine wp_iload (q := 17) dX6_isZeroOnAll_15 rfl rfl ?_
          refine wp_aload_n (i := 0) (q := 18) dX6_isZeroOnAll_17 rfl rfl rfl ?_
          refine wg6_0 (q := 21) dX6_isZeroOnAll_18 ffX6_7 (by first | exact th_obj | exact th_rws | exact th_row (by omega) | exact th_leads | exact th_fresh | exact th_basis | assumption | exact (th_out (by omega)).trans (by assumption)) rfl ?_ -- places
          refine wp_icmp_ge (t := 47) (q := 24) dX6_isZeroOnAll_21 (by decide) rfl (fun hc1 => ?_) (fun hc1 => ?_)
          · have hPr : P r = decide (z = 0) := by rw [← hP, hz]
            refine wp_lload_n (i := 3) (q := 48) dX6_isZeroOnAll_47 rfl rfl rfl ?_
            refine wp_lconst (v := 0) (q := 49) dX6_isZeroOnAll_48 (by decide) rfl ?_
            refine wp_lcmp (q := 50) dX6_isZeroOnAll_49 rfl ?_
            refine wp_if_eq (t := 55) (q := 53) dX6_isZeroOnAll_50 (by decide) rfl (fun h0 => ?_) (fun h0 => ?_)
            · rw [hPr, decide_eq_true (lg_cmp0.mp h0), Bool.true_and] at he
              refine wp_iinc (v := _ + nI 1) (lv' := [_, some _, _, _, _, _]) (q := 58) dX6_isZeroOnAll_55 rfl rfl (by decide) rfl rfl ?_
              refine wp_goto (q := 2) dX6_isZeroOnAll_58 (by decide) ?_
              rw [nI_add]
              exact ih (r + 1) _ _ _ (by omega) he
            · rw [hPr, decide_eq_false (fun q => h0 (lg_cmp0.mpr q)), Bool.false_and] at he
              rw [← he]
              refine wp_iconst (v := nI 0) (q := 54) dX6_isZeroOnAll_53 (by decide) rfl ?_
              refine wp_zret dX6_isZeroOnAll_54 rfl (by first | exact Or.inl rfl | exact Or.inr rfl | exact b2_01 _ | assumption) ?_
              exact ⟨rfl, rfl⟩
          · exact absurd ((nI_leI (by omega) (by omega)).mpr (by omega)) hc1
        | succ mm ihc =>
          intro c z hcc hz
          rw [show ztF row (R r) (mm + 1) c z = ztF row (R r) mm (c + 1) (z + row c * R r c) from rfl] at hz
          refine wp_iload (q := 17) dX6_isZeroOnAll_15 rfl rfl ?_
          refine wp_aload_n (i := 0) (q := 18) dX6_isZeroOnAll_17 rfl rfl rfl ?_
          refine wg6_0 (q := 21) dX6_isZeroOnAll_18 ffX6_7 (by first | exact th_obj | exact th_rws | exact th_row (by omega) | exact th_leads | exact th_fresh | exact th_basis | assumption | exact (th_out (by omega)).trans (by assumption)) rfl ?_ -- places
          refine wp_icmp_ge (t := 47) (q := 24) dX6_isZeroOnAll_21 (by decide) rfl (fun hc1 => ?_) (fun hc1 => ?_)
          · exact absurd ((nI_leI (by omega) (by omega)).mp hc1) (by omega)
          refine wp_lload_n (i := 3) (q := 25) dX6_isZeroOnAll_24 rfl rfl rfl ?_
          refine wp_aload_n (i := 1) (q := 26) dX6_isZeroOnAll_25 rfl rfl rfl ?_
          refine wp_iload (q := 28) dX6_isZeroOnAll_26 rfl rfl ?_
          refine wq_lald (q := 29) dX6_isZeroOnAll_28 (by first | exact th_obj | exact th_rws | exact th_row (by omega) | exact th_leads | exact th_fresh | exact th_basis | assumption | exact (th_out (by omega)).trans (by assumption)) rfl (by first | omega | exact ⟨by omega, by omega⟩) rfl ?_
          refine wp_aload_n (i := 0) (q := 30) dX6_isZeroOnAll_29 rfl rfl rfl ?_
          refine wg6_1 (q := 33) dX6_isZeroOnAll_30 ffX6_15 (by first | exact th_obj | exact th_rws | exact th_row (by omega) | exact th_leads | exact th_fresh | exact th_basis | assumption | exact (th_out (by omega)).trans (by assumption)) rfl ?_ -- rows
          refine wp_iload_n (i := 2) (q := 34) dX6_isZeroOnAll_33 rfl rfl rfl ?_
          refine wq_aald (q := 35) dX6_isZeroOnAll_34 (by first | exact th_obj | exact th_rws | exact th_row (by omega) | exact th_leads | exact th_fresh | exact th_basis | assumption | exact (th_out (by omega)).trans (by assumption)) (by decide) rfl (by first | omega | exact ⟨by omega, by omega⟩) (by exact if_pos (by omega)) rfl ?_
          refine wp_iload (q := 37) dX6_isZeroOnAll_35 rfl rfl ?_
          refine wq_lald (q := 38) dX6_isZeroOnAll_37 (by first | exact th_obj | exact th_rws | exact th_row (by omega) | exact th_leads | exact th_fresh | exact th_basis | assumption | exact (th_out (by omega)).trans (by assumption)) rfl (by first | omega | exact ⟨by omega, by omega⟩) rfl ?_
          refine wp_lmul (q := 39) dX6_isZeroOnAll_38 rfl ?_
          refine wp_ladd (q := 40) dX6_isZeroOnAll_39 rfl ?_
          refine wp_lstore_n (i := 3) (lv' := [_, _, some _, _, _, _]) (q := 41) dX6_isZeroOnAll_40 rfl (by decide) rfl rfl ?_
          refine wp_iinc (v := _ + nI 1) (lv' := [_, _, _, _, _, _]) (q := 44) dX6_isZeroOnAll_41 rfl rfl (by decide) rfl rfl ?_
          refine wp_goto (q := 15) dX6_isZeroOnAll_44 (by decide) ?_
          rw [nI_add]
          exact ihc (c + 1) _ (by omega) hz
      exact P15 n 0 0 (by omega) rfl
  exact P2 k 0 _ _ _ (by omega) rfl
end C5
