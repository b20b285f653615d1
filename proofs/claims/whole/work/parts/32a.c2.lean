/-! THE CLASS: Table, its cells -/
/-- a stretch of cells laid over a heap -/
def ov (q n : Nat) (c : Nat → aE) (G : Nat → Option aE) : Nat → Option aE := fun a => if q ≤ a ∧ a < q + n then some (c (a - q)) else G a
section OV
variable {q n sz o a : Nat} {c c' : Nat → aE} {G : Nat → Option aE}
theorem ov_in (h : o < n) : ov q n c G (q + o) = some (c o) := by
  unfold ov
  rw [if_pos ⟨by omega, by omega⟩, show q + o - q = o by omega]
theorem ov_at {e : aE} (h : ∃ o, o < n ∧ a = q + o ∧ c o = e) : ov q n c G a = some e := by
  obtain ⟨o, h1, rfl, rfl⟩ := h
  exact ov_in h1
theorem ov_out (h : a < q ∨ q + n ≤ a) : ov q n c G a = G a := by
  unfold ov
  rw [if_neg (by omega)]
theorem ov_self (h : ∀ o, o < n → G (q + o) = some (c o)) : ov q n c G = G := by
  funext a
  unfold ov
  by_cases w : q ≤ a ∧ a < q + n
  · rw [if_pos w, ← h (a - q) (by omega), show q + (a - q) = a by omega]
  · rw [if_neg w]
theorem ov_ov : ov q n c (ov q n c' G) = ov q n c G := by
  funext a
  unfold ov
  by_cases w : q ≤ a ∧ a < q + n
  · rw [if_pos w, if_pos w]
  · rw [if_neg w, if_neg w, if_neg w]
theorem ov_cg (h : ∀ o, o < n → c o = c' o) : ov q n c G = ov q n c' G := by
  funext a
  unfold ov
  by_cases w : q ≤ a ∧ a < q + n
  · rw [if_pos w, if_pos w, h _ (by omega)]
  · rw [if_neg w, if_neg w]
theorem ov_set {e : aE} (ha : ∃ o, o < n ∧ a = q + o ∧ c' o = e ∧ ∀ o', o' < n → o' ≠ o → c' o' = c o') : hset (sz, ov q n c G) a e = (sz, ov q n c' G) := by
  obtain ⟨o, h1, rfl, rfl, h2⟩ := ha
  unfold hset
  congr 1
  funext x
  unfold ov
  by_cases w : x = q + o
  · subst w
    rw [if_pos rfl, if_pos ⟨by omega, by omega⟩, show q + o - q = o by omega]
  · rw [if_neg w]
    by_cases w2 : q ≤ x ∧ x < q + n
    · show (if q ≤ x ∧ x < q + n then some (c (x - q)) else G x) = _
      rw [if_pos w2, if_pos w2, h2 _ (by omega) (by omega)]
    · show (if q ≤ x ∧ x < q + n then some (c (x - q)) else G x) = _
      rw [if_neg w2, if_neg w2]
end OV
/-- what a Table holds: rank, leads, rows, the fresh row, the basis row -/
abbrev TS : Type := Nat × (Nat → Nat) × (Nat → Nat → Int64) × (Nat → Int64) × (Nat → Int64)
abbrev iA (n : Nat) (f : Nat → Int32) : aE := .inl (0, n, .inl f)
abbrev lA (n : Nat) (f : Nat → Int64) : aE := .inl (1, n, .inr (.inl f))
abbrev zA (n : Nat) (f : Nat → Int32) : aE := .inl (2, n, .inl f)
abbrev rA (kd n : Nat) (f : Nat → Option Nat) : aE := .inl (kd, n, .inr (.inr (.inr (.inr f))))
/-- the rows of an array of arrays: n of them from address a -/
def rfs (n a : Nat) : Nat → Option Nat := fun i => if i < n then some (a + i) else none
def tC (q n : Nat) (T : TS) (o : Nat) : aE :=
  if o = 0 then .inr (6, FD6 (nI n) (q + 1) (q + (n + 2)) (q + (n + 3)) (q + (n + 4)) (nI T.1))
  else if o = 1 then rA 4 n (rfs n (q + 2))
  else if o < n + 2 then lA n (T.2.2.1 (o - 2))
  else if o = n + 2 then iA n (fun r => nI (T.2.1 r))
  else if o = n + 3 then lA n T.2.2.2.1
  else lA n T.2.2.2.2
def th (q n : Nat) (T : TS) (G : Nat → Option aE) : Nat → Option aE := ov q (n + 5) (tC q n T) G
section TH
variable {q n sz i a : Nat} {k : Nat} {L : Nat → Nat} {R : Nat → Nat → Int64} {F B : Nat → Int64} {G : Nat → Option aE}
theorem th_obj : th q n (k, L, R, F, B) G q = some (.inr (6, FD6 (nI n) (q + 1) (q + (n + 2)) (q + (n + 3)) (q + (n + 4)) (nI k))) := ov_at ⟨0, by omega, rfl, rfl⟩
theorem th_rws : th q n (k, L, R, F, B) G (q + 1) = some (rA 4 n (rfs n (q + 2))) := ov_at ⟨1, by omega, rfl, rfl⟩
theorem th_row (h : i < n) : th q n (k, L, R, F, B) G (q + 2 + i) = some (lA n (R i)) := ov_at ⟨2 + i, by omega, by omega, by unfold tC; dsimp only; rw [if_neg (by omega), if_neg (by omega), if_pos (by omega), show 2 + i - 2 = i by omega]⟩
theorem th_leads : th q n (k, L, R, F, B) G (q + (n + 2)) = some (iA n (fun r => nI (L r))) := ov_at ⟨n + 2, by omega, by omega, by unfold tC; dsimp only; rw [if_neg (by omega), if_neg (by omega), if_neg (by omega), if_pos (by omega)]⟩
theorem th_fresh : th q n (k, L, R, F, B) G (q + (n + 3)) = some (lA n F) := ov_at ⟨n + 3, by omega, by omega, by unfold tC; dsimp only; rw [if_neg (by omega), if_neg (by omega), if_neg (by omega), if_neg (by omega), if_pos (by omega)]⟩
theorem th_basis : th q n (k, L, R, F, B) G (q + (n + 4)) = some (lA n B) := ov_at ⟨n + 4, by omega, by omega, by unfold tC; dsimp only; rw [if_neg (by omega), if_neg (by omega), if_neg (by omega), if_neg (by omega), if_neg (by omega)]⟩
theorem th_out (h : a < q ∨ q + (n + 5) ≤ a) : th q n (k, L, R, F, B) G a = G a := ov_out h
theorem th_sR {f : Nat → Int64} (h : i < n) : hset (sz, th q n (k, L, R, F, B) G) (q + 2 + i) (lA n f) = (sz, th q n (k, L, upR R i f, F, B) G) := by
  refine ov_set ⟨2 + i, by omega, by omega, ?_, fun o h1 h2 => ?_⟩
  · unfold tC
    dsimp only
    rw [if_neg (by omega), if_neg (by omega), if_pos (by omega), show 2 + i - 2 = i by omega, upR_at]
  · unfold tC
    dsimp only
    split
    · rfl
    · split
      · rfl
      · split
        · rw [upR_ne (by omega)]
        · rfl
theorem th_sL {f : Nat → Nat} : hset (sz, th q n (k, L, R, F, B) G) (q + (n + 2)) (iA n (fun r => nI (f r))) = (sz, th q n (k, f, R, F, B) G) := by
  refine ov_set ⟨n + 2, by omega, by omega, ?_, fun o h1 h2 => ?_⟩
  · unfold tC
    dsimp only
    rw [if_neg (by omega), if_neg (by omega), if_neg (by omega), if_pos (by omega)]
  · unfold tC
    dsimp only
    split
    · rfl
    · split
      · rfl
      · split
        · rfl
        · rfl
theorem th_sF {f : Nat → Int64} : hset (sz, th q n (k, L, R, F, B) G) (q + (n + 3)) (lA n f) = (sz, th q n (k, L, R, f, B) G) := by
  refine ov_set ⟨n + 3, by omega, by omega, ?_, fun o h1 h2 => ?_⟩
  · unfold tC
    dsimp only
    rw [if_neg (by omega), if_neg (by omega), if_neg (by omega), if_neg (by omega), if_pos (by omega)]
  · unfold tC
    dsimp only
    rw [if_neg h2, if_neg h2]
theorem th_sB {f : Nat → Int64} : hset (sz, th q n (k, L, R, F, B) G) (q + (n + 4)) (lA n f) = (sz, th q n (k, L, R, F, f) G) := by
  refine ov_set ⟨n + 4, by omega, by omega, ?_, fun o h1 h2 => ?_⟩
  · unfold tC
    dsimp only
    rw [if_neg (by omega), if_neg (by omega), if_neg (by omega), if_neg (by omega), if_neg (by omega)]
  · unfold tC
    dsimp only
    split
    · rfl
    · split
      · rfl
      · split
        · rfl
        · split
          · rfl
          · rw [if_pos (by omega), if_pos (by omega)]
theorem th_sK {x : Nat} : hset (sz, th q n (k, L, R, F, B) G) q (.inr (6, FD6 (nI n) (q + 1) (q + (n + 2)) (q + (n + 3)) (q + (n + 4)) (nI x))) = (sz, th q n (x, L, R, F, B) G) := by
  refine ov_set ⟨0, by omega, by omega, rfl, fun o h1 h2 => ?_⟩
  unfold tC
  dsimp only
  rw [if_neg h2, if_neg h2]
end TH
/-- the first number of a row that is not 0 -/
def ldF (f : Nat → Int64) : Nat → Nat → Nat
  | 0, c => c
  | m + 1, c => if f c = 0 then ldF f m (c + 1) else c
theorem ldF_le {f : Nat → Int64} : ∀ m c, c ≤ ldF f m c ∧ ldF f m c ≤ c + m
  | 0, c => ⟨Nat.le_refl _, Nat.le_refl _⟩
  | m + 1, c => by
    unfold ldF
    have := ldF_le (f := f) m (c + 1)
    split <;> omega
/-- the common divisor of a row -/
def gcT (f : Nat → Int64) : Nat → Nat → Int64 → Int64
  | 0, _, g => g
  | m + 1, c, g => gcT f m (c + 1) (gcD g (f c))
def shT (n : Nat) (f : Nat → Int64) : Nat → Int64 := if 1 < gcT f n 0 0 then (fun c => if c < n then f c / gcT f n 0 0 else f c) else f
def clP (n : Nat) (f g : Nat → Int64) (p : Nat) : Nat → Int64 := if f p = 0 then f else shT n (fun c => if c < n then f c * g p - g c * f p else f c)
section C2
variable {l : Launch} {d sz q n a b : Nat} {T : TS} {G : Nat → Option aE} {h : aH} {r1 r2 r3 r4 : Nat} {x5 : Int32} {f g : Nat → Int64}
theorem tX6_leadOf (ho : h.2 q = some (.inr (6, FD6 (nI n) r1 r2 r3 r4 x5))) (ha : h.2 a = some (lA n f)) (hn : n < 2 ^ 30) : mt l mX6_leadOf d 0 0 [.ref q, .ref a] h (rI (nI (ldF f n 0)) h) := by
  refine mt_in (lv := [_, _, _]) (by decide) (Nat.le_of_ble_eq_true rfl) rfl ?_
  refine wp_iconst (v := nI 0) (q := 1) dX6_leadOf_0 (by decide) rfl ?_
  refine wp_istore_n (i := 2) (lv' := [_, some _, _]) (q := 2) dX6_leadOf_1 rfl (by decide) rfl rfl ?_
  have P : ∀ m c, c + m = n → ldF f m c = ldF f n 0 → wp l mX6_leadOf [] d 0 0 (rI (nI (ldF f n 0)) h) h 2 [some (.ref q), some (.ref a), some (.int (nI c))] [] := by
    intro m
    induction m with
    | zero =>
      intro c hc he
      refine wp_iload_n (i := 2) (q := 3) dX6_leadOf_2 rfl rfl rfl ?_
      refine wp_aload_n (i := 0) (q := 4) dX6_leadOf_3 rfl rfl rfl ?_
      refine wg6_0 (q := 7) dX6_leadOf_4 ffX6_7 (by first | assumption | exact hset_at | exact (hset_ne (by omega)).trans (by assumption)) rfl ?_ -- places
      refine wp_icmp_ge (t := 24) (q := 10) dX6_leadOf_7 (by decide) rfl (fun hc1 => ?_) (fun hc1 => ?_)
      · rw [← he]
        refine wp_iload_n (i := 2) (q := 25) dX6_leadOf_24 rfl rfl rfl ?_
        refine wp_iret dX6_leadOf_25 rfl ?_
        exact ⟨rfl, rfl⟩
      · exact absurd ((nI_leI (by omega) (by omega)).mpr (by omega)) hc1
    | succ m ih =>
      intro c hc he
      rw [show ldF f (m + 1) c = if f c = 0 then ldF f m (c + 1) else c from rfl] at he
      refine wp_iload_n (i := 2) (q := 3) dX6_leadOf_2 rfl rfl rfl ?_
      refine wp_aload_n (i := 0) (q := 4) dX6_leadOf_3 rfl rfl rfl ?_
      refine wg6_0 (q := 7) dX6_leadOf_4 ffX6_7 (by first | assumption | exact hset_at | exact (hset_ne (by omega)).trans (by assumption)) rfl ?_ -- places
      refine wp_icmp_ge (t := 24) (q := 10) dX6_leadOf_7 (by decide) rfl (fun hc1 => ?_) (fun hc1 => ?_)
      · exact absurd ((nI_leI (by omega) (by omega)).mp hc1) (by omega)
      refine wp_aload_n (i := 1) (q := 11) dX6_leadOf_10 rfl rfl rfl ?_
      refine wp_iload_n (i := 2) (q := 12) dX6_leadOf_11 rfl rfl rfl ?_
      refine wq_lald (q := 13) dX6_leadOf_12 (by first | assumption | exact hset_at | exact (hset_ne (by omega)).trans (by assumption)) rfl (by first | omega | exact ⟨by omega, by omega⟩) rfl ?_
      refine wp_lconst (v := 0) (q := 14) dX6_leadOf_13 (by decide) rfl ?_
      refine wp_lcmp (q := 15) dX6_leadOf_14 rfl ?_
      refine wp_if_ne (t := 24) (q := 18) dX6_leadOf_15 (by decide) rfl (fun hz => ?_) (fun hz => ?_)
      · rw [if_neg (fun q => hz (lg_cmp0.mpr q))] at he
        rw [← he]
        refine wp_iload_n (i := 2) (q := 25) dX6_leadOf_24 rfl rfl rfl ?_
        refine wp_iret dX6_leadOf_25 rfl ?_
        exact ⟨rfl, rfl⟩
      · rw [if_pos (lg_cmp0.mp hz)] at he
        refine wp_iinc (v := _ + nI 1) (lv' := [_, some _, _]) (q := 21) dX6_leadOf_18 rfl rfl (by decide) rfl rfl ?_
        refine wp_goto (q := 2) dX6_leadOf_21 (by decide) ?_
        rw [nI_add]
        exact ih (c + 1) (by omega) he
  exact P n 0 (by omega) rfl
theorem tX6_shorten (hd : 1 ≤ d) (ho : h.2 q = some (.inr (6, FD6 (nI n) r1 r2 r3 r4 x5))) (ha : h.2 a = some (lA n f)) (hqa : q ≠ a) (hn : n < 2 ^ 30) : mt l mX6_shorten d 0 0 [.ref q, .ref a] h (rV (hset h a (lA n (shT n f)))) := by
  refine mt_in (lv := [_, _, _, _, _]) (by decide) (Nat.le_of_ble_eq_true rfl) rfl ?_
  refine wp_lconst (v := 0) (q := 1) dX6_shorten_0 (by decide) rfl ?_
  refine wp_lstore_n (i := 2) (lv' := [_, some _, _, _, _]) (q := 2) dX6_shorten_1 rfl (by decide) rfl rfl ?_
  refine wp_iconst (v := nI 0) (q := 3) dX6_shorten_2 (by decide) rfl ?_
  refine wp_istore (lv' := [_, _, _, _, _]) (q := 5) dX6_shorten_3 (by decide) rfl rfl ?_
  have P38 : ∀ G m c, G = gcT f n 0 0 → 1 < G → c + m = n → wp l mX6_shorten [] d 0 0 (rV (hset h a (lA n (shT n f)))) (hset h a (lA n (fun k => if k < c then f k / G else f k))) 38 [some (.ref q), some (.ref a), some (.long G), none, some (.int (nI c))] [] := by
    intro G m
    induction m with
    | zero =>
      intro c hG h1 hc
      refine wp_iload (q := 40) dX6_shorten_38 rfl rfl ?_
      refine wp_aload_n (i := 0) (q := 41) dX6_shorten_40 rfl rfl rfl ?_
      refine wg6_0 (q := 44) dX6_shorten_41 ffX6_7 (by first | assumption | exact hset_at | exact (hset_ne (by omega)).trans (by assumption)) rfl ?_ -- places
      refine wp_icmp_ge (t := 61) (q := 47) dX6_shorten_44 (by decide) rfl (fun hc1 => ?_) (fun hc1 => ?_)
      · rw [show (fun k => if k < c then f k / G else f k) = shT n f by unfold shT; rw [if_pos (hG ▸ h1), hG, show c = n by omega]]
        refine wp_vret dX6_shorten_61 rfl ?_
        exact ⟨rfl, rfl⟩
      · exact absurd ((nI_leI (by omega) (by omega)).mpr (by omega)) hc1
    | succ m ih =>
      intro c hG h1 hc
      refine wp_iload (q := 40) dX6_shorten_38 rfl rfl ?_
      refine wp_aload_n (i := 0) (q := 41) dX6_shorten_40 rfl rfl rfl ?_
      refine wg6_0 (q := 44) dX6_shorten_41 ffX6_7 (by first | assumption | exact hset_at | exact (hset_ne (by omega)).trans (by assumption)) rfl ?_ -- places
      refine wp_icmp_ge (t := 61) (q := 47) dX6_shorten_44 (by decide) rfl (fun hc1 => ?_) (fun hc1 => ?_)
      · exact absurd ((nI_leI (by omega) (by omega)).mp hc1) (by omega)
      have hnz : ¬ G = 0 := fun q => by rw [q] at h1; exact absurd h1 (by decide)
      refine wp_aload_n (i := 1) (q := 48) dX6_shorten_47 rfl rfl rfl ?_
      refine wp_iload (q := 50) dX6_shorten_48 rfl rfl ?_
      refine wp_dup2 (q := 51) dX6_shorten_50 rfl rfl rfl ?_
      refine wq_lald (q := 52) dX6_shorten_51 (by first | assumption | exact hset_at | exact (hset_ne (by omega)).trans (by assumption)) rfl (by first | omega | exact ⟨by omega, by omega⟩) rfl ?_
      refine wp_lload_n (i := 2) (q := 53) dX6_shorten_52 rfl rfl rfl ?_
      refine wp_ldiv (q := 54) dX6_shorten_53 (by first | assumption | decide) rfl ?_
      refine wq_last (q := 55) dX6_shorten_54 (by first | assumption | exact hset_at | exact (hset_ne (by omega)).trans (by assumption)) rfl (by first | omega | exact ⟨by omega, by omega⟩) (by exact rfl) rfl ?_
      refine wp_iinc (v := _ + nI 1) (lv' := [_, _, _, _, _]) (q := 58) dX6_shorten_55 rfl rfl (by decide) rfl rfl ?_
      refine wp_goto (q := 38) dX6_shorten_58 (by decide) ?_
      rw [nI_add, hset_hset]
      rw [show vp_updL (fun k => if k < c then f k / G else f k) c ((if c < c then f c / G else f c) / G) = (fun k => if k < c + 1 then f k / G else f k) by
        funext i
        unfold vp_updL
        dsimp only
        by_cases w : i = c
        · rw [if_pos w, if_neg (by omega), if_pos (by omega), w]
        · rw [if_neg w]
          by_cases w2 : i < c
          · rw [if_pos w2, if_pos (by omega)]
          · rw [if_neg w2, if_neg (by omega)]]
      exact ih (c + 1) hG h1 (by omega)
  have P5 : ∀ m c (gg : Int64), c + m = n → gcT f m c gg = gcT f n 0 0 → wp l mX6_shorten [] d 0 0 (rV (hset h a (lA n (shT n f)))) h 5 [some (.ref q), some (.ref a), some (.long gg), none, some (.int (nI c))] [] := by
    intro m
    induction m with
    | zero =>
      intro c gg hc he
      rw [show gcT f 0 c gg = gg from rfl] at he
      refine wp_iload (q := 7) dX6_shorten_5 rfl rfl ?_
      refine wp_aload_n (i := 0) (q := 8) dX6_shorten_7 rfl rfl rfl ?_
      refine wg6_0 (q := 11) dX6_shorten_8 ffX6_7 (by first | assumption | exact hset_at | exact (hset_ne (by omega)).trans (by assumption)) rfl ?_ -- places
      refine wp_icmp_ge (t := 29) (q := 14) dX6_shorten_11 (by decide) rfl (fun hc1 => ?_) (fun hc1 => ?_)
      · refine wp_lload_n (i := 2) (q := 30) dX6_shorten_29 rfl rfl rfl ?_
        refine wp_lconst (v := 1) (q := 31) dX6_shorten_30 (by decide) rfl ?_
        refine wp_lcmp (q := 32) dX6_shorten_31 rfl ?_
        refine wp_if_le (t := 61) (q := 35) dX6_shorten_32 (by decide) rfl (fun hle => ?_) (fun hle => ?_)
        · rw [show shT n f = f by unfold shT; rw [if_neg (by rw [← he]; exact Int64.not_lt.mpr ((lg_cmp_le _ _).mp hle))], hset_self ha]
          refine wp_vret dX6_shorten_61 rfl ?_
          exact ⟨rfl, rfl⟩
        · refine wp_iconst (v := nI 0) (q := 36) dX6_shorten_35 (by decide) rfl ?_
          refine wp_istore (lv' := [_, _, _, _, _]) (q := 38) dX6_shorten_36 (by decide) rfl rfl ?_
          have := P38 gg n 0 he (Int64.not_le.mp (fun q => hle ((lg_cmp_le _ _).mpr q))) (by omega)
          rw [show (fun k => if k < 0 then f k / gg else f k) = f by funext k; rw [if_neg (by omega)], hset_self ha] at this
          exact this
      · exact absurd ((nI_leI (by omega) (by omega)).mpr (by omega)) hc1
    | succ m ih =>
      intro c gg hc he
      rw [show gcT f (m + 1) c gg = gcT f m (c + 1) (gcD gg (f c)) from rfl] at he
      refine wp_iload (q := 7) dX6_shorten_5 rfl rfl ?_
      refine wp_aload_n (i := 0) (q := 8) dX6_shorten_7 rfl rfl rfl ?_
      refine wg6_0 (q := 11) dX6_shorten_8 ffX6_7 (by first | assumption | exact hset_at | exact (hset_ne (by omega)).trans (by assumption)) rfl ?_ -- places
      refine wp_icmp_ge (t := 29) (q := 14) dX6_shorten_11 (by decide) rfl (fun hc1 => ?_) (fun hc1 => ?_)
      · exact absurd ((nI_leI (by omega) (by omega)).mp hc1) (by omega)
      refine wp_lload_n (i := 2) (q := 15) dX6_shorten_14 rfl rfl rfl ?_
      refine wp_aload_n (i := 1) (q := 16) dX6_shorten_15 rfl rfl rfl ?_
      refine wp_iload (q := 18) dX6_shorten_16 rfl rfl ?_
      refine wq_lald (q := 19) dX6_shorten_18 (by first | assumption | exact hset_at | exact (hset_ne (by omega)).trans (by assumption)) rfl (by first | omega | exact ⟨by omega, by omega⟩) rfl ?_
      refine wp_SNl (μ' := mX7_divisorOf) (q := 22) (tX7_divisorOf (d := d - 1)) dX6_shorten_19 okX7_divisorOf lkX6_48 rfl rfl (Nat.le_of_ble_eq_true rfl) (by omega) rfl ?_
      refine wp_lstore_n (i := 2) (lv' := [_, some _, _, _, _]) (q := 23) dX6_shorten_22 rfl (by decide) rfl rfl ?_
      refine wp_iinc (v := _ + nI 1) (lv' := [_, _, _, _, _]) (q := 26) dX6_shorten_23 rfl rfl (by decide) rfl rfl ?_
      refine wp_goto (q := 5) dX6_shorten_26 (by decide) ?_
      rw [nI_add]
      exact ih (c + 1) _ (by omega) he
  exact P5 n 0 0 (by omega) rfl
theorem tX6_clearPlace {p : Nat} (hd : 2 ≤ d) (ho : h.2 q = some (.inr (6, FD6 (nI n) r1 r2 r3 r4 x5))) (ha : h.2 a = some (lA n f)) (hb : h.2 b = some (lA n g)) (hqa : q ≠ a) (hab : a ≠ b) (hp : p < n) (hn : n < 2 ^ 30) : mt l mX6_clearPlace d 0 0 [.ref q, .ref a, .ref b, .int (nI p)] h (rV (hset h a (lA n (clP n f g p)))) := by
  refine mt_in (lv := [_, _, _, _, _, _, _, _, _]) (by decide) (Nat.le_of_ble_eq_true rfl) rfl ?_
  refine wp_aload_n (i := 1) (q := 1) dX6_clearPlace_0 rfl rfl rfl ?_
  refine wp_iload_n (i := 3) (q := 2) dX6_clearPlace_1 rfl rfl rfl ?_
  refine wq_lald (q := 3) dX6_clearPlace_2 (by first | assumption | exact hset_at | exact (hset_ne (by omega)).trans (by assumption)) rfl (by first | omega | exact ⟨by omega, by omega⟩) rfl ?_
  refine wp_lstore (lv' := [_, _, _, some _, _, _, _, _, _]) (q := 5) dX6_clearPlace_3 (by decide) rfl rfl ?_
  refine wp_aload_n (i := 2) (q := 6) dX6_clearPlace_5 rfl rfl rfl ?_
  refine wp_iload_n (i := 3) (q := 7) dX6_clearPlace_6 rfl rfl rfl ?_
  refine wq_lald (q := 8) dX6_clearPlace_7 (by first | assumption | exact hset_at | exact (hset_ne (by omega)).trans (by assumption)) rfl (by first | omega | exact ⟨by omega, by omega⟩) rfl ?_
  refine wp_lstore (lv' := [_, _, _, _, _, _, _, _, _]) (q := 10) dX6_clearPlace_8 (by decide) rfl rfl ?_
  refine wp_lload (q := 12) dX6_clearPlace_10 rfl rfl ?_
  refine wp_lconst (v := 0) (q := 13) dX6_clearPlace_12 (by decide) rfl ?_
  refine wp_lcmp (q := 14) dX6_clearPlace_13 rfl ?_
  unfold clP
  refine wp_if_ne (t := 18) (q := 17) dX6_clearPlace_14 (by decide) rfl (fun hz => ?_) (fun hz => ?_)
  · rw [if_neg (fun q => hz (lg_cmp0.mpr q))]
    refine wp_iconst (v := nI 0) (q := 19) dX6_clearPlace_18 (by decide) rfl ?_
    refine wp_istore (lv' := [_, _, _, _, _, _, _, _, _]) (q := 21) dX6_clearPlace_19 (by decide) rfl rfl ?_
    have P : ∀ m c, c + m = n → wp l mX6_clearPlace [] d 0 0 (rV (hset h a (lA n (shT n (fun c => if c < n then f c * g p - g c * f p else f c))))) (hset h a (lA n (fun k => if k < c then f k * g p - g k * f p else f k))) 21 [some (.ref q), some (.ref a), some (.ref b), some (.int (nI p)), some (.long (f p)), none, some (.long (g p)), none, some (.int (nI c))] [] := by
      intro m
      induction m with
      | zero =>
        intro c hc
        have hc : c = n := by omega
        subst hc
        refine wp_iload (q := 23) dX6_clearPlace_21 rfl rfl ?_
        refine wp_aload_n (i := 0) (q := 24) dX6_clearPlace_23 rfl rfl rfl ?_
        refine wg6_0 (q := 27) dX6_clearPlace_24 ffX6_7 (by first | assumption | exact hset_at | exact (hset_ne (by omega)).trans (by assumption)) rfl ?_ -- places
        refine wp_icmp_ge (t := 55) (q := 30) dX6_clearPlace_27 (by decide) rfl (fun hc1 => ?_) (fun hc1 => ?_)
        · refine wp_aload_n (i := 0) (q := 56) dX6_clearPlace_55 rfl rfl rfl ?_
          refine wp_aload_n (i := 1) (q := 57) dX6_clearPlace_56 rfl rfl rfl ?_
          refine wp_Vv (μ' := mX6_shorten) (ci := 6) (q := 60) (tX6_shorten (d := d - 1) (by omega) ((hset_ne (by omega)).trans ho) hset_at hqa hn) dX6_clearPlace_57 okX6_shorten lkX6_44 (by first | assumption | exact hset_at | exact (hset_ne (by omega)).trans (by assumption)) rfl rfl rfl (Nat.le_of_ble_eq_true rfl) (by omega) rfl ?_
          rw [hset_hset]
          refine wp_vret dX6_clearPlace_60 rfl ?_
          exact ⟨rfl, rfl⟩
        · exact absurd ((nI_leI (by omega) (by omega)).mpr (by omega)) hc1
      | succ m ih =>
        intro c hc
        refine wp_iload (q := 23) dX6_clearPlace_21 rfl rfl ?_
        refine wp_aload_n (i := 0) (q := 24) dX6_clearPlace_23 rfl rfl rfl ?_
        refine wg6_0 (q := 27) dX6_clearPlace_24 ffX6_7 (by first | assumption | exact hset_at | exact (hset_ne (by omega)).trans (by assumption)) rfl ?_ -- places
        refine wp_icmp_ge (t := 55) (q := 30) dX6_clearPlace_27 (by decide) rfl (fun hc1 => ?_) (fun hc1 => ?_)
        · exact absurd ((nI_leI (by omega) (by omega)).mp hc1) (by omega)
        refine wp_aload_n (i := 1) (q := 31) dX6_clearPlace_30 rfl rfl rfl ?_
        refine wp_iload (q := 33) dX6_clearPlace_31 rfl rfl ?_
        refine wp_aload_n (i := 1) (q := 34) dX6_clearPlace_33 rfl rfl rfl ?_
        refine wp_iload (q := 36) dX6_clearPlace_34 rfl rfl ?_
        refine wq_lald (q := 37) dX6_clearPlace_36 (by first | assumption | exact hset_at | exact (hset_ne (by omega)).trans (by assumption)) rfl (by first | omega | exact ⟨by omega, by omega⟩) rfl ?_
        refine wp_lload (q := 39) dX6_clearPlace_37 rfl rfl ?_
        refine wp_lmul (q := 40) dX6_clearPlace_39 rfl ?_
        refine wp_aload_n (i := 2) (q := 41) dX6_clearPlace_40 rfl rfl rfl ?_
        refine wp_iload (q := 43) dX6_clearPlace_41 rfl rfl ?_
        refine wq_lald (q := 44) dX6_clearPlace_43 (by first | assumption | exact hset_at | exact (hset_ne (by omega)).trans (by assumption)) rfl (by first | omega | exact ⟨by omega, by omega⟩) rfl ?_
        refine wp_lload (q := 46) dX6_clearPlace_44 rfl rfl ?_
        refine wp_lmul (q := 47) dX6_clearPlace_46 rfl ?_
        refine wp_lsub (q := 48) dX6_clearPlace_47 rfl ?_
        refine wq_last (q := 49) dX6_clearPlace_48 (by first | assumption | exact hset_at | exact (hset_ne (by omega)).trans (by assumption)) rfl (by first | omega | exact ⟨by omega, by omega⟩) (by exact rfl) rfl ?_
        refine wp_iinc (v := _ + nI 1) (lv' := [_, _, _, _, _, _, _, _, _]) (q := 52) dX6_clearPlace_49 rfl rfl (by decide) rfl rfl ?_
        refine wp_goto (q := 21) dX6_clearPlace_52 (by decide) ?_
        rw [nI_add, hset_hset]
        rw [show vp_updL (fun k => if k < c then f k * g p - g k * f p else f k) c ((if c < c then f c * g p - g c * f p else f c) * g p - g c * f p) = (fun k => if k < c + 1 then f k * g p - g k * f p else f k) by
          funext i
          unfold vp_updL
          dsimp only
          by_cases w : i = c
          · rw [if_pos w, if_neg (by omega), if_pos (by omega), w]
          · rw [if_neg w]
            by_cases w2 : i < c
            · rw [if_pos w2, if_pos (by omega)]
            · rw [if_neg w2, if_neg (by omega)]]
        exact ih (c + 1) (by omega)
    have := P n 0 (by omega)
    rw [show (fun k => if k < 0 then f k * g p - g k * f p else f k) = f by funext k; rw [if_neg (by omega)], hset_self ha] at this
    exact this
  · rw [if_pos (lg_cmp0.mp hz), hset_self ha]
    refine wp_vret dX6_clearPlace_17 rfl ?_
    exact ⟨rfl, rfl⟩
end C2
