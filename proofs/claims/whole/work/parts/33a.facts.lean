/-! THE CLASS: Facts, its cells -/
/-- what is kept of one variable: first, last, least, greatest, fell, step, modulus, unlike, few, orders -/
abbrev VS : Type := Int32 × Int32 × Int32 × Int32 × Bool × Int64 × Nat × Nat × (Nat → Int32) × (Nat → Int32)
def vF (v : VS) : Int32 := v.1
def sF (v : VS) (x : Int32) : VS := (x, v.2)
def vL (v : VS) : Int32 := v.2.1
def sL (v : VS) (x : Int32) : VS := (v.1, x, v.2.2)
def vLe (v : VS) : Int32 := v.2.2.1
def sLe (v : VS) (x : Int32) : VS := (v.1, v.2.1, x, v.2.2.2)
def vGr (v : VS) : Int32 := v.2.2.2.1
def sGr (v : VS) (x : Int32) : VS := (v.1, v.2.1, v.2.2.1, x, v.2.2.2.2)
def vFe (v : VS) : Bool := v.2.2.2.2.1
def sFe (v : VS) (x : Bool) : VS := (v.1, v.2.1, v.2.2.1, v.2.2.2.1, x, v.2.2.2.2.2)
def vSt (v : VS) : Int64 := v.2.2.2.2.2.1
def sSt (v : VS) (x : Int64) : VS := (v.1, v.2.1, v.2.2.1, v.2.2.2.1, v.2.2.2.2.1, x, v.2.2.2.2.2.2)
def vMo (v : VS) : Nat := v.2.2.2.2.2.2.1
def sMo (v : VS) (x : Nat) : VS := (v.1, v.2.1, v.2.2.1, v.2.2.2.1, v.2.2.2.2.1, v.2.2.2.2.2.1, x, v.2.2.2.2.2.2.2)
def vUn (v : VS) : Nat := v.2.2.2.2.2.2.2.1
def sUn (v : VS) (x : Nat) : VS := (v.1, v.2.1, v.2.2.1, v.2.2.2.1, v.2.2.2.2.1, v.2.2.2.2.2.1, v.2.2.2.2.2.2.1, x, v.2.2.2.2.2.2.2.2)
def vFw (v : VS) : (Nat → Int32) := v.2.2.2.2.2.2.2.2.1
def sFw (v : VS) (x : (Nat → Int32)) : VS := (v.1, v.2.1, v.2.2.1, v.2.2.2.1, v.2.2.2.2.1, v.2.2.2.2.2.1, v.2.2.2.2.2.2.1, v.2.2.2.2.2.2.2.1, x, v.2.2.2.2.2.2.2.2.2)
def vOr (v : VS) : (Nat → Int32) := v.2.2.2.2.2.2.2.2.2
def sOr (v : VS) (x : (Nat → Int32)) : VS := (v.1, v.2.1, v.2.2.1, v.2.2.2.1, v.2.2.2.2.1, v.2.2.2.2.2.1, v.2.2.2.2.2.2.1, v.2.2.2.2.2.2.2.1, v.2.2.2.2.2.2.2.2.1, x)
abbrev FS : Type := Nat × TS × (Nat → VS)
def fC (q k : Nat) (S : FS) (o : Nat) : aE :=
  if o = 0 then .inr (1, FD1 (nI k) (q + 1) (nI S.1) (q + (k + 7)) (q + (k + 8)) (q + (k + 9)) (q + (k + 10)) (q + (k + 11)) (q + (k + 12)) (q + (k + 13)) (q + (k + 14)) (q + (k + 15)) (q + (2 * k + 16)))
  else if o < k + 7 then tC (q + 1) (k + 1) S.2.1 (o - 1)
  else if o = k + 7 then iA k (fun i => vF (S.2.2 i))
  else if o = k + 8 then iA k (fun i => vL (S.2.2 i))
  else if o = k + 9 then iA k (fun i => vLe (S.2.2 i))
  else if o = k + 10 then iA k (fun i => vGr (S.2.2 i))
  else if o = k + 11 then zA k (fun i => b2 (vFe (S.2.2 i)))
  else if o = k + 12 then lA k (fun i => vSt (S.2.2 i))
  else if o = k + 13 then iA k (fun i => nI (vMo (S.2.2 i)))
  else if o = k + 14 then iA k (fun i => nI (vUn (S.2.2 i)))
  else if o = k + 15 then rA 3 k (rfs k (q + (k + 16)))
  else if o < 2 * k + 16 then iA 3 (vFw (S.2.2 (o - (k + 16))))
  else if o = 2 * k + 16 then rA 3 k (rfs k (q + (2 * k + 17)))
  else iA k (vOr (S.2.2 (o - (2 * k + 17))))
def fh (q k : Nat) (S : FS) (G : Nat → Option aE) : Nat → Option aE := ov q (3 * k + 17) (fC q k S) G
def upG {α : Type} (V : Nat → α) (j : Nat) (w : α) : Nat → α := fun i => if i = j then w else V i
theorem upG_at {α : Type} {V : Nat → α} {j : Nat} {w : α} : upG V j w j = w := by simp [upG]
theorem upG_ne {α : Type} {V : Nat → α} {j i : Nat} {w : α} (h : i ≠ j) : upG V j w i = V i := by simp [upG, h]
theorem upG_upG {α : Type} {V : Nat → α} {j : Nat} {w w' : α} : upG (upG V j w) j w' = upG V j w' := by
  funext i
  by_cases e : i = j
  · subst e; rw [upG_at, upG_at]
  · rw [upG_ne e, upG_ne e, upG_ne e]
theorem upG_self {α : Type} {V : Nat → α} {j : Nat} : upG V j (V j) = V := by
  funext i
  by_cases e : i = j
  · subst e; rw [upG_at]
  · rw [upG_ne e]
section FH
variable {q k sz i j a c : Nat} {T : TS} {V : Nat → VS} {G : Nat → Option aE}
theorem upV {α : Type} (g : VS → α) {w : VS} (h : g w = g (V j)) : (fun i => g (upG V j w i)) = fun i => g (V i) := by
  funext i
  by_cases e : i = j
  · subst e; rw [upG_at]; exact h
  · rw [upG_ne e]
theorem upP {α : Type} (g : VS → α) {w : VS} (h : g w = g (V j)) : g (upG V j w i) = g (V i) := congrFun (upV g h) i
theorem fh_obj : fh q k (c, T, V) G q = some (.inr (1, FD1 (nI k) (q + 1) (nI c) (q + (k + 7)) (q + (k + 8)) (q + (k + 9)) (q + (k + 10)) (q + (k + 11)) (q + (k + 12)) (q + (k + 13)) (q + (k + 14)) (q + (k + 15)) (q + (2 * k + 16)))) := ov_at ⟨0, by omega, rfl, rfl⟩
theorem fh_F : fh q k (c, T, V) G (q + (k + 7)) = some (iA k (fun i => vF (V i))) := ov_at ⟨k + 7, by omega, by omega, by unfold fC; dsimp only; rw [if_neg (by omega), if_neg (by omega), if_pos (by omega)]⟩
theorem fh_L : fh q k (c, T, V) G (q + (k + 8)) = some (iA k (fun i => vL (V i))) := ov_at ⟨k + 8, by omega, by omega, by unfold fC; dsimp only; rw [if_neg (by omega), if_neg (by omega), if_neg (by omega), if_pos (by omega)]⟩
theorem fh_Le : fh q k (c, T, V) G (q + (k + 9)) = some (iA k (fun i => vLe (V i))) := ov_at ⟨k + 9, by omega, by omega, by unfold fC; dsimp only; rw [if_neg (by omega), if_neg (by omega), if_neg (by omega), if_neg (by omega), if_pos (by omega)]⟩
theorem fh_Gr : fh q k (c, T, V) G (q + (k + 10)) = some (iA k (fun i => vGr (V i))) := ov_at ⟨k + 10, by omega, by omega, by unfold fC; dsimp only; rw [if_neg (by omega), if_neg (by omega), if_neg (by omega), if_neg (by omega), if_neg (by omega), if_pos (by omega)]⟩
theorem fh_Fe : fh q k (c, T, V) G (q + (k + 11)) = some (zA k (fun i => b2 (vFe (V i)))) := ov_at ⟨k + 11, by omega, by omega, by unfold fC; dsimp only; rw [if_neg (by omega), if_neg (by omega), if_neg (by omega), if_neg (by omega), if_neg (by omega), if_neg (by omega), if_pos (by omega)]⟩
theorem fh_St : fh q k (c, T, V) G (q + (k + 12)) = some (lA k (fun i => vSt (V i))) := ov_at ⟨k + 12, by omega, by omega, by unfold fC; dsimp only; rw [if_neg (by omega), if_neg (by omega), if_neg (by omega), if_neg (by omega), if_neg (by omega), if_neg (by omega), if_neg (by omega), if_pos (by omega)]⟩
theorem fh_Mo : fh q k (c, T, V) G (q + (k + 13)) = some (iA k (fun i => nI (vMo (V i)))) := ov_at ⟨k + 13, by omega, by omega, by unfold fC; dsimp only; rw [if_neg (by omega), if_neg (by omega), if_neg (by omega), if_neg (by omega), if_neg (by omega), if_neg (by omega), if_neg (by omega), if_neg (by omega), if_pos (by omega)]⟩
theorem fh_Un : fh q k (c, T, V) G (q + (k + 14)) = some (iA k (fun i => nI (vUn (V i)))) := ov_at ⟨k + 14, by omega, by omega, by unfold fC; dsimp only; rw [if_neg (by omega), if_neg (by omega), if_neg (by omega), if_neg (by omega), if_neg (by omega), if_neg (by omega), if_neg (by omega), if_neg (by omega), if_neg (by omega), if_pos (by omega)]⟩
theorem fh_few : fh q k (c, T, V) G (q + (k + 15)) = some (rA 3 k (rfs k (q + (k + 16)))) := ov_at ⟨k + 15, by omega, by omega, by unfold fC; dsimp only; rw [if_neg (by omega), if_neg (by omega), if_neg (by omega), if_neg (by omega), if_neg (by omega), if_neg (by omega), if_neg (by omega), if_neg (by omega), if_neg (by omega), if_neg (by omega), if_pos (by omega)]⟩
theorem fh_Fw (h : i < k) : fh q k (c, T, V) G (q + (k + 16) + i) = some (iA 3 (vFw (V i))) := ov_at ⟨k + 16 + i, by omega, by omega, by unfold fC; dsimp only; rw [if_neg (by omega), if_neg (by omega), if_neg (by omega), if_neg (by omega), if_neg (by omega), if_neg (by omega), if_neg (by omega), if_neg (by omega), if_neg (by omega), if_neg (by omega), if_neg (by omega), if_pos (by omega)]; rw [show k + 16 + i - (k + 16) = i by omega]⟩
theorem fh_ord : fh q k (c, T, V) G (q + (2 * k + 16)) = some (rA 3 k (rfs k (q + (2 * k + 17)))) := ov_at ⟨2 * k + 16, by omega, by omega, by unfold fC; dsimp only; rw [if_neg (by omega), if_neg (by omega), if_neg (by omega), if_neg (by omega), if_neg (by omega), if_neg (by omega), if_neg (by omega), if_neg (by omega), if_neg (by omega), if_neg (by omega), if_neg (by omega), if_neg (by omega), if_pos (by omega)]⟩
theorem fh_Or (h : i < k) : fh q k (c, T, V) G (q + (2 * k + 17) + i) = some (iA k (vOr (V i))) := ov_at ⟨2 * k + 17 + i, by omega, by omega, by unfold fC; dsimp only; rw [if_neg (by omega), if_neg (by omega), if_neg (by omega), if_neg (by omega), if_neg (by omega), if_neg (by omega), if_neg (by omega), if_neg (by omega), if_neg (by omega), if_neg (by omega), if_neg (by omega), if_neg (by omega), if_neg (by omega)]; rw [show 2 * k + 17 + i - (2 * k + 17) = i by omega]⟩
theorem fh_out (h : a < q ∨ q + (3 * k + 17) ≤ a) : fh q k (c, T, V) G a = G a := ov_out h
theorem fh_sF {x : Int32} : hset (sz, fh q k (c, T, V) G) (q + (k + 7)) (iA k (upd (fun i => vF (V i)) j (x))) = (sz, fh q k (c, T, upG V j (sF (V j) x)) G) := by
  refine ov_set ⟨k + 7, by omega, by omega, ?_, fun o h1 h2 => ?_⟩
  · unfold fC; dsimp only; rw [if_neg (by omega), if_neg (by omega), if_pos (by omega)]
    refine congrArg (iA k) (funext fun i => ?_)
    unfold upd
    by_cases e : i = j
    · subst e; rw [if_pos rfl, upG_at]; rfl
    · rw [if_neg e, upG_ne e]
  · unfold fC; dsimp only
    by_cases w : o = 0
    · exact (if_pos w).trans (Eq.trans (rfl) (if_pos w).symm)
    refine (if_neg w).trans (Eq.trans ?_ (if_neg w).symm)
    have wobj := w
    clear w
    by_cases w : o < k + 7
    · exact (if_pos w).trans (Eq.trans (rfl) (if_pos w).symm)
    refine (if_neg w).trans (Eq.trans ?_ (if_neg w).symm)
    have wT := w
    clear w
    by_cases w : o = k + 7
    · exact absurd w h2
    refine (if_neg w).trans (Eq.trans ?_ (if_neg w).symm)
    have wF := w
    clear w
    by_cases w : o = k + 8
    · exact (if_pos w).trans (Eq.trans (congrArg (iA k) (upV vL rfl)) (if_pos w).symm)
    refine (if_neg w).trans (Eq.trans ?_ (if_neg w).symm)
    have wL := w
    clear w
    by_cases w : o = k + 9
    · exact (if_pos w).trans (Eq.trans (congrArg (iA k) (upV vLe rfl)) (if_pos w).symm)
    refine (if_neg w).trans (Eq.trans ?_ (if_neg w).symm)
    have wLe := w
    clear w
    by_cases w : o = k + 10
    · exact (if_pos w).trans (Eq.trans (congrArg (iA k) (upV vGr rfl)) (if_pos w).symm)
    refine (if_neg w).trans (Eq.trans ?_ (if_neg w).symm)
    have wGr := w
    clear w
    by_cases w : o = k + 11
    · exact (if_pos w).trans (Eq.trans (congrArg (zA k) (upV (fun v => b2 (vFe v)) rfl)) (if_pos w).symm)
    refine (if_neg w).trans (Eq.trans ?_ (if_neg w).symm)
    have wFe := w
    clear w
    by_cases w : o = k + 12
    · exact (if_pos w).trans (Eq.trans (congrArg (lA k) (upV vSt rfl)) (if_pos w).symm)
    refine (if_neg w).trans (Eq.trans ?_ (if_neg w).symm)
    have wSt := w
    clear w
    by_cases w : o = k + 13
    · exact (if_pos w).trans (Eq.trans (congrArg (iA k) (upV (fun v => nI (vMo v)) rfl)) (if_pos w).symm)
    refine (if_neg w).trans (Eq.trans ?_ (if_neg w).symm)
    have wMo := w
    clear w
    by_cases w : o = k + 14
    · exact (if_pos w).trans (Eq.trans (congrArg (iA k) (upV (fun v => nI (vUn v)) rfl)) (if_pos w).symm)
    refine (if_neg w).trans (Eq.trans ?_ (if_neg w).symm)
    have wUn := w
    clear w
    by_cases w : o = k + 15
    · exact (if_pos w).trans (Eq.trans (rfl) (if_pos w).symm)
    refine (if_neg w).trans (Eq.trans ?_ (if_neg w).symm)
    have wfew := w
    clear w
    by_cases w : o < 2 * k + 16
    · exact (if_pos w).trans (Eq.trans (congrArg (iA 3) (upP vFw rfl)) (if_pos w).symm)
    refine (if_neg w).trans (Eq.trans ?_ (if_neg w).symm)
    have wFw := w
    clear w
    by_cases w : o = 2 * k + 16
    · exact (if_pos w).trans (Eq.trans (rfl) (if_pos w).symm)
    refine (if_neg w).trans (Eq.trans ?_ (if_neg w).symm)
    have word := w
    clear w
    exact congrArg (iA k) (upP vOr rfl)
theorem fh_sL {x : Int32} : hset (sz, fh q k (c, T, V) G) (q + (k + 8)) (iA k (upd (fun i => vL (V i)) j (x))) = (sz, fh q k (c, T, upG V j (sL (V j) x)) G) := by
  refine ov_set ⟨k + 8, by omega, by omega, ?_, fun o h1 h2 => ?_⟩
  · unfold fC; dsimp only; rw [if_neg (by omega), if_neg (by omega), if_neg (by omega), if_pos (by omega)]
    refine congrArg (iA k) (funext fun i => ?_)
    unfold upd
    by_cases e : i = j
    · subst e; rw [if_pos rfl, upG_at]; rfl
    · rw [if_neg e, upG_ne e]
  · unfold fC; dsimp only
    by_cases w : o = 0
    · exact (if_pos w).trans (Eq.trans (rfl) (if_pos w).symm)
    refine (if_neg w).trans (Eq.trans ?_ (if_neg w).symm)
    have wobj := w
    clear w
    by_cases w : o < k + 7
    · exact (if_pos w).trans (Eq.trans (rfl) (if_pos w).symm)
    refine (if_neg w).trans (Eq.trans ?_ (if_neg w).symm)
    have wT := w
    clear w
    by_cases w : o = k + 7
    · exact (if_pos w).trans (Eq.trans (congrArg (iA k) (upV vF rfl)) (if_pos w).symm)
    refine (if_neg w).trans (Eq.trans ?_ (if_neg w).symm)
    have wF := w
    clear w
    by_cases w : o = k + 8
    · exact absurd w h2
    refine (if_neg w).trans (Eq.trans ?_ (if_neg w).symm)
    have wL := w
    clear w
    by_cases w : o = k + 9
    · exact (if_pos w).trans (Eq.trans (congrArg (iA k) (upV vLe rfl)) (if_pos w).symm)
    refine (if_neg w).trans (Eq.trans ?_ (if_neg w).symm)
    have wLe := w
    clear w
    by_cases w : o = k + 10
    · exact (if_pos w).trans (Eq.trans (congrArg (iA k) (upV vGr rfl)) (if_pos w).symm)
    refine (if_neg w).trans (Eq.trans ?_ (if_neg w).symm)
    have wGr := w
    clear w
    by_cases w : o = k + 11
    · exact (if_pos w).trans (Eq.trans (congrArg (zA k) (upV (fun v => b2 (vFe v)) rfl)) (if_pos w).symm)
    refine (if_neg w).trans (Eq.trans ?_ (if_neg w).symm)
    have wFe := w
    clear w
    by_cases w : o = k + 12
    · exact (if_pos w).trans (Eq.trans (congrArg (lA k) (upV vSt rfl)) (if_pos w).symm)
    refine (if_neg w).trans (Eq.trans ?_ (if_neg w).symm)
    have wSt := w
    clear w
    by_cases w : o = k + 13
    · exact (if_pos w).trans (Eq.trans (congrArg (iA k) (upV (fun v => nI (vMo v)) rfl)) (if_pos w).symm)
    refine (if_neg w).trans (Eq.trans ?_ (if_neg w).symm)
    have wMo := w
    clear w
    by_cases w : o = k + 14
    · exact (if_pos w).trans (Eq.trans (congrArg (iA k) (upV (fun v => nI (vUn v)) rfl)) (if_pos w).symm)
    refine (if_neg w).trans (Eq.trans ?_ (if_neg w).symm)
    have wUn := w
    clear w
    by_cases w : o = k + 15
    · exact (if_pos w).trans (Eq.trans (rfl) (if_pos w).symm)
    refine (if_neg w).trans (Eq.trans ?_ (if_neg w).symm)
    have wfew := w
    clear w
    by_cases w : o < 2 * k + 16
    · exact (if_pos w).trans (Eq.trans (congrArg (iA 3) (upP vFw rfl)) (if_pos w).symm)
    refine (if_neg w).trans (Eq.trans ?_ (if_neg w).symm)
    have wFw := w
    clear w
    by_cases w : o = 2 * k + 16
    · exact (if_pos w).trans (Eq.trans (rfl) (if_pos w).symm)
    refine (if_neg w).trans (Eq.trans ?_ (if_neg w).symm)
    have word := w
    clear w
    exact congrArg (iA k) (upP vOr rfl)
theorem fh_sLe {x : Int32} : hset (sz, fh q k (c, T, V) G) (q + (k + 9)) (iA k (upd (fun i => vLe (V i)) j (x))) = (sz, fh q k (c, T, upG V j (sLe (V j) x)) G) := by
  refine ov_set ⟨k + 9, by omega, by omega, ?_, fun o h1 h2 => ?_⟩
  · unfold fC; dsimp only; rw [if_neg (by omega), if_neg (by omega), if_neg (by omega), if_neg (by omega), if_pos (by omega)]
    refine congrArg (iA k) (funext fun i => ?_)
    unfold upd
    by_cases e : i = j
    · subst e; rw [if_pos rfl, upG_at]; rfl
    · rw [if_neg e, upG_ne e]
  · unfold fC; dsimp only
    by_cases w : o = 0
    · exact (if_pos w).trans (Eq.trans (rfl) (if_pos w).symm)
    refine (if_neg w).trans (Eq.trans ?_ (if_neg w).symm)
    have wobj := w
    clear w
    by_cases w : o < k + 7
    · exact (if_pos w).trans (Eq.trans (rfl) (if_pos w).symm)
    refine (if_neg w).trans (Eq.trans ?_ (if_neg w).symm)
    have wT := w
    clear w
    by_cases w : o = k + 7
    · exact (if_pos w).trans (Eq.trans (congrArg (iA k) (upV vF rfl)) (if_pos w).symm)
    refine (if_neg w).trans (Eq.trans ?_ (if_neg w).symm)
    have wF := w
    clear w
    by_cases w : o = k + 8
    · exact (if_pos w).trans (Eq.trans (congrArg (iA k) (upV vL rfl)) (if_pos w).symm)
    refine (if_neg w).trans (Eq.trans ?_ (if_neg w).symm)
    have wL := w
    clear w
    by_cases w : o = k + 9
    · exact absurd w h2
    refine (if_neg w).trans (Eq.trans ?_ (if_neg w).symm)
    have wLe := w
    clear w
    by_cases w : o = k + 10
    · exact (if_pos w).trans (Eq.trans (congrArg (iA k) (upV vGr rfl)) (if_pos w).symm)
    refine (if_neg w).trans (Eq.trans ?_ (if_neg w).symm)
    have wGr := w
    clear w
    by_cases w : o = k + 11
    · exact (if_pos w).trans (Eq.trans (congrArg (zA k) (upV (fun v => b2 (vFe v)) rfl)) (if_pos w).symm)
    refine (if_neg w).trans (Eq.trans ?_ (if_neg w).symm)
    have wFe := w
    clear w
    by_cases w : o = k + 12
    · exact (if_pos w).trans (Eq.trans (congrArg (lA k) (upV vSt rfl)) (if_pos w).symm)
    refine (if_neg w).trans (Eq.trans ?_ (if_neg w).symm)
    have wSt := w
    clear w
    by_cases w : o = k + 13
    · exact (if_pos w).trans (Eq.trans (congrArg (iA k) (upV (fun v => nI (vMo v)) rfl)) (if_pos w).symm)
    refine (if_neg w).trans (Eq.trans ?_ (if_neg w).symm)
    have wMo := w
    clear w
    by_cases w : o = k + 14
    · exact (if_pos w).trans (Eq.trans (congrArg (iA k) (upV (fun v => nI (vUn v)) rfl)) (if_pos w).symm)
    refine (if_neg w).trans (Eq.trans ?_ (if_neg w).symm)
    have wUn := w
    clear w
    by_cases w : o = k + 15
    · exact (if_pos w).trans (Eq.trans (rfl) (if_pos w).symm)
    refine (if_neg w).trans (Eq.trans ?_ (if_neg w).symm)
    have wfew := w
    clear w
    by_cases w : o < 2 * k + 16
    · exact (if_pos w).trans (Eq.trans (congrArg (iA 3) (upP vFw rfl)) (if_pos w).symm)
    refine (if_neg w).trans (Eq.trans ?_ (if_neg w).symm)
    have wFw := w
    clear w
    by_cases w : o = 2 * k + 16
    · exact (if_pos w).trans (Eq.trans (rfl) (if_pos w).symm)
    refine (if_neg w).trans (Eq.trans ?_ (if_neg w).symm)
    have word := w
    clear w
    exact congrArg (iA k) (upP vOr rfl)
theorem fh_sGr {x : Int32} : hset (sz, fh q k (c, T, V) G) (q + (k + 10)) (iA k (upd (fun i => vGr (V i)) j (x))) = (sz, fh q k (c, T, upG V j (sGr (V j) x)) G) := by
  refine ov_set ⟨k + 10, by omega, by omega, ?_, fun o h1 h2 => ?_⟩
  · unfold fC; dsimp only; rw [if_neg (by omega), if_neg (by omega), if_neg (by omega), if_neg (by omega), if_neg (by omega), if_pos (by omega)]
    refine congrArg (iA k) (funext fun i => ?_)
    unfold upd
    by_cases e : i = j
    · subst e; rw [if_pos rfl, upG_at]; rfl
    · rw [if_neg e, upG_ne e]
  · unfold fC; dsimp only
    by_cases w : o = 0
    · exact (if_pos w).trans (Eq.trans (rfl) (if_pos w).symm)
    refine (if_neg w).trans (Eq.trans ?_ (if_neg w).symm)
    have wobj := w
    clear w
    by_cases w : o < k + 7
    · exact (if_pos w).trans (Eq.trans (rfl) (if_pos w).symm)
    refine (if_neg w).trans (Eq.trans ?_ (if_neg w).symm)
    have wT := w
    clear w
    by_cases w : o = k + 7
    · exact (if_pos w).trans (Eq.trans (congrArg (iA k) (upV vF rfl)) (if_pos w).symm)
    refine (if_neg w).trans (Eq.trans ?_ (if_neg w).symm)
    have wF := w
    clear w
    by_cases w : o = k + 8
    · exact (if_pos w).trans (Eq.trans (congrArg (iA k) (upV vL rfl)) (if_pos w).symm)
    refine (if_neg w).trans (Eq.trans ?_ (if_neg w).symm)
    have wL := w
    clear w
    by_cases w : o = k + 9
    · exact (if_pos w).trans (Eq.trans (congrArg (iA k) (upV vLe rfl)) (if_pos w).symm)
    refine (if_neg w).trans (Eq.trans ?_ (if_neg w).symm)
    have wLe := w
    clear w
    by_cases w : o = k + 10
    · exact absurd w h2
    refine (if_neg w).trans (Eq.trans ?_ (if_neg w).symm)
    have wGr := w
    clear w
    by_cases w : o = k + 11
    · exact (if_pos w).trans (Eq.trans (congrArg (zA k) (upV (fun v => b2 (vFe v)) rfl)) (if_pos w).symm)
    refine (if_neg w).trans (Eq.trans ?_ (if_neg w).symm)
    have wFe := w
    clear w
    by_cases w : o = k + 12
    · exact (if_pos w).trans (Eq.trans (congrArg (lA k) (upV vSt rfl)) (if_pos w).symm)
    refine (if_neg w).trans (Eq.trans ?_ (if_neg w).symm)
    have wSt := w
    clear w
    by_cases w : o = k + 13
    · exact (if_pos w).trans (Eq.trans (congrArg (iA k) (upV (fun v => nI (vMo v)) rfl)) (if_pos w).symm)
    refine (if_neg w).trans (Eq.trans ?_ (if_neg w).symm)
    have wMo := w
    clear w
    by_cases w : o = k + 14
    · exact (if_pos w).trans (Eq.trans (congrArg (iA k) (upV (fun v => nI (vUn v)) rfl)) (if_pos w).symm)
    refine (if_neg w).trans (Eq.trans ?_ (if_neg w).symm)
    have wUn := w
    clear w
    by_cases w : o = k + 15
    · exact (if_pos w).trans (Eq.trans (rfl) (if_pos w).symm)
    refine (if_neg w).trans (Eq.trans ?_ (if_neg w).symm)
    have wfew := w
    clear w
    by_cases w : o < 2 * k + 16
    · exact (if_pos w).trans (Eq.trans (congrArg (iA 3) (upP vFw rfl)) (if_pos w).symm)
    refine (if_neg w).trans (Eq.trans ?_ (if_neg w).symm)
    have wFw := w
    clear w
    by_cases w : o = 2 * k + 16
    · exact (if_pos w).trans (Eq.trans (rfl) (if_pos w).symm)
    refine (if_neg w).trans (Eq.trans ?_ (if_neg w).symm)
    have word := w
    clear w
    exact congrArg (iA k) (upP vOr rfl)
theorem fh_sFe {x : Bool} : hset (sz, fh q k (c, T, V) G) (q + (k + 11)) (zA k (upd (fun i => b2 (vFe (V i))) j (b2 x))) = (sz, fh q k (c, T, upG V j (sFe (V j) x)) G) := by
  refine ov_set ⟨k + 11, by omega, by omega, ?_, fun o h1 h2 => ?_⟩
  · unfold fC; dsimp only; rw [if_neg (by omega), if_neg (by omega), if_neg (by omega), if_neg (by omega), if_neg (by omega), if_neg (by omega), if_pos (by omega)]
    refine congrArg (zA k) (funext fun i => ?_)
    unfold upd
    by_cases e : i = j
    · subst e; rw [if_pos rfl, upG_at]; rfl
    · rw [if_neg e, upG_ne e]
  · unfold fC; dsimp only
    by_cases w : o = 0
    · exact (if_pos w).trans (Eq.trans (rfl) (if_pos w).symm)
    refine (if_neg w).trans (Eq.trans ?_ (if_neg w).symm)
    have wobj := w
    clear w
    by_cases w : o < k + 7
    · exact (if_pos w).trans (Eq.trans (rfl) (if_pos w).symm)
    refine (if_neg w).trans (Eq.trans ?_ (if_neg w).symm)
    have wT := w
    clear w
    by_cases w : o = k + 7
    · exact (if_pos w).trans (Eq.trans (congrArg (iA k) (upV vF rfl)) (if_pos w).symm)
    refine (if_neg w).trans (Eq.trans ?_ (if_neg w).symm)
    have wF := w
    clear w
    by_cases w : o = k + 8
    · exact (if_pos w).trans (Eq.trans (congrArg (iA k) (upV vL rfl)) (if_pos w).symm)
    refine (if_neg w).trans (Eq.trans ?_ (if_neg w).symm)
    have wL := w
    clear w
    by_cases w : o = k + 9
    · exact (if_pos w).trans (Eq.trans (congrArg (iA k) (upV vLe rfl)) (if_pos w).symm)
    refine (if_neg w).trans (Eq.trans ?_ (if_neg w).symm)
    have wLe := w
    clear w
    by_cases w : o = k + 10
    · exact (if_pos w).trans (Eq.trans (congrArg (iA k) (upV vGr rfl)) (if_pos w).symm)
    refine (if_neg w).trans (Eq.trans ?_ (if_neg w).symm)
    have wGr := w
    clear w
    by_cases w : o = k + 11
    · exact absurd w h2
    refine (if_neg w).trans (Eq.trans ?_ (if_neg w).symm)
    have wFe := w
    clear w
    by_cases w : o = k + 12
    · exact (if_pos w).trans (Eq.trans (congrArg (lA k) (upV vSt rfl)) (if_pos w).symm)
    refine (if_neg w).trans (Eq.trans ?_ (if_neg w).symm)
    have wSt := w
    clear w
    by_cases w : o = k + 13
    · exact (if_pos w).trans (Eq.trans (congrArg (iA k) (upV (fun v => nI (vMo v)) rfl)) (if_pos w).symm)
    refine (if_neg w).trans (Eq.trans ?_ (if_neg w).symm)
    have wMo := w
    clear w
    by_cases w : o = k + 14
    · exact (if_pos w).trans (Eq.trans (congrArg (iA k) (upV (fun v => nI (vUn v)) rfl)) (if_pos w).symm)
    refine (if_neg w).trans (Eq.trans ?_ (if_neg w).symm)
    have wUn := w
    clear w
    by_cases w : o = k + 15
    · exact (if_pos w).trans (Eq.trans (rfl) (if_pos w).symm)
    refine (if_neg w).trans (Eq.trans ?_ (if_neg w).symm)
    have wfew := w
    clear w
    by_cases w : o < 2 * k + 16
    · exact (if_pos w).trans (Eq.trans (congrArg (iA 3) (upP vFw rfl)) (if_pos w).symm)
    refine (if_neg w).trans (Eq.trans ?_ (if_neg w).symm)
    have wFw := w
    clear w
    by_cases w : o = 2 * k + 16
    · exact (if_pos w).trans (Eq.trans (rfl) (if_pos w).symm)
    refine (if_neg w).trans (Eq.trans ?_ (if_neg w).symm)
    have word := w
    clear w
    exact congrArg (iA k) (upP vOr rfl)
theorem fh_sSt {x : Int64} : hset (sz, fh q k (c, T, V) G) (q + (k + 12)) (lA k (vp_updL (fun i => vSt (V i)) j (x))) = (sz, fh q k (c, T, upG V j (sSt (V j) x)) G) := by
  refine ov_set ⟨k + 12, by omega, by omega, ?_, fun o h1 h2 => ?_⟩
  · unfold fC; dsimp only; rw [if_neg (by omega), if_neg (by omega), if_neg (by omega), if_neg (by omega), if_neg (by omega), if_neg (by omega), if_neg (by omega), if_pos (by omega)]
    refine congrArg (lA k) (funext fun i => ?_)
    unfold vp_updL
    by_cases e : i = j
    · subst e; rw [if_pos rfl, upG_at]; rfl
    · rw [if_neg e, upG_ne e]
  · unfold fC; dsimp only
    by_cases w : o = 0
    · exact (if_pos w).trans (Eq.trans (rfl) (if_pos w).symm)
    refine (if_neg w).trans (Eq.trans ?_ (if_neg w).symm)
    have wobj := w
    clear w
    by_cases w : o < k + 7
    · exact (if_pos w).trans (Eq.trans (rfl) (if_pos w).symm)
    refine (if_neg w).trans (Eq.trans ?_ (if_neg w).symm)
    have wT := w
    clear w
    by_cases w : o = k + 7
    · exact (if_pos w).trans (Eq.trans (congrArg (iA k) (upV vF rfl)) (if_pos w).symm)
    refine (if_neg w).trans (Eq.trans ?_ (if_neg w).symm)
    have wF := w
    clear w
    by_cases w : o = k + 8
    · exact (if_pos w).trans (Eq.trans (congrArg (iA k) (upV vL rfl)) (if_pos w).symm)
    refine (if_neg w).trans (Eq.trans ?_ (if_neg w).symm)
    have wL := w
    clear w
    by_cases w : o = k + 9
    · exact (if_pos w).trans (Eq.trans (congrArg (iA k) (upV vLe rfl)) (if_pos w).symm)
    refine (if_neg w).trans (Eq.trans ?_ (if_neg w).symm)
    have wLe := w
    clear w
    by_cases w : o = k + 10
    · exact (if_pos w).trans (Eq.trans (congrArg (iA k) (upV vGr rfl)) (if_pos w).symm)
    refine (if_neg w).trans (Eq.trans ?_ (if_neg w).symm)
    have wGr := w
    clear w
    by_cases w : o = k + 11
    · exact (if_pos w).trans (Eq.trans (congrArg (zA k) (upV (fun v => b2 (vFe v)) rfl)) (if_pos w).symm)
    refine (if_neg w).trans (Eq.trans ?_ (if_neg w).symm)
    have wFe := w
    clear w
    by_cases w : o = k + 12
    · exact absurd w h2
    refine (if_neg w).trans (Eq.trans ?_ (if_neg w).symm)
    have wSt := w
    clear w
    by_cases w : o = k + 13
    · exact (if_pos w).trans (Eq.trans (congrArg (iA k) (upV (fun v => nI (vMo v)) rfl)) (if_pos w).symm)
    refine (if_neg w).trans (Eq.trans ?_ (if_neg w).symm)
    have wMo := w
    clear w
    by_cases w : o = k + 14
    · exact (if_pos w).trans (Eq.trans (congrArg (iA k) (upV (fun v => nI (vUn v)) rfl)) (if_pos w).symm)
    refine (if_neg w).trans (Eq.trans ?_ (if_neg w).symm)
    have wUn := w
    clear w
    by_cases w : o = k + 15
    · exact (if_pos w).trans (Eq.trans (rfl) (if_pos w).symm)
    refine (if_neg w).trans (Eq.trans ?_ (if_neg w).symm)
    have wfew := w
    clear w
    by_cases w : o < 2 * k + 16
    · exact (if_pos w).trans (Eq.trans (congrArg (iA 3) (upP vFw rfl)) (if_pos w).symm)
    refine (if_neg w).trans (Eq.trans ?_ (if_neg w).symm)
    have wFw := w
    clear w
    by_cases w : o = 2 * k + 16
    · exact (if_pos w).trans (Eq.trans (rfl) (if_pos w).symm)
    refine (if_neg w).trans (Eq.trans ?_ (if_neg w).symm)
    have word := w
    clear w
    exact congrArg (iA k) (upP vOr rfl)
theorem fh_sMo {x : Nat} : hset (sz, fh q k (c, T, V) G) (q + (k + 13)) (iA k (upd (fun i => nI (vMo (V i))) j (nI x))) = (sz, fh q k (c, T, upG V j (sMo (V j) x)) G) := by
  refine ov_set ⟨k + 13, by omega, by omega, ?_, fun o h1 h2 => ?_⟩
  · unfold fC; dsimp only; rw [if_neg (by omega), if_neg (by omega), if_neg (by omega), if_neg (by omega), if_neg (by omega), if_neg (by omega), if_neg (by omega), if_neg (by omega), if_pos (by omega)]
    refine congrArg (iA k) (funext fun i => ?_)
    unfold upd
    by_cases e : i = j
    · subst e; rw [if_pos rfl, upG_at]; rfl
    · rw [if_neg e, upG_ne e]
  · unfold fC; dsimp only
    by_cases w : o = 0
    · exact (if_pos w).trans (Eq.trans (rfl) (if_pos w).symm)
    refine (if_neg w).trans (Eq.trans ?_ (if_neg w).symm)
    have wobj := w
    clear w
    by_cases w : o < k + 7
    · exact (if_pos w).trans (Eq.trans (rfl) (if_pos w).symm)
    refine (if_neg w).trans (Eq.trans ?_ (if_neg w).symm)
    have wT := w
    clear w
    by_cases w : o = k + 7
    · exact (if_pos w).trans (Eq.trans (congrArg (iA k) (upV vF rfl)) (if_pos w).symm)
    refine (if_neg w).trans (Eq.trans ?_ (if_neg w).symm)
    have wF := w
    clear w
    by_cases w : o = k + 8
    · exact (if_pos w).trans (Eq.trans (congrArg (iA k) (upV vL rfl)) (if_pos w).symm)
    refine (if_neg w).trans (Eq.trans ?_ (if_neg w).symm)
    have wL := w
    clear w
    by_cases w : o = k + 9
    · exact (if_pos w).trans (Eq.trans (congrArg (iA k) (upV vLe rfl)) (if_pos w).symm)
    refine (if_neg w).trans (Eq.trans ?_ (if_neg w).symm)
    have wLe := w
    clear w
    by_cases w : o = k + 10
    · exact (if_pos w).trans (Eq.trans (congrArg (iA k) (upV vGr rfl)) (if_pos w).symm)
    refine (if_neg w).trans (Eq.trans ?_ (if_neg w).symm)
    have wGr := w
    clear w
    by_cases w : o = k + 11
    · exact (if_pos w).trans (Eq.trans (congrArg (zA k) (upV (fun v => b2 (vFe v)) rfl)) (if_pos w).symm)
    refine (if_neg w).trans (Eq.trans ?_ (if_neg w).symm)
    have wFe := w
    clear w
    by_cases w : o = k + 12
    · exact (if_pos w).trans (Eq.trans (congrArg (lA k) (upV vSt rfl)) (if_pos w).symm)
    refine (if_neg w).trans (Eq.trans ?_ (if_neg w).symm)
    have wSt := w
    clear w
    by_cases w : o = k + 13
    · exact absurd w h2
    refine (if_neg w).trans (Eq.trans ?_ (if_neg w).symm)
    have wMo := w
    clear w
    by_cases w : o = k + 14
    · exact (if_pos w).trans (Eq.trans (congrArg (iA k) (upV (fun v => nI (vUn v)) rfl)) (if_pos w).symm)
    refine (if_neg w).trans (Eq.trans ?_ (if_neg w).symm)
    have wUn := w
    clear w
    by_cases w : o = k + 15
    · exact (if_pos w).trans (Eq.trans (rfl) (if_pos w).symm)
    refine (if_neg w).trans (Eq.trans ?_ (if_neg w).symm)
    have wfew := w
    clear w
    by_cases w : o < 2 * k + 16
    · exact (if_pos w).trans (Eq.trans (congrArg (iA 3) (upP vFw rfl)) (if_pos w).symm)
    refine (if_neg w).trans (Eq.trans ?_ (if_neg w).symm)
    have wFw := w
    clear w
    by_cases w : o = 2 * k + 16
    · exact (if_pos w).trans (Eq.trans (rfl) (if_pos w).symm)
    refine (if_neg w).trans (Eq.trans ?_ (if_neg w).symm)
    have word := w
    clear w
    exact congrArg (iA k) (upP vOr rfl)
theorem fh_sUn {x : Nat} : hset (sz, fh q k (c, T, V) G) (q + (k + 14)) (iA k (upd (fun i => nI (vUn (V i))) j (nI x))) = (sz, fh q k (c, T, upG V j (sUn (V j) x)) G) := by
  refine ov_set ⟨k + 14, by omega, by omega, ?_, fun o h1 h2 => ?_⟩
  · unfold fC; dsimp only; rw [if_neg (by omega), if_neg (by omega), if_neg (by omega), if_neg (by omega), if_neg (by omega), if_neg (by omega), if_neg (by omega), if_neg (by omega), if_neg (by omega), if_pos (by omega)]
    refine congrArg (iA k) (funext fun i => ?_)
    unfold upd
    by_cases e : i = j
    · subst e; rw [if_pos rfl, upG_at]; rfl
    · rw [if_neg e, upG_ne e]
  · unfold fC; dsimp only
    by_cases w : o = 0
    · exact (if_pos w).trans (Eq.trans (rfl) (if_pos w).symm)
    refine (if_neg w).trans (Eq.trans ?_ (if_neg w).symm)
    have wobj := w
    clear w
    by_cases w : o < k + 7
    · exact (if_pos w).trans (Eq.trans (rfl) (if_pos w).symm)
    refine (if_neg w).trans (Eq.trans ?_ (if_neg w).symm)
    have wT := w
    clear w
    by_cases w : o = k + 7
    · exact (if_pos w).trans (Eq.trans (congrArg (iA k) (upV vF rfl)) (if_pos w).symm)
    refine (if_neg w).trans (Eq.trans ?_ (if_neg w).symm)
    have wF := w
    clear w
    by_cases w : o = k + 8
    · exact (if_pos w).trans (Eq.trans (congrArg (iA k) (upV vL rfl)) (if_pos w).symm)
    refine (if_neg w).trans (Eq.trans ?_ (if_neg w).symm)
    have wL := w
    clear w
    by_cases w : o = k + 9
    · exact (if_pos w).trans (Eq.trans (congrArg (iA k) (upV vLe rfl)) (if_pos w).symm)
    refine (if_neg w).trans (Eq.trans ?_ (if_neg w).symm)
    have wLe := w
    clear w
    by_cases w : o = k + 10
    · exact (if_pos w).trans (Eq.trans (congrArg (iA k) (upV vGr rfl)) (if_pos w).symm)
    refine (if_neg w).trans (Eq.trans ?_ (if_neg w).symm)
    have wGr := w
    clear w
    by_cases w : o = k + 11
    · exact (if_pos w).trans (Eq.trans (congrArg (zA k) (upV (fun v => b2 (vFe v)) rfl)) (if_pos w).symm)
    refine (if_neg w).trans (Eq.trans ?_ (if_neg w).symm)
    have wFe := w
    clear w
    by_cases w : o = k + 12
    · exact (if_pos w).trans (Eq.trans (congrArg (lA k) (upV vSt rfl)) (if_pos w).symm)
    refine (if_neg w).trans (Eq.trans ?_ (if_neg w).symm)
    have wSt := w
    clear w
    by_cases w : o = k + 13
    · exact (if_pos w).trans (Eq.trans (congrArg (iA k) (upV (fun v => nI (vMo v)) rfl)) (if_pos w).symm)
    refine (if_neg w).trans (Eq.trans ?_ (if_neg w).symm)
    have wMo := w
    clear w
    by_cases w : o = k + 14
    · exact absurd w h2
    refine (if_neg w).trans (Eq.trans ?_ (if_neg w).symm)
    have wUn := w
    clear w
    by_cases w : o = k + 15
    · exact (if_pos w).trans (Eq.trans (rfl) (if_pos w).symm)
    refine (if_neg w).trans (Eq.trans ?_ (if_neg w).symm)
    have wfew := w
    clear w
    by_cases w : o < 2 * k + 16
    · exact (if_pos w).trans (Eq.trans (congrArg (iA 3) (upP vFw rfl)) (if_pos w).symm)
    refine (if_neg w).trans (Eq.trans ?_ (if_neg w).symm)
    have wFw := w
    clear w
    by_cases w : o = 2 * k + 16
    · exact (if_pos w).trans (Eq.trans (rfl) (if_pos w).symm)
    refine (if_neg w).trans (Eq.trans ?_ (if_neg w).symm)
    have word := w
    clear w
    exact congrArg (iA k) (upP vOr rfl)
theorem fh_sFw {f : Nat → Int32} (h : j < k) : hset (sz, fh q k (c, T, V) G) (q + (k + 16) + j) (iA 3 f) = (sz, fh q k (c, T, upG V j (sFw (V j) f)) G) := by
  refine ov_set ⟨k + 16 + j, by omega, by omega, ?_, fun o h1 h2 => ?_⟩
  · unfold fC; dsimp only; rw [if_neg (by omega), if_neg (by omega), if_neg (by omega), if_neg (by omega), if_neg (by omega), if_neg (by omega), if_neg (by omega), if_neg (by omega), if_neg (by omega), if_neg (by omega), if_neg (by omega), if_pos (by omega)]; rw [show k + 16 + j - (k + 16) = j by omega, upG_at]; rfl
  · unfold fC; dsimp only
    by_cases w : o = 0
    · exact (if_pos w).trans (Eq.trans (rfl) (if_pos w).symm)
    refine (if_neg w).trans (Eq.trans ?_ (if_neg w).symm)
    have wobj := w
    clear w
    by_cases w : o < k + 7
    · exact (if_pos w).trans (Eq.trans (rfl) (if_pos w).symm)
    refine (if_neg w).trans (Eq.trans ?_ (if_neg w).symm)
    have wT := w
    clear w
    by_cases w : o = k + 7
    · exact (if_pos w).trans (Eq.trans (congrArg (iA k) (upV vF rfl)) (if_pos w).symm)
    refine (if_neg w).trans (Eq.trans ?_ (if_neg w).symm)
    have wF := w
    clear w
    by_cases w : o = k + 8
    · exact (if_pos w).trans (Eq.trans (congrArg (iA k) (upV vL rfl)) (if_pos w).symm)
    refine (if_neg w).trans (Eq.trans ?_ (if_neg w).symm)
    have wL := w
    clear w
    by_cases w : o = k + 9
    · exact (if_pos w).trans (Eq.trans (congrArg (iA k) (upV vLe rfl)) (if_pos w).symm)
    refine (if_neg w).trans (Eq.trans ?_ (if_neg w).symm)
    have wLe := w
    clear w
    by_cases w : o = k + 10
    · exact (if_pos w).trans (Eq.trans (congrArg (iA k) (upV vGr rfl)) (if_pos w).symm)
    refine (if_neg w).trans (Eq.trans ?_ (if_neg w).symm)
    have wGr := w
    clear w
    by_cases w : o = k + 11
    · exact (if_pos w).trans (Eq.trans (congrArg (zA k) (upV (fun v => b2 (vFe v)) rfl)) (if_pos w).symm)
    refine (if_neg w).trans (Eq.trans ?_ (if_neg w).symm)
    have wFe := w
    clear w
    by_cases w : o = k + 12
    · exact (if_pos w).trans (Eq.trans (congrArg (lA k) (upV vSt rfl)) (if_pos w).symm)
    refine (if_neg w).trans (Eq.trans ?_ (if_neg w).symm)
    have wSt := w
    clear w
    by_cases w : o = k + 13
    · exact (if_pos w).trans (Eq.trans (congrArg (iA k) (upV (fun v => nI (vMo v)) rfl)) (if_pos w).symm)
    refine (if_neg w).trans (Eq.trans ?_ (if_neg w).symm)
    have wMo := w
    clear w
    by_cases w : o = k + 14
    · exact (if_pos w).trans (Eq.trans (congrArg (iA k) (upV (fun v => nI (vUn v)) rfl)) (if_pos w).symm)
    refine (if_neg w).trans (Eq.trans ?_ (if_neg w).symm)
    have wUn := w
    clear w
    by_cases w : o = k + 15
    · exact (if_pos w).trans (Eq.trans (rfl) (if_pos w).symm)
    refine (if_neg w).trans (Eq.trans ?_ (if_neg w).symm)
    have wfew := w
    clear w
    by_cases w : o < 2 * k + 16
    · exact (if_pos w).trans (Eq.trans (congrArg (iA 3) (congrArg vFw (upG_ne (by omega)))) (if_pos w).symm)
    refine (if_neg w).trans (Eq.trans ?_ (if_neg w).symm)
    have wFw := w
    clear w
    by_cases w : o = 2 * k + 16
    · exact (if_pos w).trans (Eq.trans (rfl) (if_pos w).symm)
    refine (if_neg w).trans (Eq.trans ?_ (if_neg w).symm)
    have word := w
    clear w
    exact congrArg (iA k) (upP vOr rfl)
theorem fh_sOr {f : Nat → Int32} (h : j < k) : hset (sz, fh q k (c, T, V) G) (q + (2 * k + 17) + j) (iA k f) = (sz, fh q k (c, T, upG V j (sOr (V j) f)) G) := by
  refine ov_set ⟨2 * k + 17 + j, by omega, by omega, ?_, fun o h1 h2 => ?_⟩
  · unfold fC; dsimp only; rw [if_neg (by omega), if_neg (by omega), if_neg (by omega), if_neg (by omega), if_neg (by omega), if_neg (by omega), if_neg (by omega), if_neg (by omega), if_neg (by omega), if_neg (by omega), if_neg (by omega), if_neg (by omega), if_neg (by omega)]; rw [show 2 * k + 17 + j - (2 * k + 17) = j by omega, upG_at]; rfl
  · unfold fC; dsimp only
    by_cases w : o = 0
    · exact (if_pos w).trans (Eq.trans (rfl) (if_pos w).symm)
    refine (if_neg w).trans (Eq.trans ?_ (if_neg w).symm)
    have wobj := w
    clear w
    by_cases w : o < k + 7
    · exact (if_pos w).trans (Eq.trans (rfl) (if_pos w).symm)
    refine (if_neg w).trans (Eq.trans ?_ (if_neg w).symm)
    have wT := w
    clear w
    by_cases w : o = k + 7
    · exact (if_pos w).trans (Eq.trans (congrArg (iA k) (upV vF rfl)) (if_pos w).symm)
    refine (if_neg w).trans (Eq.trans ?_ (if_neg w).symm)
    have wF := w
    clear w
    by_cases w : o = k + 8
    · exact (if_pos w).trans (Eq.trans (congrArg (iA k) (upV vL rfl)) (if_pos w).symm)
    refine (if_neg w).trans (Eq.trans ?_ (if_neg w).symm)
    have wL := w
    clear w
    by_cases w : o = k + 9
    · exact (if_pos w).trans (Eq.trans (congrArg (iA k) (upV vLe rfl)) (if_pos w).symm)
    refine (if_neg w).trans (Eq.trans ?_ (if_neg w).symm)
    have wLe := w
    clear w
    by_cases w : o = k + 10
    · exact (if_pos w).trans (Eq.trans (congrArg (iA k) (upV vGr rfl)) (if_pos w).symm)
    refine (if_neg w).trans (Eq.trans ?_ (if_neg w).symm)
    have wGr := w
    clear w
    by_cases w : o = k + 11
    · exact (if_pos w).trans (Eq.trans (congrArg (zA k) (upV (fun v => b2 (vFe v)) rfl)) (if_pos w).symm)
    refine (if_neg w).trans (Eq.trans ?_ (if_neg w).symm)
    have wFe := w
    clear w
    by_cases w : o = k + 12
    · exact (if_pos w).trans (Eq.trans (congrArg (lA k) (upV vSt rfl)) (if_pos w).symm)
    refine (if_neg w).trans (Eq.trans ?_ (if_neg w).symm)
    have wSt := w
    clear w
    by_cases w : o = k + 13
    · exact (if_pos w).trans (Eq.trans (congrArg (iA k) (upV (fun v => nI (vMo v)) rfl)) (if_pos w).symm)
    refine (if_neg w).trans (Eq.trans ?_ (if_neg w).symm)
    have wMo := w
    clear w
    by_cases w : o = k + 14
    · exact (if_pos w).trans (Eq.trans (congrArg (iA k) (upV (fun v => nI (vUn v)) rfl)) (if_pos w).symm)
    refine (if_neg w).trans (Eq.trans ?_ (if_neg w).symm)
    have wUn := w
    clear w
    by_cases w : o = k + 15
    · exact (if_pos w).trans (Eq.trans (rfl) (if_pos w).symm)
    refine (if_neg w).trans (Eq.trans ?_ (if_neg w).symm)
    have wfew := w
    clear w
    by_cases w : o < 2 * k + 16
    · exact (if_pos w).trans (Eq.trans (congrArg (iA 3) (upP vFw rfl)) (if_pos w).symm)
    refine (if_neg w).trans (Eq.trans ?_ (if_neg w).symm)
    have wFw := w
    clear w
    by_cases w : o = 2 * k + 16
    · exact (if_pos w).trans (Eq.trans (rfl) (if_pos w).symm)
    refine (if_neg w).trans (Eq.trans ?_ (if_neg w).symm)
    have word := w
    clear w
    exact congrArg (iA k) (congrArg vOr (upG_ne (by omega)))
theorem fh_sc {x : Nat} : hset (sz, fh q k (c, T, V) G) q (.inr (1, FD1 (nI k) (q + 1) (nI x) (q + (k + 7)) (q + (k + 8)) (q + (k + 9)) (q + (k + 10)) (q + (k + 11)) (q + (k + 12)) (q + (k + 13)) (q + (k + 14)) (q + (k + 15)) (q + (2 * k + 16)))) = (sz, fh q k (x, T, V) G) := by
  refine ov_set ⟨0, by omega, by omega, rfl, fun o h1 h2 => ?_⟩
  unfold fC; dsimp only
  rw [if_neg h2, if_neg h2]
/-- the Table inside -/
theorem fh_th : fh q k (c, T, V) G = th (q + 1) (k + 1) T (fh q k (c, T, V) G) := by
  refine (ov_self (fun o h => ?_)).symm
  refine ov_at ⟨o + 1, by omega, by omega, ?_⟩
  unfold fC; dsimp only
  rw [if_neg (by omega), if_pos (by omega), show o + 1 - 1 = o by omega]
theorem fh_th2 {T' : TS} : th (q + 1) (k + 1) T' (fh q k (c, T, V) G) = fh q k (c, T', V) G := by
  funext a
  by_cases w : q + 1 ≤ a ∧ a < q + 1 + (k + 6)
  · have e : th (q + 1) (k + 1) T' (fh q k (c, T, V) G) a = some (tC (q + 1) (k + 1) T' (a - (q + 1))) := ov_at ⟨a - (q + 1), by omega, by omega, rfl⟩
    rw [e]
    refine (ov_at ⟨a - q, by omega, by omega, ?_⟩).symm
    unfold fC; dsimp only
    rw [if_neg (by omega), if_pos (by omega), show a - q - 1 = a - (q + 1) by omega]
  · rw [show th (q + 1) (k + 1) T' (fh q k (c, T, V) G) a = fh q k (c, T, V) G a from ov_out (by omega)]
    unfold fh ov
    by_cases w2 : q ≤ a ∧ a < q + (3 * k + 17)
    · rw [if_pos w2, if_pos w2]
      unfold fC; dsimp only
      by_cases w3 : a - q = 0
      · rw [if_pos w3, if_pos w3]
      · have w4 : ¬ a - q < k + 7 := by omega
        rw [if_neg w3, if_neg w3, if_neg w4, if_neg w4]
    · rw [if_neg w2, if_neg w2]
end FH
