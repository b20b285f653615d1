/-! THE LAW: both objects in one heap; calls that ask -/
section L0
variable {l : Launch} {d sz b lo : Nat} {I I' : Nat → Int32} {A A' : Nat → Nat → Int32} {B : Nat → Int64} {L' : Int64} {B' : Nat → Nat → Int64} {D : DS} {g : Nat → Option aE}
theorem mh_ov : mh b I' L' A' B' g = ov b 32 (mcell b I' L' A' B') g := rfl
theorem ch_mh : ch b I A B D (mh (b + 33) I' L' A' B' g) = mh (b + 33) I' L' A' B' (ch b I A B D g) := by
  rw [mh_ov, mh_ov]
  unfold ch
  exact ov_comm (by unfold apt; omega)
theorem mh_self {g' : Nat → Option aE} (h : ∀ x, x < b + 32 → g' x = mh b I' L' A' B' g x) : g' = mh b I' L' A' B' g' := by
  rw [mh_ov]
  refine (ov_self (fun o ho => ?_)).symm
  rw [h (b + o) (by omega), mh_ov, ov_in ho]
theorem DW_cg {g' : Nat → Option aE} (h : DW lo sz g D) (he : ∀ x, lo ≤ x → g' x = g x) : DW lo sz g' D := by
  obtain ⟨h1, h2, h3, h4, h5, h6, h7, h8⟩ := h
  refine ⟨h1, h2, h3, fun p hp => ?_, fun a ha => ?_, h6, h7, h8⟩
  · obtain ⟨q1, q2, q3, q4, q5⟩ := h4 p hp
    exact ⟨q1, q2, q3, q4, fun o ho => by rw [he _ (by omega)]; exact q5 o ho⟩
  · obtain ⟨q1, q2, q3, q4, q5⟩ := h5 a ha
    exact ⟨q1, q2, q3, q4, fun o ho => by rw [he _ (by omega)]; exact q5 o ho⟩
/-- both objects stand in the heap, and are in step -/
def LW (b : Nat) (h : aH) : Prop := ∃ sz I A B D I' L' A' B' g, h = (sz, ch b I A B D (mh (b + 33) I' L' A' B' g)) ∧ DW (b + 65) sz (mh (b + 33) I' L' A' B' g) D ∧ WR I A D I' A'
/-- a value of a method's kind -/
def tv (μ : Mu) (v : Value) : Prop := match μ.2.2.2 with
  | some .long => ∃ x, v = .long x
  | _ => ∃ x, v = .int x
/-- the class answered v; the reference will answer so, too -/
def pQ (l : Launch) (μ : Mu) (d : Nat) (ar : List Value) (b : Nat) (rv : Option Value) (h' : aH) : Prop := ∃ v, rv = some v ∧ tv μ v ∧ (∃ F, h'.2 (b + 33) = some (.inr (8, F))) ∧ mt l μ d 0 0 ar h' (fun rv' h'' => rv' = some v ∧ LW b h'')
/-- what the class left, seen from the reference -/
theorem LW_mid {I1 I1' : Nat → Int32} {A1 A1' : Nat → Nat → Int32} {B1 : Nat → Int64} {L1' : Int64} {B1' : Nat → Nat → Int64} {D1 : DS} {g' : Nat → Option aE} {sz' : Nat} (hDW : DW (b + 65) sz' g' D1) (hWR : WR I1 A1 D1 I1' A1') : LW b (sz', mh (b + 33) I1' L1' A1' B1' (ch b I1 A1 B1 D1 g')) := by
  refine ⟨sz', I1, A1, B1, D1, I1', L1', A1', B1', g', by rw [ch_mh], DW_cg hDW (fun x hx => ?_), hWR⟩
  rw [mh_ov]
  exact ov_out (by omega)
theorem mid_eq {I1 : Nat → Int32} {A1 : Nat → Nat → Int32} {B1 : Nat → Int64} {D1 : DS} {g' : Nat → Option aE} (h : ∀ x, x < b + 65 → g' x = mh (b + 33) I' L' A' B' g x) : ch b I1 A1 B1 D1 g' = mh (b + 33) I' L' A' B' (ch b I1 A1 B1 D1 g') := by
  have e := mh_self (b := b + 33) (I' := I') (L' := L') (A' := A') (B' := B') (g := g) (g' := g') (fun x hx => h x (by omega))
  rw [← ch_mh, ← e]
theorem ask {mc mr : Mu} {ac ar : List Value} {v : Value} (hR : WR I A D I' A') (hc : mt l mc d 0 0 ac (sz, ch b I A B D (mh (b + 33) I' L' A' B' g)) (fun rv h' => rv = some v ∧ qQ (b + 65) sz b I A D (mh (b + 33) I' L' A' B' g) h')) (hr : ∀ g', mt l mr d 0 0 ar (sz, mh (b + 33) I' L' A' B' g') (fun rv h' => rv = some v ∧ ∃ I1' L1' A1' B1', h' = (sz, mh (b + 33) I1' L1' A1' B1' g') ∧ rEq I' A' I1' A1')) (hv : tv mr v := by exact ⟨_, rfl⟩) : mt l mc d 0 0 ac (sz, ch b I A B D (mh (b + 33) I' L' A' B' g)) (pQ l mr d ar b) := by
  refine mt_post hc (fun rv h' hq => ?_)
  obtain ⟨rfl, I1, A1, B1, D1, g', rfl, hDW, hlo, hE, hA, hI⟩ := hq
  refine ⟨v, rfl, hv, ?_⟩
  rw [mid_eq hlo]
  refine ⟨⟨_, mh_obj⟩, ?_⟩
  refine mt_post (hr _) (fun rv' h'' hq => ?_)
  obtain ⟨rfl, I1', L1', A1', B1', rfl, hq⟩ := hq
  exact ⟨rfl, LW_mid hDW (WR_q hR hE hA hI hq)⟩
/-- the reference's side of a call that leaves its heap -/
theorem ref_id {mr : Mu} {ar : List Value} {v : Value} {g' : Nat → Option aE} (h : mt l mr d 0 0 ar (sz, mh (b + 33) I' L' A' B' g') (fun rv h' => rv = some v ∧ h' = (sz, mh (b + 33) I' L' A' B' g'))) : mt l mr d 0 0 ar (sz, mh (b + 33) I' L' A' B' g') (fun rv h' => rv = some v ∧ ∃ I1' L1' A1' B1', h' = (sz, mh (b + 33) I1' L1' A1' B1' g') ∧ rEq I' A' I1' A1') :=
  mt_post h (fun rv h' hq => ⟨hq.1, I', L', A', B', hq.2, rEq_rf⟩)
theorem lq_variables {x : Int32} (hd : 11 ≤ d) (hW : DW (b + 65) sz (mh (b + 33) I' L' A' B' g) D) (hR : WR I A D I' A') : mt l mX7_variables d 0 0 [.ref b, .int x] (sz, ch b I A B D (mh (b + 33) I' L' A' B' g)) (pQ l mX8_variables d [.ref (b + 33), .int x] b) :=
  ask hR (tX7_variables (by omega) hW (by omega)) (fun g' => ref_id (by rw [an_variables hR]; exact tX8_variables (by omega) hR.1))
theorem lq_tried {x s : Int32} (hd : 11 ≤ d) (hW : DW (b + 65) sz (mh (b + 33) I' L' A' B' g) D) (hR : WR I A D I' A') : mt l mX7_tried d 0 0 [.ref b, .int x, .int s] (sz, ch b I A B D (mh (b + 33) I' L' A' B' g)) (pQ l mX8_tried d [.ref (b + 33), .int x, .int s] b) :=
  ask hR (tX7_tried (by omega) hW (by omega)) (fun g' => ref_id (by rw [an_tried hR]; exact tX8_tried (by omega) hR.1))
theorem lq_reading {x r v : Int32} (hd : 11 ≤ d) (hW : DW (b + 65) sz (mh (b + 33) I' L' A' B' g) D) (hR : WR I A D I' A') : mt l mX7_reading d 0 0 [.ref b, .int x, .int r, .int v] (sz, ch b I A B D (mh (b + 33) I' L' A' B' g)) (pQ l mX8_reading d [.ref (b + 33), .int x, .int r, .int v] b) :=
  ask hR (tX7_reading (by omega) hW hR.2.2.1 (by omega)) (fun g' => ref_id (by rw [an_reading hR]; exact tX8_reading (by omega) hR.1))
theorem lq_died {x : Int32} (hd : 11 ≤ d) (hW : DW (b + 65) sz (mh (b + 33) I' L' A' B' g) D) (hR : WR I A D I' A') : mt l mX7_died d 0 0 [.ref b, .int x] (sz, ch b I A B D (mh (b + 33) I' L' A' B' g)) (pQ l mX8_died d [.ref (b + 33), .int x] b) :=
  ask hR (tX7_died hW hR.dd.1 hR.dd.2.1) (fun g' => ref_id (by rw [an_died hR]; exact tX8_died (by omega) hR.dd.2.2.1 hR.dd.2.2.2))
theorem lq_told {x : Int32} (hd : 11 ≤ d) (hW : DW (b + 65) sz (mh (b + 33) I' L' A' B' g) D) (hR : WR I A D I' A') : mt l mX7_told d 0 0 [.ref b, .int x] (sz, ch b I A B D (mh (b + 33) I' L' A' B' g)) (pQ l mX8_told d [.ref (b + 33), .int x] b) :=
  ask hR (tX7_told (by omega) hW) (fun g' => ref_id (by rw [an_told hR]; exact tX8_told))
theorem lq_made {k v c : Int32} (hd : 11 ≤ d) (hW : DW (b + 65) sz (mh (b + 33) I' L' A' B' g) D) (hR : WR I A D I' A') : mt l mX7_made d 0 0 [.ref b, .int k, .int v, .int c] (sz, ch b I A B D (mh (b + 33) I' L' A' B' g)) (pQ l mX8_made d [.ref (b + 33), .int k, .int v, .int c] b) :=
  ask hR (tX7_made (by omega) hW (by omega)) (fun g' => ref_id (by rw [an_made hR]; exact tX8_made (by omega) hR.1 hR.2.1))
theorem lq_broke {w : Int32} (hd : 11 ≤ d) (hW : DW (b + 65) sz (mh (b + 33) I' L' A' B' g) D) (hR : WR I A D I' A') : mt l mX7_broke d 0 0 [.ref b, .int w] (sz, ch b I A B D (mh (b + 33) I' L' A' B' g)) (pQ l mX8_broke d [.ref (b + 33), .int w] b) :=
  ask hR (tX7_broke (by omega) hW hR.CBk) (fun g' => ref_id (by rw [an_broke hR]; exact tX8_broke (by omega) hR.1 hR.hB))
theorem lq_guesses {x s : Int32} (hd : 11 ≤ d) (hW : DW (b + 65) sz (mh (b + 33) I' L' A' B' g) D) (hR : WR I A D I' A') : mt l mX7_guesses d 0 0 [.ref b, .int x, .int s] (sz, ch b I A B D (mh (b + 33) I' L' A' B' g)) (pQ l mX8_guesses d [.ref (b + 33), .int x, .int s] b) :=
  ask hR (tX7_guesses (by omega) hW hR.2.2.1 (by omega)) (fun g' => by
    rw [an_guesses hR]
    exact mt_post (tX8_guesses (by omega) hR.1) (fun rv h' hq => ⟨hq.1, by obtain ⟨I1, A1, e, hS⟩ := hq.2; exact ⟨I1, L', A1, B', e, rEq_SC hS (fun k hk => by rcases hk with q | q | q | q | q | q | q <;> subst q <;> decide) (fun o ho => by rcases ho with q | q | q | q | q | q | q | q | q | q | q | q | q <;> subst q <;> decide)⟩⟩))
end L0
