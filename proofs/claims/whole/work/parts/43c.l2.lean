/-! THE LAW: calls that change -/
section L2
variable {l : Launch} {d sz b lo : Nat} {I I' I1' : Nat → Int32} {A A' A1' : Nat → Nat → Int32} {B : Nat → Int64} {L' : Int64} {B' : Nat → Nat → Int64} {D : DS} {g : Nat → Option aE}
/-- the class has answered and left a heap; the reference answers alike -/
theorem go_on {mr : Mu} {ar : List Value} {v : Value} {sz' : Nat} {I1 : Nat → Int32} {A1 : Nat → Nat → Int32} {B1 : Nat → Int64} {D1 : DS} {g' : Nat → Option aE} (hDW : DW (b + 65) sz' g' D1) (hlo : ∀ x, x < b + 65 → g' x = mh (b + 33) I' L' A' B' g x) (hr : ∀ g', mt l mr d 0 0 ar (sz', mh (b + 33) I' L' A' B' g') (fun rv h' => rv = some v ∧ ∃ I1' L1' A1' B1', h' = (sz', mh (b + 33) I1' L1' A1' B1' g') ∧ WR I1 A1 D1 I1' A1')) (hv : tv mr v := by exact ⟨_, rfl⟩) : pQ l mr d ar b (some v) (sz', ch b I1 A1 B1 D1 g') := by
  refine ⟨v, rfl, hv, ?_⟩
  rw [mid_eq hlo]
  refine ⟨⟨_, mh_obj⟩, ?_⟩
  refine mt_post (hr _) (fun rv' h'' hq => ?_)
  obtain ⟨rfl, I1', L1', A1', B1', rfl, hq⟩ := hq
  exact ⟨rfl, LW_mid hDW hq⟩
theorem lq_point {x : Int32} (hd : 11 ≤ d) (hW : DW (b + 65) sz (mh (b + 33) I' L' A' B' g) D) (hR : WR I A D I' A') : mt l mX7_point d 130 605 [.ref b, .int x] (sz, ch b I A B D (mh (b + 33) I' L' A' B' g)) (pQ l mX8_point d [.ref (b + 33), .int x] b) := by
  refine mt_post (tX7_point (by omega) hW (by omega)) (fun rv h' hq => ?_)
  obtain ⟨rfl, hq⟩ := hq
  rcases hq with ⟨hok, rfl⟩ | ⟨hok, k1, k4, hx, rfl, hDW⟩
  · refine go_on hW (fun _ _ => rfl) (fun g' => mt_post (tX8_point (by omega) hR.1) (fun rv h' hq => ⟨by rw [hq.1, an_point hR], I', L', A', B', ?_, hR⟩))
    have hok' : ¬ okPt (dNp D) x = true := by rw [show okPt (dNp D) x = false from hok]; decide
    rw [hq.2]
    unfold aPointI aPointA
    rw [if_neg hok', if_neg hok']
  · have h3 := hW.2.2.1
    refine go_on hDW (fun y hy => ov_out (by omega)) (fun g' => mt_post (tX8_point (by omega) hR.1) (fun rv h' hq => ⟨by rw [hq.1, an_point hR], _, _, _, _, hq.2, WR_point hR hok k1 k4 hx⟩))
theorem lq_act {x y : Int32} (hd : 11 ≤ d) (hW : DW (b + 65) sz (mh (b + 33) I' L' A' B' g) D) (hR : WR I A D I' A') : mt l mX7_act d 6 29 [.ref b, .int x, .int y] (sz, ch b I A B D (mh (b + 33) I' L' A' B' g)) (pQ l mX8_act d [.ref (b + 33), .int x, .int y] b) := by
  refine mt_post (tX7_act (by omega) hW (by omega)) (fun rv h' hq => ?_)
  obtain ⟨rfl, hq⟩ := hq
  rcases hq with ⟨hok, rfl⟩ | ⟨hok, k1, k4, hx, hy, rfl, hDW⟩
  · refine go_on hW (fun _ _ => rfl) (fun g' => mt_post (tX8_act (by omega) hR.1 hR.2.1) (fun rv h' hq => ⟨by rw [hq.1, an_act hR], I', L', A', B', ?_, hR⟩))
    have hok' : ¬ okAc (dNp D) (dNa D) x y = true := by rw [show okAc (dNp D) (dNa D) x y = false from hok]; decide
    rw [hq.2]
    unfold aActI aActA
    rw [if_neg hok', if_neg hok']
  · have h3 := hW.2.2.1
    refine go_on hDW (fun y hy => ov_out (by omega)) (fun g' => mt_post (tX8_act (by omega) hR.1 hR.2.1) (fun rv h' hq => ⟨by rw [hq.1, an_act hR], _, _, _, _, hq.2, WR_act hR hok k1 k4 hx hy⟩))
theorem lq_split {x v c : Int32} (hd : 11 ≤ d) (hW : DW (b + 65) sz (mh (b + 33) I' L' A' B' g) D) (hR : WR I A D I' A') : mt l mX7_split d 0 0 [.ref b, .int x, .int v, .int c] (sz, ch b I A B D (mh (b + 33) I' L' A' B' g)) (pQ l mX8_split d [.ref (b + 33), .int x, .int v, .int c] b) := by
  refine mt_post (tX7_split (by omega) hW hR.2.2.1 (by omega)) (fun rv h' hq => ?_)
  obtain ⟨rfl, hq⟩ := hq
  rcases hq with ⟨hok, rfl⟩ | ⟨hok, g1, rfl, hDW, hlo⟩
  · have h0 := an_split0 hR hok
    refine go_on hW (fun _ _ => rfl) (fun g' => mt_post (tX8_split (by omega) hR.1) (fun rv h' hq => ⟨by rw [hq.1, h0.1], I', L', A', B', by rw [hq.2, h0.2], hR⟩))
  · have h0 := WR_split hR hok
    refine go_on hDW hlo (fun g' => mt_post (tX8_split (by omega) hR.1) (fun rv h' hq => ⟨by rw [hq.1, h0.2], _, _, _, _, hq.2, h0.1⟩))
end L2
