/-! THE LAW: a start, what an act makes, a reading -/
section L3
variable {l : Launch} {d sz b lo : Nat} {I I' I1' : Nat → Int32} {A A' A1' : Nat → Nat → Int32} {B : Nat → Int64} {L' : Int64} {B' : Nat → Nat → Int64} {D : DS} {g : Nat → Option aE}
/-- the class left what it found; so does the reference -/
theorem go_q {mr : Mu} {ar : List Value} {v : Value} {h' : aH} (hR : WR I A D I' A') (hq : qQ (b + 65) sz b I A D (mh (b + 33) I' L' A' B' g) h') (hr : ∀ g', mt l mr d 0 0 ar (sz, mh (b + 33) I' L' A' B' g') (fun rv h' => rv = some v ∧ ∃ I1' L1' A1' B1', h' = (sz, mh (b + 33) I1' L1' A1' B1' g') ∧ rEq I' A' I1' A1')) (hv : tv mr v := by exact ⟨_, rfl⟩) : pQ l mr d ar b (some v) h' := by
  obtain ⟨I1, A1, B1, D1, g', rfl, hDW, hlo, hE, hA, hI⟩ := hq
  refine go_on (hv := hv) hDW hlo (fun g' => mt_post (hr g') (fun rv h' hq => ?_))
  obtain ⟨rfl, I1', L1', A1', B1', rfl, hq⟩ := hq
  exact ⟨rfl, _, _, _, _, rfl, WR_q hR hE hA hI hq⟩
theorem lq_start {x v0 v1 v2 v3 : Int32} (hd : 11 ≤ d) (hW : DW (b + 65) sz (mh (b + 33) I' L' A' B' g) D) (hR : WR I A D I' A') : mt l mX7_start d 0 0 [.ref b, .int x, .int v0, .int v1, .int v2, .int v3] (sz, ch b I A B D (mh (b + 33) I' L' A' B' g)) (pQ l mX8_start d [.ref (b + 33), .int x, .int v0, .int v1, .int v2, .int v3] b) := by
  refine mt_post (tX7_start (by omega) hW (by omega)) (fun rv h' hq => ?_)
  obtain ⟨rfl, hq⟩ := hq
  rcases hq with ⟨hok, hq⟩ | ⟨hok, A1, rfl, h27, h28, h32, h4⟩
  · have hok' := hok
    rw [ok_start hR] at hok'
    have hn : ¬ (ix (dNp D) x && arB (kA A' x.toNatClampNeg) v0 v1 v2 v3) = true := by rw [hok']; decide
    refine go_q hR hq (fun g' => mt_post (tX8_start (by omega) hR.1) (fun rv h' hq => ⟨by rw [hq.1, an_start hR], I', L', A', B', ?_, rEq_rf⟩))
    rw [hq.2]
    unfold aStartI aStartA
    rw [if_neg hn, if_neg hn]
  · exact go_on hW (fun _ _ => rfl) (fun g' => mt_post (tX8_start (by omega) hR.1) (fun rv h' hq => ⟨by rw [hq.1, an_start hR], _, _, _, _, hq.2, WR_start hR hok h27 h28 h32 h4⟩))
theorem lq_makes {k v v0 v1 v2 v3 e : Int32} (hd : 11 ≤ d) (hW : DW (b + 65) sz (mh (b + 33) I' L' A' B' g) D) (hR : WR I A D I' A') : mt l mX7_makes d 0 0 [.ref b, .int k, .int v, .int v0, .int v1, .int v2, .int v3, .int e] (sz, ch b I A B D (mh (b + 33) I' L' A' B' g)) (pQ l mX8_makes d [.ref (b + 33), .int k, .int v, .int v0, .int v1, .int v2, .int v3, .int e] b) := by
  refine mt_post (tX7_makes (by omega) hW (by omega)) (fun rv h' hq => ?_)
  obtain ⟨rfl, hq⟩ := hq
  rcases hq with ⟨hok, hq⟩ | ⟨hok, A1, g1, rfl, hDW, hlo, hE⟩
  · have hn : ¬ (!noMd A' (dNa D) k v && mkOK (kA A' (frA A' k.toNatClampNeg)) v0 v1 v2 v3 e) = true := by
      rw [no_makes hR, Bool.not_not]
      intro q
      obtain ⟨q1, q2⟩ := Bool.and_eq_true_iff.mp q
      rw [← ok_makes hR (A := A) (v := v) (Bool.and_eq_true_iff.mp q1).1] at q2
      rw [q1, q2] at hok
      cases hok
    refine go_q hR hq (fun g' => mt_post (tX8_makes (by omega) hR.1 hR.2.1) (fun rv h' hq => ⟨by rw [hq.1, an_makes hR], I', L', A', B', ?_, rEq_rf⟩))
    rw [hq.2]
    unfold aMakesA
    rw [if_neg hn]
  · exact go_on hDW hlo (fun g' => mt_post (tX8_makes (by omega) hR.1 hR.2.1) (fun rv h' hq => ⟨by rw [hq.1, an_makes hR], _, _, _, _, hq.2, WR_makes hR hok hE⟩))
end L3
