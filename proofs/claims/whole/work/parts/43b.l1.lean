/-! THE LAW: more calls that ask -/
section L1
variable {l : Launch} {d sz b lo : Nat} {I I' I1' : Nat → Int32} {A A' A1' : Nat → Nat → Int32} {B : Nat → Int64} {L' : Int64} {B' : Nat → Nat → Int64} {D : DS} {g : Nat → Option aE}
def sf (ks os : List Nat) : Prop := (∀ k, k = 0 ∨ k = 14 ∨ k = 25 ∨ k = 27 ∨ k = 41 ∨ k = 42 ∨ k = 43 → k ∉ ks) ∧ ∀ o, o = 1 ∨ o = 2 ∨ o = 3 ∨ o = 4 ∨ o = 5 ∨ o = 6 ∨ o = 11 ∨ o = 16 ∨ o = 17 ∨ o = 18 ∨ o = 19 ∨ o = 30 ∨ o = 31 → o ∉ os
theorem sf_1 : sf [7, 9] [7, 8] := ⟨fun k hk => by rcases hk with q | q | q | q | q | q | q <;> subst q <;> decide, fun o ho => by rcases ho with q | q | q | q | q | q | q | q | q | q | q | q | q <;> subst q <;> decide⟩
theorem sf_2 : sf [7] [7] := ⟨fun k hk => by rcases hk with q | q | q | q | q | q | q <;> subst q <;> decide, fun o ho => by rcases ho with q | q | q | q | q | q | q | q | q | q | q | q | q <;> subst q <;> decide⟩
theorem sf_3 : sf [16, 17, 18, 23] [13, 14] := ⟨fun k hk => by rcases hk with q | q | q | q | q | q | q <;> subst q <;> decide, fun o ho => by rcases ho with q | q | q | q | q | q | q | q | q | q | q | q | q <;> subst q <;> decide⟩
theorem lq_guess {x s k : Int32} (hd : 11 ≤ d) (hW : DW (b + 65) sz (mh (b + 33) I' L' A' B' g) D) (hR : WR I A D I' A') : mt l mX7_guess d 0 0 [.ref b, .int x, .int s, .int k] (sz, ch b I A B D (mh (b + 33) I' L' A' B' g)) (pQ l mX8_guess d [.ref (b + 33), .int x, .int s, .int k] b) :=
  ask hR (tX7_guess (by omega) hW hR.2.2.1 (by omega)) (fun g' => by
    rw [an_guess hR]
    exact mt_post (tX8_guess (by omega) hR.1) (fun rv h' hq => ⟨hq.1, by obtain ⟨I1, A1, e, hS⟩ := hq.2; exact ⟨I1, L', A1, B', e, rEq_SC hS sf_1.1 sf_1.2⟩⟩))
theorem lq_holds {x s sh i j : Int32} (hd : 11 ≤ d) (hW : DW (b + 65) sz (mh (b + 33) I' L' A' B' g) D) (hR : WR I A D I' A') : mt l mX7_holds d 0 0 [.ref b, .int x, .int s, .int sh, .int i, .int j] (sz, ch b I A B D (mh (b + 33) I' L' A' B' g)) (pQ l mX8_holds d [.ref (b + 33), .int x, .int s, .int sh, .int i, .int j] b) :=
  ask hR (tX7_holds (by omega) hW hR.2.2.1 (by omega)) (fun g' => by
    rw [an_holds hR]
    exact mt_post (tX8_holds (by omega) hR.1) (fun rv h' hq => ⟨hq.1, by obtain ⟨I1, A1, e, hS⟩ := hq.2; exact ⟨I1, L', A1, B', e, rEq_SC hS sf_2.1 sf_2.2⟩⟩))
theorem lq_number {x s sh i w : Int32} (hd : 11 ≤ d) (hW : DW (b + 65) sz (mh (b + 33) I' L' A' B' g) D) (hR : WR I A D I' A') : mt l mX7_number d 0 0 [.ref b, .int x, .int s, .int sh, .int i, .int w] (sz, ch b I A B D (mh (b + 33) I' L' A' B' g)) (pQ l mX8_number d [.ref (b + 33), .int x, .int s, .int sh, .int i, .int w] b) :=
  ask hR (tX7_number (by omega) hW hR.2.2.1 (by omega)) (fun g' => by
    rw [an_number hR]
    exact mt_post (tX8_number (by omega) hR.1) (fun rv h' hq => ⟨hq.1, by obtain ⟨I1, A1, e, hS⟩ := hq.2; exact ⟨I1, L', A1, B', e, rEq_SC hS sf_2.1 sf_2.2⟩⟩))
theorem lq_sums {x s : Int32} (hd : 11 ≤ d) (hW : DW (b + 65) sz (mh (b + 33) I' L' A' B' g) D) (hR : WR I A D I' A') : mt l mX7_sums d 0 0 [.ref b, .int x, .int s] (sz, ch b I A B D (mh (b + 33) I' L' A' B' g)) (pQ l mX8_sums d [.ref (b + 33), .int x, .int s] b) :=
  ask hR (tX7_sums (by omega) hW hR.2.2.1 (by omega)) (fun g' => by
    rw [an_sums hR]
    exact mt_post (tX8_sums (by omega) hR.1) (fun rv h' hq => ⟨hq.1, by obtain ⟨I1, L1, A1, B1, e, hS, _⟩ := hq.2; exact ⟨I1, L1, A1, B1, e, rEq_SC hS sf_3.1 sf_3.2⟩⟩))
theorem lq_sum {x s k c : Int32} (hd : 11 ≤ d) (hW : DW (b + 65) sz (mh (b + 33) I' L' A' B' g) D) (hR : WR I A D I' A') : mt l mX7_sum d 0 0 [.ref b, .int x, .int s, .int k, .int c] (sz, ch b I A B D (mh (b + 33) I' L' A' B' g)) (pQ l mX8_sum d [.ref (b + 33), .int x, .int s, .int k, .int c] b) :=
  ask hR (tX7_sum (by omega) hW hR.2.2.1 (by omega)) (fun g' => by
    rw [an_sum hR]
    exact mt_post (tX8_sum (by omega) hR.1) (fun rv h' hq => ⟨hq.1, by obtain ⟨I1, L1, A1, B1, e, hS, _⟩ := hq.2; exact ⟨I1, L1, A1, B1, e, rEq_SC hS sf_3.1 sf_3.2⟩⟩))
theorem lq_kept (hd : 11 ≤ d) (hW : DW (b + 65) sz (mh (b + 33) I' L' A' B' g) D) (hR : WR I A D I' A') : mt l mX7_kept d 0 0 [.ref b] (sz, ch b I A B D (mh (b + 33) I' L' A' B' g)) (pQ l mX8_kept d [.ref (b + 33)] b) :=
  ask hR (tX7_kept (by omega) hW hR.2.2.1 (by omega) hR.CSt) (fun g' => by
    rw [an_kept hR]
    exact mt_post (tX8_kept (by omega) hR.1 hR.2.1 hR.MSt) (fun rv h' hq => ⟨hq.1, by obtain ⟨I1, L1, A1, B1, e, hS, _⟩ := hq.2; exact ⟨I1, L1, A1, B1, e, rEq_SC hS sf_3.1 sf_3.2⟩⟩))
end L1
