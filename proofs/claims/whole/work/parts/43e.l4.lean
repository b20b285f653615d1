/-! THE LAW: readings, runs, the search -/
section L4
variable {l : Launch} {d sz b lo p : Nat} {I I' I1' : Nat → Int32} {A A' A1' : Nat → Nat → Int32} {B : Nat → Int64} {L' : Int64} {B' : Nat → Nat → Int64} {D : DS} {g : Nat → Option aE}
theorem sf_4 : sf [] [22, 23] := ⟨fun k hk => by rcases hk with q | q | q | q | q | q | q <;> subst q <;> decide, fun o ho => by rcases ho with q | q | q | q | q | q | q | q | q | q | q | q | q <;> subst q <;> decide⟩
theorem sf_5 : sf [7, 9, 46] [7, 8, 22, 23, 24, 25, 26, 27, 28, 29] := ⟨fun k hk => by rcases hk with q | q | q | q | q | q | q <;> subst q <;> decide, fun o ho => by rcases ho with q | q | q | q | q | q | q | q | q | q | q | q | q <;> subst q <;> decide⟩
theorem ftE {P : Prop} {x : Bool} (h1 : x = false) (h2 : x = true) : P := (Bool.false_ne_true (h1.symm.trans h2)).elim
theorem fill4_if {k u : Nat} {f : Nat → Int32} {a b c d : Int32} (h4 : k ≤ 4) (hu : u < k) : fill4 f a b c d u = if u = 0 then a else if u = 1 then b else if u = 2 then c else d := by
  obtain ⟨e0, e1, e2, e3⟩ := fill4_at (f := f) (a := a) (b := b) (c := c) (d := d)
  rcases (show u = 0 ∨ u = 1 ∨ u = 2 ∨ u = 3 by omega) with q | q | q | q <;> subst q
  · exact e0
  · exact e1
  · exact e2
  · exact e3
/-- the class took a reading; the reference takes it, too -/
theorem go_tk {mr : Mu} {ar : List Value} {x : Nat → Int32} {rv : Option Value} {h' : aH} (hR : WR I A D I' A') (hp : p < dNp D) (hn : nA A' p < 40) (hq : tkQ (b + 65) sz b I A D (mh (b + 33) I' L' A' B' g) p x rv h') (hr : ∀ g', mt l mr d 0 0 ar (sz, mh (b + 33) I' L' A' B' g') (fun rv h' => ∃ v0 v1 v2 v3 : Int32, (∀ u, u < dK D p → x u = (if u = 0 then v0 else if u = 1 then v1 else if u = 2 then v2 else v3) ∧ rng (x u)) ∧ rdQ sz (b + 33) L' B' g' I' A' p v0 v1 v2 v3 rv h')) (hv : ∀ z, tv mr (.int z) := by exact fun z => ⟨_, rfl⟩) : pQ l mr d ar b rv h' := by
  obtain ⟨rfl, I1, A1, B1, g1, rfl, hDW, hlo, hi, h4, h27, h28, h0, hf⟩ := hq
  refine go_on (hv := hv _) hDW hlo (fun g' => mt_post (hr g') (fun rv h' hq => ?_))
  obtain ⟨v0, v1, v2, v3, hx, e, I1', A1', rfl, hSC, h14, hf'⟩ := hq
  exact ⟨by rw [e, dc_dl hR hp hn hx], I1', L', A1', B', rfl, WR_read hR hp hn hx hi h4 h27 h28 h0 hf hSC h14 hf'⟩
theorem lq_read {x v0 v1 v2 v3 : Int32} (hd : 11 ≤ d) (hW : DW (b + 65) sz (mh (b + 33) I' L' A' B' g) D) (hR : WR I A D I' A') : mt l mX7_read d 0 0 [.ref b, .int x, .int v0, .int v1, .int v2, .int v3] (sz, ch b I A B D (mh (b + 33) I' L' A' B' g)) (pQ l mX8_read d [.ref (b + 33), .int x, .int v0, .int v1, .int v2, .int v3] b) := by
  refine mt_post (tX7_read (by omega) hW hR.2.2.1 (by omega) hR.cnt) (fun rv h' hq => ?_)
  rcases hq with ⟨h1, rfl, hq⟩ | ⟨h1, h2, rfl, hq⟩ | ⟨h1, h2, h3, rfl, hq⟩ | ⟨h1, h2, h3, hq⟩
  · refine go_q hR hq (fun g' => mt_post (tX8_read (by omega) hR.1) (fun rv h' hq => ?_))
    rcases hq with ⟨_, r, e⟩ | ⟨h, _⟩ | ⟨h, _⟩ | ⟨h, _⟩
    · exact ⟨r, I', L', A', B', e, rEq_rf⟩
    · exact ftE h1 h
    · exact ftE h1 h
    · exact ftE h1 h
  · have hp := (ix_lt h1 (by have := hR.np6; omega)).1
    obtain ⟨hk, hk1⟩ := hR.k4 hp
    rw [cWi_ar hk1 hk, (hR.pt hp).1] at h2
    refine go_q hR hq (fun g' => mt_post (tX8_read (by omega) hR.1) (fun rv h' hq => ?_))
    rcases hq with ⟨h, _⟩ | ⟨_, _, r, e⟩ | ⟨_, h, _⟩ | ⟨_, h, _⟩
    · exact ftE h h1
    · exact ⟨r, I', L', A', B', e, rEq_rf⟩
    · exact ftE h2 h
    · exact ftE h2 h
  · have hp := (ix_lt h1 (by have := hR.np6; omega)).1
    obtain ⟨hk, hk1⟩ := hR.k4 hp
    rw [cWi_ar hk1 hk, (hR.pt hp).1] at h2
    rw [(hR.pt hp).2.1] at h3
    refine go_q hR hq (fun g' => mt_post (tX8_read (by omega) hR.1) (fun rv h' hq => ?_))
    rcases hq with ⟨h, _⟩ | ⟨_, h, _⟩ | ⟨_, _, _, r, e⟩ | ⟨_, _, h, _⟩
    · exact ftE h h1
    · exact ftE h h2
    · exact ⟨r, I', L', A', B', e, rEq_rf⟩
    · omega
  · have hp := (ix_lt h1 (by have := hR.np6; omega)).1
    obtain ⟨hk, hk1⟩ := hR.k4 hp
    have h20 := h2
    rw [cWi_ar hk1 hk, (hR.pt hp).1] at h2
    rw [(hR.pt hp).2.1] at h3
    refine go_tk hR hp h3 hq (fun g' => mt_post (tX8_read (by omega) hR.1) (fun rv h' hq => ?_))
    rcases hq with ⟨h, _⟩ | ⟨_, h, _⟩ | ⟨_, _, h, _⟩ | ⟨_, _, _, r, I1', A1', e, hS, h14, hf⟩
    · exact ftE h h1
    · exact ftE h h2
    · omega
    · exact ⟨v0, v1, v2, v3, fun u hu => ⟨fill4_if hk hu, cWi_rng h20 hu⟩, r, I1', A1', e, hS.mo (fun _ h => h) (fun o ho => by simp only [List.mem_cons, List.not_mem_nil, or_false] at ho ⊢; omega), h14, hf⟩
theorem rc_VX (h : WR I A D I' A') : ∀ m n pt xs p ys, VX D pt xs → rcF D m n pt xs = .inr (p, ys) → VX D p ys
  | 0, _, pt, xs, p, ys, hv, e => by
    unfold rcF at e
    cases e
    exact hv
  | m + 1, n, pt, xs, p, ys, hv, e => by
    unfold rcF at e
    by_cases c1 : dNa D ≤ n % 10 ∨ ¬ dFr D (n % 10) = pt
    · rw [if_pos c1] at e
      cases e
    · rw [if_neg c1] at e
      by_cases c2 : lcD D (n % 10) xs = false
      · rw [if_pos c2] at e
        cases e
      · rw [if_neg c2] at e
        exact rc_VX h m _ _ _ p ys (VX_lc h (by omega) (Bool.not_eq_false _ ▸ c2)) e
theorem WR.start (h : WR I A D I' A') (h3 : ¬ I 3 < 0) : ¬ I' 25 < 0 ∧ I' 25 = I 3 ∧ stL (A' 16) (kA A' (I 3).toNatClampNeg) = stL (A 4) (dK D (I 3).toNatClampNeg) ∧ VX D (I 3).toNatClampNeg (stL (A 4) (dK D (I 3).toNatClampNeg)) := by
  rcases h.st with ⟨q1, q2⟩ | ⟨_, s1, s2, s3, s4, s5⟩
  · exact absurd q1 h3
  · refine ⟨Int32.not_lt.mpr s1, s2.symm, ?_, s3, by unfold stL; simp, fun u hu => by rw [stL_get hu]; exact (s5 u hu).2⟩
    rw [← (h.pt s3).1]
    exact stL_congr (fun u hu => (s5 u hu).1.symm)
theorem WR.nost (h : WR I A D I' A') (h3 : I 3 < 0) : I' 25 < 0 := by
  rcases h.st with ⟨q1, q2⟩ | ⟨q1, _⟩
  · exact Int32.not_le.mp q2
  · exact absurd h3 q1
theorem lq_run {n m : Int32} (hd : 11 ≤ d) (hW : DW (b + 65) sz (mh (b + 33) I' L' A' B' g) D) (hR : WR I A D I' A') : mt l mX7_run d 0 0 [.ref b, .int n, .int m] (sz, ch b I A B D (mh (b + 33) I' L' A' B' g)) (pQ l mX8_run d [.ref (b + 33), .int n, .int m] b) := by
  refine mt_post (tX7_run (by omega) hW hR.2.2.1 (by omega) hR.cnt hR.CSt) (fun rv h' hq => ?_)
  rcases hq with ⟨h1, rfl, rfl⟩ | ⟨h1, h2, rfl, rfl⟩ | ⟨h1, h2, hq⟩
  · have h1' : aRunOK m n = false := h1
    refine go_on hW (fun _ _ => rfl) (fun g' => mt_post (tX8_run (by omega) hR.1 hR.2.1 hR.MSt) (fun rv h' hq => ?_))
    rcases hq with ⟨_, r, e⟩ | ⟨h, _⟩ | ⟨h, _⟩
    · exact ⟨r, I', L', A', B', e, hR⟩
    · exact ftE h1' h
    · exact ftE h1' h
  · have h1' : aRunOK m n = true := h1
    have h2' := hR.nost h2
    refine go_on hW (fun _ _ => rfl) (fun g' => mt_post (tX8_run (by omega) hR.1 hR.2.1 hR.MSt) (fun rv h' hq => ?_))
    rcases hq with ⟨h, _⟩ | ⟨_, _, r, e⟩ | ⟨_, h, _⟩
    · exact ftE h h1'
    · exact ⟨r, I', L', A', B', e, hR⟩
    · exact absurd h2' h
  · have h1' : aRunOK m n = true := h1
    obtain ⟨s1, s2, s3, s4⟩ := hR.start h2
    have hM : ∀ g' R, rcF D m.toNatClampNeg n.toNatClampNeg (I 3).toNatClampNeg (stL (A 4) (dK D (I 3).toNatClampNeg)) = R → mt l mX8_run d 0 0 [.ref (b + 33), .int n, .int m] (sz, mh (b + 33) I' L' A' B' g') (runQ sz (b + 33) L' B' g' I' A' R) := by
      intro g' R hRR
      refine mt_post (tX8_run (by omega) hR.1 hR.2.1 hR.MSt) (fun rv h' hq => ?_)
      rw [s2, s3, ← rc_rn hR, hRR] at hq
      rcases hq with ⟨h, _⟩ | ⟨_, h, _⟩ | ⟨_, _, hq⟩
      · exact ftE h h1'
      · exact absurd h h2
      · exact hq
    rcases hRR : rcF D m.toNatClampNeg n.toNatClampNeg (I 3).toNatClampNeg (stL (A 4) (dK D (I 3).toNatClampNeg)) with e | ⟨p, xs⟩
    · rw [hRR] at hq
      obtain ⟨rfl, hq⟩ := hq
      refine go_q hR hq (fun g' => mt_post (hM g' _ hRR) (fun rv h' hq => ?_))
      obtain ⟨r, A1', e, hS⟩ := hq
      exact ⟨r, I', L', A1', B', e, rEq_SC hS sf_4.1 sf_4.2⟩
    · rw [hRR] at hq
      have hV := rc_VX hR _ _ _ _ _ _ s4 hRR
      obtain ⟨w1, w2, -⟩ := hR.pt hV.1
      rcases hq with ⟨h3, rfl, hq⟩ | ⟨h3, x, hx, hq⟩
      · refine go_q hR hq (fun g' => mt_post (hM g' _ hRR) (fun rv h' hq => ?_))
        rcases hq with ⟨_, r, A1', e, hS⟩ | ⟨h, _⟩
        · exact ⟨r, I', L', A1', B', e, rEq_SC hS sf_4.1 sf_4.2⟩
        · omega
      · refine go_tk hR hV.1 (by omega) hq (fun g' => mt_post (hM g' _ hRR) (fun rv h' hq => ?_))
        rcases hq with ⟨h, _⟩ | ⟨_, v0, v1, v2, v3, hy, hq⟩
        · omega
        · refine ⟨v0, v1, v2, v3, fun u hu => ⟨?_, ?_⟩, hq⟩
          · rw [← stL_get (x := x) hu, hx, ← hy, stL_get (by omega)]
          · rw [← stL_get (x := x) hu, hx]
            exact hV.2.2 u hu
theorem lq_search {n : Int32} (hd : 11 ≤ d) (hW : DW (b + 65) sz (mh (b + 33) I' L' A' B' g) D) (hR : WR I A D I' A') : mt l mX7_search d 0 0 [.ref b, .int n] (sz, ch b I A B D (mh (b + 33) I' L' A' B' g)) (pQ l mX8_search d [.ref (b + 33), .int n] b) := by
  refine mt_post (tX7_search hd hW hR.2.2.1 (by omega) hR.CSt hR.inR) (fun rv h' hq => ?_)
  rcases hq with ⟨h1, rfl, rfl⟩ | ⟨h1, h2, rfl, rfl⟩ | ⟨h1, h2, hq⟩
  · refine go_on hW (fun _ _ => rfl) (fun g' => mt_post (tX8_search (by omega) hR.1 hR.2.1 hR.MSt) (fun rv h' hq => ?_))
    rcases hq with ⟨_, r, e⟩ | ⟨h, _⟩ | ⟨h, _⟩
    · exact ⟨r, I', L', A', B', e, hR⟩
    · exact ftE h1 h
    · exact ftE h1 h
  · have h2' := hR.nost h2
    refine go_on hW (fun _ _ => rfl) (fun g' => mt_post (tX8_search (by omega) hR.1 hR.2.1 hR.MSt) (fun rv h' hq => ?_))
    rcases hq with ⟨h, _⟩ | ⟨_, _, r, e⟩ | ⟨_, h, _⟩
    · exact ftE h h1
    · exact ⟨r, I', L', A', B', e, hR⟩
    · exact absurd h2' h
  · obtain ⟨s1, s2, s3, s4⟩ := hR.start h2
    have hM : ∀ g' R, srT A' (dNa D) (dNp D) n.toNatClampNeg (I 3).toNatClampNeg (stL (A 4) (dK D (I 3).toNatClampNeg)) = R → mt l mX8_search d 0 0 [.ref (b + 33), .int n] (sz, mh (b + 33) I' L' A' B' g') (seQ sz (b + 33) L' B' g' (dNp D) I' A' R) := by
      intro g' R hRR
      refine mt_post (tX8_search (by omega) hR.1 hR.2.1 hR.MSt) (fun rv h' hq => ?_)
      rw [s2, s3, hRR] at hq
      rcases hq with ⟨h, _⟩ | ⟨_, h, _⟩ | ⟨_, _, hq⟩
      · exact ftE h h1
      · exact absurd h h2
      · exact hq
    rcases gcL_srT hR (n := n.toNatClampNeg) s4 with ⟨q1, q2⟩ | ⟨c, r, q1, q2⟩
    · rw [q1] at hq
      obtain ⟨rfl, hq⟩ := hq
      refine go_q hR hq (fun g' => mt_post (hM g' _ q2) (fun rv h' hq => ?_))
      obtain ⟨I1', A1', e, r, hS⟩ := hq
      exact ⟨r, I1', L', A1', B', e, rEq_SC hS sf_5.1 sf_5.2⟩
    · rw [q1] at hq
      obtain ⟨rfl, I1, A1, rfl, i0, i3, h4, h32, hF⟩ := hq
      refine go_on hW (fun _ _ => rfl) (fun g' => mt_post (hM g' _ q2) (fun rv h' hq => ?_))
      obtain ⟨I1', A1', e, r, hS, _, _, hFB⟩ := hq
      exact ⟨r, I1', L', A1', B', e, WR_found hR (c := c) i0 i3 h4 h32 hF hS rfl hFB⟩
end L4
