/-! tales() of the reference -/
def JS8 (T : TX) (L : PH) (b : Int) (h : PH) (R : PR) : Prop := (b = 1 ∧ ∃ m s Y, RN T h s ∧ RTt h L Y ∧ WT Y ∧ m ≤ s ∧ m ≤ 300 ∧ ptl T L (300 - m) s Y = R) ∨ (b = 0 ∧ ∃ q, R = .inl q ∧ RF h q.1 q.2)
theorem JS8.st {T : TX} {L Y : PH} {m s : Nat} {v : Int} {h' : PH} {R : PR} (hs : s ≤ T.2) (h3 : T.2 ≤ 300) (us : m ≤ s) (hk : kd T s ≠ 0) (e : ptl T L (300 - m) s Y = R) (t : T5 T s L v h' (pTale T L s Y)) : JS8 T L v h' R := by
  have lt : s < T.2 := by
    have := (nx_b hs).2.2 hk
    have := (nx_b hs).2.1
    omega
  obtain ⟨k, hk2⟩ : ∃ k, 300 - m = k + 1 := ⟨300 - m - 1, by omega⟩
  rw [hk2] at e
  have e : (if kd T s = 0 then tEnd T s Y else sq (pTale T L s Y) (ptl T L k)) = R := e
  rw [if_neg hk] at e
  generalize pTale T L s Y = P at t e
  match P, t, e with
  | .inl q, t, e => exact Or.inr ⟨t.1, q, e.symm, t.2.1⟩
  | .inr q, t, e => exact Or.inl ⟨t.1, m + 1, q.1, q.2, t.2.1, t.2.2.1, t.2.2.2.1, by have := t.2.2.2.2; omega, by omega, by rw [show 300 - (m + 1) = k by omega]; exact e⟩
/-- persons, houses and names are the same -/
def CO12 (b s : Nat) (h : PH) : Prop := (h (b + 1) 0 = h 170 (528 * s) ∧ h b 4 = h 170 (528 * s + 1)) ∧ ((0 ≤ h (b + 1) 0 ∧ h (b + 1) 0 ≤ 7) ∧ (0 ≤ h b 4 ∧ h b 4 ≤ 8)) ∧ (∀ i : Nat, (i : Int) < h (b + 1) 0 → Nm (h (b + 9) i) (h 171 (15 * s + i))) ∧ ∀ p : Nat, (p : Int) < h b 4 → Nm (h (b + 10) p) (h 171 (15 * s + 7 + p))
theorem CO12.cp {b s b' s' : Nat} {h h' : PH} (hc : CO12 b s h) (e1 : h' b' 4 = h b 4) (e0 : h' (b' + 1) 0 = h (b + 1) 0) (e2 : ∀ k : Nat, k < 7 → h' (b' + 9) k = h (b + 9) k) (e3 : ∀ k : Nat, k < 8 → h' (b' + 10) k = h (b + 10) k) (e4 : ∀ k : Nat, k < 2 → h' 170 (528 * s' + k) = h 170 (528 * s + k)) (e5 : ∀ k : Nat, k < 15 → h' 171 (15 * s' + k) = h 171 (15 * s + k)) : CO12 b' s' h' := by
  obtain ⟨⟨a1, a2⟩, ⟨a3, a4⟩, a5, a6⟩ := hc
  have x0 : h' 170 (528 * s') = h 170 (528 * s) := e4 0 (by omega)
  refine ⟨⟨by rw [e0, x0]; exact a1, by rw [e1, e4 1 (by omega)]; exact a2⟩, ⟨by rw [e0]; exact a3, by rw [e1]; exact a4⟩, fun i hi => ?_, fun p hp => ?_⟩
  · rw [e0] at hi
    rw [e2 i (by omega), e5 i (by omega)]
    exact a5 i hi
  · rw [e1] at hp
    rw [e3 p (by omega), show 15 * s' + 7 + p = 15 * s' + (7 + p) by omega, e5 _ (by omega), show 15 * s + (7 + p) = 15 * s + 7 + p by omega]
    exact a6 p hp
theorem CO12.of {b s : Nat} {h L : PH} (x : CLx b h L) (r : RLd (528 * s) (15 * s) h L) (w : WL L) : CO12 b s h := by
  have e1 : h b 4 = L 0 4 := x 0 4 (by unfold inL; omega) (by omega) (by omega)
  have e0 : h (b + 1) 0 = L 1 0 := x 1 0 (by unfold inL; omega) (by omega) (by omega)
  have w0 := w.1
  have w1 := w.2.1
  refine ⟨⟨by rw [e0, r.1.1], by rw [e1, r.1.2.1]⟩, ⟨by rw [e0]; exact w0, by rw [e1]; exact w1⟩, fun i hi => ?_, fun p hp => ?_⟩
  · rw [e0] at hi
    rw [x 9 i (il9 (by omega)) (by omega) (by omega)]
    exact r.2.2.2.2.2.1 i hi
  · rw [e1] at hp
    rw [x 10 p (by unfold inL; omega) (by omega) (by omega)]
    exact r.2.2.2.2.2.2 p hp
theorem Frm.c2 {F : List (Nat × Int × Int)} {h h' : PH} (hF : Frm F h h') {b s : Nat} (hc : CO12 b s h) (e1 : (b, 4, 4) ∈ F) (e0 : (b + 1, 0, 0) ∈ F) (e2 : (b + 9, 0, 6) ∈ F) (e3 : (b + 10, 0, 7) ∈ F) (e4 : ∀ k : Nat, k < 2 → h' 170 (528 * s + k) = h 170 (528 * s + k)) (e5 : ∀ k : Nat, k < 15 → h' 171 (15 * s + k) = h 171 (15 * s + k)) : CO12 b s h' :=
  hc.cp (fmat hF e1 4 (by omega) (by omega)) (fmat hF e0 0 (by omega) (by omega)) (fun k hk => fmat hF e2 k (by omega) (by omega)) (fun k hk => fmat hF e3 k (by omega) (by omega)) e4 e5
section PR
variable {sl : Nat} {si : Nat → Int} {h h1 h2 : PH} {a b c d e v w : Int}
end PR
