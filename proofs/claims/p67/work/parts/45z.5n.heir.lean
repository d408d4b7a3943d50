set_option maxRecDepth 10000 in
theorem v_X11_isPerson {sl : Nat} {si : Nat → Int} {K : Nat → PH → ZL → List ZV → Prop} {Q : PH → List ZV → Prop} {h : PH} {a : Int} (H : (a < 0 → Q h [(0, 0)]) ∧ (¬ (a < 0) → R32 (h 5 4) → ((h 5 4) ≤ a → Q h [(0, 0)]) ∧ (¬ ((h 5 4) ≤ a) → Q h [(0, 1)]))) : vc (zz sl si (7, 0)) (fun _ => false) K Q mX11_isPerson 12 0 mX11_isPerson.2.2.2.2.2.2 h [(0, (2, 0)), (1, (0, a))] [] := H
theorem c_X11_isPerson {sl : Nat} {si : Nat → Int} {h h' : PH} {a : Int} {v : Int} (hc : CP (zz sl si (7, 0)) mX11_isPerson h [(2, 0), (0, a)] h' [(0, v)]) : h' = h ∧ (v = 1 ↔ 0 ≤ a ∧ a < h 5 4) := by
  have q := cp_vc (K := fun _ _ _ _ => True) (Q := fun xh r => xh = h ∧ ∀ v, r = [(0, v)] → (v = 1 ↔ 0 ≤ a ∧ a < h 5 4)) (v_X11_isPerson ⟨fun c1 => (by exact ⟨rfl, fun v e => by cases e; omega⟩), fun c1 => (fun r2 => ⟨fun c3 => (by exact ⟨rfl, fun v e => by cases e; omega⟩), fun c3 => (by exact ⟨rfl, fun v e => by cases e; omega⟩)⟩)⟩) (fun _ _ _ _ z _ => Bool.noConfusion z) hc
  exact ⟨q.1, q.2 v rfl⟩
/-! HEIRS of both -/
def CO16 (b s : Nat) (h : PH) : Prop := h b 4 = h 170 (528 * s + 1) ∧ (0 ≤ h b 4 ∧ h b 4 ≤ 8) ∧ ∀ p : Nat, p < 8 → h (b + 14) p = h 170 (528 * s + 131 + 4 * p) ∧ (0 ≤ h (b + 14) p ∧ h (b + 14) p ≤ 3) ∧ ∀ k : Nat, k < 3 → (k : Int) < h (b + 14) p → h (b + 13) (3 * p + k) = h 170 (528 * s + 132 + 4 * p + k)
theorem CO16.cp {b s b' s' : Nat} {h h' : PH} (hc : CO16 b s h) (e1 : h' b' 4 = h b 4) (e2 : ∀ k : Nat, k < 24 → h' (b' + 13) k = h (b + 13) k) (e3 : ∀ k : Nat, k < 8 → h' (b' + 14) k = h (b + 14) k) (e4 : h' 170 (528 * s' + 1) = h 170 (528 * s + 1)) (e5 : ∀ k : Nat, k < 32 → h' 170 (528 * s' + 131 + k) = h 170 (528 * s + 131 + k)) : CO16 b' s' h' := by
  obtain ⟨a1, a2, a3⟩ := hc
  refine ⟨by rw [e1, e4]; exact a1, by rw [e1]; exact a2, fun p hp => ?_⟩
  obtain ⟨x, y, z⟩ := a3 p hp
  refine ⟨by rw [e3 p hp, e5 _ (by omega)]; exact x, by rw [e3 p hp]; exact y, fun k hk q => ?_⟩
  rw [e3 p hp] at q
  rw [e2 _ (by omega), show 528 * s' + 132 + 4 * p + k = 528 * s' + 131 + (4 * p + k + 1) by omega, e5 _ (by omega), show 528 * s + 131 + (4 * p + k + 1) = 528 * s + 132 + 4 * p + k by omega]
  exact z k hk q
theorem CO16.of {b s nb : Nat} {h L : PH} (x : CLx b h L) (r : RLd (528 * s) nb h L) (w : WL L) : CO16 b s h := by
  have e1 : h b 4 = L 0 4 := x 0 4 (by unfold inL; omega) (by omega) (by omega)
  have w3 := w.2.2.1
  refine ⟨by rw [e1, r.1.2.1], by rw [e1]; exact w.2.1, fun p hp => ?_⟩
  have e2 : h (b + 14) p = L 14 p := x 14 p (by unfold inL; omega) (by omega) (by omega)
  obtain ⟨r1, r2⟩ := r.2.2.2.2.1 p hp
  refine ⟨by rw [e2, r1], by rw [e2]; exact w3 p hp, fun k hk q => ?_⟩
  rw [e2] at q
  have e3 : h (b + 13) (3 * p + k) = L 13 (3 * p + k) := x 13 (3 * p + k) (by unfold inL; omega) (by omega) (by omega)
  rw [e3, r2 k hk q]
theorem fmat {F : List (Nat × Int × Int)} {h h' : PH} (hF : Frm F h h') {c : Nat} {x y : Int} (e : (c, x, y) ∈ F) (k : Nat) (h1 : x ≤ (k : Int)) (h2 : (k : Int) ≤ y) : h' c k = h c k := hF _ e k h1 h2
theorem Frm.sb {F G : List (Nat × Int × Int)} {h h' : PH} (hF : Frm F h h') (e : ∀ g ∈ G, g ∈ F) : Frm G h h' := fun g hg k h1 h2 => hF g (e g hg) k h1 h2
theorem Frm.s {F G : List (Nat × Int × Int)} {h h' : PH} (hF : Frm F h h') (e : G.all (fun g => F.any (fun f => decide (f = g))) = true) : Frm G h h' := hF.sb (fun g hg => by
  have x := List.all_eq_true.mp e g hg
  obtain ⟨f, hf, q⟩ := List.any_eq_true.mp x
  rw [← of_decide_eq_true q]
  exact hf)
section PR
variable {sl : Nat} {si : Nat → Int} {h h1 h2 : PH} {a b c d e v w : Int}
theorem J10_eq {h h' : PH} (hJ : J10 h) (e : ∀ c k : Nat, (c = 2 ∧ k = 1) ∨ c = 3 ∨ c = 4 ∨ (c = 169 ∧ k = 10) ∨ c = 175 → h' c k = h c k) : J10 h' := by
  obtain ⟨a, b, c, d⟩ := hJ
  have e1 := e 2 1 (by omega)
  exact ⟨by rw [e1, e 169 10 (by omega)]; exact a, by rw [e1]; exact b, fun k hk => by rw [e 175 k (by omega), e 3 k (by omega)]; exact c k hk, fun k hk => by rw [e 4 k (by omega)]; exact d k hk⟩
end PR
