set_option maxRecDepth 10000 in
theorem v_X11_isPerson {sl : Nat} {si : Nat → Int} {K : Nat → PH → ZL → List ZV → Prop} {Q : PH → List ZV → Prop} {h : PH} {a : Int} (H : (a < 0 → Q h [(0, 0)]) ∧ (¬ (a < 0) → R32 (h 5 4) → ((h 5 4) ≤ a → Q h [(0, 0)]) ∧ (¬ ((h 5 4) ≤ a) → Q h [(0, 1)]))) : vc (zz sl si (7, 0)) (fun _ => false) K Q mX11_isPerson 12 0 mX11_isPerson.2.2.2.2.2.2 h [(0, (2, 0)), (1, (0, a))] [] := H
theorem c_X11_isPerson {sl : Nat} {si : Nat → Int} {h h' : PH} {a : Int} {v : Int} (hc : CP (zz sl si (7, 0)) mX11_isPerson h [(2, 0), (0, a)] h' [(0, v)]) : h' = h ∧ (v = 1 ↔ 0 ≤ a ∧ a < h 5 4) := by
  have q := cp_vc (K := fun _ _ _ _ => True) (Q := fun xh r => xh = h ∧ ∀ v, r = [(0, v)] → (v = 1 ↔ 0 ≤ a ∧ a < h 5 4)) (v_X11_isPerson ⟨fun c1 => (by exact ⟨rfl, fun v e => by cases e; omega⟩), fun c1 => (fun r2 => ⟨fun c3 => (by exact ⟨rfl, fun v e => by cases e; omega⟩), fun c3 => (by exact ⟨rfl, fun v e => by cases e; omega⟩)⟩)⟩) (fun _ _ _ _ z _ => Bool.noConfusion z) hc
  exact ⟨q.1, q.2 v rfl⟩
set_option maxRecDepth 10000 in
theorem v_X11_heir {sl : Nat} {si : Nat → Int} {K : Nat → PH → ZL → List ZV → Prop} {Q : PH → List ZV → Prop} {h : PH} {a b : Int} (H : ∀ h1 v1, CP (zz sl si (7, 0)) mX11_isPerson h [(2, 0), (0, a)] h1 [(0, v1)] → v1 = 0 ∨ v1 = 1 → (v1 = 0 → ∀ h2 v2, CP (zz sl si (7, 0)) mX11_refuse h1 [(2, 0), (0, 1)] h2 [(0, v2)] → R32 v2 → Q h2 [(0, v2)]) ∧ (¬ (v1 = 0) → ((0 : Int) ≤ b → 0 ≤ a ∧ a < (8 : Nat) → R32 (h1 19 a.toNat) → (b < (h1 19 a.toNat) → 0 ≤ w32 ((w32 (a * 3)) + b) ∧ w32 ((w32 (a * 3)) + b) < (24 : Nat) → R32 (h1 18 (w32 ((w32 (a * 3)) + b)).toNat) → ∀ h3 v3, CP (zz sl si (7, 0)) mX11_answer h1 [(2, 0), (0, (h1 18 (w32 ((w32 (a * 3)) + b)).toNat))] h3 [(0, v3)] → R32 v3 → Q h3 [(0, v3)]) ∧ (¬ (b < (h1 19 a.toNat)) → ∀ h4 v4, CP (zz sl si (7, 0)) mX11_refuse h1 [(2, 0), (0, 6)] h4 [(0, v4)] → R32 v4 → Q h4 [(0, v4)])) ∧ (¬ ((0 : Int) ≤ b) → ∀ h5 v5, CP (zz sl si (7, 0)) mX11_refuse h1 [(2, 0), (0, 1)] h5 [(0, v5)] → R32 v5 → Q h5 [(0, v5)]))) : vc (zz sl si (7, 0)) (fun _ => false) K Q mX11_heir 27 0 mX11_heir.2.2.2.2.2.2 h [(0, (2, 0)), (1, (0, a)), (2, (0, b))] [] := H
set_option maxHeartbeats 600000 in
theorem c_X11_heir {sl : Nat} {si : Nat → Int} {h h' : PH} {a b : Int} {v : Int} (hn : 0 ≤ h 5 4 ∧ h 5 4 ≤ 8) (hc : CP (zz sl si (7, 0)) mX11_heir h [(2, 0), (0, a), (0, b)] h' [(0, v)]) : (0 ≤ a ∧ a < h 5 4 ∧ 0 ≤ b ∧ b < h 19 a.toNat ∧ (b ≤ 2 → v = h 18 (3 * a.toNat + b.toNat))) ∨ (¬ (0 ≤ a ∧ a < h 5 4 ∧ 0 ≤ b ∧ b < h 19 a.toNat) ∧ v = -1) := by
  have q : (fun (xh : PH) (r : List ZV) => ∀ v : Int, r = [(0, v)] → ((0 ≤ a ∧ a < h 5 4 ∧ 0 ≤ b ∧ b < h 19 a.toNat ∧ (b ≤ 2 → v = h 18 (3 * a.toNat + b.toNat))) ∨ (¬ (0 ≤ a ∧ a < h 5 4 ∧ 0 ≤ b ∧ b < h 19 a.toNat) ∧ v = -1))) h' [(0, v)] := by
    refine cp_vc (cut := (fun _ => false)) (K := fun p hx lv st => False) (Q := fun (xh : PH) (r : List ZV) => ∀ v : Int, r = [(0, v)] → ((0 ≤ a ∧ a < h 5 4 ∧ 0 ≤ b ∧ b < h 19 a.toNat ∧ (b ≤ 2 → v = h 18 (3 * a.toNat + b.toNat))) ∨ (¬ (0 ≤ a ∧ a < h 5 4 ∧ 0 ≤ b ∧ b < h 19 a.toNat) ∧ v = -1))) (v_X11_heir ?_) (fun pc hx lv st hcut hK => ?_) hc
    · exact (fun h1 v1 p1 q1 => by obtain ⟨t1, e1⟩ := c_X11_isPerson p1; have t1 := t1.symm; subst t1; exact ⟨fun c1 => (fun h2 v2 p2 q2 => by obtain ⟨t2, e2⟩ := c_X11_refuse p2; have t2 := t2.symm; subst t2; exact (by intro v e; cases e; exact Or.inr ⟨fun z => by have := e1.mpr ⟨z.1, z.2.1⟩; omega, e2⟩)), fun c1 => ⟨fun c2 => (fun b3 r4 => ⟨fun c5 => (fun b6 r7 => (fun h3 v3 p3 q3 => by obtain ⟨t3, e3⟩ := c_X11_answer p3; have t3 := t3.symm; subst t3; exact (by intro v e; cases e; have w := e1.mp (by omega); refine Or.inl ⟨w.1, w.2, c2, c5, fun z => ?_⟩; rw [w32_id (z := a * 3) (by omega) (by omega), w32_id (by omega) (by omega)] at e3; rw [e3, show (a * 3 + b).toNat = 3 * a.toNat + b.toNat by omega]))), fun c5 => (fun h4 v4 p4 q4 => by obtain ⟨t4, e4⟩ := c_X11_refuse p4; have t4 := t4.symm; subst t4; exact (by intro v e; cases e; exact Or.inr ⟨fun z => c5 z.2.2.2, e4⟩))⟩), fun c2 => (fun h5 v5 p5 q5 => by obtain ⟨t5, e5⟩ := c_X11_refuse p5; have t5 := t5.symm; subst t5; exact (by intro v e; cases e; exact Or.inr ⟨fun z => c2 z.2.2.1, e5⟩))⟩⟩)
    · exact hK.elim
  exact q v rfl
set_option maxRecDepth 10000 in
theorem v_X12_heir {sl : Nat} {si : Nat → Int} {K : Nat → PH → ZL → List ZV → Prop} {Q : PH → List ZV → Prop} {h : PH} {a b : Int} (H : ∀ h1 v1, CP (zz sl si (7, 0)) mX12_isPerson h [(2, 169), (0, a)] h1 [(0, v1)] → v1 = 0 ∨ v1 = 1 → (v1 ≠ 0 → (b < 0 → ∀ h2 v2, CP (zz sl si (7, 0)) mX12_refuse h1 [(2, 169), (0, 6)] h2 [(0, v2)] → R32 v2 → Q h2 [(0, v2)]) ∧ (¬ (b < 0) → 0 ≤ w32 (131 + (w32 (4 * a))) ∧ w32 (131 + (w32 (4 * a))) < (3696 : Nat) → R32 (h1 170 (w32 (131 + (w32 (4 * a)))).toNat) → (b < (h1 170 (w32 (131 + (w32 (4 * a)))).toNat) → 0 ≤ w32 ((w32 ((w32 (131 + (w32 (4 * a)))) + 1)) + b) ∧ w32 ((w32 ((w32 (131 + (w32 (4 * a)))) + 1)) + b) < (3696 : Nat) → R32 (h1 170 (w32 ((w32 ((w32 (131 + (w32 (4 * a)))) + 1)) + b)).toNat) → ∀ h3 v3, CP (zz sl si (7, 0)) mX12_gives h1 [(2, 169), (0, (h1 170 (w32 ((w32 ((w32 (131 + (w32 (4 * a)))) + 1)) + b)).toNat))] h3 [(0, v3)] → R32 v3 → Q h3 [(0, v3)]) ∧ (¬ (b < (h1 170 (w32 (131 + (w32 (4 * a)))).toNat)) → ∀ h4 v4, CP (zz sl si (7, 0)) mX12_refuse h1 [(2, 169), (0, 6)] h4 [(0, v4)] → R32 v4 → Q h4 [(0, v4)]))) ∧ (¬ (v1 ≠ 0) → ∀ h5 v5, CP (zz sl si (7, 0)) mX12_refuse h1 [(2, 169), (0, 1)] h5 [(0, v5)] → R32 v5 → Q h5 [(0, v5)])) : vc (zz sl si (7, 0)) (fun _ => false) K Q mX12_heir 31 0 mX12_heir.2.2.2.2.2.2 h [(0, (2, 169)), (1, (0, a)), (2, (0, b))] [] := H
set_option maxHeartbeats 600000 in
theorem c_X12_heir {sl : Nat} {si : Nat → Int} {h h' : PH} {a b : Int} {v : Int} (hn : 0 ≤ h 170 1 ∧ h 170 1 ≤ 8) (hc : CP (zz sl si (7, 0)) mX12_heir h [(2, 169), (0, a), (0, b)] h' [(0, v)]) : (0 ≤ a ∧ a < h 170 1 ∧ 0 ≤ b ∧ b < h 170 (131 + 4 * a.toNat) ∧ (b ≤ 2 → v = h 170 (132 + 4 * a.toNat + b.toNat))) ∨ (¬ (0 ≤ a ∧ a < h 170 1 ∧ 0 ≤ b ∧ b < h 170 (131 + 4 * a.toNat)) ∧ v = -1) := by
  have q : (fun (xh : PH) (r : List ZV) => ∀ v : Int, r = [(0, v)] → ((0 ≤ a ∧ a < h 170 1 ∧ 0 ≤ b ∧ b < h 170 (131 + 4 * a.toNat) ∧ (b ≤ 2 → v = h 170 (132 + 4 * a.toNat + b.toNat))) ∨ (¬ (0 ≤ a ∧ a < h 170 1 ∧ 0 ≤ b ∧ b < h 170 (131 + 4 * a.toNat)) ∧ v = -1))) h' [(0, v)] := by
    refine cp_vc (cut := (fun _ => false)) (K := fun p hx lv st => False) (Q := fun (xh : PH) (r : List ZV) => ∀ v : Int, r = [(0, v)] → ((0 ≤ a ∧ a < h 170 1 ∧ 0 ≤ b ∧ b < h 170 (131 + 4 * a.toNat) ∧ (b ≤ 2 → v = h 170 (132 + 4 * a.toNat + b.toNat))) ∨ (¬ (0 ≤ a ∧ a < h 170 1 ∧ 0 ≤ b ∧ b < h 170 (131 + 4 * a.toNat)) ∧ v = -1))) (v_X12_heir ?_) (fun pc hx lv st hcut hK => ?_) hc
    · exact (fun h1 v1 p1 q1 => by obtain ⟨t1, e1⟩ := c_X12_isPerson p1; have t1 := t1.symm; subst t1; exact ⟨fun c1 => ⟨fun c2 => (fun h2 v2 p2 q2 => by obtain ⟨t2, e2⟩ := c_X12_refuse p2; have t2 := t2.symm; subst t2; exact (by intro v e; cases e; exact Or.inr ⟨fun z => by have := z.2.2.1; omega, e2⟩)), fun c2 => (fun b3 r4 => ⟨fun c5 => (fun b6 r7 => (fun h3 v3 p3 q3 => by obtain ⟨t3, e3⟩ := c_X12_gives p3; have t3 := t3.symm; subst t3; exact (by intro v e; cases e; have w := e1.mp (by omega); have ix : (w32 (131 + w32 (4 * a))).toNat = 131 + 4 * a.toNat := (by rw [w32_id (z := 4 * a) (by omega) (by omega), w32_id (by omega) (by omega)]; omega); rw [ix] at c5; refine Or.inl ⟨w.1, w.2, by omega, c5, fun z => ?_⟩; rw [w32_id (z := 4 * a) (by omega) (by omega), w32_id (z := 131 + 4 * a) (by omega) (by omega), w32_id (z := 131 + 4 * a + 1) (by omega) (by omega), w32_id (by omega) (by omega)] at e3; rw [e3, show (131 + 4 * a + 1 + b).toNat = 132 + 4 * a.toNat + b.toNat by omega]))), fun c5 => (fun h4 v4 p4 q4 => by obtain ⟨t4, e4⟩ := c_X12_refuse p4; have t4 := t4.symm; subst t4; exact (by intro v e; cases e; have w := e1.mp (by omega); have ix : (w32 (131 + w32 (4 * a))).toNat = 131 + 4 * a.toNat := (by rw [w32_id (z := 4 * a) (by omega) (by omega), w32_id (by omega) (by omega)]; omega); rw [ix] at c5; exact Or.inr ⟨fun z => c5 z.2.2.2, e4⟩))⟩)⟩, fun c1 => (fun h5 v5 p5 q5 => by obtain ⟨t5, e5⟩ := c_X12_refuse p5; have t5 := t5.symm; subst t5; exact (by intro v e; cases e; exact Or.inr ⟨fun z => by have := e1.mpr ⟨z.1, z.2.1⟩; omega, e5⟩))⟩)
    · exact hK.elim
  exact q v rfl
/-! HEIRS of both -/
def F16 : List (Nat × Int × Int) := [(2, 1, 1), (3, 0, 899), (4, 0, 23), (169, 10, 10), (175, 0, 899), (0, 17, 17), (5, 4, 4), (18, 0, 23), (19, 0, 7), (103, 4, 4), (116, 0, 23), (117, 0, 7), (125, 4, 4), (138, 0, 23), (139, 0, 7), (147, 4, 4), (160, 0, 23), (161, 0, 7), (169, 33, 33), (170, 529, 529), (170, 659, 690), (170, 1057, 1057), (170, 1187, 1218), (170, 1585, 1585), (170, 1715, 1746), (170, 1, 1), (170, 131, 162)]
def F16a : List (Nat × Int × Int) := [(2, 1, 1), (3, 0, 899), (4, 0, 23), (169, 10, 10), (175, 0, 899), (0, 17, 17), (5, 4, 4), (18, 0, 23), (19, 0, 7), (103, 4, 4), (116, 0, 23), (117, 0, 7), (125, 4, 4), (138, 0, 23), (139, 0, 7), (147, 4, 4), (160, 0, 23), (161, 0, 7), (169, 33, 33), (170, 529, 529), (170, 659, 690), (170, 1057, 1057), (170, 1187, 1218), (170, 1585, 1585), (170, 1715, 1746)]
def FA16 : List (Nat × Int × Int) := [(3, 0, 899), (4, 0, 23), (169, 10, 10), (175, 0, 899), (0, 17, 17), (5, 4, 4), (18, 0, 23), (19, 0, 7), (103, 4, 4), (116, 0, 23), (117, 0, 7), (125, 4, 4), (138, 0, 23), (139, 0, 7), (147, 4, 4), (160, 0, 23), (161, 0, 7), (169, 33, 33), (170, 529, 529), (170, 659, 690), (170, 1057, 1057), (170, 1187, 1218), (170, 1585, 1585), (170, 1715, 1746), (170, 1, 1), (170, 131, 162)]
def FB16 : List (Nat × Int × Int) := [(2, 1, 1), (3, 0, 899), (4, 0, 23), (175, 0, 899), (0, 17, 17), (5, 4, 4), (18, 0, 23), (19, 0, 7), (103, 4, 4), (116, 0, 23), (117, 0, 7), (125, 4, 4), (138, 0, 23), (139, 0, 7), (147, 4, 4), (160, 0, 23), (161, 0, 7), (169, 33, 33), (170, 529, 529), (170, 659, 690), (170, 1057, 1057), (170, 1187, 1218), (170, 1585, 1585), (170, 1715, 1746), (170, 1, 1), (170, 131, 162)]
def FC16 : List (Nat × Int × Int) := [(4, 0, 23), (169, 10, 10), (175, 0, 899), (0, 17, 17), (5, 4, 4), (18, 0, 23), (19, 0, 7), (103, 4, 4), (116, 0, 23), (117, 0, 7), (125, 4, 4), (138, 0, 23), (139, 0, 7), (147, 4, 4), (160, 0, 23), (161, 0, 7), (169, 33, 33), (170, 529, 529), (170, 659, 690), (170, 1057, 1057), (170, 1187, 1218), (170, 1585, 1585), (170, 1715, 1746), (170, 1, 1), (170, 131, 162)]
def FD16 : List (Nat × Int × Int) := [(2, 1, 1), (3, 0, 899), (4, 0, 23), (0, 17, 17), (5, 4, 4), (18, 0, 23), (19, 0, 7), (103, 4, 4), (116, 0, 23), (117, 0, 7), (125, 4, 4), (138, 0, 23), (139, 0, 7), (147, 4, 4), (160, 0, 23), (161, 0, 7), (169, 33, 33), (170, 529, 529), (170, 659, 690), (170, 1057, 1057), (170, 1187, 1218), (170, 1585, 1585), (170, 1715, 1746), (170, 1, 1), (170, 131, 162)]
def CO16 (b s : Nat) (h : PH) : Prop := h b 4 = h 170 (528 * s + 1) ∧ (0 ≤ h b 4 ∧ h b 4 ≤ 8) ∧ ∀ p : Nat, p < 8 → h (b + 14) p = h 170 (528 * s + 131 + 4 * p) ∧ (0 ≤ h (b + 14) p ∧ h (b + 14) p ≤ 3) ∧ ∀ k : Nat, k < 3 → (k : Int) < h (b + 14) p → h (b + 13) (3 * p + k) = h 170 (528 * s + 132 + 4 * p + k)
def J16 (h : PH) : Prop := J10 h ∧ (h 0 17 = h 169 33 ∧ 0 ≤ h 0 17 ∧ h 0 17 ≤ 3) ∧ CO16 5 0 h ∧ ∀ m : Nat, (m : Int) < h 0 17 → CO16 (103 + 22 * m) (m + 1) h
theorem CO16.cp {b s b' s' : Nat} {h h' : PH} (hc : CO16 b s h) (e1 : h' b' 4 = h b 4) (e2 : ∀ k : Nat, k < 24 → h' (b' + 13) k = h (b + 13) k) (e3 : ∀ k : Nat, k < 8 → h' (b' + 14) k = h (b + 14) k) (e4 : h' 170 (528 * s' + 1) = h 170 (528 * s + 1)) (e5 : ∀ k : Nat, k < 32 → h' 170 (528 * s' + 131 + k) = h 170 (528 * s + 131 + k)) : CO16 b' s' h' := by
  obtain ⟨a1, a2, a3⟩ := hc
  refine ⟨by rw [e1, e4]; exact a1, by rw [e1]; exact a2, fun p hp => ?_⟩
  obtain ⟨x, y, z⟩ := a3 p hp
  refine ⟨by rw [e3 p hp, e5 _ (by omega)]; exact x, by rw [e3 p hp]; exact y, fun k hk q => ?_⟩
  rw [e3 p hp] at q
  rw [e2 _ (by omega), show 528 * s' + 132 + 4 * p + k = 528 * s' + 131 + (4 * p + k + 1) by omega, e5 _ (by omega), show 528 * s + 131 + (4 * p + k + 1) = 528 * s + 132 + 4 * p + k by omega]
  exact z k hk q
theorem CO16.of {b s nb : Nat} {h L : PH} (x : CLx b h L) (r : RLd (528 * s) nb h L) (w : WL L) : CO16 b s h := by
  have e1 : h b 4 = L 0 4 := x 0 4 (by unfold inL; omega) (by omega) (by omega)
  have w3 := w.2.2.1
  refine ⟨by rw [e1, r.1.2.1], by rw [e1]; exact w.2.1, fun p hp => ?_⟩
  have e2 : h (b + 14) p = L 14 p := x 14 p (by unfold inL; omega) (by omega) (by omega)
  obtain ⟨r1, r2⟩ := r.2.2.2.2.1 p hp
  refine ⟨by rw [e2, r1], by rw [e2]; exact w3 p hp, fun k hk q => ?_⟩
  rw [e2] at q
  have e3 : h (b + 13) (3 * p + k) = L 13 (3 * p + k) := x 13 (3 * p + k) (by unfold inL; omega) (by omega) (by omega)
  rw [e3, r2 k hk q]
theorem Frm.cO {F : List (Nat × Int × Int)} {h h' : PH} (hF : Frm F h h') {b s : Nat} (hc : CO16 b s h) (e1 : (b, 4, 4) ∈ F) (e2 : (b + 13, 0, 23) ∈ F) (e3 : (b + 14, 0, 7) ∈ F) (e4 : h' 170 (528 * s + 1) = h 170 (528 * s + 1)) (e5 : ∀ k : Nat, k < 32 → h' 170 (528 * s + 131 + k) = h 170 (528 * s + 131 + k)) : CO16 b s h' :=
  hc.cp (hF _ e1 4 (by show (4 : Int) ≤ _; omega) (by show _ ≤ (4 : Int); omega)) (fun k hk => hF _ e2 k (by show (0 : Int) ≤ _; omega) (by show _ ≤ (23 : Int); omega)) (fun k hk => hF _ e3 k (by show (0 : Int) ≤ _; omega) (by show _ ≤ (7 : Int); omega)) e4 e5
theorem fmat {F : List (Nat × Int × Int)} {h h' : PH} (hF : Frm F h h') {c : Nat} {x y : Int} (e : (c, x, y) ∈ F) (k : Nat) (h1 : x ≤ (k : Int)) (h2 : (k : Int) ≤ y) : h' c k = h c k := hF _ e k h1 h2
theorem Frm.sb {F G : List (Nat × Int × Int)} {h h' : PH} (hF : Frm F h h') (e : ∀ g ∈ G, g ∈ F) : Frm G h h' := fun g hg k h1 h2 => hF g (e g hg) k h1 h2
theorem Frm.s {F G : List (Nat × Int × Int)} {h h' : PH} (hF : Frm F h h') (e : G.all (fun g => F.any (fun f => decide (f = g))) = true) : Frm G h h' := hF.sb (fun g hg => by
  have x := List.all_eq_true.mp e g hg
  obtain ⟨f, hf, q⟩ := List.any_eq_true.mp x
  rw [← of_decide_eq_true q]
  exact hf)
/-- the marks' LANDS -/
theorem mk16 {h h' : PH} (hM : ∀ m : Nat, (m : Int) < h 0 17 → CO16 (103 + 22 * m) (m + 1) h) (h3 : h 0 17 ≤ 3) (hF : Frm ([(0, 17, 17), (5, 4, 4), (18, 0, 23), (19, 0, 7), (103, 4, 4), (116, 0, 23), (117, 0, 7), (125, 4, 4), (138, 0, 23), (139, 0, 7), (147, 4, 4), (160, 0, 23), (161, 0, 7), (169, 33, 33), (170, 529, 529), (170, 659, 690), (170, 1057, 1057), (170, 1187, 1218), (170, 1585, 1585), (170, 1715, 1746)]) h h') (e0 : h' 0 17 = h 0 17) : ∀ m : Nat, (m : Int) < h' 0 17 → CO16 (103 + 22 * m) (m + 1) h' := fun m hm => by
  rw [e0] at hm
  have c := hM m hm
  rcases (show m = 0 ∨ m = 1 ∨ m = 2 by omega) with e | e | e <;> subst e
  · exact hF.cO c (by decide) (by decide) (by decide) (fmat hF (c := 170) (x := 529) (y := 529) (by decide) 529 (by omega) (by omega)) (fun k hk => fmat hF (c := 170) (x := 659) (y := 690) (by decide) (528 * (0 + 1) + 131 + k) (by omega) (by omega))
  · exact hF.cO c (by decide) (by decide) (by decide) (fmat hF (c := 170) (x := 1057) (y := 1057) (by decide) 1057 (by omega) (by omega)) (fun k hk => fmat hF (c := 170) (x := 1187) (y := 1218) (by decide) (528 * (1 + 1) + 131 + k) (by omega) (by omega))
  · exact hF.cO c (by decide) (by decide) (by decide) (fmat hF (c := 170) (x := 1585) (y := 1585) (by decide) 1585 (by omega) (by omega)) (fun k hk => fmat hF (c := 170) (x := 1715) (y := 1746) (by decide) (528 * (2 + 1) + 131 + k) (by omega) (by omega))
def G16 : List (Nat × Int × Int) := [(0, 17, 17), (5, 4, 4), (18, 0, 23), (19, 0, 7), (103, 4, 4), (116, 0, 23), (117, 0, 7), (125, 4, 4), (138, 0, 23), (139, 0, 7), (147, 4, 4), (160, 0, 23), (161, 0, 7), (169, 33, 33), (170, 529, 529), (170, 659, 690), (170, 1057, 1057), (170, 1187, 1218), (170, 1585, 1585), (170, 1715, 1746)]
theorem J16_of {h h' : PH} (hJ : J16 h) (j : J10 h') (hF : Frm G16 h h') (s1 : h' 170 1 = h 170 1) (s2 : ∀ k : Nat, k < 32 → h' 170 (131 + k) = h 170 (131 + k)) : J16 h' := by
  obtain ⟨-, ⟨b1, b2, b3⟩, c, d⟩ := hJ
  have e0 : h' 0 17 = h 0 17 := fmat hF (c := 0) (x := 17) (y := 17) (by decide) 17 (by omega) (by omega)
  have e1 : h' 169 33 = h 169 33 := fmat hF (c := 169) (x := 33) (y := 33) (by decide) 33 (by omega) (by omega)
  exact ⟨j, ⟨by rw [e0, e1]; exact b1, by rw [e0]; exact b2, by rw [e0]; exact b3⟩, hF.cO c (by decide) (by decide) (by decide) s1 (fun k hk => by rw [show 528 * 0 + 131 + k = 131 + k by omega]; exact s2 k hk), mk16 d b3 hF e0⟩
theorem J16_frm {h h' : PH} (hJ : J16 h) (hF : Frm F16 h h') : J16 h' := J16_of hJ (J10_frm hJ.1 (hF.s (by decide))) (hF.s (by decide)) (fmat hF (c := 170) (x := 1) (y := 1) (by decide) 1 (by omega) (by omega)) (fun k hk => fmat hF (c := 170) (x := 131) (y := 162) (by decide) (131 + k) (by omega) (by omega))
theorem tr16 {h h1 h2 : PH} (hJ : J16 h) (fa : Frm F16 h h1) (fb : Frm F16a h1 h2) (s : SA h1 h2) : J16 h2 := by
  have j := J16_frm hJ fa
  exact J16_of j (J10_frm j.1 (fb.s (by decide))) (fb.s (by decide)) (s 1 (by omega)) (fun k hk => s (131 + k) (by omega))
section PR
variable {sl : Nat} {si : Nat → Int} {h h1 h2 : PH} {a b c d e v w : Int}
theorem pr_feed16 (hJ : J16 h) (fa : Frm FC16 h h1) (fb : Frm FD16 h1 h2) (p1 : CP (zz sl si (7, 0)) mX11_feed h [(2, 0), (0, a), (0, b), (0, c), (0, d), (0, e)] h1 [(0, v)]) (p2 : CP (zz sl si (7, 0)) mX12_feed h1 [(2, 169), (0, a), (0, b), (0, c), (0, d), (0, e)] h2 [(0, w)]) : J16 h2 := by
  have j := (pr_feed hJ.1 p1 p2).1
  have f : Frm ([(4, 0, 23), (0, 17, 17), (5, 4, 4), (18, 0, 23), (19, 0, 7), (103, 4, 4), (116, 0, 23), (117, 0, 7), (125, 4, 4), (138, 0, 23), (139, 0, 7), (147, 4, 4), (160, 0, 23), (161, 0, 7), (169, 33, 33), (170, 529, 529), (170, 659, 690), (170, 1057, 1057), (170, 1187, 1218), (170, 1585, 1585), (170, 1715, 1746), (170, 1, 1), (170, 131, 162)]) h h2 := fun g hg k q1 q2 => ((fb.s (G := [(4, 0, 23), (0, 17, 17), (5, 4, 4), (18, 0, 23), (19, 0, 7), (103, 4, 4), (116, 0, 23), (117, 0, 7), (125, 4, 4), (138, 0, 23), (139, 0, 7), (147, 4, 4), (160, 0, 23), (161, 0, 7), (169, 33, 33), (170, 529, 529), (170, 659, 690), (170, 1057, 1057), (170, 1187, 1218), (170, 1585, 1585), (170, 1715, 1746), (170, 1, 1), (170, 131, 162)]) (by decide)) g hg k q1 q2).trans ((fa.s (G := [(4, 0, 23), (0, 17, 17), (5, 4, 4), (18, 0, 23), (19, 0, 7), (103, 4, 4), (116, 0, 23), (117, 0, 7), (125, 4, 4), (138, 0, 23), (139, 0, 7), (147, 4, 4), (160, 0, 23), (161, 0, 7), (169, 33, 33), (170, 529, 529), (170, 659, 690), (170, 1057, 1057), (170, 1187, 1218), (170, 1585, 1585), (170, 1715, 1746), (170, 1, 1), (170, 131, 162)]) (by decide)) g hg k q1 q2)
  exact J16_of hJ j (f.s (by decide)) (fmat f (c := 170) (x := 1) (y := 1) (by decide) 1 (by omega) (by omega)) (fun k hk => fmat f (c := 170) (x := 131) (y := 162) (by decide) (131 + k) (by omega) (by omega))
theorem pr_tales16 (hJ : J16 h) (fa : Frm FA16 h h1) (fb : Frm FB16 h1 h2) (p1 : CP (zz sl si (7, 0)) mX11_tales h [(2, 0), (0, a)] h1 [(0, v)]) (p2 : CP (zz sl si (7, 0)) mX12_tales h1 [(2, 169), (0, a)] h2 [(0, w)]) : J16 h2 := by
  have j := pr_tales hJ.1 (fa.s (by decide)) (fb.s (by decide)) p1 p2
  have f : Frm ([(4, 0, 23), (0, 17, 17), (5, 4, 4), (18, 0, 23), (19, 0, 7), (103, 4, 4), (116, 0, 23), (117, 0, 7), (125, 4, 4), (138, 0, 23), (139, 0, 7), (147, 4, 4), (160, 0, 23), (161, 0, 7), (169, 33, 33), (170, 529, 529), (170, 659, 690), (170, 1057, 1057), (170, 1187, 1218), (170, 1585, 1585), (170, 1715, 1746), (170, 1, 1), (170, 131, 162)]) h h2 := fun g hg k q1 q2 => ((fb.s (G := [(4, 0, 23), (0, 17, 17), (5, 4, 4), (18, 0, 23), (19, 0, 7), (103, 4, 4), (116, 0, 23), (117, 0, 7), (125, 4, 4), (138, 0, 23), (139, 0, 7), (147, 4, 4), (160, 0, 23), (161, 0, 7), (169, 33, 33), (170, 529, 529), (170, 659, 690), (170, 1057, 1057), (170, 1187, 1218), (170, 1585, 1585), (170, 1715, 1746), (170, 1, 1), (170, 131, 162)]) (by decide)) g hg k q1 q2).trans ((fa.s (G := [(4, 0, 23), (0, 17, 17), (5, 4, 4), (18, 0, 23), (19, 0, 7), (103, 4, 4), (116, 0, 23), (117, 0, 7), (125, 4, 4), (138, 0, 23), (139, 0, 7), (147, 4, 4), (160, 0, 23), (161, 0, 7), (169, 33, 33), (170, 529, 529), (170, 659, 690), (170, 1057, 1057), (170, 1187, 1218), (170, 1585, 1585), (170, 1715, 1746), (170, 1, 1), (170, 131, 162)]) (by decide)) g hg k q1 q2)
  exact J16_of hJ j (f.s (by decide)) (fmat f (c := 170) (x := 1) (y := 1) (by decide) 1 (by omega) (by omega)) (fun k hk => fmat f (c := 170) (x := 131) (y := 162) (by decide) (131 + k) (by omega) (by omega))
theorem pr_land16 (hJ : J16 h) (p1 : CP (zz sl si (7, 0)) mX11_land h [(2, 0), (0, a)] h1 [(0, v)]) (p2 : CP (zz sl si (7, 0)) mX12_land h1 [(2, 169), (0, a)] h2 [(0, w)]) : J16 h2 := by
  have j10 := (pr_land hJ.1 p1 p2).1
  obtain ⟨y1, n1, f1⟩ := c_X11_landF hJ.1 p1
  obtain ⟨⟨ja, jb, jc, jd⟩, ⟨b1, b2, b3⟩, co, cm⟩ := hJ
  have F1 : ∀ c k : Nat, (c = 0 ∧ k = 17) ∨ 103 ≤ c → h1 c k = h c k := fun c k q => f1 c k (by omega) (by omega) (by omega) (by omega) (by omega) (by omega)
  obtain ⟨y2, n2, f2⟩ := c_X12_landF (B := fun k => h 3 k) (n := h 2 1) (L := fun j k => h (27 + j) k) (fun k hk => by rw [F1 175 k (by omega)]; exact jc k hk) (by rw [F1 169 10 (by omega)]; exact ja.symm) jb p2
  have F2 : ∀ c k : Nat, (c ≤ 168 ∨ (c = 169 ∧ k = 33) ∨ (c = 170 ∧ 528 ≤ k ∧ k < 2112)) → h2 c k = h1 c k := fun c k q => f2 c k (by omega) (by omega) (by omega) (by omega) (by omega) (by omega)
  have e0 : h2 0 17 = h 0 17 := (F2 0 17 (by omega)).trans (F1 0 17 (by omega))
  have e1 : h2 169 33 = h 169 33 := (F2 169 33 (by omega)).trans (F1 169 33 (by omega))
  refine ⟨j10, ⟨by rw [e0, e1]; exact b1, by rw [e0]; exact b2, by rw [e0]; exact b3⟩, ?_, fun m hm => ?_⟩
  · by_cases z : 0 ≤ a ∧ a ≤ h 2 1
    · have z1 := (y1 z).2
      have z2 := (y2 z).2
      generalize pl (Tx (fun k => h 3 k) a) 900 (sk (Tx (fun k => h 3 k) a) 0) (clr (fun j k => h (27 + j) k)) = r at z1 z2
      match r, z1, z2 with
      | .inl q, z1, z2 =>
        have z1 : v = -1 ∧ CF h1 q.1 q.2 ∧ h1 0 0 = 9 ∧ ∀ c k : Nat, 5 ≤ c → c ≤ 26 → h1 c k = h c k := z1
        have z2 : w = -1 ∧ h2 169 16 = q.1 ∧ h2 169 17 = (q.2 : Int) ∧ 0 < q.1 ∧ KS h1 h2 := z2
        have s := z2.2.2.2.2.1
        have u := z1.2.2.2
        exact co.cp ((F2 5 4 (by omega)).trans (u 5 4 (by omega) (by omega))) (fun k hk => (F2 18 k (by omega)).trans (u 18 k (by omega) (by omega))) (fun k hk => (F2 19 k (by omega)).trans (u 19 k (by omega) (by omega))) ((s 1 (by omega)).trans (F1 170 1 (by omega))) (fun k hk => by rw [show 528 * 0 + 131 + k = 131 + k by omega]; exact (s _ (by omega)).trans (F1 170 _ (by omega)))
      | .inr q, z1, z2 =>
        have z1 : v = q.2 0 4 ∧ (h1 2 10 = 0 ∧ h1 2 11 = -1) ∧ CLx 5 h1 q.2 ∧ WL q.2 ∧ (h1 21 0 = 0 ∧ h1 21 1 = 0 ∧ h1 21 2 = 0) ∧ h1 0 0 = 0 ∧ ∀ j k : Nat, inL j k → h1 (5 + j) k = h1 (27 + j) k := z1
        have z2 : w = q.2 0 4 ∧ h2 169 16 = 0 ∧ h2 169 17 = -1 ∧ RLd 0 0 h2 q.2 ∧ WL q.2 ∧ h2 170 4 = -1 := z2
        have x : CLx 5 h2 q.2 := fun j k i n3 n4 => by rw [F2 (5 + j) k (by have := inL_b i; omega)]; exact z1.2.2.1 j k i n3 n4
        exact CO16.of (s := 0) (nb := 0) x z2.2.2.2.1 z2.2.2.2.2.1
    · have z1 := (n1 z).1
      have z2 := (n2 z).1
      rw [z2, z1]
      exact co.cp (by rw [up_ne (by omega), up_ne (by omega)]) (fun k hk => by rw [up_ne (by omega), up_ne (by omega)]) (fun k hk => by rw [up_ne (by omega), up_ne (by omega)]) (by rw [up_ne (by omega), up_ne (by omega)]) (fun k hk => by rw [up_ne (by omega), up_ne (by omega)])
  · rw [e0] at hm
    have m2 : m ≤ 2 := by omega
    exact (cm m hm).cp ((F2 _ _ (by omega)).trans (F1 _ _ (by omega))) (fun k hk => (F2 _ _ (by omega)).trans (F1 _ _ (by omega))) (fun k hk => (F2 _ _ (by omega)).trans (F1 _ _ (by omega))) ((F2 170 _ (by omega)).trans (F1 170 _ (by omega))) (fun k hk => (F2 170 _ (by omega)).trans (F1 170 _ (by omega)))
theorem J10_eq {h h' : PH} (hJ : J10 h) (e : ∀ c k : Nat, (c = 2 ∧ k = 1) ∨ c = 3 ∨ c = 4 ∨ (c = 169 ∧ k = 10) ∨ c = 175 → h' c k = h c k) : J10 h' := by
  obtain ⟨a, b, c, d⟩ := hJ
  have e1 := e 2 1 (by omega)
  exact ⟨by rw [e1, e 169 10 (by omega)]; exact a, by rw [e1]; exact b, fun k hk => by rw [e 175 k (by omega), e 3 k (by omega)]; exact c k hk, fun k hk => by rw [e 4 k (by omega)]; exact d k hk⟩
theorem pr_mark16 (hJ : J16 h) (p1 : CP (zz sl si (7, 0)) mX11_mark h [(2, 0)] h1 [(0, v)]) (p2 : CP (zz sl si (7, 0)) mX12_mark h1 [(2, 169)] h2 [(0, w)]) : J16 h2 := by
  obtain ⟨j, ⟨b1, b2, b3⟩, co, cm⟩ := hJ
  obtain ⟨y1, n1, f1⟩ := c_X11_mark ⟨b2, b3⟩ p1
  have F1 : ∀ c k : Nat, (1 ≤ c ∧ c ≤ 102 + 22 * (h 0 17).toNat) ∨ 169 ≤ c → h1 c k = h c k := fun c k q => f1 c k (by omega) (by omega)
  have em : h1 169 33 = h 0 17 := by rw [F1 169 33 (by omega)]; exact b1.symm
  obtain ⟨y2, n2, f2⟩ := c_X12_mark (by rw [em]; exact ⟨b2, b3⟩) p2
  rw [em] at y2 n2 f2
  have F2 : ∀ c k : Nat, c ≤ 168 ∨ (c = 169 ∧ k = 10) ∨ (c = 170 ∧ k < 528 * ((h 0 17).toNat + 1)) ∨ c = 175 → h2 c k = h1 c k := fun c k q => f2 c k (by omega) (by omega)
  have j2 : J10 h2 := J10_eq j (fun c k q => (F2 c k (by omega)).trans (F1 c k (by omega)))
  have c5 : CO16 5 0 h2 := co.cp ((F2 5 4 (by omega)).trans (F1 5 4 (by omega))) (fun k hk => (F2 18 k (by omega)).trans (F1 18 k (by omega))) (fun k hk => (F2 19 k (by omega)).trans (F1 19 k (by omega))) ((F2 170 _ (by omega)).trans (F1 170 _ (by omega))) (fun k hk => (F2 170 _ (by omega)).trans (F1 170 _ (by omega)))
  have old : ∀ m : Nat, (m : Int) < h 0 17 → CO16 (103 + 22 * m) (m + 1) h2 := fun m hm => (cm m hm).cp ((F2 _ _ (by omega)).trans (F1 _ _ (by omega))) (fun k hk => (F2 _ _ (by omega)).trans (F1 _ _ (by omega))) (fun k hk => (F2 _ _ (by omega)).trans (F1 _ _ (by omega))) ((F2 170 _ (by omega)).trans (F1 170 _ (by omega))) (fun k hk => (F2 170 _ (by omega)).trans (F1 170 _ (by omega)))
  by_cases z : h 0 17 < 3
  · obtain ⟨u1, u2, u3, u4⟩ := y1 z
    obtain ⟨t1, t2, t3, t4⟩ := y2 z
    have e0 : h2 0 17 = h 0 17 + 1 := (F2 0 17 (by omega)).trans u1
    refine ⟨j2, ⟨by rw [e0, t1], by rw [e0]; omega, by rw [e0]; omega⟩, c5, fun m hm => ?_⟩
    rw [e0] at hm
    by_cases q : (m : Int) < h 0 17
    · exact old m q
    · have me : (h 0 17).toNat = m := by omega
      rw [me] at u3 t3 F1
      have C : ∀ j k : Nat, inL j k → h2 (103 + 22 * m + j) k = h (5 + j) k := fun j k i => (F2 _ _ (by have := inL_b i; omega)).trans (u3 j k i)
      exact co.cp (C 0 4 (by unfold inL; omega)) (fun k hk => C 13 k (by unfold inL; omega)) (fun k hk => C 14 k (by unfold inL; omega)) ((t3 1 (by omega)).trans (F1 170 1 (by omega))) (fun k hk => by rw [show 528 * (m + 1) + 131 + k = 528 * (m + 1) + (131 + k) by omega, show 528 * 0 + 131 + k = 131 + k by omega]; exact (t3 _ (by omega)).trans (F1 170 _ (by omega)))
  · have u := (n1 z).2
    have t := (n2 z).2
    have e0 : h2 0 17 = h 0 17 := (F2 0 17 (by omega)).trans u
    exact ⟨j2, ⟨by rw [e0, t], by rw [e0]; exact b2, by rw [e0]; exact b3⟩, c5, fun m hm => old m (by rw [e0] at hm; exact hm)⟩
theorem pr_undo16 (hJ : J16 h) (p1 : CP (zz sl si (7, 0)) mX11_undo h [(2, 0)] h1 [(0, v)]) (p2 : CP (zz sl si (7, 0)) mX12_undo h1 [(2, 169)] h2 [(0, w)]) : J16 h2 := by
  obtain ⟨j, ⟨b1, b2, b3⟩, co, cm⟩ := hJ
  obtain ⟨y1, n1, f1⟩ := c_X11_undo ⟨b2, b3⟩ p1
  have F1 : ∀ c k : Nat, (1 ≤ c ∧ c ≤ 4) ∨ 27 ≤ c → h1 c k = h c k := fun c k q => f1 c k (by omega) (by omega)
  have em : h1 169 33 = h 0 17 := by rw [F1 169 33 (by omega)]; exact b1.symm
  obtain ⟨y2, n2, f2⟩ := c_X12_undo (by rw [em]; exact ⟨b2, b3⟩) p2
  rw [em] at y2 n2 f2
  have F2 : ∀ c k : Nat, c ≤ 168 ∨ (c = 169 ∧ k = 10) ∨ (c = 170 ∧ 528 ≤ k) ∨ c = 175 → h2 c k = h1 c k := fun c k q => f2 c k (by omega) (by omega)
  have j2 : J10 h2 := J10_eq j (fun c k q => (F2 c k (by omega)).trans (F1 c k (by omega)))
  have old : ∀ m : Nat, (m : Int) < h 0 17 → CO16 (103 + 22 * m) (m + 1) h2 := fun m hm => (cm m hm).cp ((F2 _ _ (by omega)).trans (F1 _ _ (by omega))) (fun k hk => (F2 _ _ (by omega)).trans (F1 _ _ (by omega))) (fun k hk => (F2 _ _ (by omega)).trans (F1 _ _ (by omega))) ((F2 170 _ (by omega)).trans (F1 170 _ (by omega))) (fun k hk => (F2 170 _ (by omega)).trans (F1 170 _ (by omega)))
  by_cases z : 1 ≤ h 0 17
  · obtain ⟨u1, u2, u3, u4⟩ := y1 z
    obtain ⟨t1, t2, t3, t4⟩ := y2 z
    have e0 : h2 0 17 = h 0 17 - 1 := (F2 0 17 (by omega)).trans u1
    obtain ⟨m, hm⟩ : ∃ m : Nat, h 0 17 = (m : Int) + 1 := ⟨(h 0 17 - 1).toNat, by omega⟩
    have cl := cm m (by omega)
    have mt : (h 0 17).toNat = m + 1 := by omega
    rw [mt] at u3 t3
    have C : ∀ j k : Nat, inL j k → h2 (5 + j) k = h (103 + 22 * m + j) k := fun j k i => by
      have x := u3 j k i
      rw [show 81 + 22 * (m + 1) + j = 103 + 22 * m + j by omega] at x
      exact (F2 _ _ (by have := inL_b i; omega)).trans x
    refine ⟨j2, ⟨by rw [e0, t1], by rw [e0]; omega, by rw [e0]; omega⟩, ?_, fun q hq => old q (by rw [e0] at hq; omega)⟩
    exact cl.cp (C 0 4 (by unfold inL; omega)) (fun k hk => C 13 k (by unfold inL; omega)) (fun k hk => C 14 k (by unfold inL; omega)) ((t3 1 (by omega)).trans (F1 170 _ (by omega))) (fun k hk => by rw [show 528 * (m + 1) + 131 + k = 528 * (m + 1) + (131 + k) by omega, show 528 * 0 + 131 + k = 131 + k by omega]; exact (t3 _ (by omega)).trans (F1 170 _ (by omega)))
  · have u := (n1 z).2
    have t := (n2 z).2
    have e0 : h2 0 17 = h 0 17 := (F2 0 17 (by omega)).trans u
    have G1 : ∀ c k : Nat, 1 ≤ c → h1 c k = h c k := fun c k q => f1 c k (by omega) (by omega)
    have G2 : ∀ c k : Nat, c ≤ 168 ∨ c = 170 → h2 c k = h1 c k := fun c k q => f2 c k (by omega) (by omega)
    exact ⟨j2, ⟨by rw [e0, t], by rw [e0]; exact b2, by rw [e0]; exact b3⟩, co.cp ((G2 _ _ (by omega)).trans (G1 _ _ (by omega))) (fun k hk => (G2 _ _ (by omega)).trans (G1 _ _ (by omega))) (fun k hk => (G2 _ _ (by omega)).trans (G1 _ _ (by omega))) ((G2 _ _ (by omega)).trans (G1 _ _ (by omega))) (fun k hk => (G2 _ _ (by omega)).trans (G1 _ _ (by omega))), fun m hm => old m (by rw [e0] at hm; exact hm)⟩
theorem pr_heir16 (hJ : J16 h) (fa : Frm F16 h h1) (fb : Frm F16 h1 h2) (p1 : CP (zz sl si (7, 0)) mX11_heir h [(2, 0), (0, a), (0, b)] h1 [(0, v)]) (p2 : CP (zz sl si (7, 0)) mX12_heir h1 [(2, 169), (0, a), (0, b)] h2 [(0, w)]) : J16 h2 ∧ v = w := by
  have j1 := J16_frm hJ fa
  refine ⟨J16_frm j1 fb, ?_⟩
  obtain ⟨-, -, ⟨o1, o2, o3⟩, -⟩ := hJ
  have q1 : h1 170 1 = h 170 1 := fmat fa (c := 170) (x := 1) (y := 1) (by decide) 1 (by omega) (by omega)
  have q2 : ∀ k : Nat, k < 32 → h1 170 (131 + k) = h 170 (131 + k) := fun k hk => fmat fa (c := 170) (x := 131) (y := 162) (by decide) (131 + k) (by omega) (by omega)
  have o1 : h 5 4 = h 170 1 := o1
  have A1 := c_X11_heir o2 p1
  have A2 := c_X12_heir (by rw [q1, ← o1]; exact o2) p2
  rw [q1, ← o1] at A2
  by_cases z : 0 ≤ a ∧ a < h 5 4
  · obtain ⟨x1, x2, x3⟩ := o3 a.toNat (by omega)
    have x2 : 0 ≤ h 19 a.toNat ∧ h 19 a.toNat ≤ 3 := x2
    have x3 : ∀ k : Nat, k < 3 → (k : Int) < h 19 a.toNat → h 18 (3 * a.toNat + k) = h 170 (528 * 0 + 132 + 4 * a.toNat + k) := x3
    rw [show 528 * 0 + 131 + 4 * a.toNat = 131 + 4 * a.toNat by omega] at x1
    have y1 : h1 170 (131 + 4 * a.toNat) = h 19 a.toNat := (q2 _ (by omega)).trans x1.symm
    rw [y1] at A2
    rcases A1 with A1 | A1 <;> rcases A2 with A2 | A2
    · have g1 := A1.2.2.2.2 (by omega)
      have g2 := A2.2.2.2.2 (by omega)
      rw [show 132 + 4 * a.toNat + b.toNat = 131 + (4 * a.toNat + b.toNat + 1) by omega, q2 _ (by omega)] at g2
      have x := x3 b.toNat (by omega) (by omega)
      rw [show 528 * 0 + 132 + 4 * a.toNat + b.toNat = 131 + (4 * a.toNat + b.toNat + 1) by omega] at x
      rw [g1, g2]
      exact x
    · exact absurd ⟨A1.1, A1.2.1, A1.2.2.1, A1.2.2.2.1⟩ A2.1
    · exact absurd ⟨A2.1, A2.2.1, A2.2.2.1, A2.2.2.2.1⟩ A1.1
    · rw [A1.2, A2.2]
  · rcases A1 with A1 | A1
    · exact absurd ⟨A1.1, A1.2.1⟩ z
    · rcases A2 with A2 | A2
      · exact absurd ⟨A2.1, A2.2.1⟩ z
      · rw [A1.2, A2.2]
end PR
