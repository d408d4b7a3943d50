set_option maxRecDepth 10000 in
theorem v_X12_isPerson {sl : Nat} {si : Nat → Int} {K : Nat → PH → ZL → List ZV → Prop} {Q : PH → List ZV → Prop} {h : PH} {a : Int} (H : (a < 0 → Q h [(0, 0)]) ∧ (¬ (a < 0) → 0 ≤ (1 : Int) ∧ (1 : Int) < (3696 : Nat) → R32 (h 170 1) → ((h 170 1) ≤ a → Q h [(0, 0)]) ∧ (¬ ((h 170 1) ≤ a) → Q h [(0, 1)]))) : vc (zz sl si (7, 0)) (fun _ => false) K Q mX12_isPerson 13 0 mX12_isPerson.2.2.2.2.2.2 h [(0, (2, 169)), (1, (0, a))] [] := H
theorem c_X12_isPerson {sl : Nat} {si : Nat → Int} {h h' : PH} {a : Int} {v : Int} (hc : CP (zz sl si (7, 0)) mX12_isPerson h [(2, 169), (0, a)] h' [(0, v)]) : h' = h ∧ (v = 1 ↔ 0 ≤ a ∧ a < h 170 1) := by
  have q := cp_vc (K := fun _ _ _ _ => True) (Q := fun xh r => xh = h ∧ ∀ v, r = [(0, v)] → (v = 1 ↔ 0 ≤ a ∧ a < h 170 1)) (v_X12_isPerson ⟨fun c1 => (by exact ⟨rfl, fun v e => by cases e; omega⟩), fun c1 => (fun b2 r3 => ⟨fun c4 => (by exact ⟨rfl, fun v e => by cases e; omega⟩), fun c4 => (by exact ⟨rfl, fun v e => by cases e; omega⟩)⟩)⟩) (fun _ _ _ _ z _ => Bool.noConfusion z) hc
  exact ⟨q.1, q.2 v rfl⟩
set_option maxRecDepth 10000 in
theorem v_X12_isHouse {sl : Nat} {si : Nat → Int} {K : Nat → PH → ZL → List ZV → Prop} {Q : PH → List ZV → Prop} {h : PH} {a : Int} (H : (a < 0 → Q h [(0, 0)]) ∧ (¬ (a < 0) → 0 ≤ (0 : Int) ∧ (0 : Int) < (3696 : Nat) → R32 (h 170 0) → ((h 170 0) ≤ a → Q h [(0, 0)]) ∧ (¬ ((h 170 0) ≤ a) → Q h [(0, 1)]))) : vc (zz sl si (7, 0)) (fun _ => false) K Q mX12_isHouse 13 0 mX12_isHouse.2.2.2.2.2.2 h [(0, (2, 169)), (1, (0, a))] [] := H
theorem c_X12_isHouse {sl : Nat} {si : Nat → Int} {h h' : PH} {a : Int} {v : Int} (hc : CP (zz sl si (7, 0)) mX12_isHouse h [(2, 169), (0, a)] h' [(0, v)]) : h' = h ∧ (v = 1 ↔ 0 ≤ a ∧ a < h 170 0) := by
  have q := cp_vc (K := fun _ _ _ _ => True) (Q := fun xh r => xh = h ∧ ∀ v, r = [(0, v)] → (v = 1 ↔ 0 ≤ a ∧ a < h 170 0)) (v_X12_isHouse ⟨fun c1 => (by exact ⟨rfl, fun v e => by cases e; omega⟩), fun c1 => (fun b2 r3 => ⟨fun c4 => (by exact ⟨rfl, fun v e => by cases e; omega⟩), fun c4 => (by exact ⟨rfl, fun v e => by cases e; omega⟩)⟩)⟩) (fun _ _ _ _ z _ => Bool.noConfusion z) hc
  exact ⟨q.1, q.2 v rfl⟩
theorem zcmp_l {a b : Int} : zcmp a b < 0 ↔ a < b := by
  unfold zcmp
  repeat' split
  all_goals omega
theorem zcmp_g {a b : Int} : 0 < zcmp a b ↔ b < a := by
  unfold zcmp
  repeat' split
  all_goals omega
set_option maxRecDepth 10000 in
theorem v_X12_isFrom {sl : Nat} {si : Nat → Int} {K : Nat → PH → ZL → List ZV → Prop} {Q : PH → List ZV → Prop} {h : PH} {x y z : Int} (H : ((zcmp x y) < 0 → Q h [(0, 0)]) ∧ (¬ ((zcmp x y) < 0) → ((0 : Int) < (zcmp x z) → Q h [(0, 0)]) ∧ (¬ ((0 : Int) < (zcmp x z)) → Q h [(0, 1)]))) : vc (zz sl si (7, 0)) (fun _ => false) K Q mX12_isFrom 13 0 mX12_isFrom.2.2.2.2.2.2 h [(0, (1, x)), (2, (1, y)), (4, (1, z))] [] := H
set_option maxHeartbeats 600000 in
theorem c_X12_isFrom {sl : Nat} {si : Nat → Int} {h h' : PH} {x y z : Int} {v : Int} (hc : CP (zz sl si (7, 0)) mX12_isFrom h [(1, x), (1, y), (1, z)] h' [(0, v)]) : h' = h ∧ (v = 1 ↔ y ≤ x ∧ x ≤ z) := by
  have q : (fun (xh : PH) (r : List ZV) => ∀ v : Int, r = [(0, v)] → (xh = h ∧ (v = 1 ↔ y ≤ x ∧ x ≤ z))) h' [(0, v)] := by
    refine cp_vc (cut := (fun _ => false)) (K := fun p hx lv st => False) (Q := fun (xh : PH) (r : List ZV) => ∀ v : Int, r = [(0, v)] → (xh = h ∧ (v = 1 ↔ y ≤ x ∧ x ≤ z))) (v_X12_isFrom ?_) (fun pc hx lv st hcut hK => ?_) hc
    · exact ⟨fun c1 => (by intro v e; cases e; rw [zcmp_l] at c1; exact ⟨rfl, by omega⟩), fun c1 => ⟨fun c2 => (by intro v e; cases e; rw [zcmp_l] at c1; rw [zcmp_g] at c2; exact ⟨rfl, by omega⟩), fun c2 => (by intro v e; cases e; rw [zcmp_l] at c1; rw [zcmp_g] at c2; exact ⟨rfl, by omega⟩)⟩⟩
    · exact hK.elim
  exact q v rfl
set_option maxRecDepth 10000 in
theorem v_X12_isLater {sl : Nat} {si : Nat → Int} {K : Nat → PH → ZL → List ZV → Prop} {Q : PH → List ZV → Prop} {h : PH} {a : Int} (H : ∀ h1 v1, CP (zz sl si (7, 0)) mX12_isFrom h [(1, a), (1, 0), (1, 999)] h1 [(0, v1)] → v1 = 0 ∨ v1 = 1 → Q h1 [(0, v1)]) : vc (zz sl si (7, 0)) (fun _ => false) K Q mX12_isLater 8 0 mX12_isLater.2.2.2.2.2.2 h [(0, (2, 169)), (1, (0, a))] [] := H
theorem c_X12_isLater {sl : Nat} {si : Nat → Int} {h h' : PH} {a : Int} {v : Int} (hc : CP (zz sl si (7, 0)) mX12_isLater h [(2, 169), (0, a)] h' [(0, v)]) : h' = h ∧ (v = 1 ↔ 0 ≤ a ∧ a ≤ 999) := by
  have q := cp_vc (K := fun _ _ _ _ => True) (Q := fun xh r => xh = h ∧ ∀ v, r = [(0, v)] → (v = 1 ↔ 0 ≤ a ∧ a ≤ 999)) (v_X12_isLater (fun h1 v1 p1 q1 => by obtain ⟨t1, e1⟩ := c_X12_isFrom p1; have t1 := t1.symm; subst t1; exact (by exact ⟨rfl, fun v e => by cases e; omega⟩))) (fun _ _ _ _ z _ => Bool.noConfusion z) hc
  exact ⟨q.1, q.2 v rfl⟩
/-- the LAND is as it was, and all else but what is laid by -/
def SamL (h h' : PH) : Prop := (∀ k : Nat, k < 164 → h' 170 k = h 170 k) ∧ ∀ c k : Nat, ¬ (c = 169 ∧ k = 2) → ¬ (c = 178 ∧ k < 7) → ¬ (c = 170 ∧ (k < 164 ∨ (3168 ≤ k ∧ k < 3332))) → h' c k = h c k
theorem try_ok {sl : Nat} {si : Nat → Int} {h h1 h2 h3 : PH} {n : Nat} (hB : BdR h) (hD : BdD h) (p1 : CP (zz sl si (7, 0)) mX12_keeps h [(2, 169), (0, 3168)] h1 []) (e : E78 (nsR h1 n) h2) (p3 : CP (zz sl si (7, 0)) mX12_restores h2 [(2, 169), (0, 3168)] h3 []) : SamL h h3 := by
  obtain ⟨a1, a2⟩ := c_X12_keeps (by omega) p1
  obtain ⟨b1, b2⟩ := c_X12_restores (by omega) p3
  have hB1 : BdR h1 := ⟨by rw [a2 170 0 (by omega)]; exact hB.1, by rw [a2 170 1 (by omega)]; exact hB.2.1, fun q hq => by rw [a2 170 _ (by omega)]; exact hB.2.2 q hq⟩
  have hD1 : BdD h1 := fun i hi => by rw [a2 170 _ (by omega)]; exact hD i hi
  obtain ⟨-, -, x3⟩ := nsR_b hB1 hD1 n
  refine ⟨fun k hk => ?_, fun c k q1 q2 q3 => ?_⟩
  · rw [b1 k hk, e 170 _ (by omega), x3 170 _ (by omega)]
    exact a1 k hk
  · rw [b2 c k (by omega), e c k (by omega), x3 c k (by omega), a2 c k (by omega)]
