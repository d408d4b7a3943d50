/-! TRAYS: the class's and the reference's -/
set_option maxRecDepth 10000 in
theorem v_X11_isWithin {sl : Nat} {si : Nat → Int} {fm : ZV} {K : Nat → PH → ZL → List ZV → Prop} {Q : PH → List ZV → Prop} {h : PH} {a b : Int} (H : (a < 0 → Q h [(0, 0)]) ∧ (¬ (a < 0) → (b < a → Q h [(0, 0)]) ∧ (¬ (b < a) → Q h [(0, 1)]))) : vc (zz sl si fm) (fun _ => false) K Q mX11_isWithin 10 0 mX11_isWithin.2.2.2.2.2.2 h [(0, (0, a)), (1, (0, b))] [] := H
theorem c_X11_isWithin {sl : Nat} {si : Nat → Int} {fm : ZV} {h h' : PH} {a b : Int} {v : Int} (hc : CP (zz sl si fm) mX11_isWithin h [(0, a), (0, b)] h' [(0, v)]) : h' = h ∧ (v = 1 ↔ 0 ≤ a ∧ a ≤ b) := by
  have q := cp_vc (K := fun _ _ _ _ => True) (Q := fun xh r => xh = h ∧ ∀ v, r = [(0, v)] → (v = 1 ↔ 0 ≤ a ∧ a ≤ b)) (v_X11_isWithin ⟨fun c1 => (by exact ⟨rfl, fun v e => by cases e; omega⟩), fun c1 => ⟨fun c2 => (by exact ⟨rfl, fun v e => by cases e; omega⟩), fun c2 => (by exact ⟨rfl, fun v e => by cases e; omega⟩)⟩⟩) (fun _ _ _ _ z _ => Bool.noConfusion z) hc
  exact ⟨q.1, q.2 v rfl⟩
set_option maxRecDepth 10000 in
theorem v_X11_deny {sl : Nat} {si : Nat → Int} {fm : ZV} {K : Nat → PH → ZL → List ZV → Prop} {Q : PH → List ZV → Prop} {h : PH} {a : Int} (H : Q (uph h 0 0 a) [(0, 0)]) : vc (zz sl si fm) (fun _ => false) K Q mX11_deny 7 0 mX11_deny.2.2.2.2.2.2 h [(0, (2, 0)), (1, (0, a))] [] := H
theorem c_X11_deny {sl : Nat} {si : Nat → Int} {fm : ZV} {h h' : PH} {a : Int} {v : Int} (hc : CP (zz sl si fm) mX11_deny h [(2, 0), (0, a)] h' [(0, v)]) : h' = uph h 0 0 a ∧ (v = 0) := by
  have q := cp_vc (K := fun _ _ _ _ => True) (Q := fun xh r => xh = uph h 0 0 a ∧ ∀ v, r = [(0, v)] → (v = 0)) (v_X11_deny (by exact ⟨rfl, fun v e => by cases e; omega⟩)) (fun _ _ _ _ z _ => Bool.noConfusion z) hc
  exact ⟨q.1, q.2 v rfl⟩
set_option maxRecDepth 10000 in
theorem v_X11_grant {sl : Nat} {si : Nat → Int} {fm : ZV} {K : Nat → PH → ZL → List ZV → Prop} {Q : PH → List ZV → Prop} {h : PH} (H : Q (uph h 0 0 0) [(0, 1)]) : vc (zz sl si fm) (fun _ => false) K Q mX11_grant 7 0 mX11_grant.2.2.2.2.2.2 h [(0, (2, 0))] [] := H
theorem c_X11_grant {sl : Nat} {si : Nat → Int} {fm : ZV} {h h' : PH} {v : Int} (hc : CP (zz sl si fm) mX11_grant h [(2, 0)] h' [(0, v)]) : h' = uph h 0 0 0 ∧ (v = 1) := by
  have q := cp_vc (K := fun _ _ _ _ => True) (Q := fun xh r => xh = uph h 0 0 0 ∧ ∀ v, r = [(0, v)] → (v = 1)) (v_X11_grant (by exact ⟨rfl, fun v e => by cases e; omega⟩)) (fun _ _ _ _ z _ => Bool.noConfusion z) hc
  exact ⟨q.1, q.2 v rfl⟩
set_option maxRecDepth 10000 in
theorem v_X11_refuse {sl : Nat} {si : Nat → Int} {fm : ZV} {K : Nat → PH → ZL → List ZV → Prop} {Q : PH → List ZV → Prop} {h : PH} {a : Int} (H : Q (uph h 0 0 a) [(0, (-1))]) : vc (zz sl si fm) (fun _ => false) K Q mX11_refuse 7 0 mX11_refuse.2.2.2.2.2.2 h [(0, (2, 0)), (1, (0, a))] [] := H
theorem c_X11_refuse {sl : Nat} {si : Nat → Int} {fm : ZV} {h h' : PH} {a : Int} {v : Int} (hc : CP (zz sl si fm) mX11_refuse h [(2, 0), (0, a)] h' [(0, v)]) : h' = uph h 0 0 a ∧ (v = -1) := by
  have q := cp_vc (K := fun _ _ _ _ => True) (Q := fun xh r => xh = uph h 0 0 a ∧ ∀ v, r = [(0, v)] → (v = -1)) (v_X11_refuse (by exact ⟨rfl, fun v e => by cases e; omega⟩)) (fun _ _ _ _ z _ => Bool.noConfusion z) hc
  exact ⟨q.1, q.2 v rfl⟩
set_option maxRecDepth 10000 in
theorem v_X12_is {sl : Nat} {si : Nat → Int} {fm : ZV} {K : Nat → PH → ZL → List ZV → Prop} {Q : PH → List ZV → Prop} {h : PH} {a : Int} (H : (a ≠ 0 → Q (uph h 169 2 a) [(0, 0)]) ∧ (¬ (a ≠ 0) → Q (uph h 169 2 a) [(0, 1)])) : vc (zz sl si fm) (fun _ => false) K Q mX12_is 10 0 mX12_is.2.2.2.2.2.2 h [(0, (2, 169)), (1, (0, a))] [] := H
theorem c_X12_is {sl : Nat} {si : Nat → Int} {fm : ZV} {h h' : PH} {a : Int} {v : Int} (hc : CP (zz sl si fm) mX12_is h [(2, 169), (0, a)] h' [(0, v)]) : h' = uph h 169 2 a ∧ (v = 1 ↔ a = 0) := by
  have q := cp_vc (K := fun _ _ _ _ => True) (Q := fun xh r => xh = uph h 169 2 a ∧ ∀ v, r = [(0, v)] → (v = 1 ↔ a = 0)) (v_X12_is ⟨fun c1 => (by exact ⟨rfl, fun v e => by cases e; omega⟩), fun c1 => (by exact ⟨rfl, fun v e => by cases e; omega⟩)⟩) (fun _ _ _ _ z _ => Bool.noConfusion z) hc
  exact ⟨q.1, q.2 v rfl⟩
