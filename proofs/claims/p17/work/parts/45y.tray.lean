/-! TRAYS: the class's and the reference's -/
def tC (a : Int) : Nat := 95 + 2 * a.toNat
def cC (a : Int) : Nat := 96 + 2 * a.toNat
theorem tC0 : tC 0 = 95 := rfl
theorem tC1 : tC 1 = 97 := rfl
theorem tC2 : tC 2 = 99 := rfl
theorem tC3 : tC 3 = 101 := rfl
theorem cC0 : cC 0 = 96 := rfl
theorem cC1 : cC 1 = 98 := rfl
theorem cC2 : cC 2 = 100 := rfl
theorem cC3 : cC 3 = 102 := rfl
/-- a piece of a row of one number -/
def fir (h : PH) (c lo n : Nat) (v : Int) : PH := fun c' k => if c' = c ∧ lo ≤ k ∧ k < lo + n then v else h c' k
theorem fir_0 {h : PH} {c lo : Nat} {v : Int} : fir h c lo 0 v = h := funext (fun c' => funext (fun k => if_neg (by omega)))
theorem fir_s {h : PH} {c lo n : Nat} {v : Int} : uph (fir h c lo n v) c (lo + n) v = fir h c lo (n + 1) v := funext (fun c' => funext (fun k => by
  unfold uph fir
  by_cases e : c' = c
  · by_cases e2 : k = lo + n
    · rw [if_pos ⟨e, e2⟩, if_pos ⟨e, by omega⟩]
    · rw [if_neg (fun q => e2 q.2)]
      by_cases e3 : lo ≤ k ∧ k < lo + n
      · rw [if_pos ⟨e, e3⟩, if_pos ⟨e, by omega⟩]
      · rw [if_neg (fun q => e3 q.2), if_neg (fun q => e3 (by omega))]
  · rw [if_neg (fun q => e q.1), if_neg (fun q => e q.1), if_neg (fun q => e q.1)]))
/-- copied from one end on -/
theorem cph_0 {h : PH} {cs cd sp dp : Nat} : cph h cs cd sp dp 0 = h := funext (fun c' => funext (fun k => if_neg (by omega)))
theorem cph_up {h : PH} {c sp dp n : Nat} (hd : dp ≤ sp ∨ sp + n < dp) : uph (cph h c c sp dp n) c (dp + n) (cph h c c sp dp n c (sp + n)) = cph h c c sp dp (n + 1) := funext (fun c' => funext (fun k => by
  have e0 : cph h c c sp dp n c (sp + n) = h c (sp + n) := by
    unfold cph
    exact if_neg (by omega)
  rw [e0]
  unfold uph cph
  by_cases e : c' = c
  · by_cases e2 : k = dp + n
    · rw [if_pos ⟨e, e2⟩, if_pos ⟨e, by omega⟩]
      congr 1
      omega
    · rw [if_neg (fun q => e2 q.2)]
      by_cases e3 : dp ≤ k ∧ k < dp + n
      · rw [if_pos ⟨e, e3⟩, if_pos ⟨e, by omega⟩]
      · rw [if_neg (fun q => e3 q.2), if_neg (fun q => e3 (by omega))]
  · rw [if_neg (fun q => e q.1), if_neg (fun q => e q.1), if_neg (fun q => e q.1)]))

set_option maxRecDepth 10000 in
theorem v_X11_isWithin {sl : Nat} {si : Nat → Int} {fm : ZV} {K : Nat → PH → ZL → List ZV → Prop} {Q : PH → List ZV → Prop} {h : PH} {a b : Int} (H : (a < 0 → Q h [(0, 0)]) ∧ (¬ (a < 0) → (b < a → Q h [(0, 0)]) ∧ (¬ (b < a) → Q h [(0, 1)]))) : vc (zz sl si fm) (fun _ => false) K Q mX11_isWithin 10 0 mX11_isWithin.2.2.2.2.2.2 h [(0, (0, a)), (1, (0, b))] [] := H
theorem c_X11_isWithin {sl : Nat} {si : Nat → Int} {fm : ZV} {h h' : PH} {a b : Int} {v : Int} (hc : CP (zz sl si fm) mX11_isWithin h [(0, a), (0, b)] h' [(0, v)]) : h' = h ∧ (v = 1 ↔ 0 ≤ a ∧ a ≤ b) := by
  have q := cp_vc (K := fun _ _ _ _ => True) (Q := fun xh r => xh = h ∧ ∀ v, r = [(0, v)] → (v = 1 ↔ 0 ≤ a ∧ a ≤ b)) (v_X11_isWithin ⟨fun c1 => (by exact ⟨rfl, fun v e => by cases e; omega⟩), fun c1 => ⟨fun c2 => (by exact ⟨rfl, fun v e => by cases e; omega⟩), fun c2 => (by exact ⟨rfl, fun v e => by cases e; omega⟩)⟩⟩) (fun _ _ _ _ z _ => Bool.noConfusion z) hc
  exact ⟨q.1, q.2 v rfl⟩
set_option maxRecDepth 10000 in
theorem v_X11_deny {sl : Nat} {si : Nat → Int} {fm : ZV} {K : Nat → PH → ZL → List ZV → Prop} {Q : PH → List ZV → Prop} {h : PH} {a : Int} (H : Q (uph h 0 0 a) [(0, 0)]) : vc (zz sl si fm) (fun _ => false) K Q mX11_deny 7 0 mX11_deny.2.2.2.2.2.2 h [(0, (2, 0)), (1, (0, a))] [] := H
theorem c_X11_deny {sl : Nat} {si : Nat → Int} {fm : ZV} {h h' : PH} {a : Int} {v : Int} (hc : CP (zz sl si fm) mX11_deny h [(2, 0), (0, a)] h' [(0, v)]) : h' = uph h 0 0 a ∧ (v = 0) := by
  have q := cp_vc (K := fun _ _ _ _ => True) (Q := fun xh r => xh = uph h 0 0 a ∧ ∀ v, r = [(0, v)] → (v = 0)) (v_X11_deny (by exact ⟨rfl, fun v e => by cases e; omega⟩)) (fun _ _ _ _ z _ => Bool.noConfusion z) hc
  exact ⟨q.1, q.2 v rfl⟩
set_option maxRecDepth 10000 in
theorem v_X11_grant {sl : Nat} {si : Nat → Int} {fm : ZV} {K : Nat → PH → ZL → List ZV → Prop} {Q : PH → List ZV → Prop} {h : PH} (H : Q (uph h 0 0 0) [(0, 1)]) : vc (zz sl si fm) (fun _ => false) K Q mX11_grant 7 0 mX11_grant.2.2.2.2.2.2 h [(0, (2, 0))] [] := H
theorem c_X11_grant {sl : Nat} {si : Nat → Int} {fm : ZV} {h h' : PH} {v : Int} (hc : CP (zz sl si fm) mX11_grant h [(2, 0)] h' [(0, v)]) : h' = uph h 0 0 0 ∧ (v = 1) := by
  have q := cp_vc (K := fun _ _ _ _ => True) (Q := fun xh r => xh = uph h 0 0 0 ∧ ∀ v, r = [(0, v)] → (v = 1)) (v_X11_grant (by exact ⟨rfl, fun v e => by cases e; omega⟩)) (fun _ _ _ _ z _ => Bool.noConfusion z) hc
  exact ⟨q.1, q.2 v rfl⟩
set_option maxRecDepth 10000 in
theorem v_X11_refuse {sl : Nat} {si : Nat → Int} {fm : ZV} {K : Nat → PH → ZL → List ZV → Prop} {Q : PH → List ZV → Prop} {h : PH} {a : Int} (H : Q (uph h 0 0 a) [(0, (-1))]) : vc (zz sl si fm) (fun _ => false) K Q mX11_refuse 7 0 mX11_refuse.2.2.2.2.2.2 h [(0, (2, 0)), (1, (0, a))] [] := H
theorem c_X11_refuse {sl : Nat} {si : Nat → Int} {fm : ZV} {h h' : PH} {a : Int} {v : Int} (hc : CP (zz sl si fm) mX11_refuse h [(2, 0), (0, a)] h' [(0, v)]) : h' = uph h 0 0 a ∧ (v = -1) := by
  have q := cp_vc (K := fun _ _ _ _ => True) (Q := fun xh r => xh = uph h 0 0 a ∧ ∀ v, r = [(0, v)] → (v = -1)) (v_X11_refuse (by exact ⟨rfl, fun v e => by cases e; omega⟩)) (fun _ _ _ _ z _ => Bool.noConfusion z) hc
  exact ⟨q.1, q.2 v rfl⟩
set_option maxRecDepth 10000 in
theorem v_X12_isTray {sl : Nat} {si : Nat → Int} {fm : ZV} {K : Nat → PH → ZL → List ZV → Prop} {Q : PH → List ZV → Prop} {h : PH} {a : Int} (H : (a < 0 → Q h [(0, 0)]) ∧ (¬ (a < 0) → (4 ≤ a → Q h [(0, 0)]) ∧ (¬ (4 ≤ a) → Q h [(0, 1)]))) : vc (zz sl si fm) (fun _ => false) K Q mX12_isTray 10 0 mX12_isTray.2.2.2.2.2.2 h [(0, (0, a))] [] := H
theorem c_X12_isTray {sl : Nat} {si : Nat → Int} {fm : ZV} {h h' : PH} {a : Int} {v : Int} (hc : CP (zz sl si fm) mX12_isTray h [(0, a)] h' [(0, v)]) : h' = h ∧ (v = 1 ↔ 0 ≤ a ∧ a < 4) := by
  have q := cp_vc (K := fun _ _ _ _ => True) (Q := fun xh r => xh = h ∧ ∀ v, r = [(0, v)] → (v = 1 ↔ 0 ≤ a ∧ a < 4)) (v_X12_isTray ⟨fun c1 => (by exact ⟨rfl, fun v e => by cases e; omega⟩), fun c1 => ⟨fun c2 => (by exact ⟨rfl, fun v e => by cases e; omega⟩), fun c2 => (by exact ⟨rfl, fun v e => by cases e; omega⟩)⟩⟩) (fun _ _ _ _ z _ => Bool.noConfusion z) hc
  exact ⟨q.1, q.2 v rfl⟩
set_option maxRecDepth 10000 in
theorem v_X12_is {sl : Nat} {si : Nat → Int} {fm : ZV} {K : Nat → PH → ZL → List ZV → Prop} {Q : PH → List ZV → Prop} {h : PH} {a : Int} (H : (a ≠ 0 → Q (uph h 169 2 a) [(0, 0)]) ∧ (¬ (a ≠ 0) → Q (uph h 169 2 a) [(0, 1)])) : vc (zz sl si fm) (fun _ => false) K Q mX12_is 10 0 mX12_is.2.2.2.2.2.2 h [(0, (2, 169)), (1, (0, a))] [] := H
theorem c_X12_is {sl : Nat} {si : Nat → Int} {fm : ZV} {h h' : PH} {a : Int} {v : Int} (hc : CP (zz sl si fm) mX12_is h [(2, 169), (0, a)] h' [(0, v)]) : h' = uph h 169 2 a ∧ (v = 1 ↔ a = 0) := by
  have q := cp_vc (K := fun _ _ _ _ => True) (Q := fun xh r => xh = uph h 169 2 a ∧ ∀ v, r = [(0, v)] → (v = 1 ↔ a = 0)) (v_X12_is ⟨fun c1 => (by exact ⟨rfl, fun v e => by cases e; omega⟩), fun c1 => (by exact ⟨rfl, fun v e => by cases e; omega⟩)⟩) (fun _ _ _ _ z _ => Bool.noConfusion z) hc
  exact ⟨q.1, q.2 v rfl⟩
set_option maxRecDepth 10000 in
theorem v_X12_cut {sl : Nat} {si : Nat → Int} {fm : ZV} {K : Nat → PH → ZL → List ZV → Prop} {Q : PH → List ZV → Prop} {h : PH} {a x : Int} (H : (a ≠ 0 → (a ≠ 1 → (a ≠ 2 → Q h [(1, x)]) ∧ (¬ (a ≠ 2) → Q h [(1, zl2i x)])) ∧ (¬ (a ≠ 1) → Q h [(1, zi2s (zl2i x))])) ∧ (¬ (a ≠ 0) → Q h [(1, zi2b (zl2i x))])) : vc (zz sl si fm) (fun _ => false) K Q mX12_cut 15 0 mX12_cut.2.2.2.2.2.2 h [(0, (1, x)), (2, (0, a))] [] := H
theorem c_X12_cut {sl : Nat} {si : Nat → Int} {fm : ZV} {h h' : PH} {a x : Int} {v : Int} (hc : CP (zz sl si fm) mX12_cut h [(1, x), (0, a)] h' [(1, v)]) : h' = h ∧ (v = zcut a x) := by
  have q := cp_vc (K := fun _ _ _ _ => True) (Q := fun xh r => xh = h ∧ ∀ v, r = [(1, v)] → (v = zcut a x)) (v_X12_cut ⟨fun c1 => ⟨fun c2 => ⟨fun c3 => (by exact ⟨rfl, fun v e => by cases e; (unfold zcut; split <;> first | rfl | (exfalso; omega) | (split <;> first | rfl | (exfalso; omega) | (split <;> first | rfl | (exfalso; omega))))⟩), fun c3 => (by exact ⟨rfl, fun v e => by cases e; (unfold zcut; split <;> first | rfl | (exfalso; omega) | (split <;> first | rfl | (exfalso; omega) | (split <;> first | rfl | (exfalso; omega))))⟩)⟩, fun c2 => (by exact ⟨rfl, fun v e => by cases e; (unfold zcut; split <;> first | rfl | (exfalso; omega) | (split <;> first | rfl | (exfalso; omega) | (split <;> first | rfl | (exfalso; omega))))⟩)⟩, fun c1 => (by exact ⟨rfl, fun v e => by cases e; (unfold zcut; split <;> first | rfl | (exfalso; omega) | (split <;> first | rfl | (exfalso; omega) | (split <;> first | rfl | (exfalso; omega))))⟩)⟩) (fun _ _ _ _ z _ => Bool.noConfusion z) hc
  exact ⟨q.1, q.2 v rfl⟩
theorem v_fill0 {sl : Nat} {si : Nat → Int} {fm : ZV} {K : Nat → PH → ZL → List ZV → Prop} {Q : PH → List ZV → Prop} {h : PH} {x : Int} (H : K 6 h [(4, (0, 60)), (3, (0, 0)), (0, (2, 96)), (1, (1, x))] []) : vc (zz sl si fm) (fun p => Nat.beq p 6) K Q mJ7_fill_d0a16 7 0 mJ7_fill_d0a16.2.2.2.2.2.2 h [(0, (2, 96)), (1, (1, x))] [] := H
theorem v_fill0_l {sl : Nat} {si : Nat → Int} {fm : ZV} {K : Nat → PH → ZL → List ZV → Prop} {Q : PH → List ZV → Prop} {h : PH} {x k : Int} (H : (60 ≤ k → Q h []) ∧ (¬ (60 ≤ k) → 0 ≤ k ∧ k < (60 : Nat) → K 6 (uph h 96 k.toNat x) [(3, (0, w32 (k + 1))), (0, (2, 96)), (1, (1, x)), (4, (0, 60))] [])) : vc (zz sl si fm) (fun p => Nat.beq p 6) K Q mJ7_fill_d0a16 11 6 (ax_jmp mJ7_fill_d0a16.2.2.2.2.2.2 6) h [(0, (2, 96)), (1, (1, x)), (3, (0, k)), (4, (0, 60))] [] := H
theorem c_fill0 {sl : Nat} {si : Nat → Int} {fm : ZV} {h h' : PH} {x : Int} (hc : CP (zz sl si fm) mJ7_fill_d0a16 h [(2, 96), (1, x)] h' []) : h' = fih h 96 60 x ∧ True := by
  refine ⟨cp_loop (A := fun k : Nat => [(0, (2, 96)), (1, (1, x)), (3, (0, (k : Int))), (4, (0, 60))]) (J := fun k hx => k ≤ 60 ∧ hx = fih h 96 k x) (Q := fun xh r => xh = fih h 96 60 x) (v_fill0 ⟨rfl, 0, ⟨by omega, fih_0.symm⟩, rfl, rfl, rfl, rfl, trivial⟩) (fun k hx hJ => v_fill0_l ⟨fun c => ?_, fun c b => ⟨rfl, k + 1, ⟨by omega, ?_⟩, rfl, rfl, ?_, rfl, trivial⟩⟩) hc, trivial⟩
  · have e : k = 60 := by omega
    rw [hJ.2, e]
  · rw [hJ.2, Int.toNat_natCast, fih_s]
  · exact wv (by omega) (by omega) (by omega)
set_option maxRecDepth 10000 in
theorem v_lay0 {sl : Nat} {si : Nat → Int} {fm : ZV} {K : Nat → PH → ZL → List ZV → Prop} {Q : PH → List ZV → Prop} {h : PH} {a b : Int} (H : ∀ h1, CP (zz sl si fm) mJ7_fill_d0a16 (uph (uph (uph h 95 0 1) 95 1 a) 95 2 b) [(2, 96), (1, 0)] h1 [] → Q h1 []) : vc (zz sl si fm) (fun _ => false) K Q mX10_lay 16 0 mX10_lay.2.2.2.2.2.2 h [(0, (2, 95)), (1, (0, a)), (2, (0, b))] [] := H
theorem c_lay0 {sl : Nat} {si : Nat → Int} {fm : ZV} {h h' : PH} {a b : Int} (hc : CP (zz sl si fm) mX10_lay h [(2, 95), (0, a), (0, b)] h' []) : h' = fih (uph (uph (uph h 95 0 1) 95 1 a) 95 2 b) 96 60 0 ∧ True := by
  exact ⟨cp_vc (K := fun _ _ _ _ => True) (Q := fun xh r => xh = fih (uph (uph (uph h 95 0 1) 95 1 a) 95 2 b) 96 60 0) (v_lay0 (fun h1 p1 => by obtain ⟨t1, e1⟩ := c_fill0 p1; have t1 := t1.symm; subst t1; exact (by exact rfl))) (fun _ _ _ _ z _ => Bool.noConfusion z) hc, trivial⟩
set_option maxRecDepth 10000 in
theorem v_holds0 {sl : Nat} {si : Nat → Int} {fm : ZV} {K : Nat → PH → ZL → List ZV → Prop} {Q : PH → List ZV → Prop} {h : PH} {a b : Int} (H : (a < 0 → Q h [(0, 0)]) ∧ (¬ (a < 0) → R32 (h 95 2) → ((h 95 2) < b → Q h [(0, 0)]) ∧ (¬ ((h 95 2) < b) → R32 (h 95 2) → ((w32 ((h 95 2) - b)) < a → Q h [(0, 0)]) ∧ (¬ ((w32 ((h 95 2) - b)) < a) → Q h [(0, 1)])))) : vc (zz sl si fm) (fun _ => false) K Q mX10_holds 17 0 mX10_holds.2.2.2.2.2.2 h [(0, (2, 95)), (1, (0, a)), (2, (0, b))] [] := H
theorem c_holds0 {sl : Nat} {si : Nat → Int} {fm : ZV} {h h' : PH} {a b : Int} {v : Int} (hc : CP (zz sl si fm) mX10_holds h [(2, 95), (0, a), (0, b)] h' [(0, v)]) : h' = h ∧ (v = 1 ↔ 0 ≤ a ∧ b ≤ h 95 2 ∧ a ≤ w32 (h 95 2 - b)) := by
  have q := cp_vc (K := fun _ _ _ _ => True) (Q := fun xh r => xh = h ∧ ∀ v, r = [(0, v)] → (v = 1 ↔ 0 ≤ a ∧ b ≤ h 95 2 ∧ a ≤ w32 (h 95 2 - b))) (v_holds0 ⟨fun c1 => (by exact ⟨rfl, fun v e => by cases e; omega⟩), fun c1 => (fun r2 => ⟨fun c3 => (by exact ⟨rfl, fun v e => by cases e; omega⟩), fun c3 => (fun r4 => ⟨fun c5 => (by exact ⟨rfl, fun v e => by cases e; omega⟩), fun c5 => (by exact ⟨rfl, fun v e => by cases e; omega⟩)⟩)⟩)⟩) (fun _ _ _ _ z _ => Bool.noConfusion z) hc
  exact ⟨q.1, q.2 v rfl⟩
set_option maxRecDepth 10000 in
theorem v_put0 {sl : Nat} {si : Nat → Int} {fm : ZV} {K : Nat → PH → ZL → List ZV → Prop} {Q : PH → List ZV → Prop} {h : PH} {a x : Int} (H : R32 (h 95 1) → ((h 95 1) < 0 ∨ 2 < (h 95 1) → 0 ≤ a ∧ a < (60 : Nat) → Q (uph h 96 a.toNat x) []) ∧ (¬ ((h 95 1) < 0 ∨ 2 < (h 95 1)) → ((h 95 1) = 0 → 0 ≤ a ∧ a < (60 : Nat) → Q (uph h 96 a.toNat (zi2b (zl2i x))) []) ∧ (¬ (h 95 1) = 0 → ((h 95 1) = 1 → 0 ≤ a ∧ a < (60 : Nat) → Q (uph h 96 a.toNat (zi2s (zl2i x))) []) ∧ (¬ (h 95 1) = 1 → ((h 95 1) = 2 → 0 ≤ a ∧ a < (60 : Nat) → Q (uph h 96 a.toNat (zl2i x)) []) ∧ (¬ (h 95 1) = 2 → 0 ≤ a ∧ a < (60 : Nat) → Q (uph h 96 a.toNat x) []))))) : vc (zz sl si fm) (fun _ => false) K Q mX10_put 15 0 mX10_put.2.2.2.2.2.2 h [(0, (2, 95)), (1, (0, a)), (2, (1, x))] [] := H
theorem c_put0 {sl : Nat} {si : Nat → Int} {fm : ZV} {h h' : PH} {a x : Int} (hc : CP (zz sl si fm) mX10_put h [(2, 95), (0, a), (1, x)] h' []) : h' = uph h 96 a.toNat (zcut (h 95 1) x) ∧ True := by
  exact ⟨cp_vc (K := fun _ _ _ _ => True) (Q := fun xh r => xh = uph h 96 a.toNat (zcut (h 95 1) x)) (v_put0 (fun r1 => ⟨fun c9 => (fun b10 => (by (congr 1; (unfold zcut; split <;> first | rfl | (exfalso; omega) | (split <;> first | rfl | (exfalso; omega) | (split <;> first | rfl | (exfalso; omega))))))), fun c9 => ⟨fun c7 => (fun b8 => (by (congr 1; (unfold zcut; split <;> first | rfl | (exfalso; omega) | (split <;> first | rfl | (exfalso; omega) | (split <;> first | rfl | (exfalso; omega))))))), fun c7 => ⟨fun c5 => (fun b6 => (by (congr 1; (unfold zcut; split <;> first | rfl | (exfalso; omega) | (split <;> first | rfl | (exfalso; omega) | (split <;> first | rfl | (exfalso; omega))))))), fun c5 => ⟨fun c3 => (fun b4 => (by (congr 1; (unfold zcut; split <;> first | rfl | (exfalso; omega) | (split <;> first | rfl | (exfalso; omega) | (split <;> first | rfl | (exfalso; omega))))))), fun c3 => (fun b2 => (by (congr 1; (unfold zcut; split <;> first | rfl | (exfalso; omega) | (split <;> first | rfl | (exfalso; omega) | (split <;> first | rfl | (exfalso; omega)))))))⟩⟩⟩⟩)) (fun _ _ _ _ z _ => Bool.noConfusion z) hc, trivial⟩
theorem v_fill1 {sl : Nat} {si : Nat → Int} {fm : ZV} {K : Nat → PH → ZL → List ZV → Prop} {Q : PH → List ZV → Prop} {h : PH} {x : Int} (H : K 6 h [(4, (0, 60)), (3, (0, 0)), (0, (2, 98)), (1, (1, x))] []) : vc (zz sl si fm) (fun p => Nat.beq p 6) K Q mJ7_fill_d0a16 7 0 mJ7_fill_d0a16.2.2.2.2.2.2 h [(0, (2, 98)), (1, (1, x))] [] := H
theorem v_fill1_l {sl : Nat} {si : Nat → Int} {fm : ZV} {K : Nat → PH → ZL → List ZV → Prop} {Q : PH → List ZV → Prop} {h : PH} {x k : Int} (H : (60 ≤ k → Q h []) ∧ (¬ (60 ≤ k) → 0 ≤ k ∧ k < (60 : Nat) → K 6 (uph h 98 k.toNat x) [(3, (0, w32 (k + 1))), (0, (2, 98)), (1, (1, x)), (4, (0, 60))] [])) : vc (zz sl si fm) (fun p => Nat.beq p 6) K Q mJ7_fill_d0a16 11 6 (ax_jmp mJ7_fill_d0a16.2.2.2.2.2.2 6) h [(0, (2, 98)), (1, (1, x)), (3, (0, k)), (4, (0, 60))] [] := H
theorem c_fill1 {sl : Nat} {si : Nat → Int} {fm : ZV} {h h' : PH} {x : Int} (hc : CP (zz sl si fm) mJ7_fill_d0a16 h [(2, 98), (1, x)] h' []) : h' = fih h 98 60 x ∧ True := by
  refine ⟨cp_loop (A := fun k : Nat => [(0, (2, 98)), (1, (1, x)), (3, (0, (k : Int))), (4, (0, 60))]) (J := fun k hx => k ≤ 60 ∧ hx = fih h 98 k x) (Q := fun xh r => xh = fih h 98 60 x) (v_fill1 ⟨rfl, 0, ⟨by omega, fih_0.symm⟩, rfl, rfl, rfl, rfl, trivial⟩) (fun k hx hJ => v_fill1_l ⟨fun c => ?_, fun c b => ⟨rfl, k + 1, ⟨by omega, ?_⟩, rfl, rfl, ?_, rfl, trivial⟩⟩) hc, trivial⟩
  · have e : k = 60 := by omega
    rw [hJ.2, e]
  · rw [hJ.2, Int.toNat_natCast, fih_s]
  · exact wv (by omega) (by omega) (by omega)
set_option maxRecDepth 10000 in
theorem v_lay1 {sl : Nat} {si : Nat → Int} {fm : ZV} {K : Nat → PH → ZL → List ZV → Prop} {Q : PH → List ZV → Prop} {h : PH} {a b : Int} (H : ∀ h1, CP (zz sl si fm) mJ7_fill_d0a16 (uph (uph (uph h 97 0 1) 97 1 a) 97 2 b) [(2, 98), (1, 0)] h1 [] → Q h1 []) : vc (zz sl si fm) (fun _ => false) K Q mX10_lay 16 0 mX10_lay.2.2.2.2.2.2 h [(0, (2, 97)), (1, (0, a)), (2, (0, b))] [] := H
theorem c_lay1 {sl : Nat} {si : Nat → Int} {fm : ZV} {h h' : PH} {a b : Int} (hc : CP (zz sl si fm) mX10_lay h [(2, 97), (0, a), (0, b)] h' []) : h' = fih (uph (uph (uph h 97 0 1) 97 1 a) 97 2 b) 98 60 0 ∧ True := by
  exact ⟨cp_vc (K := fun _ _ _ _ => True) (Q := fun xh r => xh = fih (uph (uph (uph h 97 0 1) 97 1 a) 97 2 b) 98 60 0) (v_lay1 (fun h1 p1 => by obtain ⟨t1, e1⟩ := c_fill1 p1; have t1 := t1.symm; subst t1; exact (by exact rfl))) (fun _ _ _ _ z _ => Bool.noConfusion z) hc, trivial⟩
set_option maxRecDepth 10000 in
theorem v_holds1 {sl : Nat} {si : Nat → Int} {fm : ZV} {K : Nat → PH → ZL → List ZV → Prop} {Q : PH → List ZV → Prop} {h : PH} {a b : Int} (H : (a < 0 → Q h [(0, 0)]) ∧ (¬ (a < 0) → R32 (h 97 2) → ((h 97 2) < b → Q h [(0, 0)]) ∧ (¬ ((h 97 2) < b) → R32 (h 97 2) → ((w32 ((h 97 2) - b)) < a → Q h [(0, 0)]) ∧ (¬ ((w32 ((h 97 2) - b)) < a) → Q h [(0, 1)])))) : vc (zz sl si fm) (fun _ => false) K Q mX10_holds 17 0 mX10_holds.2.2.2.2.2.2 h [(0, (2, 97)), (1, (0, a)), (2, (0, b))] [] := H
theorem c_holds1 {sl : Nat} {si : Nat → Int} {fm : ZV} {h h' : PH} {a b : Int} {v : Int} (hc : CP (zz sl si fm) mX10_holds h [(2, 97), (0, a), (0, b)] h' [(0, v)]) : h' = h ∧ (v = 1 ↔ 0 ≤ a ∧ b ≤ h 97 2 ∧ a ≤ w32 (h 97 2 - b)) := by
  have q := cp_vc (K := fun _ _ _ _ => True) (Q := fun xh r => xh = h ∧ ∀ v, r = [(0, v)] → (v = 1 ↔ 0 ≤ a ∧ b ≤ h 97 2 ∧ a ≤ w32 (h 97 2 - b))) (v_holds1 ⟨fun c1 => (by exact ⟨rfl, fun v e => by cases e; omega⟩), fun c1 => (fun r2 => ⟨fun c3 => (by exact ⟨rfl, fun v e => by cases e; omega⟩), fun c3 => (fun r4 => ⟨fun c5 => (by exact ⟨rfl, fun v e => by cases e; omega⟩), fun c5 => (by exact ⟨rfl, fun v e => by cases e; omega⟩)⟩)⟩)⟩) (fun _ _ _ _ z _ => Bool.noConfusion z) hc
  exact ⟨q.1, q.2 v rfl⟩
set_option maxRecDepth 10000 in
theorem v_put1 {sl : Nat} {si : Nat → Int} {fm : ZV} {K : Nat → PH → ZL → List ZV → Prop} {Q : PH → List ZV → Prop} {h : PH} {a x : Int} (H : R32 (h 97 1) → ((h 97 1) < 0 ∨ 2 < (h 97 1) → 0 ≤ a ∧ a < (60 : Nat) → Q (uph h 98 a.toNat x) []) ∧ (¬ ((h 97 1) < 0 ∨ 2 < (h 97 1)) → ((h 97 1) = 0 → 0 ≤ a ∧ a < (60 : Nat) → Q (uph h 98 a.toNat (zi2b (zl2i x))) []) ∧ (¬ (h 97 1) = 0 → ((h 97 1) = 1 → 0 ≤ a ∧ a < (60 : Nat) → Q (uph h 98 a.toNat (zi2s (zl2i x))) []) ∧ (¬ (h 97 1) = 1 → ((h 97 1) = 2 → 0 ≤ a ∧ a < (60 : Nat) → Q (uph h 98 a.toNat (zl2i x)) []) ∧ (¬ (h 97 1) = 2 → 0 ≤ a ∧ a < (60 : Nat) → Q (uph h 98 a.toNat x) []))))) : vc (zz sl si fm) (fun _ => false) K Q mX10_put 15 0 mX10_put.2.2.2.2.2.2 h [(0, (2, 97)), (1, (0, a)), (2, (1, x))] [] := H
theorem c_put1 {sl : Nat} {si : Nat → Int} {fm : ZV} {h h' : PH} {a x : Int} (hc : CP (zz sl si fm) mX10_put h [(2, 97), (0, a), (1, x)] h' []) : h' = uph h 98 a.toNat (zcut (h 97 1) x) ∧ True := by
  exact ⟨cp_vc (K := fun _ _ _ _ => True) (Q := fun xh r => xh = uph h 98 a.toNat (zcut (h 97 1) x)) (v_put1 (fun r1 => ⟨fun c9 => (fun b10 => (by (congr 1; (unfold zcut; split <;> first | rfl | (exfalso; omega) | (split <;> first | rfl | (exfalso; omega) | (split <;> first | rfl | (exfalso; omega))))))), fun c9 => ⟨fun c7 => (fun b8 => (by (congr 1; (unfold zcut; split <;> first | rfl | (exfalso; omega) | (split <;> first | rfl | (exfalso; omega) | (split <;> first | rfl | (exfalso; omega))))))), fun c7 => ⟨fun c5 => (fun b6 => (by (congr 1; (unfold zcut; split <;> first | rfl | (exfalso; omega) | (split <;> first | rfl | (exfalso; omega) | (split <;> first | rfl | (exfalso; omega))))))), fun c5 => ⟨fun c3 => (fun b4 => (by (congr 1; (unfold zcut; split <;> first | rfl | (exfalso; omega) | (split <;> first | rfl | (exfalso; omega) | (split <;> first | rfl | (exfalso; omega))))))), fun c3 => (fun b2 => (by (congr 1; (unfold zcut; split <;> first | rfl | (exfalso; omega) | (split <;> first | rfl | (exfalso; omega) | (split <;> first | rfl | (exfalso; omega)))))))⟩⟩⟩⟩)) (fun _ _ _ _ z _ => Bool.noConfusion z) hc, trivial⟩
theorem v_fill2 {sl : Nat} {si : Nat → Int} {fm : ZV} {K : Nat → PH → ZL → List ZV → Prop} {Q : PH → List ZV → Prop} {h : PH} {x : Int} (H : K 6 h [(4, (0, 60)), (3, (0, 0)), (0, (2, 100)), (1, (1, x))] []) : vc (zz sl si fm) (fun p => Nat.beq p 6) K Q mJ7_fill_d0a16 7 0 mJ7_fill_d0a16.2.2.2.2.2.2 h [(0, (2, 100)), (1, (1, x))] [] := H
theorem v_fill2_l {sl : Nat} {si : Nat → Int} {fm : ZV} {K : Nat → PH → ZL → List ZV → Prop} {Q : PH → List ZV → Prop} {h : PH} {x k : Int} (H : (60 ≤ k → Q h []) ∧ (¬ (60 ≤ k) → 0 ≤ k ∧ k < (60 : Nat) → K 6 (uph h 100 k.toNat x) [(3, (0, w32 (k + 1))), (0, (2, 100)), (1, (1, x)), (4, (0, 60))] [])) : vc (zz sl si fm) (fun p => Nat.beq p 6) K Q mJ7_fill_d0a16 11 6 (ax_jmp mJ7_fill_d0a16.2.2.2.2.2.2 6) h [(0, (2, 100)), (1, (1, x)), (3, (0, k)), (4, (0, 60))] [] := H
theorem c_fill2 {sl : Nat} {si : Nat → Int} {fm : ZV} {h h' : PH} {x : Int} (hc : CP (zz sl si fm) mJ7_fill_d0a16 h [(2, 100), (1, x)] h' []) : h' = fih h 100 60 x ∧ True := by
  refine ⟨cp_loop (A := fun k : Nat => [(0, (2, 100)), (1, (1, x)), (3, (0, (k : Int))), (4, (0, 60))]) (J := fun k hx => k ≤ 60 ∧ hx = fih h 100 k x) (Q := fun xh r => xh = fih h 100 60 x) (v_fill2 ⟨rfl, 0, ⟨by omega, fih_0.symm⟩, rfl, rfl, rfl, rfl, trivial⟩) (fun k hx hJ => v_fill2_l ⟨fun c => ?_, fun c b => ⟨rfl, k + 1, ⟨by omega, ?_⟩, rfl, rfl, ?_, rfl, trivial⟩⟩) hc, trivial⟩
  · have e : k = 60 := by omega
    rw [hJ.2, e]
  · rw [hJ.2, Int.toNat_natCast, fih_s]
  · exact wv (by omega) (by omega) (by omega)
set_option maxRecDepth 10000 in
theorem v_lay2 {sl : Nat} {si : Nat → Int} {fm : ZV} {K : Nat → PH → ZL → List ZV → Prop} {Q : PH → List ZV → Prop} {h : PH} {a b : Int} (H : ∀ h1, CP (zz sl si fm) mJ7_fill_d0a16 (uph (uph (uph h 99 0 1) 99 1 a) 99 2 b) [(2, 100), (1, 0)] h1 [] → Q h1 []) : vc (zz sl si fm) (fun _ => false) K Q mX10_lay 16 0 mX10_lay.2.2.2.2.2.2 h [(0, (2, 99)), (1, (0, a)), (2, (0, b))] [] := H
theorem c_lay2 {sl : Nat} {si : Nat → Int} {fm : ZV} {h h' : PH} {a b : Int} (hc : CP (zz sl si fm) mX10_lay h [(2, 99), (0, a), (0, b)] h' []) : h' = fih (uph (uph (uph h 99 0 1) 99 1 a) 99 2 b) 100 60 0 ∧ True := by
  exact ⟨cp_vc (K := fun _ _ _ _ => True) (Q := fun xh r => xh = fih (uph (uph (uph h 99 0 1) 99 1 a) 99 2 b) 100 60 0) (v_lay2 (fun h1 p1 => by obtain ⟨t1, e1⟩ := c_fill2 p1; have t1 := t1.symm; subst t1; exact (by exact rfl))) (fun _ _ _ _ z _ => Bool.noConfusion z) hc, trivial⟩
set_option maxRecDepth 10000 in
theorem v_holds2 {sl : Nat} {si : Nat → Int} {fm : ZV} {K : Nat → PH → ZL → List ZV → Prop} {Q : PH → List ZV → Prop} {h : PH} {a b : Int} (H : (a < 0 → Q h [(0, 0)]) ∧ (¬ (a < 0) → R32 (h 99 2) → ((h 99 2) < b → Q h [(0, 0)]) ∧ (¬ ((h 99 2) < b) → R32 (h 99 2) → ((w32 ((h 99 2) - b)) < a → Q h [(0, 0)]) ∧ (¬ ((w32 ((h 99 2) - b)) < a) → Q h [(0, 1)])))) : vc (zz sl si fm) (fun _ => false) K Q mX10_holds 17 0 mX10_holds.2.2.2.2.2.2 h [(0, (2, 99)), (1, (0, a)), (2, (0, b))] [] := H
theorem c_holds2 {sl : Nat} {si : Nat → Int} {fm : ZV} {h h' : PH} {a b : Int} {v : Int} (hc : CP (zz sl si fm) mX10_holds h [(2, 99), (0, a), (0, b)] h' [(0, v)]) : h' = h ∧ (v = 1 ↔ 0 ≤ a ∧ b ≤ h 99 2 ∧ a ≤ w32 (h 99 2 - b)) := by
  have q := cp_vc (K := fun _ _ _ _ => True) (Q := fun xh r => xh = h ∧ ∀ v, r = [(0, v)] → (v = 1 ↔ 0 ≤ a ∧ b ≤ h 99 2 ∧ a ≤ w32 (h 99 2 - b))) (v_holds2 ⟨fun c1 => (by exact ⟨rfl, fun v e => by cases e; omega⟩), fun c1 => (fun r2 => ⟨fun c3 => (by exact ⟨rfl, fun v e => by cases e; omega⟩), fun c3 => (fun r4 => ⟨fun c5 => (by exact ⟨rfl, fun v e => by cases e; omega⟩), fun c5 => (by exact ⟨rfl, fun v e => by cases e; omega⟩)⟩)⟩)⟩) (fun _ _ _ _ z _ => Bool.noConfusion z) hc
  exact ⟨q.1, q.2 v rfl⟩
set_option maxRecDepth 10000 in
theorem v_put2 {sl : Nat} {si : Nat → Int} {fm : ZV} {K : Nat → PH → ZL → List ZV → Prop} {Q : PH → List ZV → Prop} {h : PH} {a x : Int} (H : R32 (h 99 1) → ((h 99 1) < 0 ∨ 2 < (h 99 1) → 0 ≤ a ∧ a < (60 : Nat) → Q (uph h 100 a.toNat x) []) ∧ (¬ ((h 99 1) < 0 ∨ 2 < (h 99 1)) → ((h 99 1) = 0 → 0 ≤ a ∧ a < (60 : Nat) → Q (uph h 100 a.toNat (zi2b (zl2i x))) []) ∧ (¬ (h 99 1) = 0 → ((h 99 1) = 1 → 0 ≤ a ∧ a < (60 : Nat) → Q (uph h 100 a.toNat (zi2s (zl2i x))) []) ∧ (¬ (h 99 1) = 1 → ((h 99 1) = 2 → 0 ≤ a ∧ a < (60 : Nat) → Q (uph h 100 a.toNat (zl2i x)) []) ∧ (¬ (h 99 1) = 2 → 0 ≤ a ∧ a < (60 : Nat) → Q (uph h 100 a.toNat x) []))))) : vc (zz sl si fm) (fun _ => false) K Q mX10_put 15 0 mX10_put.2.2.2.2.2.2 h [(0, (2, 99)), (1, (0, a)), (2, (1, x))] [] := H
theorem c_put2 {sl : Nat} {si : Nat → Int} {fm : ZV} {h h' : PH} {a x : Int} (hc : CP (zz sl si fm) mX10_put h [(2, 99), (0, a), (1, x)] h' []) : h' = uph h 100 a.toNat (zcut (h 99 1) x) ∧ True := by
  exact ⟨cp_vc (K := fun _ _ _ _ => True) (Q := fun xh r => xh = uph h 100 a.toNat (zcut (h 99 1) x)) (v_put2 (fun r1 => ⟨fun c9 => (fun b10 => (by (congr 1; (unfold zcut; split <;> first | rfl | (exfalso; omega) | (split <;> first | rfl | (exfalso; omega) | (split <;> first | rfl | (exfalso; omega))))))), fun c9 => ⟨fun c7 => (fun b8 => (by (congr 1; (unfold zcut; split <;> first | rfl | (exfalso; omega) | (split <;> first | rfl | (exfalso; omega) | (split <;> first | rfl | (exfalso; omega))))))), fun c7 => ⟨fun c5 => (fun b6 => (by (congr 1; (unfold zcut; split <;> first | rfl | (exfalso; omega) | (split <;> first | rfl | (exfalso; omega) | (split <;> first | rfl | (exfalso; omega))))))), fun c5 => ⟨fun c3 => (fun b4 => (by (congr 1; (unfold zcut; split <;> first | rfl | (exfalso; omega) | (split <;> first | rfl | (exfalso; omega) | (split <;> first | rfl | (exfalso; omega))))))), fun c3 => (fun b2 => (by (congr 1; (unfold zcut; split <;> first | rfl | (exfalso; omega) | (split <;> first | rfl | (exfalso; omega) | (split <;> first | rfl | (exfalso; omega)))))))⟩⟩⟩⟩)) (fun _ _ _ _ z _ => Bool.noConfusion z) hc, trivial⟩
theorem v_fill3 {sl : Nat} {si : Nat → Int} {fm : ZV} {K : Nat → PH → ZL → List ZV → Prop} {Q : PH → List ZV → Prop} {h : PH} {x : Int} (H : K 6 h [(4, (0, 60)), (3, (0, 0)), (0, (2, 102)), (1, (1, x))] []) : vc (zz sl si fm) (fun p => Nat.beq p 6) K Q mJ7_fill_d0a16 7 0 mJ7_fill_d0a16.2.2.2.2.2.2 h [(0, (2, 102)), (1, (1, x))] [] := H
theorem v_fill3_l {sl : Nat} {si : Nat → Int} {fm : ZV} {K : Nat → PH → ZL → List ZV → Prop} {Q : PH → List ZV → Prop} {h : PH} {x k : Int} (H : (60 ≤ k → Q h []) ∧ (¬ (60 ≤ k) → 0 ≤ k ∧ k < (60 : Nat) → K 6 (uph h 102 k.toNat x) [(3, (0, w32 (k + 1))), (0, (2, 102)), (1, (1, x)), (4, (0, 60))] [])) : vc (zz sl si fm) (fun p => Nat.beq p 6) K Q mJ7_fill_d0a16 11 6 (ax_jmp mJ7_fill_d0a16.2.2.2.2.2.2 6) h [(0, (2, 102)), (1, (1, x)), (3, (0, k)), (4, (0, 60))] [] := H
theorem c_fill3 {sl : Nat} {si : Nat → Int} {fm : ZV} {h h' : PH} {x : Int} (hc : CP (zz sl si fm) mJ7_fill_d0a16 h [(2, 102), (1, x)] h' []) : h' = fih h 102 60 x ∧ True := by
  refine ⟨cp_loop (A := fun k : Nat => [(0, (2, 102)), (1, (1, x)), (3, (0, (k : Int))), (4, (0, 60))]) (J := fun k hx => k ≤ 60 ∧ hx = fih h 102 k x) (Q := fun xh r => xh = fih h 102 60 x) (v_fill3 ⟨rfl, 0, ⟨by omega, fih_0.symm⟩, rfl, rfl, rfl, rfl, trivial⟩) (fun k hx hJ => v_fill3_l ⟨fun c => ?_, fun c b => ⟨rfl, k + 1, ⟨by omega, ?_⟩, rfl, rfl, ?_, rfl, trivial⟩⟩) hc, trivial⟩
  · have e : k = 60 := by omega
    rw [hJ.2, e]
  · rw [hJ.2, Int.toNat_natCast, fih_s]
  · exact wv (by omega) (by omega) (by omega)
set_option maxRecDepth 10000 in
theorem v_lay3 {sl : Nat} {si : Nat → Int} {fm : ZV} {K : Nat → PH → ZL → List ZV → Prop} {Q : PH → List ZV → Prop} {h : PH} {a b : Int} (H : ∀ h1, CP (zz sl si fm) mJ7_fill_d0a16 (uph (uph (uph h 101 0 1) 101 1 a) 101 2 b) [(2, 102), (1, 0)] h1 [] → Q h1 []) : vc (zz sl si fm) (fun _ => false) K Q mX10_lay 16 0 mX10_lay.2.2.2.2.2.2 h [(0, (2, 101)), (1, (0, a)), (2, (0, b))] [] := H
theorem c_lay3 {sl : Nat} {si : Nat → Int} {fm : ZV} {h h' : PH} {a b : Int} (hc : CP (zz sl si fm) mX10_lay h [(2, 101), (0, a), (0, b)] h' []) : h' = fih (uph (uph (uph h 101 0 1) 101 1 a) 101 2 b) 102 60 0 ∧ True := by
  exact ⟨cp_vc (K := fun _ _ _ _ => True) (Q := fun xh r => xh = fih (uph (uph (uph h 101 0 1) 101 1 a) 101 2 b) 102 60 0) (v_lay3 (fun h1 p1 => by obtain ⟨t1, e1⟩ := c_fill3 p1; have t1 := t1.symm; subst t1; exact (by exact rfl))) (fun _ _ _ _ z _ => Bool.noConfusion z) hc, trivial⟩
set_option maxRecDepth 10000 in
theorem v_holds3 {sl : Nat} {si : Nat → Int} {fm : ZV} {K : Nat → PH → ZL → List ZV → Prop} {Q : PH → List ZV → Prop} {h : PH} {a b : Int} (H : (a < 0 → Q h [(0, 0)]) ∧ (¬ (a < 0) → R32 (h 101 2) → ((h 101 2) < b → Q h [(0, 0)]) ∧ (¬ ((h 101 2) < b) → R32 (h 101 2) → ((w32 ((h 101 2) - b)) < a → Q h [(0, 0)]) ∧ (¬ ((w32 ((h 101 2) - b)) < a) → Q h [(0, 1)])))) : vc (zz sl si fm) (fun _ => false) K Q mX10_holds 17 0 mX10_holds.2.2.2.2.2.2 h [(0, (2, 101)), (1, (0, a)), (2, (0, b))] [] := H
theorem c_holds3 {sl : Nat} {si : Nat → Int} {fm : ZV} {h h' : PH} {a b : Int} {v : Int} (hc : CP (zz sl si fm) mX10_holds h [(2, 101), (0, a), (0, b)] h' [(0, v)]) : h' = h ∧ (v = 1 ↔ 0 ≤ a ∧ b ≤ h 101 2 ∧ a ≤ w32 (h 101 2 - b)) := by
  have q := cp_vc (K := fun _ _ _ _ => True) (Q := fun xh r => xh = h ∧ ∀ v, r = [(0, v)] → (v = 1 ↔ 0 ≤ a ∧ b ≤ h 101 2 ∧ a ≤ w32 (h 101 2 - b))) (v_holds3 ⟨fun c1 => (by exact ⟨rfl, fun v e => by cases e; omega⟩), fun c1 => (fun r2 => ⟨fun c3 => (by exact ⟨rfl, fun v e => by cases e; omega⟩), fun c3 => (fun r4 => ⟨fun c5 => (by exact ⟨rfl, fun v e => by cases e; omega⟩), fun c5 => (by exact ⟨rfl, fun v e => by cases e; omega⟩)⟩)⟩)⟩) (fun _ _ _ _ z _ => Bool.noConfusion z) hc
  exact ⟨q.1, q.2 v rfl⟩
set_option maxRecDepth 10000 in
theorem v_put3 {sl : Nat} {si : Nat → Int} {fm : ZV} {K : Nat → PH → ZL → List ZV → Prop} {Q : PH → List ZV → Prop} {h : PH} {a x : Int} (H : R32 (h 101 1) → ((h 101 1) < 0 ∨ 2 < (h 101 1) → 0 ≤ a ∧ a < (60 : Nat) → Q (uph h 102 a.toNat x) []) ∧ (¬ ((h 101 1) < 0 ∨ 2 < (h 101 1)) → ((h 101 1) = 0 → 0 ≤ a ∧ a < (60 : Nat) → Q (uph h 102 a.toNat (zi2b (zl2i x))) []) ∧ (¬ (h 101 1) = 0 → ((h 101 1) = 1 → 0 ≤ a ∧ a < (60 : Nat) → Q (uph h 102 a.toNat (zi2s (zl2i x))) []) ∧ (¬ (h 101 1) = 1 → ((h 101 1) = 2 → 0 ≤ a ∧ a < (60 : Nat) → Q (uph h 102 a.toNat (zl2i x)) []) ∧ (¬ (h 101 1) = 2 → 0 ≤ a ∧ a < (60 : Nat) → Q (uph h 102 a.toNat x) []))))) : vc (zz sl si fm) (fun _ => false) K Q mX10_put 15 0 mX10_put.2.2.2.2.2.2 h [(0, (2, 101)), (1, (0, a)), (2, (1, x))] [] := H
theorem c_put3 {sl : Nat} {si : Nat → Int} {fm : ZV} {h h' : PH} {a x : Int} (hc : CP (zz sl si fm) mX10_put h [(2, 101), (0, a), (1, x)] h' []) : h' = uph h 102 a.toNat (zcut (h 101 1) x) ∧ True := by
  exact ⟨cp_vc (K := fun _ _ _ _ => True) (Q := fun xh r => xh = uph h 102 a.toNat (zcut (h 101 1) x)) (v_put3 (fun r1 => ⟨fun c9 => (fun b10 => (by (congr 1; (unfold zcut; split <;> first | rfl | (exfalso; omega) | (split <;> first | rfl | (exfalso; omega) | (split <;> first | rfl | (exfalso; omega))))))), fun c9 => ⟨fun c7 => (fun b8 => (by (congr 1; (unfold zcut; split <;> first | rfl | (exfalso; omega) | (split <;> first | rfl | (exfalso; omega) | (split <;> first | rfl | (exfalso; omega))))))), fun c7 => ⟨fun c5 => (fun b6 => (by (congr 1; (unfold zcut; split <;> first | rfl | (exfalso; omega) | (split <;> first | rfl | (exfalso; omega) | (split <;> first | rfl | (exfalso; omega))))))), fun c5 => ⟨fun c3 => (fun b4 => (by (congr 1; (unfold zcut; split <;> first | rfl | (exfalso; omega) | (split <;> first | rfl | (exfalso; omega) | (split <;> first | rfl | (exfalso; omega))))))), fun c3 => (fun b2 => (by (congr 1; (unfold zcut; split <;> first | rfl | (exfalso; omega) | (split <;> first | rfl | (exfalso; omega) | (split <;> first | rfl | (exfalso; omega)))))))⟩⟩⟩⟩)) (fun _ _ _ _ z _ => Bool.noConfusion z) hc, trivial⟩
