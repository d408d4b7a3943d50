/-! tales() of the reference -/
/-- what tales() of the reference answers, and its FAULT -/
def TAM (h' : PH) (v : Int) (r : PR) : Prop := match r with
  | .inl q => v = -1 ∧ h' 169 16 = q.1 ∧ h' 169 17 = (q.2 : Int)
  | .inr q => v = q.2 43 1 ∧ h' 169 16 = 0 ∧ h' 169 17 = -1
def JS8 (T : TX) (L : PH) (b : Int) (h : PH) (R : PR) : Prop := (b = 1 ∧ ∃ m s Y, RN T h s ∧ RTt h L Y ∧ WT Y ∧ m ≤ s ∧ m ≤ 300 ∧ ptl T L (300 - m) s Y = R) ∨ (b = 0 ∧ ∃ q, R = .inl q ∧ RF h q.1 q.2)
def JS7 (T : TX) (L : PH) (h : PH) (R : PR) : Prop := (∃ s Y, RN T h s ∧ RTt h L Y ∧ WT Y ∧ tEnd T s Y = R) ∨ ∃ q, R = .inl q ∧ RF h q.1 q.2
def JS6 (h : PH) (R : PR) : Prop := (h 169 18 = 0 ∧ h 169 17 = -1 ∧ ∃ q, R = .inr q ∧ h 169 22 = q.2 43 1) ∨ ∃ q, R = .inl q ∧ RF h q.1 q.2
theorem JS8.st {T : TX} {L Y : PH} {m s : Nat} {v : Int} {h' : PH} {R : PR} (hs : s ≤ T.2) (h3 : T.2 ≤ 300) (us : m ≤ s) (hk : kd T s ≠ 0) (e : ptl T L (300 - m) s Y = R) (t : T5 T s L v h' (pTale T L s Y)) : JS8 T L v h' R := by
  have lt : s < T.2 := by
    have := (nx_b hs).2.2 hk
    have := (nx_b hs).2.1
    omega
  obtain ⟨k, hk2⟩ : ∃ k, 300 - m = k + 1 := ⟨300 - m - 1, by omega⟩
  rw [hk2] at e
  have e : (if kd T s = 0 then tEnd T s Y else sq (pTale T L s Y) (ptl T L k)) = R := e
  rw [if_neg hk] at e
  generalize pTale T L s Y = P at t e
  match P, t, e with
  | .inl q, t, e => exact Or.inr ⟨t.1, q, e.symm, t.2.1⟩
  | .inr q, t, e => exact Or.inl ⟨t.1, m + 1, q.1, q.2, t.2.1, t.2.2.1, t.2.2.2.1, by have := t.2.2.2.2; omega, by omega, by rw [show 300 - (m + 1) = k by omega]; exact e⟩
set_option maxRecDepth 10000 in
theorem v_X12_talesF {sl : Nat} {si : Nat → Int} {K : Nat → PH → ZL → List ZV → Prop} {Q : PH → List ZV → Prop} {h : PH} {a : Int} (H : ∀ h1 v1, CP (zz sl si (7, 0)) mX12_begins h [(2, 169), (0, a), (0, 300)] h1 [(0, v1)] → v1 = 0 ∨ v1 = 1 → (v1 ≠ 0 → 0 ≤ (2116 : Int) ∧ (2116 : Int) < (3696 : Nat) → K 38 (uph (uph (uph h1 170 2116 0) 169 21 0) 169 22 0) [(2, (0, 1)), (0, (2, 169)), (1, (0, a))] []) ∧ (¬ (v1 ≠ 0) → ∀ h2 v2, CP (zz sl si (7, 0)) mX12_refuse h1 [(2, 169), (0, 1)] h2 [(0, v2)] → R32 v2 → Q h2 [(0, v2)])) : vc (zz sl si (7, 0)) (fun p => Nat.beq p 38 || Nat.beq p 57 || Nat.beq p 77 || Nat.beq p 102) K Q mX12_tales 20 0 mX12_tales.2.2.2.2.2.2 h [(0, (2, 169)), (1, (0, a))] [] := H
set_option maxRecDepth 10000 in
theorem v_X12_talesF_38 {sl : Nat} {si : Nat → Int} {K : Nat → PH → ZL → List ZV → Prop} {Q : PH → List ZV → Prop} {h : PH} {a : Int} {g : Int} (H : (g = 0 → K 57 h [(0, (2, 169)), (1, (0, a)), (2, (0, g))] []) ∧ (¬ (g = 0) → R32 (h 169 12) → ((h 169 12) = 0 → K 57 h [(0, (2, 169)), (1, (0, a)), (2, (0, g))] []) ∧ (¬ ((h 169 12) = 0) → ∀ h1 v1, CP (zz sl si (7, 0)) mX12_taleStep h [(2, 169)] h1 [(0, v1)] → v1 = 0 ∨ v1 = 1 → K 38 h1 [(2, (0, v1)), (0, (2, 169)), (1, (0, a))] []))) : vc (zz sl si (7, 0)) (fun p => Nat.beq p 38 || Nat.beq p 57 || Nat.beq p 77 || Nat.beq p 102) K Q mX12_tales 11 38 (ax_jmp mX12_tales.2.2.2.2.2.2 38) h [(0, (2, 169)), (1, (0, a)), (2, (0, g))] [] := H
set_option maxRecDepth 10000 in
theorem v_X12_talesF_57 {sl : Nat} {si : Nat → Int} {K : Nat → PH → ZL → List ZV → Prop} {Q : PH → List ZV → Prop} {h : PH} {a : Int} (H : R32 (h 169 18) → ((h 169 18) ≠ 0 → K 77 h [(0, (2, 169)), (1, (0, a))] []) ∧ (¬ ((h 169 18) ≠ 0) → R32 (h 169 21) → ((h 169 21) ≤ 0 → K 77 h [(0, (2, 169)), (1, (0, a))] []) ∧ (¬ ((h 169 21) ≤ 0) → ∀ h1 v1, CP (zz sl si (7, 0)) mX12_fails h [(2, 169), (0, 2)] h1 [(0, v1)] → v1 = 0 ∨ v1 = 1 → K 77 h1 [(0, (2, 169)), (1, (0, a))] []))) : vc (zz sl si (7, 0)) (fun p => Nat.beq p 38 || Nat.beq p 57 || Nat.beq p 77 || Nat.beq p 102) K Q mX12_tales 12 57 (ax_jmp mX12_tales.2.2.2.2.2.2 57) h [(0, (2, 169)), (1, (0, a))] [] := H
set_option maxRecDepth 10000 in
theorem v_X12_talesF_77 {sl : Nat} {si : Nat → Int} {K : Nat → PH → ZL → List ZV → Prop} {Q : PH → List ZV → Prop} {h : PH} {a : Int} (H : R32 (h 169 18) → ((h 169 18) ≠ 0 → R32 (h 169 22) → ∀ h1 v1, CP (zz sl si (7, 0)) mX12_taken h [(2, 169), (0, (h 169 22))] h1 [(0, v1)] → R32 v1 → Q h1 [(0, v1)]) ∧ (¬ ((h 169 18) ≠ 0) → 0 ≤ (2116 : Int) ∧ (2116 : Int) < (3696 : Nat) → R32 (h 170 2116) → 0 ≤ (4 : Int) ∧ (4 : Int) < (3696 : Nat) → K 102 (uph h 170 4 (h 170 2116)) [(3, (0, 164)), (0, (2, 169)), (1, (0, a))] [])) : vc (zz sl si (7, 0)) (fun p => Nat.beq p 38 || Nat.beq p 57 || Nat.beq p 77 || Nat.beq p 102) K Q mX12_tales 15 77 (ax_jmp mX12_tales.2.2.2.2.2.2 77) h [(0, (2, 169)), (1, (0, a))] [] := H
set_option maxRecDepth 10000 in
theorem v_X12_talesF_102 {sl : Nat} {si : Nat → Int} {K : Nat → PH → ZL → List ZV → Prop} {Q : PH → List ZV → Prop} {h : PH} {a : Int} {i : Int} (H : ((524 : Int) ≤ i → R32 (h 169 22) → ∀ h1 v1, CP (zz sl si (7, 0)) mX12_taken h [(2, 169), (0, (h 169 22))] h1 [(0, v1)] → R32 v1 → Q h1 [(0, v1)]) ∧ (¬ ((524 : Int) ≤ i) → 0 ≤ w32 (2112 + i) ∧ w32 (2112 + i) < (3696 : Nat) → R32 (h 170 (w32 (2112 + i)).toNat) → 0 ≤ i ∧ i < (3696 : Nat) → K 102 (uph h 170 i.toNat (h 170 (w32 (2112 + i)).toNat)) [(3, (0, w32 (i + 1))), (0, (2, 169)), (1, (0, a))] [])) : vc (zz sl si (7, 0)) (fun p => Nat.beq p 38 || Nat.beq p 57 || Nat.beq p 77 || Nat.beq p 102) K Q mX12_tales 17 102 (ax_jmp mX12_tales.2.2.2.2.2.2 102) h [(0, (2, 169)), (1, (0, a)), (3, (0, i))] [] := H
set_option maxHeartbeats 600000 in
theorem c_X12_talesF {sl : Nat} {si : Nat → Int} {h h' : PH} {a : Int} {v : Int} {B : Nat → Int} {n : Int} {L Y : PH} (hB : ∀ k : Nat, k < 900 → zand (h 175 k) 255 = B k ∧ 0 ≤ B k ∧ B k ≤ 255) (hl : h 169 10 = n) (hn : 0 ≤ n ∧ n ≤ 900) (hM : NmL h L) (hW : WN L) (hY : Y 43 2 = 0 ∧ Y 43 1 = 0 ∧ Y 50 4 = 0) (hc : CP (zz sl si (7, 0)) mX12_tales h [(2, 169), (0, a)] h' [(0, v)]) : ((0 ≤ a ∧ a ≤ n ∧ a ≤ 300) → TAM h' v (ptl (Tx B a) L 300 (sk (Tx B a) 0) Y)) ∧ (¬ (0 ≤ a ∧ a ≤ n ∧ a ≤ 300) → v = -1 ∧ h' = uph h 169 2 1) := by
  have q : (fun (xh : PH) (r : List ZV) => ∀ v : Int, r = [(0, v)] → (((0 ≤ a ∧ a ≤ n ∧ a ≤ 300) → TAM xh v (ptl (Tx B a) L 300 (sk (Tx B a) 0) Y)) ∧ (¬ (0 ≤ a ∧ a ≤ n ∧ a ≤ 300) → v = -1 ∧ xh = uph h 169 2 1))) h' [(0, v)] := by
    refine cp_vc (cut := (fun p => Nat.beq p 38 || Nat.beq p 57 || Nat.beq p 77 || Nat.beq p 102)) (K := fun p hx lv st => (p = 38 ∧ lK (fun u : Int => [(0, (2, 169)), (1, (0, a)), (2, (0, u))]) (fun u hx => (0 ≤ a ∧ a ≤ n ∧ a ≤ 300) ∧ JS8 (Tx B a) L u hx (ptl (Tx B a) L 300 (sk (Tx B a) 0) Y)) p hx lv st) ∨ (p = 57 ∧ lK (fun u : Nat => [(0, (2, 169)), (1, (0, a))]) (fun u hx => (0 ≤ a ∧ a ≤ n ∧ a ≤ 300) ∧ JS7 (Tx B a) L hx (ptl (Tx B a) L 300 (sk (Tx B a) 0) Y)) p hx lv st) ∨ (p = 77 ∧ lK (fun u : Nat => [(0, (2, 169)), (1, (0, a))]) (fun u hx => (0 ≤ a ∧ a ≤ n ∧ a ≤ 300) ∧ JS6 hx (ptl (Tx B a) L 300 (sk (Tx B a) 0) Y)) p hx lv st) ∨ (p = 102 ∧ lK (fun u : Int => [(0, (2, 169)), (1, (0, a)), (3, (0, u))]) (fun u hx => (0 ≤ a ∧ a ≤ n ∧ a ≤ 300) ∧ (hx 169 18 = 0 ∧ hx 169 17 = -1 ∧ ∃ q, (ptl (Tx B a) L 300 (sk (Tx B a) 0) Y) = .inr q ∧ hx 169 22 = q.2 43 1)) p hx lv st)) (Q := fun (xh : PH) (r : List ZV) => ∀ v : Int, r = [(0, v)] → (((0 ≤ a ∧ a ≤ n ∧ a ≤ 300) → TAM xh v (ptl (Tx B a) L 300 (sk (Tx B a) 0) Y)) ∧ (¬ (0 ≤ a ∧ a ≤ n ∧ a ≤ 300) → v = -1 ∧ xh = uph h 169 2 1))) (v_X12_talesF ?_) (fun pc hx lv st hcut hK => ?_) hc
    · exact (fun h1 v1 p1 q1 => ⟨fun c1 => (fun b2 => (by obtain ⟨b1, b2⟩ := c_X12_begins hB hl hn p1; have ok : (0 ≤ a ∧ a ≤ n ∧ a ≤ 300) := Classical.byContradiction (fun z => by have := (b2 z).1; omega); obtain ⟨d1, d2, d3, d4⟩ := b1 ok; have X0 : RN (Tx B a) (uph (uph (uph h1 170 2116 0) 169 21 0) 169 22 0) (sk (Tx B a) 0) := d2.k2 (fun c k q => by rw [up_ne (by omega), up_ne (by omega), up_ne (by omega)]); have M1 : NmL (uph (uph (uph h1 170 2116 0) 169 21 0) 169 22 0) L := hM.fr (fun c k q => by rw [up_ne (by omega), up_ne (by omega), up_ne (by omega)]; exact d4 c k (by omega) (by omega)); have R0 : RTt (uph (uph (uph h1 170 2116 0) 169 21 0) 169 22 0) L Y := ⟨M1, by rw [up_ne (by omega), up_ne (by omega), up_sm]; exact hY.1.symm, by rw [up_sm]; exact hY.2.1.symm, by rw [up_ne (by omega), up_sm]; exact hY.2.2.symm, fun i hi => absurd hi (by have := hY.2.2; omega), fun k hk => absurd hk (by have := hY.1; omega), fun k hk => absurd hk (by have := hY.1; omega)⟩; have W0 : WT Y := (by obtain ⟨y1, y2, y3⟩ := hY; exact ⟨by omega, by omega, by omega, by omega, fun i hi => by omega⟩); exact Or.inl (⟨rfl, rfl, _, ⟨ok, Or.inl ⟨rfl, 0, _, Y, X0, R0, W0, by omega, by omega, rfl⟩⟩, rfl, rfl, rfl, trivial⟩))), fun c1 => (fun h2 v2 p2 q2 => by obtain ⟨t2, e2⟩ := c_X12_refuse p2; have t2 := t2.symm; subst t2; exact (by obtain ⟨b1, b2⟩ := c_X12_begins hB hl hn p1; have nk : ¬ (0 ≤ a ∧ a ≤ n ∧ a ≤ 300) := fun z => (by have := (b1 z).1; omega); obtain ⟨d1, d2⟩ := b2 nk; subst d2; intro v e; cases e; exact ⟨fun z => absurd z nk, fun _ => ⟨e2, rfl⟩⟩))⟩)
    · rcases hK with ⟨rfl, rfl, u, hJ, hs⟩ | ⟨rfl, rfl, u, hJ, hs⟩ | ⟨rfl, rfl, u, hJ, hs⟩ | ⟨rfl, rfl, u, hJ, hs⟩
      · obtain ⟨ok, j1⟩ := hJ
        have tk : (Tx B a).2 ≤ 300 := by show a.toNat ≤ 300; omega
        exact ⟨_, _, hs, v_X12_talesF_38 ⟨fun c1 => (by rcases j1 with ⟨b1, m, s, Z, z1, z2, z3, z4, z5, z6⟩ | ⟨b1, q, z1, z2⟩; (exact absurd b1 (by omega)); exact Or.inr (Or.inl (⟨rfl, rfl, 0, ⟨ok, Or.inr ⟨q, z1, z2⟩⟩, rfl, rfl, trivial⟩))), fun c1 => (fun r2 => ⟨fun c3 => (by rcases j1.symm with ⟨b1, q, z1, z2⟩ | ⟨b1, m, s, Z, z1, z2, z3, z4, z5, z6⟩; (exact absurd b1 c1); have k0 : kd (Tx B a) s = 0 := (by rw [← z1.1.2.2.2.2.1]; exact c3); exact Or.inr (Or.inl (⟨rfl, rfl, 0, ⟨ok, Or.inl ⟨s, Z, z1, z2, z3, tEnd_ok z6 (Or.inr k0)⟩⟩, rfl, rfl, trivial⟩))), fun c3 => (fun h1 v1 p1 q1 => (by rcases j1.symm with ⟨b1, q, z1, z2⟩ | ⟨b1, m, s, Z, z1, z2, z3, z4, z5, z6⟩; (exact absurd b1 c1); have k0 : kd (Tx B a) s ≠ 0 := (by rw [← z1.1.2.2.2.2.1]; exact c3); have t := c_X12_taleStep z1 z2 z3 hW p1; exact Or.inl (⟨rfl, rfl, _, ⟨ok, JS8.st z1.le tk z4 k0 z6 t⟩, rfl, rfl, rfl, trivial⟩)))⟩)⟩⟩
      · obtain ⟨ok, j1⟩ := hJ
        exact ⟨_, _, hs, v_X12_talesF_57 (fun r1 => ⟨fun c2 => (by rcases j1 with ⟨s, Z, z1, z2, z3, z4⟩ | ⟨q, z1, z2⟩; (exact absurd z1.2.1 c2); exact Or.inr (Or.inr (Or.inl (⟨rfl, rfl, 0, ⟨ok, Or.inr ⟨q, z1, z2⟩⟩, rfl, rfl, trivial⟩)))), fun c2 => (fun r3 => ⟨fun c4 => (by rcases j1.symm with ⟨q, z1, z2⟩ | ⟨s, Z, z1, z2, z3, z4⟩; (exact absurd z2.1 (by have := z2.2.2; omega)); have d := z2.2.2.2.1; unfold tEnd at z4; rw [if_neg (by omega)] at z4; exact Or.inr (Or.inr (Or.inl (⟨rfl, rfl, 0, ⟨ok, Or.inl ⟨z1.2.1, z1.2.2, (s, Z), z4.symm, z2.2.2.1⟩⟩, rfl, rfl, trivial⟩)))), fun c4 => (fun h1 v1 p1 q1 => (by rcases j1.symm with ⟨q, z1, z2⟩ | ⟨s, Z, z1, z2, z3, z4⟩; (exact absurd z2.1 (by have := z2.2.2; omega)); have d := z2.2.2.2.1; unfold tEnd at z4; rw [if_pos (by omega)] at z4; obtain ⟨a1, a2, a3⟩ := r_fl z1 (by omega) p1; exact Or.inr (Or.inr (Or.inl (⟨rfl, rfl, 0, ⟨ok, Or.inr ⟨(fltk (Tx B a) 2 s, s), z4.symm, a2⟩⟩, rfl, rfl, trivial⟩)))))⟩)⟩)⟩
      · obtain ⟨ok, j1⟩ := hJ
        exact ⟨_, _, hs, v_X12_talesF_77 (fun r1 => ⟨fun c2 => (fun r3 => (fun h1 v1 p1 q1 => (by rcases j1 with ⟨z1, z2⟩ | ⟨q, z1, z2⟩; (exact absurd z1 c2); intro v e; cases e; obtain ⟨⟨d1, d2⟩, d4, d3⟩ := c_X12_takenF p1; refine ⟨fun _ => ?_, fun z => absurd ok z⟩; rw [z1]; exact ⟨(d2 (by rw [z2.1]; exact z2.2.2)).1, by rw [d4]; exact z2.1, by rw [d3 169 17 (by omega)]; exact z2.2.1⟩))), fun c2 => (fun b4 r5 => (fun b6 => (by rcases j1.symm with ⟨q, z1, z2⟩ | ⟨z1, z2, z3⟩; (exact absurd z2.1 (by have := z2.2.2; omega)); exact Or.inr (Or.inr (Or.inr (⟨rfl, rfl, _, ⟨ok, by rw [up_ne (by omega)]; exact z1, by rw [up_ne (by omega)]; exact z2, by rw [up_ne (by omega)]; exact z3⟩, rfl, rfl, rfl, trivial⟩))))))⟩)⟩
      · obtain ⟨ok, z1, z2, z3⟩ := hJ
        exact ⟨_, _, hs, v_X12_talesF_102 ⟨fun c1 => (fun r2 => (fun h1 v1 p1 q1 => (by obtain ⟨q, z4, z5⟩ := z3; intro v e; cases e; obtain ⟨⟨d1, d2⟩, d4, d3⟩ := c_X12_takenF p1; refine ⟨fun _ => ?_, fun z => absurd ok z⟩; rw [z4]; exact ⟨(d1 (by omega)).1.trans z5, by rw [d4]; exact z1, by rw [d3 169 17 (by omega)]; exact z2⟩))), fun c1 => (fun b3 r4 => (fun b5 => (by exact Or.inr (Or.inr (Or.inr (⟨rfl, rfl, _, ⟨ok, by rw [up_ne (by omega)]; exact z1, by rw [up_ne (by omega)]; exact z2, by rw [up_ne (by omega)]; exact z3⟩, rfl, rfl, rfl, trivial⟩))))))⟩⟩
  exact q v rfl
set_option maxRecDepth 10000 in
theorem v_X11_fault {sl : Nat} {si : Nat → Int} {K : Nat → PH → ZL → List ZV → Prop} {Q : PH → List ZV → Prop} {h : PH} {a : Int} (H : (a = 0 → R32 (h 2 10) → Q h [(0, (h 2 10))]) ∧ (¬ a = 0 → (a = 1 → R32 (h 2 11) → Q h [(0, (h 2 11))]) ∧ (¬ a = 1 → Q h [(0, (-1))]))) : vc (zz sl si (7, 0)) (fun _ => false) K Q mX11_fault 8 0 mX11_fault.2.2.2.2.2.2 h [(0, (2, 0)), (1, (0, a))] [] := H
theorem c_X11_fault {sl : Nat} {si : Nat → Int} {h h' : PH} {a : Int} {v : Int} (hc : CP (zz sl si (7, 0)) mX11_fault h [(2, 0), (0, a)] h' [(0, v)]) : h' = h ∧ ((a = 0 → v = h 2 10) ∧ (a = 1 → v = h 2 11) ∧ (a ≠ 0 → a ≠ 1 → v = -1)) := by
  have q := cp_vc (K := fun _ _ _ _ => True) (Q := fun xh r => xh = h ∧ ∀ v, r = [(0, v)] → ((a = 0 → v = h 2 10) ∧ (a = 1 → v = h 2 11) ∧ (a ≠ 0 → a ≠ 1 → v = -1))) (v_X11_fault ⟨fun c3 => (fun r4 => (by exact ⟨rfl, fun v e => by cases e; omega⟩)), fun c3 => ⟨fun c1 => (fun r2 => (by exact ⟨rfl, fun v e => by cases e; omega⟩)), fun c1 => (by exact ⟨rfl, fun v e => by cases e; omega⟩)⟩⟩) (fun _ _ _ _ z _ => Bool.noConfusion z) hc
  exact ⟨q.1, q.2 v rfl⟩
set_option maxRecDepth 10000 in
theorem v_X12_fault {sl : Nat} {si : Nat → Int} {K : Nat → PH → ZL → List ZV → Prop} {Q : PH → List ZV → Prop} {h : PH} {a : Int} (H : (a ≠ 0 → (a ≠ 1 → Q h [(0, (-1))]) ∧ (¬ (a ≠ 1) → R32 (h 169 17) → Q h [(0, (h 169 17))])) ∧ (¬ (a ≠ 0) → R32 (h 169 16) → Q h [(0, (h 169 16))])) : vc (zz sl si (7, 0)) (fun _ => false) K Q mX12_fault 11 0 mX12_fault.2.2.2.2.2.2 h [(0, (2, 169)), (1, (0, a))] [] := H
theorem c_X12_fault {sl : Nat} {si : Nat → Int} {h h' : PH} {a : Int} {v : Int} (hc : CP (zz sl si (7, 0)) mX12_fault h [(2, 169), (0, a)] h' [(0, v)]) : h' = h ∧ ((a = 0 → v = h 169 16) ∧ (a = 1 → v = h 169 17) ∧ (a ≠ 0 → a ≠ 1 → v = -1)) := by
  have q := cp_vc (K := fun _ _ _ _ => True) (Q := fun xh r => xh = h ∧ ∀ v, r = [(0, v)] → ((a = 0 → v = h 169 16) ∧ (a = 1 → v = h 169 17) ∧ (a ≠ 0 → a ≠ 1 → v = -1))) (v_X12_fault ⟨fun c1 => ⟨fun c2 => (by exact ⟨rfl, fun v e => by cases e; omega⟩), fun c2 => (fun r3 => (by exact ⟨rfl, fun v e => by cases e; omega⟩))⟩, fun c1 => (fun r4 => (by exact ⟨rfl, fun v e => by cases e; omega⟩))⟩) (fun _ _ _ _ z _ => Bool.noConfusion z) hc
  exact ⟨q.1, q.2 v rfl⟩
def F12 : List (Nat × Int × Int) := [(2, 1, 1), (3, 0, 899), (4, 0, 23), (169, 10, 10), (175, 0, 899), (2, 10, 11), (169, 16, 17), (0, 17, 17), (5, 4, 4), (6, 0, 0), (14, 0, 6), (15, 0, 7), (103, 4, 4), (104, 0, 0), (112, 0, 6), (113, 0, 7), (125, 4, 4), (126, 0, 0), (134, 0, 6), (135, 0, 7), (147, 4, 4), (148, 0, 0), (156, 0, 6), (157, 0, 7), (169, 33, 33), (170, 528, 529), (170, 1056, 1057), (170, 1584, 1585), (171, 15, 59), (170, 0, 1), (171, 0, 14)]
def F12a : List (Nat × Int × Int) := [(2, 1, 1), (3, 0, 899), (4, 0, 23), (169, 10, 10), (175, 0, 899), (2, 10, 11), (169, 16, 17), (0, 17, 17), (5, 4, 4), (6, 0, 0), (14, 0, 6), (15, 0, 7), (103, 4, 4), (104, 0, 0), (112, 0, 6), (113, 0, 7), (125, 4, 4), (126, 0, 0), (134, 0, 6), (135, 0, 7), (147, 4, 4), (148, 0, 0), (156, 0, 6), (157, 0, 7), (169, 33, 33), (170, 528, 529), (170, 1056, 1057), (170, 1584, 1585), (171, 15, 59), (171, 0, 14)]
def FA12 : List (Nat × Int × Int) := [(3, 0, 899), (4, 0, 23), (169, 10, 10), (175, 0, 899), (0, 17, 17), (5, 4, 4), (6, 0, 0), (14, 0, 6), (15, 0, 7), (103, 4, 4), (104, 0, 0), (112, 0, 6), (113, 0, 7), (125, 4, 4), (126, 0, 0), (134, 0, 6), (135, 0, 7), (147, 4, 4), (148, 0, 0), (156, 0, 6), (157, 0, 7), (169, 33, 33), (170, 528, 529), (170, 1056, 1057), (170, 1584, 1585), (171, 15, 59), (170, 0, 1), (171, 0, 14), (169, 16, 17)]
def FB12 : List (Nat × Int × Int) := [(2, 1, 1), (3, 0, 899), (4, 0, 23), (175, 0, 899), (0, 17, 17), (5, 4, 4), (6, 0, 0), (14, 0, 6), (15, 0, 7), (103, 4, 4), (104, 0, 0), (112, 0, 6), (113, 0, 7), (125, 4, 4), (126, 0, 0), (134, 0, 6), (135, 0, 7), (147, 4, 4), (148, 0, 0), (156, 0, 6), (157, 0, 7), (169, 33, 33), (170, 528, 529), (170, 1056, 1057), (170, 1584, 1585), (171, 15, 59), (170, 0, 1), (171, 0, 14), (2, 10, 11)]
def FC12 : List (Nat × Int × Int) := [(4, 0, 23), (169, 10, 10), (175, 0, 899), (2, 10, 11), (169, 16, 17), (0, 17, 17), (5, 4, 4), (6, 0, 0), (14, 0, 6), (15, 0, 7), (103, 4, 4), (104, 0, 0), (112, 0, 6), (113, 0, 7), (125, 4, 4), (126, 0, 0), (134, 0, 6), (135, 0, 7), (147, 4, 4), (148, 0, 0), (156, 0, 6), (157, 0, 7), (169, 33, 33), (170, 528, 529), (170, 1056, 1057), (170, 1584, 1585), (171, 15, 59), (170, 0, 1), (171, 0, 14)]
def FD12 : List (Nat × Int × Int) := [(2, 1, 1), (3, 0, 899), (4, 0, 23), (2, 10, 11), (169, 16, 17), (0, 17, 17), (5, 4, 4), (6, 0, 0), (14, 0, 6), (15, 0, 7), (103, 4, 4), (104, 0, 0), (112, 0, 6), (113, 0, 7), (125, 4, 4), (126, 0, 0), (134, 0, 6), (135, 0, 7), (147, 4, 4), (148, 0, 0), (156, 0, 6), (157, 0, 7), (169, 33, 33), (170, 528, 529), (170, 1056, 1057), (170, 1584, 1585), (171, 15, 59), (170, 0, 1), (171, 0, 14)]
def G12 : List (Nat × Int × Int) := [(0, 17, 17), (5, 4, 4), (6, 0, 0), (14, 0, 6), (15, 0, 7), (103, 4, 4), (104, 0, 0), (112, 0, 6), (113, 0, 7), (125, 4, 4), (126, 0, 0), (134, 0, 6), (135, 0, 7), (147, 4, 4), (148, 0, 0), (156, 0, 6), (157, 0, 7), (169, 33, 33), (170, 528, 529), (170, 1056, 1057), (170, 1584, 1585), (171, 15, 59), (170, 0, 1), (171, 0, 14)]
def Gx12 : List (Nat × Int × Int) := [(0, 17, 17), (5, 4, 4), (6, 0, 0), (14, 0, 6), (15, 0, 7), (103, 4, 4), (104, 0, 0), (112, 0, 6), (113, 0, 7), (125, 4, 4), (126, 0, 0), (134, 0, 6), (135, 0, 7), (147, 4, 4), (148, 0, 0), (156, 0, 6), (157, 0, 7), (169, 33, 33), (170, 528, 529), (170, 1056, 1057), (170, 1584, 1585), (171, 15, 59), (171, 0, 14)]
/-- the class's LAND, and the reference's cells as they were -/
def L99 (h : PH) : PH := fun j k => if j = 99 then h 170 k else h (5 + j) k
theorem L99_o {h : PH} {j k : Nat} (e : j ≠ 99) : L99 h j k = h (5 + j) k := if_neg e
/-- persons, houses and names are the same -/
def CO12 (b s : Nat) (h : PH) : Prop := (h (b + 1) 0 = h 170 (528 * s) ∧ h b 4 = h 170 (528 * s + 1)) ∧ ((0 ≤ h (b + 1) 0 ∧ h (b + 1) 0 ≤ 7) ∧ (0 ≤ h b 4 ∧ h b 4 ≤ 8)) ∧ (∀ i : Nat, (i : Int) < h (b + 1) 0 → Nm (h (b + 9) i) (h 171 (15 * s + i))) ∧ ∀ p : Nat, (p : Int) < h b 4 → Nm (h (b + 10) p) (h 171 (15 * s + 7 + p))
def J12 (h : PH) : Prop := J10 h ∧ (h 0 17 = h 169 33 ∧ 0 ≤ h 0 17 ∧ h 0 17 ≤ 3) ∧ (h 2 10 = h 169 16 ∧ h 2 11 = h 169 17) ∧ CO12 5 0 h ∧ ∀ m : Nat, (m : Int) < h 0 17 → CO12 (103 + 22 * m) (m + 1) h
theorem CO12.cp {b s b' s' : Nat} {h h' : PH} (hc : CO12 b s h) (e1 : h' b' 4 = h b 4) (e0 : h' (b' + 1) 0 = h (b + 1) 0) (e2 : ∀ k : Nat, k < 7 → h' (b' + 9) k = h (b + 9) k) (e3 : ∀ k : Nat, k < 8 → h' (b' + 10) k = h (b + 10) k) (e4 : ∀ k : Nat, k < 2 → h' 170 (528 * s' + k) = h 170 (528 * s + k)) (e5 : ∀ k : Nat, k < 15 → h' 171 (15 * s' + k) = h 171 (15 * s + k)) : CO12 b' s' h' := by
  obtain ⟨⟨a1, a2⟩, ⟨a3, a4⟩, a5, a6⟩ := hc
  have x0 : h' 170 (528 * s') = h 170 (528 * s) := e4 0 (by omega)
  refine ⟨⟨by rw [e0, x0]; exact a1, by rw [e1, e4 1 (by omega)]; exact a2⟩, ⟨by rw [e0]; exact a3, by rw [e1]; exact a4⟩, fun i hi => ?_, fun p hp => ?_⟩
  · rw [e0] at hi
    rw [e2 i (by omega), e5 i (by omega)]
    exact a5 i hi
  · rw [e1] at hp
    rw [e3 p (by omega), show 15 * s' + 7 + p = 15 * s' + (7 + p) by omega, e5 _ (by omega), show 15 * s + (7 + p) = 15 * s + 7 + p by omega]
    exact a6 p hp
theorem CO12.of {b s : Nat} {h L : PH} (x : CLx b h L) (r : RLd (528 * s) (15 * s) h L) (w : WL L) : CO12 b s h := by
  have e1 : h b 4 = L 0 4 := x 0 4 (by unfold inL; omega) (by omega) (by omega)
  have e0 : h (b + 1) 0 = L 1 0 := x 1 0 (by unfold inL; omega) (by omega) (by omega)
  have w0 := w.1
  have w1 := w.2.1
  refine ⟨⟨by rw [e0, r.1.1], by rw [e1, r.1.2.1]⟩, ⟨by rw [e0]; exact w0, by rw [e1]; exact w1⟩, fun i hi => ?_, fun p hp => ?_⟩
  · rw [e0] at hi
    rw [x 9 i (il9 (by omega)) (by omega) (by omega)]
    exact r.2.2.2.2.2.1 i hi
  · rw [e1] at hp
    rw [x 10 p (by unfold inL; omega) (by omega) (by omega)]
    exact r.2.2.2.2.2.2 p hp
theorem Frm.c2 {F : List (Nat × Int × Int)} {h h' : PH} (hF : Frm F h h') {b s : Nat} (hc : CO12 b s h) (e1 : (b, 4, 4) ∈ F) (e0 : (b + 1, 0, 0) ∈ F) (e2 : (b + 9, 0, 6) ∈ F) (e3 : (b + 10, 0, 7) ∈ F) (e4 : ∀ k : Nat, k < 2 → h' 170 (528 * s + k) = h 170 (528 * s + k)) (e5 : ∀ k : Nat, k < 15 → h' 171 (15 * s + k) = h 171 (15 * s + k)) : CO12 b s h' :=
  hc.cp (fmat hF e1 4 (by omega) (by omega)) (fmat hF e0 0 (by omega) (by omega)) (fun k hk => fmat hF e2 k (by omega) (by omega)) (fun k hk => fmat hF e3 k (by omega) (by omega)) e4 e5
theorem J12_of {h h' : PH} (hJ : J12 h) (j : J10 h') (hF : Frm Gx12 h h') (f : h' 2 10 = h' 169 16 ∧ h' 2 11 = h' 169 17) (s1 : ∀ k : Nat, k < 2 → h' 170 k = h 170 k) : J12 h' := by
  obtain ⟨-, ⟨b1, b2, b3⟩, -, c, d⟩ := hJ
  have e0 : h' 0 17 = h 0 17 := fmat hF (c := 0) (x := 17) (y := 17) (by decide) 17 (by omega) (by omega)
  have e1 : h' 169 33 = h 169 33 := fmat hF (c := 169) (x := 33) (y := 33) (by decide) 33 (by omega) (by omega)
  refine ⟨j, ⟨by rw [e0, e1]; exact b1, by rw [e0]; exact b2, by rw [e0]; exact b3⟩, f, hF.c2 c (by decide) (by decide) (by decide) (by decide) (fun k hk => by rw [show 528 * 0 + k = k by omega]; exact s1 k hk) (fun k hk => fmat hF (c := 171) (x := 0) (y := 14) (by decide) (15 * 0 + k) (by omega) (by omega)), fun m hm => ?_⟩
  rw [e0] at hm
  have cm := d m hm
  rcases (show m = 0 ∨ m = 1 ∨ m = 2 by omega) with e | e | e <;> subst e
  · exact hF.c2 cm (by decide) (by decide) (by decide) (by decide) (fun k hk => fmat hF (c := 170) (x := 528) (y := 529) (by decide) (528 * (0 + 1) + k) (by omega) (by omega)) (fun k hk => fmat hF (c := 171) (x := 15) (y := 59) (by decide) (15 * (0 + 1) + k) (by omega) (by omega))
  · exact hF.c2 cm (by decide) (by decide) (by decide) (by decide) (fun k hk => fmat hF (c := 170) (x := 1056) (y := 1057) (by decide) (528 * (1 + 1) + k) (by omega) (by omega)) (fun k hk => fmat hF (c := 171) (x := 15) (y := 59) (by decide) (15 * (1 + 1) + k) (by omega) (by omega))
  · exact hF.c2 cm (by decide) (by decide) (by decide) (by decide) (fun k hk => fmat hF (c := 170) (x := 1584) (y := 1585) (by decide) (528 * (2 + 1) + k) (by omega) (by omega)) (fun k hk => fmat hF (c := 171) (x := 15) (y := 59) (by decide) (15 * (2 + 1) + k) (by omega) (by omega))
theorem ff12 {F : List (Nat × Int × Int)} {h h' : PH} (hF : Frm F h h') (e : h 2 10 = h 169 16 ∧ h 2 11 = h 169 17) (m1 : (2, 10, 11) ∈ F) (m2 : (169, 16, 17) ∈ F) : h' 2 10 = h' 169 16 ∧ h' 2 11 = h' 169 17 := ⟨by rw [fmat hF m1 10 (by omega) (by omega), fmat hF m2 16 (by omega) (by omega)]; exact e.1, by rw [fmat hF m1 11 (by omega) (by omega), fmat hF m2 17 (by omega) (by omega)]; exact e.2⟩
theorem J12_frm {h h' : PH} (hJ : J12 h) (hF : Frm F12 h h') : J12 h' := J12_of hJ (J10_frm hJ.1 (hF.s (by decide))) (hF.s (by decide)) (ff12 hF hJ.2.2.1 (by decide) (by decide)) (fun k hk => fmat hF (c := 170) (x := 0) (y := 1) (by decide) k (by omega) (by omega))
theorem tr12 {h h1 h2 : PH} (hJ : J12 h) (fa : Frm F12 h h1) (fb : Frm F12a h1 h2) (s : SA h1 h2) : J12 h2 := by
  have j := J12_frm hJ fa
  exact J12_of j (J10_frm j.1 (fb.s (by decide))) (fb.s (by decide)) (ff12 fb j.2.2.1 (by decide) (by decide)) (fun k hk => s k (by omega))
section PR
variable {sl : Nat} {si : Nat → Int} {h h1 h2 : PH} {a b c d e v w : Int}
theorem pr_fault12 (hJ : J12 h) (fa : Frm F12 h h1) (fb : Frm F12 h1 h2) (p1 : CP (zz sl si (7, 0)) mX11_fault h [(2, 0), (0, a)] h1 [(0, v)]) (p2 : CP (zz sl si (7, 0)) mX12_fault h1 [(2, 169), (0, a)] h2 [(0, w)]) : J12 h2 ∧ v = w := by
  refine ⟨J12_frm (J12_frm hJ fa) fb, ?_⟩
  obtain ⟨t1, x1, x2, x3⟩ := c_X11_fault p1
  subst t1
  obtain ⟨t2, y1, y2, y3⟩ := c_X12_fault p2
  obtain ⟨f1, f2⟩ := hJ.2.2.1
  by_cases z : a = 0
  · rw [x1 z, y1 z]; exact f1
  · by_cases z2 : a = 1
    · rw [x2 z2, y2 z2]; exact f2
    · rw [x3 z z2, y3 z z2]
theorem pr_feed12 (hJ : J12 h) (fa : Frm FC12 h h1) (fb : Frm FD12 h1 h2) (p1 : CP (zz sl si (7, 0)) mX11_feed h [(2, 0), (0, a), (0, b), (0, c), (0, d), (0, e)] h1 [(0, v)]) (p2 : CP (zz sl si (7, 0)) mX12_feed h1 [(2, 169), (0, a), (0, b), (0, c), (0, d), (0, e)] h2 [(0, w)]) : J12 h2 := by
  have j := (pr_feed hJ.1 p1 p2).1
  have f : Frm ([(4, 0, 23), (2, 10, 11), (169, 16, 17), (0, 17, 17), (5, 4, 4), (6, 0, 0), (14, 0, 6), (15, 0, 7), (103, 4, 4), (104, 0, 0), (112, 0, 6), (113, 0, 7), (125, 4, 4), (126, 0, 0), (134, 0, 6), (135, 0, 7), (147, 4, 4), (148, 0, 0), (156, 0, 6), (157, 0, 7), (169, 33, 33), (170, 528, 529), (170, 1056, 1057), (170, 1584, 1585), (171, 15, 59), (170, 0, 1), (171, 0, 14)]) h h2 := fun g hg k q1 q2 => ((fb.s (G := [(4, 0, 23), (2, 10, 11), (169, 16, 17), (0, 17, 17), (5, 4, 4), (6, 0, 0), (14, 0, 6), (15, 0, 7), (103, 4, 4), (104, 0, 0), (112, 0, 6), (113, 0, 7), (125, 4, 4), (126, 0, 0), (134, 0, 6), (135, 0, 7), (147, 4, 4), (148, 0, 0), (156, 0, 6), (157, 0, 7), (169, 33, 33), (170, 528, 529), (170, 1056, 1057), (170, 1584, 1585), (171, 15, 59), (170, 0, 1), (171, 0, 14)]) (by decide)) g hg k q1 q2).trans ((fa.s (G := [(4, 0, 23), (2, 10, 11), (169, 16, 17), (0, 17, 17), (5, 4, 4), (6, 0, 0), (14, 0, 6), (15, 0, 7), (103, 4, 4), (104, 0, 0), (112, 0, 6), (113, 0, 7), (125, 4, 4), (126, 0, 0), (134, 0, 6), (135, 0, 7), (147, 4, 4), (148, 0, 0), (156, 0, 6), (157, 0, 7), (169, 33, 33), (170, 528, 529), (170, 1056, 1057), (170, 1584, 1585), (171, 15, 59), (170, 0, 1), (171, 0, 14)]) (by decide)) g hg k q1 q2)
  exact J12_of hJ j (f.s (by decide)) (ff12 f hJ.2.2.1 (by decide) (by decide)) (fun k hk => fmat f (c := 170) (x := 0) (y := 1) (by decide) k (by omega) (by omega))
theorem pr_tales12 (hJ : J12 h) (fa : Frm FA12 h h1) (fb : Frm FB12 h1 h2) (p1 : CP (zz sl si (7, 0)) mX11_tales h [(2, 0), (0, a)] h1 [(0, v)]) (p2 : CP (zz sl si (7, 0)) mX12_tales h1 [(2, 169), (0, a)] h2 [(0, w)]) : J12 h2 ∧ v = w := by
  have j := pr_tales hJ.1 (fa.s (by decide)) (fb.s (by decide)) p1 p2
  have f : Frm ([(0, 17, 17), (5, 4, 4), (6, 0, 0), (14, 0, 6), (15, 0, 7), (103, 4, 4), (104, 0, 0), (112, 0, 6), (113, 0, 7), (125, 4, 4), (126, 0, 0), (134, 0, 6), (135, 0, 7), (147, 4, 4), (148, 0, 0), (156, 0, 6), (157, 0, 7), (169, 33, 33), (170, 528, 529), (170, 1056, 1057), (170, 1584, 1585), (171, 15, 59), (170, 0, 1), (171, 0, 14)]) h h2 := fun g hg k q1 q2 => ((fb.s (G := [(0, 17, 17), (5, 4, 4), (6, 0, 0), (14, 0, 6), (15, 0, 7), (103, 4, 4), (104, 0, 0), (112, 0, 6), (113, 0, 7), (125, 4, 4), (126, 0, 0), (134, 0, 6), (135, 0, 7), (147, 4, 4), (148, 0, 0), (156, 0, 6), (157, 0, 7), (169, 33, 33), (170, 528, 529), (170, 1056, 1057), (170, 1584, 1585), (171, 15, 59), (170, 0, 1), (171, 0, 14)]) (by decide)) g hg k q1 q2).trans ((fa.s (G := [(0, 17, 17), (5, 4, 4), (6, 0, 0), (14, 0, 6), (15, 0, 7), (103, 4, 4), (104, 0, 0), (112, 0, 6), (113, 0, 7), (125, 4, 4), (126, 0, 0), (134, 0, 6), (135, 0, 7), (147, 4, 4), (148, 0, 0), (156, 0, 6), (157, 0, 7), (169, 33, 33), (170, 528, 529), (170, 1056, 1057), (170, 1584, 1585), (171, 15, 59), (170, 0, 1), (171, 0, 14)]) (by decide)) g hg k q1 q2)
  have hJ0 := hJ
  obtain ⟨⟨ja, jb, jc, jd⟩, -, ⟨g1, g2⟩, ⟨⟨o1, o2⟩, ⟨o3, o4⟩, o5, o6⟩, -⟩ := hJ
  have hL : CL 5 h (L99 h) := fun j k q => by have := inL_b q; rw [L99_o (by omega)]
  have hW : WN (L99 h) := ⟨o3, o4⟩
  obtain ⟨y1, n1, f1⟩ := c_X11_talesF hJ0.1 hL hW p1
  have F1 : ∀ c k : Nat, c = 170 ∨ c = 171 ∨ c = 175 ∨ (c = 169 ∧ k = 10) → h1 c k = h c k := fun c k q => f1 c k (by omega) (by omega) (by omega) (by omega) (by omega) (by omega) (by omega)
  have hM : NmL h1 (L99 h) := ⟨⟨by rw [F1 170 0 (by omega)]; exact o1.symm, by rw [F1 170 1 (by omega)]; exact o2.symm⟩, fun i hi => by rw [F1 171 i (by omega)]; have z := o5 i hi; rw [show 15 * 0 + i = i by omega] at z; exact z, fun p hp => by rw [F1 171 _ (by omega)]; have z := o6 p hp; rw [show 15 * 0 + 7 + p = 7 + p by omega] at z; exact z, fun k _ => F1 170 k (by omega)⟩
  have hY : y0 h 43 2 = 0 ∧ y0 h 43 1 = 0 ∧ y0 h 50 4 = 0 := by
    unfold y0
    exact ⟨by rw [up_ne (by omega), up_sm], by rw [up_ne (by omega), up_ne (by omega), up_sm], up_sm⟩
  obtain ⟨y2, n2⟩ := c_X12_talesF (B := fun k => h 3 k) (n := h 2 1) (L := L99 h) (Y := y0 h) (fun k hk => by rw [F1 175 k (by omega)]; exact jc k hk) (by rw [F1 169 10 (by omega)]; exact ja.symm) jb hM hW hY p2
  have e10 : h2 2 10 = h1 2 10 := fmat fb (c := 2) (x := 10) (y := 11) (by decide) 10 (by omega) (by omega)
  have e11 : h2 2 11 = h1 2 11 := fmat fb (c := 2) (x := 10) (y := 11) (by decide) 11 (by omega) (by omega)
  have e16 : h1 169 16 = h 169 16 := fmat fa (c := 169) (x := 16) (y := 17) (by decide) 16 (by omega) (by omega)
  have e17 : h1 169 17 = h 169 17 := fmat fa (c := 169) (x := 16) (y := 17) (by decide) 17 (by omega) (by omega)
  have X : (h2 2 10 = h2 169 16 ∧ h2 2 11 = h2 169 17) ∧ v = w := by
    by_cases z : 0 ≤ a ∧ a ≤ h 2 1 ∧ a ≤ 300
    · have z1 := (y1 z).2
      have z2 := y2 z
      generalize ptl (Tx (fun k => h 3 k) a) (L99 h) 300 (sk (Tx (fun k => h 3 k) a) 0) (y0 h) = r at z1 z2
      rw [e10, e11]
      match r, z1, z2 with
      | .inl q, z1, z2 =>
        have z1 : v = -1 ∧ CF h1 q.1 q.2 ∧ h1 0 0 = 9 ∧ ∀ c k : Nat, 21 ≤ c → c ≤ 26 → h1 c k = h c k := z1
        have z2 : w = -1 ∧ h2 169 16 = q.1 ∧ h2 169 17 = (q.2 : Int) := z2
        exact ⟨⟨by rw [z1.2.1.1, z2.2.1], by rw [z1.2.1.2.1, z2.2.2]⟩, by rw [z1.1, z2.1]⟩
      | .inr q, z1, z2 =>
        have z1 : v = q.2 43 1 ∧ (h1 2 10 = 0 ∧ h1 2 11 = -1) ∧ CS 21 h1 q.2 ∧ WT q.2 ∧ q.2 50 4 = 0 ∧ h1 0 0 = 0 := z1
        have z2 : w = q.2 43 1 ∧ h2 169 16 = 0 ∧ h2 169 17 = -1 := z2
        exact ⟨⟨by rw [z1.2.1.1, z2.2.1], by rw [z1.2.1.2, z2.2.2]⟩, by rw [z1.1, z2.1]⟩
    · obtain ⟨z1, z2⟩ := n1 z
      obtain ⟨z3, z4⟩ := n2 z
      refine ⟨⟨?_, ?_⟩, by rw [z2, z3]⟩
      · rw [e10, z4, up_ne (by omega), e16, z1, up_ne (by omega)]; exact g1
      · rw [e11, z4, up_ne (by omega), e17, z1, up_ne (by omega)]; exact g2
  exact ⟨J12_of hJ0 j (f.s (by decide)) X.1 (fun k hk => fmat f (c := 170) (x := 0) (y := 1) (by decide) k (by omega) (by omega)), X.2⟩
theorem pr_tales12f (hJ : J12 h) (fa : Frm FA12 h h1) (fb : Frm FB12 h1 h2) (p1 : CP (zz sl si (7, 0)) mX11_tales h [(2, 0), (0, a)] h1 [(0, v)]) (p2 : CP (zz sl si (7, 0)) mX12_tales h1 [(2, 169), (0, a)] h2 [(0, w)]) : J12 h2 := (pr_tales12 hJ fa fb p1 p2).1
theorem pr_land12 (hJ : J12 h) (p1 : CP (zz sl si (7, 0)) mX11_land h [(2, 0), (0, a)] h1 [(0, v)]) (p2 : CP (zz sl si (7, 0)) mX12_land h1 [(2, 169), (0, a)] h2 [(0, w)]) : J12 h2 := by
  have j10 := (pr_land hJ.1 p1 p2).1
  obtain ⟨y1, n1, f1⟩ := c_X11_landF hJ.1 p1
  obtain ⟨⟨ja, jb, jc, jd⟩, ⟨b1, b2, b3⟩, ⟨g1, g2⟩, co, cm⟩ := hJ
  have F1 : ∀ c k : Nat, (c = 0 ∧ k = 17) ∨ 103 ≤ c → h1 c k = h c k := fun c k q => f1 c k (by omega) (by omega) (by omega) (by omega) (by omega) (by omega)
  obtain ⟨y2, n2, f2⟩ := c_X12_landF (B := fun k => h 3 k) (n := h 2 1) (L := fun j k => h (27 + j) k) (fun k hk => by rw [F1 175 k (by omega)]; exact jc k hk) (by rw [F1 169 10 (by omega)]; exact ja.symm) jb p2
  have F2 : ∀ c k : Nat, (c ≤ 168 ∨ (c = 169 ∧ k = 33) ∨ (c = 170 ∧ 528 ≤ k ∧ k < 2112) ∨ (c = 171 ∧ 15 ≤ k ∧ k < 60)) → h2 c k = h1 c k := fun c k q => f2 c k (by omega) (by omega) (by omega) (by omega) (by omega) (by omega)
  have e0 : h2 0 17 = h 0 17 := (F2 0 17 (by omega)).trans (F1 0 17 (by omega))
  have e1 : h2 169 33 = h 169 33 := (F2 169 33 (by omega)).trans (F1 169 33 (by omega))
  have M : ∀ m : Nat, (m : Int) < h2 0 17 → CO12 (103 + 22 * m) (m + 1) h2 := fun m hm => by
    rw [e0] at hm
    have m2 : m ≤ 2 := by omega
    exact (cm m hm).cp ((F2 _ _ (by omega)).trans (F1 _ _ (by omega))) ((F2 _ _ (by omega)).trans (F1 _ _ (by omega))) (fun k hk => (F2 _ _ (by omega)).trans (F1 _ _ (by omega))) (fun k hk => (F2 _ _ (by omega)).trans (F1 _ _ (by omega))) (fun k hk => (F2 170 _ (by omega)).trans (F1 170 _ (by omega))) (fun k hk => (F2 171 _ (by omega)).trans (F1 171 _ (by omega)))
  have C : (h2 2 10 = h2 169 16 ∧ h2 2 11 = h2 169 17) ∧ CO12 5 0 h2 := by
    rw [F2 2 10 (by omega), F2 2 11 (by omega)]
    by_cases z : 0 ≤ a ∧ a ≤ h 2 1
    · have z1 := (y1 z).2
      have z2 := (y2 z).2
      generalize pl (Tx (fun k => h 3 k) a) 900 (sk (Tx (fun k => h 3 k) a) 0) (clr (fun j k => h (27 + j) k)) = r at z1 z2
      match r, z1, z2 with
      | .inl q, z1, z2 =>
        have z1 : v = -1 ∧ CF h1 q.1 q.2 ∧ h1 0 0 = 9 ∧ ∀ c k : Nat, 5 ≤ c → c ≤ 26 → h1 c k = h c k := z1
        have z2 : w = -1 ∧ h2 169 16 = q.1 ∧ h2 169 17 = (q.2 : Int) ∧ 0 < q.1 ∧ KS h1 h2 := z2
        have s := z2.2.2.2.2
        have u := z1.2.2.2
        exact ⟨⟨by rw [z1.2.1.1, z2.2.1], by rw [z1.2.1.2.1, z2.2.2.1]⟩, co.cp ((F2 5 4 (by omega)).trans (u 5 4 (by omega) (by omega))) ((F2 6 0 (by omega)).trans (u 6 0 (by omega) (by omega))) (fun k hk => (F2 14 k (by omega)).trans (u 14 k (by omega) (by omega))) (fun k hk => (F2 15 k (by omega)).trans (u 15 k (by omega) (by omega))) (fun k hk => by rw [show 528 * 0 + k = k by omega]; exact (s.1 k (by omega)).trans (F1 170 k (by omega))) (fun k hk => by rw [show 15 * 0 + k = k by omega]; exact (s.2 k hk).trans (F1 171 k (by omega)))⟩
      | .inr q, z1, z2 =>
        have z1 : v = q.2 0 4 ∧ (h1 2 10 = 0 ∧ h1 2 11 = -1) ∧ CLx 5 h1 q.2 ∧ WL q.2 ∧ (h1 21 0 = 0 ∧ h1 21 1 = 0 ∧ h1 21 2 = 0) ∧ h1 0 0 = 0 ∧ ∀ j k : Nat, inL j k → h1 (5 + j) k = h1 (27 + j) k := z1
        have z2 : w = q.2 0 4 ∧ h2 169 16 = 0 ∧ h2 169 17 = -1 ∧ RLd 0 0 h2 q.2 ∧ WL q.2 ∧ h2 170 4 = -1 := z2
        have x : CLx 5 h2 q.2 := fun j k i n3 n4 => by rw [F2 (5 + j) k (by have := inL_b i; omega)]; exact z1.2.2.1 j k i n3 n4
        exact ⟨⟨by rw [z1.2.1.1, z2.2.1], by rw [z1.2.1.2, z2.2.2.1]⟩, CO12.of (s := 0) x z2.2.2.2.1 z2.2.2.2.2.1⟩
    · have z1 := (n1 z).1
      have z2 := (n2 z).1
      rw [z2, z1]
      refine ⟨⟨by rw [up_ne (by omega), up_ne (by omega), up_ne (by omega)]; exact g1, by rw [up_ne (by omega), up_ne (by omega), up_ne (by omega)]; exact g2⟩, co.cp (by rw [up_ne (by omega), up_ne (by omega)]) (by rw [up_ne (by omega), up_ne (by omega)]) (fun k hk => by rw [up_ne (by omega), up_ne (by omega)]) (fun k hk => by rw [up_ne (by omega), up_ne (by omega)]) (fun k hk => by rw [up_ne (by omega), up_ne (by omega)]) (fun k hk => by rw [up_ne (by omega), up_ne (by omega)])⟩
  exact ⟨j10, ⟨by rw [e0, e1]; exact b1, by rw [e0]; exact b2, by rw [e0]; exact b3⟩, C.1, C.2, M⟩
theorem pr_mark12 (hJ : J12 h) (p1 : CP (zz sl si (7, 0)) mX11_mark h [(2, 0)] h1 [(0, v)]) (p2 : CP (zz sl si (7, 0)) mX12_mark h1 [(2, 169)] h2 [(0, w)]) : J12 h2 := by
  obtain ⟨j, ⟨b1, b2, b3⟩, ⟨g1, g2⟩, co, cm⟩ := hJ
  obtain ⟨y1, n1, f1⟩ := c_X11_mark ⟨b2, b3⟩ p1
  have F1 : ∀ c k : Nat, (1 ≤ c ∧ c ≤ 102 + 22 * (h 0 17).toNat) ∨ 169 ≤ c → h1 c k = h c k := fun c k q => f1 c k (by omega) (by omega)
  have em : h1 169 33 = h 0 17 := by rw [F1 169 33 (by omega)]; exact b1.symm
  obtain ⟨y2, n2, f2⟩ := c_X12_mark (by rw [em]; exact ⟨b2, b3⟩) p2
  rw [em] at y2 n2 f2
  have F2 : ∀ c k : Nat, c ≤ 168 ∨ (c = 169 ∧ (k = 10 ∨ k = 16 ∨ k = 17)) ∨ (c = 170 ∧ k < 528 * ((h 0 17).toNat + 1)) ∨ (c = 171 ∧ k < 15 * ((h 0 17).toNat + 1)) ∨ c = 175 → h2 c k = h1 c k := fun c k q => f2 c k (by omega) (by omega)
  have j2 : J10 h2 := J10_eq j (fun c k q => (F2 c k (by omega)).trans (F1 c k (by omega)))
  have gg : h2 2 10 = h2 169 16 ∧ h2 2 11 = h2 169 17 := ⟨by rw [F2 2 10 (by omega), F1 2 10 (by omega), F2 169 16 (by omega), F1 169 16 (by omega)]; exact g1, by rw [F2 2 11 (by omega), F1 2 11 (by omega), F2 169 17 (by omega), F1 169 17 (by omega)]; exact g2⟩
  have E : ∀ c k : Nat, (1 ≤ c ∧ c ≤ 102 + 22 * (h 0 17).toNat) ∨ (c = 170 ∧ k < 528 * ((h 0 17).toNat + 1)) ∨ (c = 171 ∧ k < 15 * ((h 0 17).toNat + 1)) → h2 c k = h c k := fun c k q => (F2 c k (by omega)).trans (F1 c k (by omega))
  have c5 : CO12 5 0 h2 := co.cp (E _ _ (by omega)) (E _ _ (by omega)) (fun k hk => E _ _ (by omega)) (fun k hk => E _ _ (by omega)) (fun k hk => E _ _ (by omega)) (fun k hk => E _ _ (by omega))
  have old : ∀ m : Nat, (m : Int) < h 0 17 → CO12 (103 + 22 * m) (m + 1) h2 := fun m hm => (cm m hm).cp (E _ _ (by omega)) (E _ _ (by omega)) (fun k hk => E _ _ (by omega)) (fun k hk => E _ _ (by omega)) (fun k hk => E _ _ (by omega)) (fun k hk => E _ _ (by omega))
  by_cases z : h 0 17 < 3
  · obtain ⟨u1, u2, u3, u4⟩ := y1 z
    obtain ⟨t1, t2, t3, t4⟩ := y2 z
    have e0 : h2 0 17 = h 0 17 + 1 := (F2 0 17 (by omega)).trans u1
    refine ⟨j2, ⟨by rw [e0, t1], by rw [e0]; omega, by rw [e0]; omega⟩, gg, c5, fun m hm => ?_⟩
    rw [e0] at hm
    by_cases q : (m : Int) < h 0 17
    · exact old m q
    · have me : (h 0 17).toNat = m := by omega
      rw [me] at u3 t3 t4
      have C : ∀ j k : Nat, inL j k → h2 (103 + 22 * m + j) k = h (5 + j) k := fun j k i => (F2 _ _ (by have := inL_b i; omega)).trans (u3 j k i)
      have G0 : ∀ c k : Nat, c = 170 ∨ c = 171 → h1 c k = h c k := fun c k q => F1 c k (by omega)
      exact co.cp (C 0 4 (by unfold inL; omega)) (C 1 0 (by unfold inL; omega)) (fun k hk => C 9 k (by unfold inL; omega)) (fun k hk => C 10 k (by unfold inL; omega)) (fun k hk => by rw [show 528 * 0 + k = k by omega]; exact (t3 k (by omega)).trans (G0 170 k (by omega))) (fun k hk => by rw [show 15 * 0 + k = k by omega]; exact (t4 k hk).trans (G0 171 k (by omega)))
  · have u := (n1 z).2
    have t := (n2 z).2
    have e0 : h2 0 17 = h 0 17 := (F2 0 17 (by omega)).trans u
    exact ⟨j2, ⟨by rw [e0, t], by rw [e0]; exact b2, by rw [e0]; exact b3⟩, gg, c5, fun m hm => old m (by rw [e0] at hm; exact hm)⟩
theorem pr_undo12 (hJ : J12 h) (p1 : CP (zz sl si (7, 0)) mX11_undo h [(2, 0)] h1 [(0, v)]) (p2 : CP (zz sl si (7, 0)) mX12_undo h1 [(2, 169)] h2 [(0, w)]) : J12 h2 := by
  obtain ⟨j, ⟨b1, b2, b3⟩, ⟨g1, g2⟩, co, cm⟩ := hJ
  obtain ⟨y1, n1, f1⟩ := c_X11_undo ⟨b2, b3⟩ p1
  have F1 : ∀ c k : Nat, (1 ≤ c ∧ c ≤ 4) ∨ 27 ≤ c → h1 c k = h c k := fun c k q => f1 c k (by omega) (by omega)
  have em : h1 169 33 = h 0 17 := by rw [F1 169 33 (by omega)]; exact b1.symm
  obtain ⟨y2, n2, f2⟩ := c_X12_undo (by rw [em]; exact ⟨b2, b3⟩) p2
  rw [em] at y2 n2 f2
  have F2 : ∀ c k : Nat, c ≤ 168 ∨ (c = 169 ∧ (k = 10 ∨ k = 16 ∨ k = 17)) ∨ (c = 170 ∧ 528 ≤ k) ∨ (c = 171 ∧ 15 ≤ k) ∨ c = 175 → h2 c k = h1 c k := fun c k q => f2 c k (by omega) (by omega)
  have E : ∀ c k : Nat, (27 ≤ c ∧ c ≤ 168) ∨ (1 ≤ c ∧ c ≤ 4) ∨ (c = 169 ∧ (k = 10 ∨ k = 16 ∨ k = 17)) ∨ (c = 170 ∧ 528 ≤ k) ∨ (c = 171 ∧ 15 ≤ k) ∨ c = 175 → h2 c k = h c k := fun c k q => (F2 c k (by omega)).trans (F1 c k (by omega))
  have j2 : J10 h2 := J10_eq j (fun c k q => E c k (by omega))
  have gg : h2 2 10 = h2 169 16 ∧ h2 2 11 = h2 169 17 := ⟨by rw [E 2 10 (by omega), E 169 16 (by omega)]; exact g1, by rw [E 2 11 (by omega), E 169 17 (by omega)]; exact g2⟩
  have old : ∀ m : Nat, (m : Int) < h 0 17 → CO12 (103 + 22 * m) (m + 1) h2 := fun m hm => (cm m hm).cp (E _ _ (by omega)) (E _ _ (by omega)) (fun k hk => E _ _ (by omega)) (fun k hk => E _ _ (by omega)) (fun k hk => E _ _ (by omega)) (fun k hk => E _ _ (by omega))
  by_cases z : 1 ≤ h 0 17
  · obtain ⟨u1, u2, u3, u4⟩ := y1 z
    obtain ⟨t1, t2, t3, t4⟩ := y2 z
    have e0 : h2 0 17 = h 0 17 - 1 := (F2 0 17 (by omega)).trans u1
    obtain ⟨m, hm⟩ : ∃ m : Nat, h 0 17 = (m : Int) + 1 := ⟨(h 0 17 - 1).toNat, by omega⟩
    have cl := cm m (by omega)
    have mt : (h 0 17).toNat = m + 1 := by omega
    rw [mt] at u3 t3 t4
    have C : ∀ j k : Nat, inL j k → h2 (5 + j) k = h (103 + 22 * m + j) k := fun j k i => by
      have x := u3 j k i
      rw [show 81 + 22 * (m + 1) + j = 103 + 22 * m + j by omega] at x
      exact (F2 _ _ (by have := inL_b i; omega)).trans x
    refine ⟨j2, ⟨by rw [e0, t1], by rw [e0]; omega, by rw [e0]; omega⟩, gg, ?_, fun q hq => old q (by rw [e0] at hq; omega)⟩
    exact cl.cp (C 0 4 (by unfold inL; omega)) (C 1 0 (by unfold inL; omega)) (fun k hk => C 9 k (by unfold inL; omega)) (fun k hk => C 10 k (by unfold inL; omega)) (fun k hk => by rw [show 528 * 0 + k = k by omega]; exact (t3 k (by omega)).trans (F1 170 _ (by omega))) (fun k hk => by rw [show 15 * 0 + k = k by omega]; exact (t4 k hk).trans (F1 171 _ (by omega)))
  · have u := (n1 z).2
    have t := (n2 z).2
    have e0 : h2 0 17 = h 0 17 := (F2 0 17 (by omega)).trans u
    have G1 : ∀ c k : Nat, 1 ≤ c → h1 c k = h c k := fun c k q => f1 c k (by omega) (by omega)
    have G2 : ∀ c k : Nat, c ≤ 168 ∨ c = 170 ∨ c = 171 → h2 c k = h1 c k := fun c k q => f2 c k (by omega) (by omega)
    have G3 : ∀ c k : Nat, (1 ≤ c ∧ c ≤ 168) ∨ c = 170 ∨ c = 171 → h2 c k = h c k := fun c k q => (G2 c k (by omega)).trans (G1 c k (by omega))
    exact ⟨j2, ⟨by rw [e0, t], by rw [e0]; exact b2, by rw [e0]; exact b3⟩, gg, co.cp (G3 _ _ (by omega)) (G3 _ _ (by omega)) (fun k hk => G3 _ _ (by omega)) (fun k hk => G3 _ _ (by omega)) (fun k hk => G3 _ _ (by omega)) (fun k hk => G3 _ _ (by omega)), fun m hm => old m (by rw [e0] at hm; exact hm)⟩
end PR
