section
/-! 45z.8i.pubr2 -/
/-! what is done, of the reference, 2 -/
theorem tot_z {L : PH} (w : W10 L) {p : Nat} (h0 : L 0 4 ≤ (p : Int)) (hp : p < 8) : L 8 p = 0 := by
  rw [w.1.1.2.2.2.1 p hp]
  have z := rs_z (g := L 7) (i := 8 * p) (n := 0) (fun k _ h2 => w.2.2.2.2.2 p k hp h2 h0) 8 (by omega)
  rw [show 0 + 8 = 8 by omega] at z
  exact z
theorem sor_n {L : PH} (w : W10 L) : rs (L 8) 0 (L 0 4).toNat = rs (L 8) 0 8 := by
  have h8 := w.1.1.2.1
  have z := rs_z (g := L 8) (i := 0) (n := (L 0 4).toNat) (fun k h1 h2 => by rw [Nat.zero_add]; exact tot_z w (by omega) h2) (8 - (L 0 4).toNat) (by omega)
  rw [show (L 0 4).toNat + (8 - (L 0 4).toNat) = 8 by omega] at z
  exact z.symm
theorem diR_b {g : PH} {p : Nat} (hp : p < 8) (hn : g 170 1 ≤ 8) (hB : BdR g) (hD : BdD g) (hH : BdH g) : BdR (diR g p) ∧ BdD (diR g p) ∧ BdH (diR g p) ∧ ∀ c i : Nat, ¬ (c = 170 ∧ (i = 29 + 5 * p ∨ (67 ≤ i ∧ i < 131))) → diR g p c i = g c i := by
  obtain ⟨a, b⟩ := diA_b hp hD hH (g 170 1).toNat (by omega)
  refine ⟨?_, a, hH.of (fun i h1 h2 => b 170 i (by omega)), b⟩
  have e : ∀ i, i ≠ 29 + 5 * p → i < 67 → diR g p 170 i = g 170 i := fun i h1 h2 => b 170 i (by omega)
  unfold BdR
  refine ⟨by rw [e 0 (by omega) (by omega)]; exact hB.1, by rw [e 1 (by omega) (by omega)]; exact hB.2.1, fun q hq => by rw [e (27 + 5 * q) (by omega) (by omega)]; exact hB.2.2 q hq⟩
set_option maxRecDepth 10000 in
theorem v_X12_areTwo {sl : Nat} {si : Nat → Int} {K : Nat → PH → ZL → List ZV → Prop} {Q : PH → List ZV → Prop} {h : PH} {a b : Int} (H : ∀ h1 v1, CP (zz sl si (7, 0)) mX12_isPerson h [(2, 169), (0, a)] h1 [(0, v1)] → v1 = 0 ∨ v1 = 1 → (v1 = 0 → Q h1 [(0, 0)]) ∧ (¬ (v1 = 0) → ∀ h2 v2, CP (zz sl si (7, 0)) mX12_isPerson h1 [(2, 169), (0, b)] h2 [(0, v2)] → v2 = 0 ∨ v2 = 1 → (v2 = 0 → Q h2 [(0, 0)]) ∧ (¬ (v2 = 0) → (a = b → Q h2 [(0, 0)]) ∧ (¬ (a = b) → Q h2 [(0, 1)])))) : vc (zz sl si (7, 0)) (fun _ => false) K Q mX12_areTwo 16 0 mX12_areTwo.2.2.2.2.2.2 h [(0, (2, 169)), (1, (0, a)), (2, (0, b))] [] := H
set_option maxHeartbeats 600000 in
theorem c_X12_areTwo {sl : Nat} {si : Nat → Int} {h h' : PH} {a b : Int} {v : Int} (hc : CP (zz sl si (7, 0)) mX12_areTwo h [(2, 169), (0, a), (0, b)] h' [(0, v)]) : h' = h ∧ (v = 1 ↔ (0 ≤ a ∧ a < h 170 1) ∧ (0 ≤ b ∧ b < h 170 1) ∧ a ≠ b) := by
  have q : (fun (xh : PH) (r : List ZV) => ∀ v : Int, r = [(0, v)] → (xh = h ∧ (v = 1 ↔ (0 ≤ a ∧ a < h 170 1) ∧ (0 ≤ b ∧ b < h 170 1) ∧ a ≠ b))) h' [(0, v)] := by
    refine cp_vc (cut := (fun _ => false)) (K := fun p hx lv st => False) (Q := fun (xh : PH) (r : List ZV) => ∀ v : Int, r = [(0, v)] → (xh = h ∧ (v = 1 ↔ (0 ≤ a ∧ a < h 170 1) ∧ (0 ≤ b ∧ b < h 170 1) ∧ a ≠ b))) (v_X12_areTwo ?_) (fun pc hx lv st hcut hK => ?_) hc
    · exact (fun h1 v1 p1 q1 => by obtain ⟨t1, e1⟩ := c_X12_isPerson p1; have t1 := t1.symm; subst t1; exact ⟨fun c1 => (by intro v e; cases e; exact ⟨rfl, by omega⟩), fun c1 => (fun h2 v2 p2 q2 => by obtain ⟨t2, e2⟩ := c_X12_isPerson p2; have t2 := t2.symm; subst t2; exact ⟨fun c2 => (by intro v e; cases e; exact ⟨rfl, by omega⟩), fun c2 => ⟨fun c3 => (by intro v e; cases e; exact ⟨rfl, by omega⟩), fun c3 => (by intro v e; cases e; exact ⟨rfl, by omega⟩)⟩⟩)⟩)
    · exact hK.elim
  exact q v rfl
set_option maxRecDepth 10000 in
theorem v_X12_sorrowL {sl : Nat} {si : Nat → Int} {K : Nat → PH → ZL → List ZV → Prop} {Q : PH → List ZV → Prop} {h : PH}  (H : K 4 h [(2, (0, 0)), (1, (0, 0)), (0, (2, 169))] []) : vc (zz sl si (7, 0)) (fun p => Nat.beq p 4) K Q mX12_sorrow 6 0 mX12_sorrow.2.2.2.2.2.2 h [(0, (2, 169))] [] := H
set_option maxRecDepth 10000 in
theorem v_X12_sorrowL_4 {sl : Nat} {si : Nat → Int} {K : Nat → PH → ZL → List ZV → Prop} {Q : PH → List ZV → Prop} {h : PH}  {s k : Int} (H : 0 ≤ (1 : Int) ∧ (1 : Int) < (3696 : Nat) → R32 (h 170 1) → ((h 170 1) ≤ k → Q h [(0, s)]) ∧ (¬ ((h 170 1) ≤ k) → ∀ h1 v1, CP (zz sl si (7, 0)) mX12_owesAll h [(2, 169), (0, k)] h1 [(0, v1)] → R32 v1 → K 4 h1 [(2, (0, w32 (k + 1))), (1, (0, w32 (s + v1))), (0, (2, 169))] [])) : vc (zz sl si (7, 0)) (fun p => Nat.beq p 4) K Q mX12_sorrow 16 4 (ax_jmp mX12_sorrow.2.2.2.2.2.2 4) h [(0, (2, 169)), (1, (0, s)), (2, (0, k))] [] := H
set_option maxHeartbeats 600000 in
theorem c_X12_sorrowL {sl : Nat} {si : Nat → Int} {h h' : PH} {L : PH} {v : Int} (r : RN9 h L) (hw : W10 L) (hD : BdD h) (hc : CP (zz sl si (7, 0)) mX12_sorrow h [(2, 169)] h' [(0, v)]) : h' = h ∧ v = rs (L 8) 0 8 := by
  have q : (fun (xh : PH) (r : List ZV) => ∀ v : Int, r = [(0, v)] → (xh = h ∧ v = rs (L 8) 0 8)) h' [(0, v)] := by
    refine cp_vc (cut := (fun p => Nat.beq p 4)) (K := fun p hx lv st => (p = 4 ∧ lK (fun u : Nat => [(0, (2, 169)), (1, (0, rs (L 8) 0 u)), (2, (0, (u : Int)))]) (fun u hx => (u : Int) ≤ L 0 4 ∧ hx = h) p hx lv st)) (Q := fun (xh : PH) (r : List ZV) => ∀ v : Int, r = [(0, v)] → (xh = h ∧ v = rs (L 8) 0 8)) (v_X12_sorrowL ?_) (fun pc hx lv st hcut hK => ?_) hc
    · exact (by have h8 := hw.1.1.2.1; exact ⟨rfl, rfl, 0, ⟨by omega, rfl⟩, rfl, rfl, rfl, trivial⟩)
    · rcases hK with ⟨rfl, rfl, u, hJ, hs⟩
      · obtain ⟨j1, j2⟩ := hJ
        subst j2
        have h8 := hw.1.1.2.1
        have n1 : hx 170 1 = L 0 4 := r.1.2.1
        exact ⟨_, _, hs, v_X12_sorrowL_4 (fun b1 r2 => ⟨fun c3 => (by intro v e; cases e; have eu : (L 0 4).toNat = u := (by omega); rw [← sor_n hw, eu]; exact ⟨rfl, rfl⟩), fun c3 => (fun h1 v1 p1 q1 => (by obtain ⟨t1, w1⟩ := c_X12_owesAll (by omega) hD (by omega) p1; have t1 := t1.symm; subst t1; rw [Int.toNat_natCast, tot_b r hw.1 (by omega)] at w1; subst w1; have t := hw.1.1.tot (p := u) (by omega); have rb := rs_b (g := L 8) (i := 0) (lo := 0) (hi := 792) u (fun k _ y => hw.1.1.tot (by omega)); exact ⟨rfl, rfl, u + 1, ⟨by omega, rfl⟩, rfl, (wv (by omega) (by omega) (by show _ = rs (L 8) 0 u + L 8 (0 + u); rw [Nat.zero_add])), wv (by omega) (by omega) (by omega), trivial⟩))⟩)⟩
  exact q v rfl
set_option maxRecDepth 10000 in
theorem v_X12_nightL {sl : Nat} {si : Nat → Int} {K : Nat → PH → ZL → List ZV → Prop} {Q : PH → List ZV → Prop} {h : PH}  {a : Int} (H : ∀ h1 v1, CP (zz sl si (7, 0)) mX12_isFrom h [(1, a), (1, 1), (1, 99)] h1 [(0, v1)] → v1 = 0 ∨ v1 = 1 → (v1 ≠ 0 → 0 ≤ (2 : Int) ∧ (2 : Int) < (3696 : Nat) → R32 (h1 170 2) → ((w32 ((h1 170 2) + a)) ≤ 9999 → K 40 h1 [(2, (0, 0)), (0, (2, 169)), (1, (0, a))] []) ∧ (¬ ((w32 ((h1 170 2) + a)) ≤ 9999) → ∀ h2 v2, CP (zz sl si (7, 0)) mX12_refuse h1 [(2, 169), (0, 4)] h2 [(0, v2)] → R32 v2 → Q h2 [(0, v2)])) ∧ (¬ (v1 ≠ 0) → ∀ h3 v3, CP (zz sl si (7, 0)) mX12_refuse h1 [(2, 169), (0, 1)] h3 [(0, v3)] → R32 v3 → Q h3 [(0, v3)])) : vc (zz sl si (7, 0)) (fun p => Nat.beq p 40) K Q mX12_night 20 0 mX12_night.2.2.2.2.2.2 h [(0, (2, 169)), (1, (0, a))] [] := H
set_option maxRecDepth 10000 in
theorem v_X12_nightL_40 {sl : Nat} {si : Nat → Int} {K : Nat → PH → ZL → List ZV → Prop} {Q : PH → List ZV → Prop} {h : PH}  {a : Int} {k : Int} (H : (a ≤ k → 0 ≤ (2 : Int) ∧ (2 : Int) < (3696 : Nat) → R32 (h 170 2) → ∀ h1 v1, CP (zz sl si (7, 0)) mX12_gives h [(2, 169), (0, (h 170 2))] h1 [(0, v1)] → R32 v1 → Q h1 [(0, v1)]) ∧ (¬ (a ≤ k) → ∀ h2, CP (zz sl si (7, 0)) mX12_night0 h [(2, 169)] h2 [] → K 40 h2 [(2, (0, w32 (k + 1))), (0, (2, 169)), (1, (0, a))] [])) : vc (zz sl si (7, 0)) (fun p => Nat.beq p 40) K Q mX12_night 12 40 (ax_jmp mX12_night.2.2.2.2.2.2 40) h [(0, (2, 169)), (1, (0, a)), (2, (0, k))] [] := H
set_option maxHeartbeats 600000 in
theorem c_X12_nightL {sl : Nat} {si : Nat → Int} {h h' : PH} {L : PH} {a : Int} {v : Int} (r : RN9 h L) (hw : W10 L) (hB : BdR h) (hD : BdD h) (hc : CP (zz sl si (7, 0)) mX12_night h [(2, 169), (0, a)] h' [(0, v)]) : (¬ (1 ≤ a ∧ a ≤ 99) → v = -1 ∧ RN9 h' L) ∧ ((1 ≤ a ∧ a ≤ 99) → ((9999 < w32 (L 0 12 + a)) → v = -1 ∧ RN9 h' L) ∧ (¬ (9999 < w32 (L 0 12 + a)) → v = nsL L a.toNat 0 12 ∧ RN9 h' (nsL L a.toNat))) ∧ GR h h' := by
  have q : (fun (xh : PH) (r : List ZV) => ∀ v : Int, r = [(0, v)] → ((¬ (1 ≤ a ∧ a ≤ 99) → v = -1 ∧ RN9 xh L) ∧ ((1 ≤ a ∧ a ≤ 99) → ((9999 < w32 (L 0 12 + a)) → v = -1 ∧ RN9 xh L) ∧ (¬ (9999 < w32 (L 0 12 + a)) → v = nsL L a.toNat 0 12 ∧ RN9 xh (nsL L a.toNat))) ∧ GR h xh)) h' [(0, v)] := by
    refine cp_vc (cut := (fun p => Nat.beq p 40)) (K := fun p hx lv st => (p = 40 ∧ lK (fun u : Nat => [(0, (2, 169)), (1, (0, a)), (2, (0, (u : Int)))]) (fun u hx => (u : Int) ≤ a ∧ (1 ≤ a ∧ a ≤ 99) ∧ ¬ (9999 < w32 (L 0 12 + a)) ∧ E78 (nsR h u) hx) p hx lv st)) (Q := fun (xh : PH) (r : List ZV) => ∀ v : Int, r = [(0, v)] → ((¬ (1 ≤ a ∧ a ≤ 99) → v = -1 ∧ RN9 xh L) ∧ ((1 ≤ a ∧ a ≤ 99) → ((9999 < w32 (L 0 12 + a)) → v = -1 ∧ RN9 xh L) ∧ (¬ (9999 < w32 (L 0 12 + a)) → v = nsL L a.toNat 0 12 ∧ RN9 xh (nsL L a.toNat))) ∧ GR h xh)) (v_X12_nightL ?_) (fun pc hx lv st hcut hK => ?_) hc
    · exact (fun h1 v1 p1 q1 => by obtain ⟨t1, e1⟩ := c_X12_isFrom p1; have t1 := t1.symm; subst t1; exact ⟨fun c1 => (fun b2 r3 => ⟨fun c4 => (by have h7 := hw.1.1.1; have h8 := hw.1.1.2.1; have n0 : h 170 0 = L 1 0 := r.1.1; have n1 : h 170 1 = L 0 4 := r.1.2.1; have n2 : h 170 2 = L 0 12 := r.1.2.2.1; rw [n2] at c4; exact ⟨rfl, rfl, 0, ⟨by omega, by omega, by omega, fun c k q => rfl⟩, rfl, rfl, rfl, trivial⟩), fun c4 => (fun h2 v2 p2 q2 => by obtain ⟨t2, e2⟩ := c_X12_refuse p2; have t2 := t2.symm; subst t2; exact (by have h7 := hw.1.1.1; have h8 := hw.1.1.2.1; have n0 : h 170 0 = L 1 0 := r.1.1; have n1 : h 170 1 = L 0 4 := r.1.2.1; have n2 : h 170 2 = L 0 12 := r.1.2.2.1; rw [n2] at c4; intro v e; cases e; exact ⟨fun q => absurd (by omega) q, fun _ => ⟨fun _ => ⟨e2, r.s0⟩, fun q => absurd (show 9999 < w32 (L 0 12 + a) by omega) q⟩, (GR.rf h).s0⟩))⟩), fun c1 => (fun h3 v3 p3 q3 => by obtain ⟨t3, e3⟩ := c_X12_refuse p3; have t3 := t3.symm; subst t3; exact (by intro v e; cases e; exact ⟨fun _ => ⟨e3, r.s0⟩, fun q => absurd q (by omega), (GR.rf h).s0⟩))⟩)
    · rcases hK with ⟨rfl, rfl, u, hJ, hs⟩
      · obtain ⟨j1, j2, j3, j4⟩ := hJ
        obtain ⟨x1, x2, x3⟩ := nsR_b hB hD u
        have rr := j4.r
        have hBx : BdR hx := by unfold BdR; rw [rr]; exact x1
        have hDx : BdD hx := by unfold BdD; rw [rr]; exact x2
        have rn := (ns_b9 r hw.1 u).e rr
        exact ⟨_, _, hs, v_X12_nightL_40 ⟨fun c1 => (fun b2 r3 => (fun h1 v1 p1 q1 => by obtain ⟨t1, e1⟩ := c_X12_gives p1; have t1 := t1.symm; subst t1; exact (by have eu : a.toNat = u := (by omega); rw [eu]; have n2 : hx 170 2 = nsL L u 0 12 := rn.1.2.2.1; rw [n2] at e1; intro v e; cases e; exact ⟨fun q => absurd j2 q, fun _ => ⟨fun q => absurd q j3, fun _ => ⟨e1, rn.s0⟩⟩, GR.s0 (fun c k y1 y2 y3 => (j4 c k y3).trans (x3 c k (by omega)))⟩))), fun c1 => (fun h2 p2 => (by have n0 := c_X12_night0 hBx hDx p2; rw [rr] at n0; exact ⟨rfl, rfl, u + 1, ⟨by omega, j2, j3, (show E78 (niR (nsR h u) (nsR h u 170 1).toNat) h2 from (niR_c j4 _).tr n0)⟩, rfl, rfl, wv (by omega) (by omega) (by omega), trivial⟩))⟩⟩
  exact q v rfl
set_option maxRecDepth 10000 in
theorem v_X12_sorrowH {sl : Nat} {si : Nat → Int} {K : Nat → PH → ZL → List ZV → Prop} {Q : PH → List ZV → Prop} {h : PH} (H : K 4 h [(2, (0, 0)), (1, (0, 0)), (0, (2, 169))] []) : vc (zz sl si (7, 0)) (fun p => Nat.beq p 4) K Q mX12_sorrow 6 0 mX12_sorrow.2.2.2.2.2.2 h [(0, (2, 169))] [] := H
set_option maxRecDepth 10000 in
theorem v_X12_sorrowH_4 {sl : Nat} {si : Nat → Int} {K : Nat → PH → ZL → List ZV → Prop} {Q : PH → List ZV → Prop} {h : PH} {s k : Int} (H : 0 ≤ (1 : Int) ∧ (1 : Int) < (3696 : Nat) → R32 (h 170 1) → ((h 170 1) ≤ k → Q h [(0, s)]) ∧ (¬ ((h 170 1) ≤ k) → ∀ h1 v1, CP (zz sl si (7, 0)) mX12_owesAll h [(2, 169), (0, k)] h1 [(0, v1)] → R32 v1 → K 4 h1 [(2, (0, w32 (k + 1))), (1, (0, w32 (s + v1))), (0, (2, 169))] [])) : vc (zz sl si (7, 0)) (fun p => Nat.beq p 4) K Q mX12_sorrow 16 4 (ax_jmp mX12_sorrow.2.2.2.2.2.2 4) h [(0, (2, 169)), (1, (0, s)), (2, (0, k))] [] := H
set_option maxHeartbeats 600000 in
theorem c_X12_sorrowH {sl : Nat} {si : Nat → Int} {h h' : PH} {v : Int} (hn : 0 ≤ h 170 1 ∧ h 170 1 ≤ 8) (hD : BdD h) (hc : CP (zz sl si (7, 0)) mX12_sorrow h [(2, 169)] h' [(0, v)]) : h' = h := by
  have q : (fun (xh : PH) (r : List ZV) => ∀ v : Int, r = [(0, v)] → (xh = h)) h' [(0, v)] := by
    refine cp_vc (cut := (fun p => Nat.beq p 4)) (K := fun p hx lv st => (p = 4 ∧ lK (fun p : Int × Int => [(0, (2, 169)), (1, (0, p.1)), (2, (0, p.2))]) (fun p hx => 0 ≤ p.2 ∧ hx = h) p hx lv st)) (Q := fun (xh : PH) (r : List ZV) => ∀ v : Int, r = [(0, v)] → (xh = h)) (v_X12_sorrowH ?_) (fun pc hx lv st hcut hK => ?_) hc
    · exact (by exact ⟨rfl, rfl, (0, 0), ⟨Int.le_refl 0, rfl⟩, rfl, rfl, rfl, trivial⟩)
    · rcases hK with ⟨rfl, rfl, p, hJ, hs⟩
      · obtain ⟨j1, j2⟩ := hJ
        subst j2
        exact ⟨_, _, hs, v_X12_sorrowH_4 (fun b1 r2 => ⟨fun c3 => (by intro v e; rfl), fun c3 => (fun h1 v1 p1 q1 => (by obtain ⟨t1, w1⟩ := c_X12_owesAll hn hD (by omega) p1; have t1 := t1.symm; subst t1; exact ⟨rfl, rfl, (w32 (p.1 + v1), p.2 + 1), ⟨by show 0 ≤ p.2 + 1; omega, rfl⟩, rfl, rfl, (wv (by omega) (by omega) rfl), trivial⟩))⟩)⟩
  exact q v rfl
set_option maxRecDepth 10000 in
theorem v_X12_dieL {sl : Nat} {si : Nat → Int} {K : Nat → PH → ZL → List ZV → Prop} {Q : PH → List ZV → Prop} {h : PH}  {a : Int} (H : ∀ h1 v1, CP (zz sl si (7, 0)) mX12_isPerson h [(2, 169), (0, a)] h1 [(0, v1)] → v1 = 0 ∨ v1 = 1 → (v1 ≠ 0 → ∀ h2 v2, CP (zz sl si (7, 0)) mX12_dies h1 [(2, 169), (0, a)] h2 [(0, v2)] → v2 = 0 ∨ v2 = 1 → (v2 = 0 → ∀ h3 v3, CP (zz sl si (7, 0)) mX12_refuse h2 [(2, 169), (0, 7)] h3 [(0, v3)] → R32 v3 → Q h3 [(0, v3)]) ∧ (¬ (v2 = 0) → ∀ h4 v4, CP (zz sl si (7, 0)) mX12_sorrow h2 [(2, 169)] h4 [(0, v4)] → R32 v4 → ∀ h5 v5, CP (zz sl si (7, 0)) mX12_gives h4 [(2, 169), (0, v4)] h5 [(0, v5)] → R32 v5 → Q h5 [(0, v5)])) ∧ (¬ (v1 ≠ 0) → ∀ h6 v6, CP (zz sl si (7, 0)) mX12_refuse h1 [(2, 169), (0, 1)] h6 [(0, v6)] → R32 v6 → Q h6 [(0, v6)])) : vc (zz sl si (7, 0)) (fun _ => false) K Q mX12_die 16 0 mX12_die.2.2.2.2.2.2 h [(0, (2, 169)), (1, (0, a))] [] := H
set_option maxHeartbeats 600000 in
theorem c_X12_dieL {sl : Nat} {si : Nat → Int} {h h' : PH} {L : PH} {a : Int} {v : Int} (r : RN9 h L) (hw : W10 L) (hB : BdR h) (hD : BdD h) (hH : BdH h) (hc : CP (zz sl si (7, 0)) mX12_die h [(2, 169), (0, a)] h' [(0, v)]) : (¬ (0 ≤ a ∧ a < L 0 4) → v = -1 ∧ RN9 h' L) ∧ ((0 ≤ a ∧ a < L 0 4) → ((bB (L 0 7) a.toNat = true) → v = -1 ∧ RN9 h' L) ∧ (¬ (bB (L 0 7) a.toNat = true) → ∀ M : PH, W10 M → DIn (ddL L a.toNat) a.toNat (L 0 4).toNat M → RN9 h' M ∧ v = rs (M 8) 0 8)) ∧ GR h h' := by
  have q : (fun (xh : PH) (r : List ZV) => ∀ v : Int, r = [(0, v)] → ((¬ (0 ≤ a ∧ a < L 0 4) → v = -1 ∧ RN9 xh L) ∧ ((0 ≤ a ∧ a < L 0 4) → ((bB (L 0 7) a.toNat = true) → v = -1 ∧ RN9 xh L) ∧ (¬ (bB (L 0 7) a.toNat = true) → ∀ M : PH, W10 M → DIn (ddL L a.toNat) a.toNat (L 0 4).toNat M → RN9 xh M ∧ v = rs (M 8) 0 8)) ∧ GR h xh)) h' [(0, v)] := by
    refine cp_vc (cut := (fun _ => false)) (K := fun p hx lv st => False) (Q := fun (xh : PH) (r : List ZV) => ∀ v : Int, r = [(0, v)] → ((¬ (0 ≤ a ∧ a < L 0 4) → v = -1 ∧ RN9 xh L) ∧ ((0 ≤ a ∧ a < L 0 4) → ((bB (L 0 7) a.toNat = true) → v = -1 ∧ RN9 xh L) ∧ (¬ (bB (L 0 7) a.toNat = true) → ∀ M : PH, W10 M → DIn (ddL L a.toNat) a.toNat (L 0 4).toNat M → RN9 xh M ∧ v = rs (M 8) 0 8)) ∧ GR h xh)) (v_X12_dieL ?_) (fun pc hx lv st hcut hK => ?_) hc
    · exact (fun h1 v1 p1 q1 => by obtain ⟨t1, e1⟩ := c_X12_isPerson p1; have t1 := t1.symm; subst t1; exact ⟨fun c1 => (fun h2 v2 p2 q2 => ⟨fun c2 => (fun h3 v3 p3 q3 => by obtain ⟨t3, e3⟩ := c_X12_refuse p3; have t3 := t3.symm; subst t3; exact (by have h7 := hw.1.1.1; have h8 := hw.1.1.2.1; have n0 : h 170 0 = L 1 0 := r.1.1; have n1 : h 170 1 = L 0 4 := r.1.2.1; have hr : (0 ≤ a ∧ a < L 0 4) := (by omega); have dd := c_X12_dies hB hD hH (by omega) p2; rw [(r.2.2.1 a.toNat (by omega)).2.1, bt_B (by omega)] at dd; rcases dd with ⟨b1, b2, b3⟩ | ⟨b1, b2, b3⟩; (rw [b3]; intro v e; cases e; exact ⟨fun q => absurd hr q, fun _ => ⟨fun _ => ⟨e3, r.s0⟩, fun q => absurd b1 q⟩, (GR.rf h).s0⟩); (omega))), fun c2 => (fun h4 v4 p4 q4 => (fun h5 v5 p5 q5 => by obtain ⟨t5, e5⟩ := c_X12_gives p5; have t5 := t5.symm; subst t5; exact (by have h7 := hw.1.1.1; have h8 := hw.1.1.2.1; have n0 : h 170 0 = L 1 0 := r.1.1; have n1 : h 170 1 = L 0 4 := r.1.2.1; have hr : (0 ≤ a ∧ a < L 0 4) := (by omega); have dd := c_X12_dies hB hD hH (by omega) p2; rw [(r.2.2.1 a.toNat (by omega)).2.1, bt_B (by omega)] at dd; rcases dd with ⟨b1, b2, b3⟩ | ⟨b1, b2, b3⟩; (omega); (obtain ⟨z1, z2, z3, z4⟩ := diR_b (p := a.toNat) (by omega) (by omega) hB hD hH; subst b3; intro v e; cases e; have b1 : ¬ bB (L 0 7) a.toNat = true := (fun z => b1 ((bt_B (by omega)).mpr z)); refine ⟨fun q => absurd hr q, fun _ => ⟨fun q => absurd q b1, fun _ M wM m => ?_⟩, ?_⟩; (have rM := di_b9 r hw.1 hw.2.1 (by omega) (hw.2.2.1 a.toNat (by omega)) m; obtain ⟨t4, s4⟩ := c_X12_sorrowL rM wM z2 p4; subst t4; exact ⟨rM.s0, by omega⟩); (have hs4 : h4 = diR h a.toNat := (c_X12_sorrowH (by rw [z4 170 1 (by omega)]; omega) z2 p4); subst hs4; exact GR.s0 (fun c k y1 y2 y3 => z4 c k (by omega)))))))⟩), fun c1 => (fun h6 v6 p6 q6 => by obtain ⟨t6, e6⟩ := c_X12_refuse p6; have t6 := t6.symm; subst t6; exact (by have h7 := hw.1.1.1; have h8 := hw.1.1.2.1; have n0 : h 170 0 = L 1 0 := r.1.1; have n1 : h 170 1 = L 0 4 := r.1.2.1; intro v e; cases e; exact ⟨fun _ => ⟨e6, r.s0⟩, fun q => absurd q (by omega), (GR.rf h).s0⟩))⟩)
    · exact hK.elim
  exact q v rfl
set_option maxRecDepth 10000 in
theorem v_X12_forgivesL {sl : Nat} {si : Nat → Int} {K : Nat → PH → ZL → List ZV → Prop} {Q : PH → List ZV → Prop} {h : PH}  {a b : Int} (H : ∀ h1 v1, CP (zz sl si (7, 0)) mX12_owes h [(2, 169), (0, b), (0, a)] h1 [(0, v1)] → R32 v1 → ∀ h2 v2, CP (zz sl si (7, 0)) mX12_isDead h1 [(2, 169), (0, a)] h2 [(0, v2)] → v2 = 0 ∨ v2 = 1 → (v2 ≠ 0 → Q h2 [(0, (-1))]) ∧ (¬ (v2 ≠ 0) → (v1 ≠ 0 → ∀ h3, CP (zz sl si (7, 0)) mX12_owesNow h2 [(2, 169), (0, b), (0, a), (0, 0)] h3 [] → Q h3 [(0, v1)]) ∧ (¬ (v1 ≠ 0) → Q h2 [(0, (-1))]))) : vc (zz sl si (7, 0)) (fun _ => false) K Q mX12_forgives 20 0 mX12_forgives.2.2.2.2.2.2 h [(0, (2, 169)), (1, (0, a)), (2, (0, b))] [] := H
set_option maxHeartbeats 600000 in
theorem c_X12_forgivesL {sl : Nat} {si : Nat → Int} {h h' : PH} {L : PH} {a b : Int} {v : Int} (r : RN9 h L) (hw : W10 L) (hr : (0 ≤ a ∧ a < L 0 4) ∧ 0 ≤ b ∧ b < L 0 4) (hc : CP (zz sl si (7, 0)) mX12_forgives h [(2, 169), (0, a), (0, b)] h' [(0, v)]) : ((bB (L 0 7) a.toNat = true ∨ L 7 (8 * b.toNat + a.toNat) = 0) → v = -1 ∧ h' = h) ∧ (¬ (bB (L 0 7) a.toNat = true ∨ L 7 (8 * b.toNat + a.toNat) = 0) → v = L 7 (8 * b.toNat + a.toNat) ∧ RN9 h' (owe L b a 0) ∧ GR h h' ∧ ∀ c k : Nat, ¬ (c = 170 ∧ 67 ≤ k ∧ k < 131) → h' c k = h c k) := by
  have q : (fun (xh : PH) (r : List ZV) => ∀ v : Int, r = [(0, v)] → (((bB (L 0 7) a.toNat = true ∨ L 7 (8 * b.toNat + a.toNat) = 0) → v = -1 ∧ xh = h) ∧ (¬ (bB (L 0 7) a.toNat = true ∨ L 7 (8 * b.toNat + a.toNat) = 0) → v = L 7 (8 * b.toNat + a.toNat) ∧ RN9 xh (owe L b a 0) ∧ GR h xh ∧ ∀ c k : Nat, ¬ (c = 170 ∧ 67 ≤ k ∧ k < 131) → xh c k = h c k))) h' [(0, v)] := by
    refine cp_vc (cut := (fun _ => false)) (K := fun p hx lv st => False) (Q := fun (xh : PH) (r : List ZV) => ∀ v : Int, r = [(0, v)] → (((bB (L 0 7) a.toNat = true ∨ L 7 (8 * b.toNat + a.toNat) = 0) → v = -1 ∧ xh = h) ∧ (¬ (bB (L 0 7) a.toNat = true ∨ L 7 (8 * b.toNat + a.toNat) = 0) → v = L 7 (8 * b.toNat + a.toNat) ∧ RN9 xh (owe L b a 0) ∧ GR h xh ∧ ∀ c k : Nat, ¬ (c = 170 ∧ 67 ≤ k ∧ k < 131) → xh c k = h c k))) (v_X12_forgivesL ?_) (fun pc hx lv st hcut hK => ?_) hc
    · exact (fun h1 v1 p1 q1 => by obtain ⟨t1, e1⟩ := c_X12_owes p1; have t1 := t1.symm; subst t1; exact (fun h2 v2 p2 q2 => by obtain ⟨t2, e2⟩ := c_X12_isDead p2; have t2 := t2.symm; subst t2; exact ⟨fun c1 => (by have h7 := hw.1.1.1; have h8 := hw.1.1.2.1; have n0 : h 170 0 = L 1 0 := r.1.1; have n1 : h 170 1 = L 0 4 := r.1.2.1; have ow := e1 (by omega) (by omega) (by omega) (by omega); rw [show 67 + 8 * b.toNat + a.toNat = 67 + (8 * b.toNat + a.toNat) by omega, r.2.2.2.1 _ (by omega)] at ow; have dd := e2 (by omega) (by omega); rw [(r.2.2.1 a.toNat (by omega)).2.1, bt_B (by omega)] at dd; intro v e; cases e; exact ⟨fun _ => ⟨rfl, rfl⟩, fun q => absurd (Or.inl (dd.mp (by omega))) q⟩), fun c1 => ⟨fun c2 => (fun h3 p3 => (by have h7 := hw.1.1.1; have h8 := hw.1.1.2.1; have n0 : h 170 0 = L 1 0 := r.1.1; have n1 : h 170 1 = L 0 4 := r.1.2.1; have ow := e1 (by omega) (by omega) (by omega) (by omega); rw [show 67 + 8 * b.toNat + a.toNat = 67 + (8 * b.toNat + a.toNat) by omega, r.2.2.2.1 _ (by omega)] at ow; have dd := e2 (by omega) (by omega); rw [(r.2.2.1 a.toNat (by omega)).2.1, bt_B (by omega)] at dd; have nw := c_X12_owesNow (by omega) (by omega) (by omega) (by omega) p3; rw [zm0] at nw; subst nw; have hz : ¬ (bB (L 0 7) a.toNat = true ∨ L 7 (8 * b.toNat + a.toNat) = 0) := (fun z => z.elim (fun y => by have := dd.mpr y; omega) (fun y => by omega)); intro v e; cases e; exact ⟨fun q => absurd q hz, fun _ => ⟨ow, r.ow (by omega) (by omega), (GR.rf h).up (by omega), fun c k q => up_ne (by omega)⟩⟩)), fun c2 => (by have h7 := hw.1.1.1; have h8 := hw.1.1.2.1; have n0 : h 170 0 = L 1 0 := r.1.1; have n1 : h 170 1 = L 0 4 := r.1.2.1; have ow := e1 (by omega) (by omega) (by omega) (by omega); rw [show 67 + 8 * b.toNat + a.toNat = 67 + (8 * b.toNat + a.toNat) by omega, r.2.2.2.1 _ (by omega)] at ow; have dd := e2 (by omega) (by omega); rw [(r.2.2.1 a.toNat (by omega)).2.1, bt_B (by omega)] at dd; intro v e; cases e; exact ⟨fun _ => ⟨rfl, rfl⟩, fun q => absurd (Or.inr (by omega)) q⟩)⟩⟩))
    · exact hK.elim
  exact q v rfl
set_option maxRecDepth 10000 in
theorem v_X12_forgiveL {sl : Nat} {si : Nat → Int} {K : Nat → PH → ZL → List ZV → Prop} {Q : PH → List ZV → Prop} {h : PH}  {a b : Int} (H : ∀ h1 v1, CP (zz sl si (7, 0)) mX12_areTwo h [(2, 169), (0, a), (0, b)] h1 [(0, v1)] → v1 = 0 ∨ v1 = 1 → (v1 ≠ 0 → ∀ h2 v2, CP (zz sl si (7, 0)) mX12_forgives h1 [(2, 169), (0, a), (0, b)] h2 [(0, v2)] → R32 v2 → (v2 ≠ (-1) → ∀ h3 v3, CP (zz sl si (7, 0)) mX12_gives h2 [(2, 169), (0, v2)] h3 [(0, v3)] → R32 v3 → Q h3 [(0, v3)]) ∧ (¬ (v2 ≠ (-1)) → ∀ h4 v4, CP (zz sl si (7, 0)) mX12_refuse h2 [(2, 169), (0, 7)] h4 [(0, v4)] → R32 v4 → Q h4 [(0, v4)])) ∧ (¬ (v1 ≠ 0) → ∀ h5 v5, CP (zz sl si (7, 0)) mX12_refuse h1 [(2, 169), (0, 1)] h5 [(0, v5)] → R32 v5 → Q h5 [(0, v5)])) : vc (zz sl si (7, 0)) (fun _ => false) K Q mX12_forgive 20 0 mX12_forgive.2.2.2.2.2.2 h [(0, (2, 169)), (1, (0, a)), (2, (0, b))] [] := H
set_option maxHeartbeats 600000 in
theorem c_X12_forgiveL {sl : Nat} {si : Nat → Int} {h h' : PH} {L : PH} {a b : Int} {v : Int} (r : RN9 h L) (hw : W10 L) (hc : CP (zz sl si (7, 0)) mX12_forgive h [(2, 169), (0, a), (0, b)] h' [(0, v)]) : (¬ ((0 ≤ a ∧ a < L 0 4) ∧ (0 ≤ b ∧ b < L 0 4) ∧ a ≠ b) → v = -1 ∧ RN9 h' L) ∧ (((0 ≤ a ∧ a < L 0 4) ∧ (0 ≤ b ∧ b < L 0 4) ∧ a ≠ b) → ((bB (L 0 7) a.toNat = true ∨ L 7 (8 * b.toNat + a.toNat) = 0) → v = -1 ∧ RN9 h' L) ∧ (¬ (bB (L 0 7) a.toNat = true ∨ L 7 (8 * b.toNat + a.toNat) = 0) → v = L 7 (8 * b.toNat + a.toNat) ∧ RN9 h' (owe L b a 0))) ∧ GR h h' := by
  have q : (fun (xh : PH) (r : List ZV) => ∀ v : Int, r = [(0, v)] → ((¬ ((0 ≤ a ∧ a < L 0 4) ∧ (0 ≤ b ∧ b < L 0 4) ∧ a ≠ b) → v = -1 ∧ RN9 xh L) ∧ (((0 ≤ a ∧ a < L 0 4) ∧ (0 ≤ b ∧ b < L 0 4) ∧ a ≠ b) → ((bB (L 0 7) a.toNat = true ∨ L 7 (8 * b.toNat + a.toNat) = 0) → v = -1 ∧ RN9 xh L) ∧ (¬ (bB (L 0 7) a.toNat = true ∨ L 7 (8 * b.toNat + a.toNat) = 0) → v = L 7 (8 * b.toNat + a.toNat) ∧ RN9 xh (owe L b a 0))) ∧ GR h xh)) h' [(0, v)] := by
    refine cp_vc (cut := (fun _ => false)) (K := fun p hx lv st => False) (Q := fun (xh : PH) (r : List ZV) => ∀ v : Int, r = [(0, v)] → ((¬ ((0 ≤ a ∧ a < L 0 4) ∧ (0 ≤ b ∧ b < L 0 4) ∧ a ≠ b) → v = -1 ∧ RN9 xh L) ∧ (((0 ≤ a ∧ a < L 0 4) ∧ (0 ≤ b ∧ b < L 0 4) ∧ a ≠ b) → ((bB (L 0 7) a.toNat = true ∨ L 7 (8 * b.toNat + a.toNat) = 0) → v = -1 ∧ RN9 xh L) ∧ (¬ (bB (L 0 7) a.toNat = true ∨ L 7 (8 * b.toNat + a.toNat) = 0) → v = L 7 (8 * b.toNat + a.toNat) ∧ RN9 xh (owe L b a 0))) ∧ GR h xh)) (v_X12_forgiveL ?_) (fun pc hx lv st hcut hK => ?_) hc
    · exact (fun h1 v1 p1 q1 => by obtain ⟨t1, e1⟩ := c_X12_areTwo p1; have t1 := t1.symm; subst t1; exact ⟨fun c1 => (fun h2 v2 p2 q2 => ⟨fun c2 => (fun h3 v3 p3 q3 => by obtain ⟨t3, e3⟩ := c_X12_gives p3; have t3 := t3.symm; subst t3; exact (by have h7 := hw.1.1.1; have h8 := hw.1.1.2.1; have n0 : h 170 0 = L 1 0 := r.1.1; have n1 : h 170 1 = L 0 4 := r.1.2.1; have hr : ((0 ≤ a ∧ a < L 0 4) ∧ (0 ≤ b ∧ b < L 0 4) ∧ a ≠ b) := (by omega); have fo := c_X12_forgivesL r hw ⟨hr.1, hr.2.1⟩ p2; have o7 := hw.1.1.2.2.2.2.1 (8 * b.toNat + a.toNat) (by omega); intro v e; cases e; by_cases z : (bB (L 0 7) a.toNat = true ∨ L 7 (8 * b.toNat + a.toNat) = 0); (have := (fo.1 z).1; omega); (obtain ⟨z1, z2, z3, z4⟩ := fo.2 z; exact ⟨fun q => absurd hr q, fun _ => ⟨fun q => absurd q z, fun _ => ⟨by omega, z2.s0⟩⟩, z3.s0⟩))), fun c2 => (fun h4 v4 p4 q4 => by obtain ⟨t4, e4⟩ := c_X12_refuse p4; have t4 := t4.symm; subst t4; exact (by have h7 := hw.1.1.1; have h8 := hw.1.1.2.1; have n0 : h 170 0 = L 1 0 := r.1.1; have n1 : h 170 1 = L 0 4 := r.1.2.1; have hr : ((0 ≤ a ∧ a < L 0 4) ∧ (0 ≤ b ∧ b < L 0 4) ∧ a ≠ b) := (by omega); have fo := c_X12_forgivesL r hw ⟨hr.1, hr.2.1⟩ p2; have o7 := hw.1.1.2.2.2.2.1 (8 * b.toNat + a.toNat) (by omega); intro v e; cases e; by_cases z : (bB (L 0 7) a.toNat = true ∨ L 7 (8 * b.toNat + a.toNat) = 0); (rw [(fo.1 z).2]; exact ⟨fun q => absurd hr q, fun _ => ⟨fun _ => ⟨e4, r.s0⟩, fun q => absurd z q⟩, (GR.rf h).s0⟩); (have := (fo.2 z).1; omega)))⟩), fun c1 => (fun h5 v5 p5 q5 => by obtain ⟨t5, e5⟩ := c_X12_refuse p5; have t5 := t5.symm; subst t5; exact (by have h7 := hw.1.1.1; have h8 := hw.1.1.2.1; have n0 : h 170 0 = L 1 0 := r.1.1; have n1 : h 170 1 = L 0 4 := r.1.2.1; intro v e; cases e; exact ⟨fun _ => ⟨e5, r.s0⟩, fun q => absurd q (by omega), (GR.rf h).s0⟩))⟩)
    · exact hK.elim
  exact q v rfl
set_option maxRecDepth 10000 in
theorem v_X12_forgesL {sl : Nat} {si : Nat → Int} {K : Nat → PH → ZL → List ZV → Prop} {Q : PH → List ZV → Prop} {h : PH}  {a b c : Int} (H : ∀ h1 v1, CP (zz sl si (7, 0)) mX12_isDead h [(2, 169), (0, a)] h1 [(0, v1)] → v1 = 0 ∨ v1 = 1 → (v1 = 0 → Q h1 [(0, 0)]) ∧ (¬ (v1 = 0) → ∀ h2 v2, CP (zz sl si (7, 0)) mX12_isDead h1 [(2, 169), (0, b)] h2 [(0, v2)] → v2 = 0 ∨ v2 = 1 → (v2 = 0 → ∀ h3 v3, CP (zz sl si (7, 0)) mX12_owes h2 [(2, 169), (0, a), (0, b)] h3 [(0, v3)] → R32 v3 → ∀ h4, CP (zz sl si (7, 0)) mX12_owesNow h3 [(2, 169), (0, a), (0, b), (0, w32 (v3 + c))] h4 [] → Q h4 [(0, 1)]) ∧ (¬ (v2 = 0) → Q h2 [(0, 0)]))) : vc (zz sl si (7, 0)) (fun _ => false) K Q mX12_forges 22 0 mX12_forges.2.2.2.2.2.2 h [(0, (2, 169)), (1, (0, a)), (2, (0, b)), (3, (0, c))] [] := H
set_option maxHeartbeats 600000 in
theorem c_X12_forgesL {sl : Nat} {si : Nat → Int} {h h' : PH} {L : PH} {a b c : Int} {v : Int} (r : RN9 h L) (hw : W10 L) (hr : ((0 ≤ a ∧ a < L 0 4) ∧ 0 ≤ b ∧ b < L 0 4) ∧ 1 ≤ c ∧ c ≤ 99) (hc : CP (zz sl si (7, 0)) mX12_forges h [(2, 169), (0, a), (0, b), (0, c)] h' [(0, v)]) : ((¬ bB (L 0 7) a.toNat = true ∨ bB (L 0 7) b.toNat = true) → v = 0 ∧ h' = h) ∧ (¬ (¬ bB (L 0 7) a.toNat = true ∨ bB (L 0 7) b.toNat = true) → v = 1 ∧ RN9 h' (owe L a b (cap9 (L 7 (8 * a.toNat + b.toNat) + c))) ∧ GR h h' ∧ ∀ c k : Nat, ¬ (c = 170 ∧ 67 ≤ k ∧ k < 131) → h' c k = h c k) := by
  have q : (fun (xh : PH) (r : List ZV) => ∀ v : Int, r = [(0, v)] → (((¬ bB (L 0 7) a.toNat = true ∨ bB (L 0 7) b.toNat = true) → v = 0 ∧ xh = h) ∧ (¬ (¬ bB (L 0 7) a.toNat = true ∨ bB (L 0 7) b.toNat = true) → v = 1 ∧ RN9 xh (owe L a b (cap9 (L 7 (8 * a.toNat + b.toNat) + c))) ∧ GR h xh ∧ ∀ c k : Nat, ¬ (c = 170 ∧ 67 ≤ k ∧ k < 131) → xh c k = h c k))) h' [(0, v)] := by
    refine cp_vc (cut := (fun _ => false)) (K := fun p hx lv st => False) (Q := fun (xh : PH) (r : List ZV) => ∀ v : Int, r = [(0, v)] → (((¬ bB (L 0 7) a.toNat = true ∨ bB (L 0 7) b.toNat = true) → v = 0 ∧ xh = h) ∧ (¬ (¬ bB (L 0 7) a.toNat = true ∨ bB (L 0 7) b.toNat = true) → v = 1 ∧ RN9 xh (owe L a b (cap9 (L 7 (8 * a.toNat + b.toNat) + c))) ∧ GR h xh ∧ ∀ c k : Nat, ¬ (c = 170 ∧ 67 ≤ k ∧ k < 131) → xh c k = h c k))) (v_X12_forgesL ?_) (fun pc hx lv st hcut hK => ?_) hc
    · exact (fun h1 v1 p1 q1 => by obtain ⟨t1, e1⟩ := c_X12_isDead p1; have t1 := t1.symm; subst t1; exact ⟨fun c1 => (by have h7 := hw.1.1.1; have h8 := hw.1.1.2.1; have n0 : h 170 0 = L 1 0 := r.1.1; have n1 : h 170 1 = L 0 4 := r.1.2.1; have d1 := e1 (by omega) (by omega); rw [(r.2.2.1 a.toNat (by omega)).2.1, bt_B (by omega)] at d1; intro v e; cases e; exact ⟨fun _ => ⟨rfl, rfl⟩, fun q => absurd (Or.inl (fun y => by have := d1.mpr y; omega)) q⟩), fun c1 => (fun h2 v2 p2 q2 => by obtain ⟨t2, e2⟩ := c_X12_isDead p2; have t2 := t2.symm; subst t2; exact ⟨fun c2 => (fun h3 v3 p3 q3 => by obtain ⟨t3, e3⟩ := c_X12_owes p3; have t3 := t3.symm; subst t3; exact (fun h4 p4 => (by have h7 := hw.1.1.1; have h8 := hw.1.1.2.1; have n0 : h 170 0 = L 1 0 := r.1.1; have n1 : h 170 1 = L 0 4 := r.1.2.1; have d1 := e1 (by omega) (by omega); rw [(r.2.2.1 a.toNat (by omega)).2.1, bt_B (by omega)] at d1; have d2 := e2 (by omega) (by omega); rw [(r.2.2.1 b.toNat (by omega)).2.1, bt_B (by omega)] at d2; have ow := e3 (by omega) (by omega) (by omega) (by omega); rw [show 67 + 8 * a.toNat + b.toNat = 67 + (8 * a.toNat + b.toNat) by omega, r.2.2.2.1 _ (by omega)] at ow; have o7 := hw.1.1.2.2.2.2.1 (8 * a.toNat + b.toNat) (by omega); have nw := c_X12_owesNow (by omega) (by omega) (by omega) (by omega) p4; rw [zm_c, ow, w32_id (by omega) (by omega)] at nw; subst nw; have hz : ¬ (¬ bB (L 0 7) a.toNat = true ∨ bB (L 0 7) b.toNat = true) := (fun z => z.elim (fun y => y (d1.mp (by omega))) (fun y => by have := d2.mpr y; omega)); intro v e; cases e; exact ⟨fun q => absurd q hz, fun _ => ⟨rfl, r.ow (by omega) (by omega), (GR.rf h).up (by omega), fun c k q => up_ne (by omega)⟩⟩))), fun c2 => (by have h7 := hw.1.1.1; have h8 := hw.1.1.2.1; have n0 : h 170 0 = L 1 0 := r.1.1; have n1 : h 170 1 = L 0 4 := r.1.2.1; have d1 := e1 (by omega) (by omega); rw [(r.2.2.1 a.toNat (by omega)).2.1, bt_B (by omega)] at d1; have d2 := e2 (by omega) (by omega); rw [(r.2.2.1 b.toNat (by omega)).2.1, bt_B (by omega)] at d2; intro v e; cases e; exact ⟨fun _ => ⟨rfl, rfl⟩, fun q => absurd (Or.inr (d2.mp (by omega))) q⟩)⟩)⟩)
    · exact hK.elim
  exact q v rfl
set_option maxRecDepth 10000 in
theorem v_X12_forgeL {sl : Nat} {si : Nat → Int} {K : Nat → PH → ZL → List ZV → Prop} {Q : PH → List ZV → Prop} {h : PH}  {a b c : Int} (H : ∀ h1 v1, CP (zz sl si (7, 0)) mX12_areTwo h [(2, 169), (0, a), (0, b)] h1 [(0, v1)] → v1 = 0 ∨ v1 = 1 → (v1 = 0 → ∀ h2 v2, CP (zz sl si (7, 0)) mX12_refuse h1 [(2, 169), (0, 1)] h2 [(0, v2)] → R32 v2 → Q h2 [(0, v2)]) ∧ (¬ (v1 = 0) → ∀ h3 v3, CP (zz sl si (7, 0)) mX12_isFrom h1 [(1, c), (1, 1), (1, 99)] h3 [(0, v3)] → v3 = 0 ∨ v3 = 1 → (v3 ≠ 0 → ∀ h4 v4, CP (zz sl si (7, 0)) mX12_forges h3 [(2, 169), (0, a), (0, b), (0, c)] h4 [(0, v4)] → v4 = 0 ∨ v4 = 1 → (v4 = 0 → ∀ h5 v5, CP (zz sl si (7, 0)) mX12_refuse h4 [(2, 169), (0, 7)] h5 [(0, v5)] → R32 v5 → Q h5 [(0, v5)]) ∧ (¬ (v4 = 0) → ∀ h6 v6, CP (zz sl si (7, 0)) mX12_owes h4 [(2, 169), (0, a), (0, b)] h6 [(0, v6)] → R32 v6 → ∀ h7 v7, CP (zz sl si (7, 0)) mX12_gives h6 [(2, 169), (0, v6)] h7 [(0, v7)] → R32 v7 → Q h7 [(0, v7)])) ∧ (¬ (v3 ≠ 0) → ∀ h8 v8, CP (zz sl si (7, 0)) mX12_refuse h3 [(2, 169), (0, 1)] h8 [(0, v8)] → R32 v8 → Q h8 [(0, v8)]))) : vc (zz sl si (7, 0)) (fun _ => false) K Q mX12_forge 27 0 mX12_forge.2.2.2.2.2.2 h [(0, (2, 169)), (1, (0, a)), (2, (0, b)), (3, (0, c))] [] := H
set_option maxHeartbeats 600000 in
theorem c_X12_forgeL {sl : Nat} {si : Nat → Int} {h h' : PH} {L : PH} {a b c : Int} {v : Int} (r : RN9 h L) (hw : W10 L) (hc : CP (zz sl si (7, 0)) mX12_forge h [(2, 169), (0, a), (0, b), (0, c)] h' [(0, v)]) : (¬ (((0 ≤ a ∧ a < L 0 4) ∧ (0 ≤ b ∧ b < L 0 4) ∧ a ≠ b) ∧ 1 ≤ c ∧ c ≤ 99) → v = -1 ∧ RN9 h' L) ∧ ((((0 ≤ a ∧ a < L 0 4) ∧ (0 ≤ b ∧ b < L 0 4) ∧ a ≠ b) ∧ 1 ≤ c ∧ c ≤ 99) → ((¬ bB (L 0 7) a.toNat = true ∨ bB (L 0 7) b.toNat = true) → v = -1 ∧ RN9 h' L) ∧ (¬ (¬ bB (L 0 7) a.toNat = true ∨ bB (L 0 7) b.toNat = true) → v = cap9 (L 7 (8 * a.toNat + b.toNat) + c) ∧ RN9 h' (owe L a b (cap9 (L 7 (8 * a.toNat + b.toNat) + c))))) ∧ GR h h' := by
  have q : (fun (xh : PH) (r : List ZV) => ∀ v : Int, r = [(0, v)] → ((¬ (((0 ≤ a ∧ a < L 0 4) ∧ (0 ≤ b ∧ b < L 0 4) ∧ a ≠ b) ∧ 1 ≤ c ∧ c ≤ 99) → v = -1 ∧ RN9 xh L) ∧ ((((0 ≤ a ∧ a < L 0 4) ∧ (0 ≤ b ∧ b < L 0 4) ∧ a ≠ b) ∧ 1 ≤ c ∧ c ≤ 99) → ((¬ bB (L 0 7) a.toNat = true ∨ bB (L 0 7) b.toNat = true) → v = -1 ∧ RN9 xh L) ∧ (¬ (¬ bB (L 0 7) a.toNat = true ∨ bB (L 0 7) b.toNat = true) → v = cap9 (L 7 (8 * a.toNat + b.toNat) + c) ∧ RN9 xh (owe L a b (cap9 (L 7 (8 * a.toNat + b.toNat) + c))))) ∧ GR h xh)) h' [(0, v)] := by
    refine cp_vc (cut := (fun _ => false)) (K := fun p hx lv st => False) (Q := fun (xh : PH) (r : List ZV) => ∀ v : Int, r = [(0, v)] → ((¬ (((0 ≤ a ∧ a < L 0 4) ∧ (0 ≤ b ∧ b < L 0 4) ∧ a ≠ b) ∧ 1 ≤ c ∧ c ≤ 99) → v = -1 ∧ RN9 xh L) ∧ ((((0 ≤ a ∧ a < L 0 4) ∧ (0 ≤ b ∧ b < L 0 4) ∧ a ≠ b) ∧ 1 ≤ c ∧ c ≤ 99) → ((¬ bB (L 0 7) a.toNat = true ∨ bB (L 0 7) b.toNat = true) → v = -1 ∧ RN9 xh L) ∧ (¬ (¬ bB (L 0 7) a.toNat = true ∨ bB (L 0 7) b.toNat = true) → v = cap9 (L 7 (8 * a.toNat + b.toNat) + c) ∧ RN9 xh (owe L a b (cap9 (L 7 (8 * a.toNat + b.toNat) + c))))) ∧ GR h xh)) (v_X12_forgeL ?_) (fun pc hx lv st hcut hK => ?_) hc
    · exact (fun h1 v1 p1 q1 => by obtain ⟨t1, e1⟩ := c_X12_areTwo p1; have t1 := t1.symm; subst t1; exact ⟨fun c1 => (fun h2 v2 p2 q2 => by obtain ⟨t2, e2⟩ := c_X12_refuse p2; have t2 := t2.symm; subst t2; exact (by have h7 := hw.1.1.1; have h8 := hw.1.1.2.1; have n0 : h 170 0 = L 1 0 := r.1.1; have n1 : h 170 1 = L 0 4 := r.1.2.1; intro v e; cases e; exact ⟨fun _ => ⟨e2, r.s0⟩, fun q => absurd q (by omega), (GR.rf h).s0⟩)), fun c1 => (fun h3 v3 p3 q3 => by obtain ⟨t3, e3⟩ := c_X12_isFrom p3; have t3 := t3.symm; subst t3; exact ⟨fun c2 => (fun h4 v4 p4 q4 => ⟨fun c3 => (fun h5 v5 p5 q5 => by obtain ⟨t5, e5⟩ := c_X12_refuse p5; have t5 := t5.symm; subst t5; exact (by have h7 := hw.1.1.1; have h8 := hw.1.1.2.1; have n0 : h 170 0 = L 1 0 := r.1.1; have n1 : h 170 1 = L 0 4 := r.1.2.1; have hr : (((0 ≤ a ∧ a < L 0 4) ∧ (0 ≤ b ∧ b < L 0 4) ∧ a ≠ b) ∧ 1 ≤ c ∧ c ≤ 99) := (by omega); have fo := c_X12_forgesL r hw ⟨⟨hr.1.1, hr.1.2.1⟩, hr.2⟩ p4; intro v e; cases e; by_cases z : (¬ bB (L 0 7) a.toNat = true ∨ bB (L 0 7) b.toNat = true); (rw [(fo.1 z).2]; exact ⟨fun q => absurd hr q, fun _ => ⟨fun _ => ⟨e5, r.s0⟩, fun q => absurd z q⟩, (GR.rf h).s0⟩); (have := (fo.2 z).1; omega))), fun c3 => (fun h6 v6 p6 q6 => by obtain ⟨t6, e6⟩ := c_X12_owes p6; have t6 := t6.symm; subst t6; exact (fun h7 v7 p7 q7 => by obtain ⟨t7, e7⟩ := c_X12_gives p7; have t7 := t7.symm; subst t7; exact (by have h7 := hw.1.1.1; have h8 := hw.1.1.2.1; have n0 : h 170 0 = L 1 0 := r.1.1; have n1 : h 170 1 = L 0 4 := r.1.2.1; have hr : (((0 ≤ a ∧ a < L 0 4) ∧ (0 ≤ b ∧ b < L 0 4) ∧ a ≠ b) ∧ 1 ≤ c ∧ c ≤ 99) := (by omega); have fo := c_X12_forgesL r hw ⟨⟨hr.1.1, hr.1.2.1⟩, hr.2⟩ p4; intro v e; cases e; by_cases z : (¬ bB (L 0 7) a.toNat = true ∨ bB (L 0 7) b.toNat = true); (have := (fo.1 z).1; omega); (obtain ⟨z1, z2, z3, z4⟩ := fo.2 z; have ow := e6 (by omega) (by omega) (by omega) (by omega); rw [show 67 + 8 * a.toNat + b.toNat = 67 + (8 * a.toNat + b.toNat) by omega, z2.2.2.2.1 _ (by omega), owe_7, if_pos rfl] at ow; exact ⟨fun q => absurd hr q, fun _ => ⟨fun q => absurd q z, fun _ => ⟨by omega, z2.s0⟩⟩, z3.s0⟩))))⟩), fun c2 => (fun h8 v8 p8 q8 => by obtain ⟨t8, e8⟩ := c_X12_refuse p8; have t8 := t8.symm; subst t8; exact (by have h7 := hw.1.1.1; have h8 := hw.1.1.2.1; have n0 : h 170 0 = L 1 0 := r.1.1; have n1 : h 170 1 = L 0 4 := r.1.2.1; intro v e; cases e; exact ⟨fun _ => ⟨e8, r.s0⟩, fun q => absurd q (by omega), (GR.rf h).s0⟩))⟩)⟩)
    · exact hK.elim
  exact q v rfl
end
section
/-! 45z.8j.read -/
/-! what holds of a LAND that is read -/
def WP (L : PH) : Prop := (0 ≤ L 1 0 ∧ L 1 0 ≤ 7) ∧ (0 ≤ L 0 4 ∧ L 0 4 ≤ 8) ∧ (∀ p : Nat, p < 8 → 0 ≤ L 14 p ∧ L 14 p ≤ 3) ∧ (∀ p b : Nat, p < 8 → b < 8 → p = b ∨ L 0 4 ≤ (p : Int) ∨ L 0 4 ≤ (b : Int) → L 7 (8 * p + b) = 0) ∧ (∀ p : Nat, (p : Int) < L 0 4 → (0 ≤ L 11 p ∧ L 11 p < L 1 0) ∧ 0 ≤ L 12 p ∧ L 12 p < L 1 0) ∧ (∀ p k : Nat, p < 8 → k < 3 → (k : Int) < L 14 p → 0 ≤ L 13 (3 * p + k) ∧ L 13 (3 * p + k) < L 0 4) ∧ (∀ i : Nat, i < 7 → 0 ≤ L 15 i ∧ L 15 i ≤ 9999) ∧ DsL L ∧ (∀ i : Nat, i < 7 → SB (L 2 i) (L 1 0)) ∧ ∀ i j : Nat, i < 7 → j < 7 → bB (L 2 i) j = bB (L 2 j) i
def PP (r : PR) : Prop := ∀ q, r = .inr q → WP q.2
theorem PP.bd {T : TX} {a : Int} {s : Nat} : PP (bad T a s) := fun q h => by unfold bad at h; cases h
theorem PP.ite {c : Prop} {i : Decidable c} {a b : PR} (h1 : c → PP a) (h2 : ¬ c → PP b) : PP (@ite PR c i a b) := by
  by_cases z : c
  · rw [if_pos z]; exact h1 z
  · rw [if_neg z]; exact h2 z
theorem PP.sm {T : TX} {s : Nat} {L : PH} (w : WP L) : PP (semi T s L) := by
  unfold semi
  exact PP.ite (fun _ q h => by cases h; exact w) (fun _ => PP.bd)
theorem PP.nw {T : TX} {s : Nat} {L : PH} {k : PR} (h : PP k) : PP (pNew T s L k) := by
  unfold pNew
  exact PP.ite (fun _ => PP.ite (fun _ => PP.bd) (fun _ => h)) (fun _ => PP.bd)
theorem ho_p {T : TX} {L : PH} {s : Nat} (h0 : 0 ≤ L 1 0) (h : ho T L s ≠ -1) : 0 ≤ ho T L s ∧ ho T L s < L 1 0 := by
  unfold ho at h ⊢
  by_cases z : isN T s
  · rw [if_pos z] at h ⊢
    have := fd_b (g := L 9) (x := wc T s) (L 1 0).toNat
    unfold nmH at h ⊢
    omega
  · rw [if_neg z] at h
    exact absurd rfl h
theorem pe_p {T : TX} {L : PH} {s : Nat} (h0 : 0 ≤ L 0 4) (h : pe T L s ≠ -1) : 0 ≤ pe T L s ∧ pe T L s < L 0 4 := by
  unfold pe at h ⊢
  by_cases z : isN T s
  · rw [if_pos z] at h ⊢
    have := fd_b (g := L 10) (x := wc T s) (L 0 4).toNat
    unfold nmP at h ⊢
    omega
  · rw [if_neg z] at h
    exact absurd rfl h
theorem fd_m {g : Nat → Int} {x : Int} : ∀ n : Nat, fd g x n = -1 → ∀ i, i < n → g i ≠ x
  | 0, _, i, hi => absurd hi (by omega)
  | n + 1, h, i, hi => by
    have h : (if fd g x n = -1 then (if g n = x then (n : Int) else -1) else fd g x n) = -1 := h
    by_cases z : fd g x n = -1
    · rw [if_pos z] at h
      by_cases y : g n = x
      · rw [if_pos y] at h; omega
      · by_cases e : i = n
        · rw [e]; exact y
        · exact fd_m n z i (by omega)
    · rw [if_neg z] at h
      exact absurd h z
section OPS
variable {L M : PH}
theorem WP.house (w : WP L) (h : L 1 0 < 7) (e : ∀ j k : Nat, j ≠ 1 → j ≠ 9 → M j k = L j k) (e1 : M 1 0 = L 1 0 + 1) : WP M := by
  obtain ⟨w1, w2, w3, w4, w5, w6, w7, w8, w9, w10⟩ := w
  have e0 := e 0 4 (by omega) (by omega)
  refine ⟨by omega, by rw [e0]; exact w2, fun p hp => by rw [e 14 p (by omega) (by omega)]; exact w3 p hp, fun p b hp hb q => by rw [e0] at q; rw [e 7 _ (by omega) (by omega)]; exact w4 p b hp hb q, fun p q => ?_, fun p k hp hk q => by rw [e 14 p (by omega) (by omega)] at q; rw [e 13 _ (by omega) (by omega), e0]; exact w6 p k hp hk q, fun i hi => by rw [e 15 i (by omega) (by omega)]; exact w7 i hi, w8.cg (fun k => e 13 k (by omega) (by omega)) (fun k => e 14 k (by omega) (by omega)), fun i hi => by rw [e 2 i (by omega) (by omega), e1]; exact (w9 i hi).mo (by omega), fun i j hi hj => by rw [e 2 i (by omega) (by omega), e 2 j (by omega) (by omega)]; exact w10 i j hi hj⟩
  rw [e0] at q
  have := w5 p q
  rw [e 11 p (by omega) (by omega), e 12 p (by omega) (by omega), e1]
  omega
theorem WP.pers {x : Int} (w : WP L) (h : L 0 4 < 8) (hx : 0 ≤ x ∧ x < L 1 0) (e : ∀ j k : Nat, j ≠ 0 → j ≠ 10 → j ≠ 11 → j ≠ 12 → M j k = L j k) (e0 : M 0 4 = L 0 4 + 1) (e11 : ∀ k : Nat, M 11 k = if k = (L 0 4).toNat then x else L 11 k) (e12 : ∀ k : Nat, M 12 k = if k = (L 0 4).toNat then x else L 12 k) : WP M := by
  obtain ⟨w1, w2, w3, w4, w5, w6, w7, w8, w9, w10⟩ := w
  have e1 := e 1 0 (by omega) (by omega) (by omega) (by omega)
  refine ⟨by rw [e1]; exact w1, by omega, fun p hp => by rw [e 14 p (by omega) (by omega) (by omega) (by omega)]; exact w3 p hp, fun p b hp hb q => by rw [e0] at q; rw [e 7 _ (by omega) (by omega) (by omega) (by omega)]; exact w4 p b hp hb (by omega), fun p q => ?_, fun p k hp hk q => ?_, fun i hi => by rw [e 15 i (by omega) (by omega) (by omega) (by omega)]; exact w7 i hi, w8.cg (fun k => e 13 k (by omega) (by omega) (by omega) (by omega)) (fun k => e 14 k (by omega) (by omega) (by omega) (by omega)), fun i hi => by rw [e 2 i (by omega) (by omega) (by omega) (by omega), e1]; exact w9 i hi, fun i j hi hj => by rw [e 2 i (by omega) (by omega) (by omega) (by omega), e 2 j (by omega) (by omega) (by omega) (by omega)]; exact w10 i j hi hj⟩
  · rw [e11, e12, e1]
    by_cases z : p = (L 0 4).toNat
    · rw [if_pos z, if_pos z]; exact ⟨hx, hx⟩
    · rw [if_neg z, if_neg z]; exact w5 p (by omega)
  · rw [e 14 p (by omega) (by omega) (by omega) (by omega)] at q
    have := w6 p k hp hk q
    rw [e 13 _ (by omega) (by omega) (by omega) (by omega), e0]
    omega
theorem WP.hg {x y : Int} (w : WP L) (hx : 0 ≤ x ∧ x < L 1 0) (hy : 0 ≤ y ∧ y < L 1 0) (hxy : x ≠ y) : WP (hang L x y) := by
  obtain ⟨w1, w2, w3, w4, w5, w6, w7, w8, w9, w10⟩ := w
  have e : ∀ j k : Nat, j ≠ 2 → hang L x y j k = L j k := fun j k q => by unfold hang; rw [up_ne (by omega), up_ne (by omega)]
  have e2 : ∀ k : Nat, hang L x y 2 k = if k = x.toNat then zor (L 2 k) (zshl 1 y) else if k = y.toNat then zor (L 2 k) (zshl 1 x) else L 2 k := fun k => by
    unfold hang
    rw [up_rd]
    by_cases z : k = x.toNat
    · rw [if_neg (by omega), if_pos z, z, up_rd, if_pos ⟨rfl, rfl⟩]
    · rw [if_neg z]
      by_cases q : k = y.toNat
      · rw [if_pos ⟨rfl, q⟩, if_pos q, q, up_ne (by omega)]
      · rw [if_neg (by omega), if_neg q, up_ne (by omega)]
  have so : ∀ {v n : Int}, SB v (L 1 0) → 0 ≤ n → n < L 1 0 → SB (zor v (zshl 1 n)) (L 1 0) := fun {v n} s h0 h1 => by
    have := s.set (p := n.toNat) (by omega) (by omega)
    rw [show ((n.toNat : Nat) : Int) = n by omega] at this
    exact this
  have bo : ∀ {v n : Int} {j : Nat}, 0 ≤ n → n < 8 → j < 8 → bB (zor v (zshl 1 n)) j = (bB v j || decide (j = n.toNat)) := fun {v n j} h0 h1 hj => by
    have z := bB_one (a := n.toNat) (i := j) (by omega) hj
    rw [show ((n.toNat : Nat) : Int) = n by omega] at z
    rw [bB_or, z]
  refine ⟨by rw [e 1 0 (by omega)]; exact w1, by rw [e 0 4 (by omega)]; exact w2, fun p hp => by rw [e 14 p (by omega)]; exact w3 p hp, fun p b hp hb q => by rw [e 0 4 (by omega)] at q; rw [e 7 _ (by omega)]; exact w4 p b hp hb q, fun p q => by rw [e 0 4 (by omega)] at q; rw [e 11 p (by omega), e 12 p (by omega), e 1 0 (by omega)]; exact w5 p q, fun p k hp hk q => by rw [e 14 p (by omega)] at q; rw [e 13 _ (by omega), e 0 4 (by omega)]; exact w6 p k hp hk q, fun i hi => by rw [e 15 i (by omega)]; exact w7 i hi, w8.cg (fun k => e 13 k (by omega)) (fun k => e 14 k (by omega)), fun i hi => ?_, fun i j hi hj => ?_⟩
  · rw [e 1 0 (by omega), e2]
    have z := w9 i hi
    by_cases q : i = x.toNat
    · rw [if_pos q]; exact so z hy.1 hy.2
    · rw [if_neg q]
      by_cases q2 : i = y.toNat
      · rw [if_pos q2]; exact so z hx.1 hx.2
      · rw [if_neg q2]; exact z
  · have Q : ∀ i j : Nat, i < 7 → j < 7 → bB (hang L x y 2 i) j = (bB (L 2 i) j || decide ((i = x.toNat ∧ j = y.toNat) ∨ (i = y.toNat ∧ j = x.toNat))) := fun i j hi hj => by
      rw [e2]
      by_cases q : i = x.toNat
      · rw [if_pos q, bo hy.1 (by omega) (by omega), show decide (j = y.toNat) = decide ((i = x.toNat ∧ j = y.toNat) ∨ (i = y.toNat ∧ j = x.toNat)) from decide_eq_decide.mpr ⟨fun z => Or.inl ⟨q, z⟩, fun z => by omega⟩]
      · rw [if_neg q]
        by_cases q2 : i = y.toNat
        · rw [if_pos q2, bo hx.1 (by omega) (by omega), show decide (j = x.toNat) = decide ((i = x.toNat ∧ j = y.toNat) ∨ (i = y.toNat ∧ j = x.toNat)) from decide_eq_decide.mpr ⟨fun z => Or.inr ⟨q2, z⟩, fun z => by omega⟩]
        · rw [if_neg q2, decide_eq_false (by omega), Bool.or_false]
    rw [Q i j hi hj, Q j i hj hi, w10 i j hi hj, show decide ((i = x.toNat ∧ j = y.toNat) ∨ (i = y.toNat ∧ j = x.toNat)) = decide ((j = x.toNat ∧ i = y.toNat) ∨ (j = y.toNat ∧ i = x.toNat)) from decide_eq_decide.mpr ⟨fun q => by omega, fun q => by omega⟩]
theorem WP.ow {x y v : Int} (w : WP L) (hx : 0 ≤ x ∧ x < L 0 4) (hy : 0 ≤ y ∧ y < L 0 4) (hxy : x ≠ y) : WP (owe L x y v) := by
  obtain ⟨w1, w2, w3, w4, w5, w6, w7, w8, w9, w10⟩ := w
  have e : ∀ j k : Nat, j ≠ 7 → j ≠ 8 → owe L x y v j k = L j k := fun j k q7 q8 => owe_o q7 q8
  refine ⟨by rw [e 1 0 (by omega) (by omega)]; exact w1, by rw [e 0 4 (by omega) (by omega)]; exact w2, fun p hp => by rw [e 14 p (by omega) (by omega)]; exact w3 p hp, fun p b hp hb q => ?_, fun p q => by rw [e 0 4 (by omega) (by omega)] at q; rw [e 11 p (by omega) (by omega), e 12 p (by omega) (by omega), e 1 0 (by omega) (by omega)]; exact w5 p q, fun p k hp hk q => by rw [e 14 p (by omega) (by omega)] at q; rw [e 13 _ (by omega) (by omega), e 0 4 (by omega) (by omega)]; exact w6 p k hp hk q, fun i hi => by rw [e 15 i (by omega) (by omega)]; exact w7 i hi, w8.cg (fun k => e 13 k (by omega) (by omega)) (fun k => e 14 k (by omega) (by omega)), fun i hi => by rw [e 2 i (by omega) (by omega), e 1 0 (by omega) (by omega)]; exact w9 i hi, fun i j hi hj => by rw [e 2 i (by omega) (by omega), e 2 j (by omega) (by omega)]; exact w10 i j hi hj⟩
  rw [e 0 4 (by omega) (by omega)] at q
  rw [owe_7, if_neg (by omega)]
  exact w4 p b hp hb q
theorem WP.heir {x y : Int} (w : WP L) (hx : 0 ≤ x ∧ x < L 0 4) (hy : 0 ≤ y ∧ y < L 0 4) (hf : fd (fun k => L 13 (3 * x.toNat + k)) y (L 14 x.toNat).toNat = -1) (h3 : L 14 x.toNat < 3) : WP (uph (uph L 13 (3 * x.toNat + (L 14 x.toNat).toNat) y) 14 x.toNat (L 14 x.toNat + 1)) := by
  obtain ⟨w1, w2, w3, w4, w5, w6, w7, w8, w9, w10⟩ := w
  have x3 := w3 x.toNat (by omega)
  generalize hM : uph (uph L 13 (3 * x.toNat + (L 14 x.toNat).toNat) y) 14 x.toNat (L 14 x.toNat + 1) = M
  have e : ∀ j k : Nat, j ≠ 13 → j ≠ 14 → M j k = L j k := fun j k q7 q8 => by rw [← hM, up_ne (by omega), up_ne (by omega)]
  have e14 : ∀ k : Nat, M 14 k = if k = x.toNat then L 14 k + 1 else L 14 k := fun k => by
    rw [← hM, up_rd]
    by_cases z : k = x.toNat
    · rw [if_pos ⟨rfl, z⟩, if_pos z, z]
    · rw [if_neg (by omega), if_neg z, up_ne (by omega)]
  have e13 : ∀ k : Nat, M 13 k = if k = 3 * x.toNat + (L 14 x.toNat).toNat then y else L 13 k := fun k => by
    rw [← hM, up_ne (by omega), up_rd]
    by_cases z : k = 3 * x.toNat + (L 14 x.toNat).toNat
    · rw [if_pos ⟨rfl, z⟩, if_pos z]
    · rw [if_neg (by omega), if_neg z]
  have fm := fd_m _ hf
  refine ⟨by rw [e 1 0 (by omega) (by omega)]; exact w1, by rw [e 0 4 (by omega) (by omega)]; exact w2, fun p hp => ?_, fun p b hp hb q => by rw [e 0 4 (by omega) (by omega)] at q; rw [e 7 _ (by omega) (by omega)]; exact w4 p b hp hb q, fun p q => by rw [e 0 4 (by omega) (by omega)] at q; rw [e 11 p (by omega) (by omega), e 12 p (by omega) (by omega), e 1 0 (by omega) (by omega)]; exact w5 p q, fun p k hp hk q => ?_, fun i hi => by rw [e 15 i (by omega) (by omega)]; exact w7 i hi, fun p j k hp hj hk => ?_, fun i hi => by rw [e 2 i (by omega) (by omega), e 1 0 (by omega) (by omega)]; exact w9 i hi, fun i j hi hj => by rw [e 2 i (by omega) (by omega), e 2 j (by omega) (by omega)]; exact w10 i j hi hj⟩
  · rw [e14]
    have := w3 p hp
    by_cases z : p = x.toNat
    · rw [if_pos z, z]; omega
    · rw [if_neg z]; exact this
  · rw [e14] at q
    rw [e13, e 0 4 (by omega) (by omega)]
    by_cases z : 3 * p + k = 3 * x.toNat + (L 14 x.toNat).toNat
    · rw [if_pos z]; exact hy
    · rw [if_neg z]
      by_cases z2 : p = x.toNat
      · rw [if_pos z2] at q
        exact w6 p k hp hk (by rw [z2] at q ⊢; omega)
      · rw [if_neg z2] at q
        exact w6 p k hp hk q
  · rw [e14] at hk
    have p3 := w3 p hp
    unfold hrL
    rw [e13, e13]
    by_cases z2 : p = x.toNat
    · rw [if_pos z2] at hk
      rw [z2] at hk ⊢
      by_cases z : k = (L 14 x.toNat).toNat
      · rw [if_pos (show 3 * x.toNat + k = 3 * x.toNat + (L 14 x.toNat).toNat by omega), if_neg (by omega)]
        have a := fm j (by omega)
        have b := w6 x.toNat j (by omega) (by omega) (by omega)
        have a : L 13 (3 * x.toNat + j) ≠ y := a
        omega
      · rw [if_neg (by omega), if_neg (by omega)]
        exact w8 x.toNat j k (by omega) hj (by omega)
    · rw [if_neg z2] at hk
      rw [if_neg (by omega), if_neg (by omega)]
      exact w8 p j k hp hj hk
end OPS
theorem part_P {T : TX} {s : Nat} {L : PH} (w : WP L) : PP (pPart T s L) := by
  have w1 := w.1
  have w2 := w.2.1
  unfold pPart
  refine PP.ite (fun _ => ?_) (fun _ => PP.ite (fun _ => ?_) (fun _ => PP.ite (fun _ => ?_) (fun _ => PP.ite (fun _ => ?_) (fun _ => PP.ite (fun _ => ?_) (fun _ => PP.bd)))))
  · unfold pHouse
    refine PP.ite (fun _ => PP.bd) (fun h => PP.nw (PP.sm ?_))
    split
    · exact w.house (by omega) (fun j k q1 q2 => by rw [up_ne (by omega), up_ne (by omega), up_ne (by omega)]) (by rw [up_ne (by omega), up_rd, if_pos ⟨rfl, rfl⟩])
    · exact w.house (by omega) (fun j k q1 q2 => by rw [up_ne (by omega), up_ne (by omega)]) (by rw [up_rd, if_pos ⟨rfl, rfl⟩])
  · unfold pDoor
    refine PP.ite (fun _ => PP.bd) (fun h1 => PP.ite (fun _ => PP.bd) (fun h2 => PP.ite (fun _ => PP.bd) (fun h3 => PP.sm ?_)))
    exact w.hg (ho_p w1.1 h1) (ho_p w1.1 h2) h3
  · unfold pPerson
    refine PP.ite (fun _ => PP.bd) (fun h => PP.nw (PP.ite (fun _ => PP.ite (fun _ => PP.bd) (fun h2 => ?_)) (fun _ => PP.bd)))
    have hx := ho_p w1.1 h2
    unfold pPers2
    generalize ho T L (nt T (nt T (nt T s))) = x at hx
    generalize wc T (nt T s) = y
    refine PP.sm (w.pers (x := x) (by omega) hx (fun j k q0 q10 q11 q12 => by rw [up_ne (by omega), up_ne (by omega), up_ne (by omega), up_ne (by omega), up_ne (by omega), up_ne (by omega), up_ne (by omega)]) (by rw [up_rd, if_pos ⟨rfl, rfl⟩, up_ne (by omega)]) (fun k => ?_) (fun k => ?_))
    · rw [up_ne (by omega), up_ne (by omega), up_ne (by omega), up_ne (by omega), up_ne (by omega), up_rd, up_ne (show ¬ (0 = 10 ∧ _) by omega)]
      by_cases z : k = (L 0 4).toNat
      · rw [if_pos ⟨rfl, z⟩, if_pos z]
      · rw [if_neg (by omega), if_neg z, up_ne (by omega)]
    · rw [up_ne (by omega), up_ne (by omega), up_ne (by omega), up_ne (by omega), up_rd, up_ne (show ¬ (0 = 10 ∧ _) by omega)]
      by_cases z : k = (L 0 4).toNat
      · rw [if_pos ⟨rfl, z⟩, if_pos z]
      · rw [if_neg (by omega), if_neg z, up_ne (by omega), up_ne (by omega)]
  · unfold pOwes pTwo
    refine PP.ite (fun _ => PP.bd) (fun h1 => PP.ite (fun _ => PP.bd) (fun h2 => PP.ite (fun _ => PP.bd) (fun h3 => PP.ite (fun _ => PP.ite (fun _ => PP.sm ?_) (fun _ => PP.bd)) (fun _ => PP.bd))))
    exact w.ow (pe_p w2.1 h1) (pe_p w2.1 h2) (fun z => h3 z.symm)
  · unfold pHeir pTwo
    refine PP.ite (fun _ => PP.bd) (fun h1 => PP.ite (fun _ => PP.bd) (fun h2 => PP.ite (fun _ => PP.bd) (fun h3 => PP.ite (fun _ => PP.bd) (fun h4 => PP.ite (fun _ => PP.bd) (fun h5 => PP.sm ?_)))))
    exact w.heir (pe_p w2.1 h1) (pe_p w2.1 h2) (Classical.not_not.mp h4) (by omega)
theorem pl_P {T : TX} : ∀ (f s : Nat) (L : PH), WP L → PP (pl T f s L)
  | 0, s, L, w => fun q h => by cases h; exact w
  | f + 1, s, L, w => by
    show PP (if kd T s = 0 then Sum.inr (s, L) else (match pPart T s L with
      | .inl q => .inl q
      | .inr q => pl T f q.1 q.2))
    refine PP.ite (fun _ q h => by cases h; exact w) (fun _ => ?_)
    have pp := part_P (T := T) (s := s) w
    generalize pPart T s L = r at pp
    match r, pp with
    | .inl q, pp => exact fun q h => by cases h
    | .inr q, pp => exact pl_P f q.1 q.2 (pp q rfl)
theorem WP.cl (L : PH) : WP (clr L) := by
  have z : ∀ j k : Nat, j = 0 ∨ j = 1 ∨ j = 2 ∨ j = 7 ∨ j = 8 ∨ j = 14 ∨ j = 15 → clr L j k = 0 := fun j k q => if_pos q
  refine ⟨by rw [z _ _ (by omega)]; omega, by rw [z _ _ (by omega)]; omega, fun p hp => by rw [z _ _ (by omega)]; omega, fun p b hp hb q => z _ _ (by omega), fun p q => ?_, fun p k hp hk q => ?_, fun i hi => by rw [z _ _ (by omega)]; omega, fun p j k hp hj hk => ?_, fun i hi => by rw [z _ _ (by omega)]; exact SB.z _, fun i j hi hj => ?_⟩
  · rw [z _ _ (by omega)] at q; omega
  · rw [z _ _ (by omega)] at q; omega
  · rw [z _ _ (by omega)] at hk; omega
  · rw [z 2 i (by omega), z 2 j (by omega), bB_0 (by omega), bB_0 (by omega)]
/-- with the table it is all that holds -/
theorem WP.w10 {L M : PH} (w : WP L) (hW : WL L) (hT : TBL M) (e : ∀ j k : Nat, j ≠ 3 → j ≠ 4 → M j k = L j k) : W10 M := by
  obtain ⟨w1, w2, w3, w4, w5, w6, w7, w8, w9, w10⟩ := w
  have e04 := e 0 4 (by omega) (by omega)
  have e10 := e 1 0 (by omega) (by omega)
  refine ⟨⟨hW.kp (fun j k q => e j k (by omega) (by omega)) (by rw [e10]; exact w1) (by rw [e04]; exact w2) (hW.s.kp (fun j k q => e j k (by omega) (by omega))), fun p b hp hb q => ?_, fun p q => ?_, hT, fun p k hp hk q => ?_, fun i hi => by rw [e 15 i (by omega) (by omega)]; exact w7 i hi⟩, w8.cg (fun k => e 13 k (by omega) (by omega)) (fun k => e 14 k (by omega) (by omega)), fun p hp => ?_, fun i hi => by rw [e 2 i (by omega) (by omega), e10]; exact w9 i hi, fun i j hi hj => by rw [e 2 i (by omega) (by omega), e 2 j (by omega) (by omega)]; exact w10 i j hi hj, fun p b hp hb q => ?_⟩
  · rw [e04] at q
    rw [e 7 _ (by omega) (by omega)]; exact w4 p b hp hb (Or.inr (Or.inr q))
  · rw [e04] at q
    rw [e 11 p (by omega) (by omega), e 12 p (by omega) (by omega), e10]; exact w5 p q
  · rw [e 14 p (by omega) (by omega)] at q
    rw [e 13 _ (by omega) (by omega), e04]; exact w6 p k hp hk q
  · rw [e 7 _ (by omega) (by omega)]; exact w4 p p hp hp (Or.inl rfl)
  · rw [e04] at q
    rw [e 7 _ (by omega) (by omega)]; exact w4 p b hp hb (Or.inr (Or.inl q))
end
section
/-! 45z.8k.table -/
/-! the class: a LAND that is read has its table -/
set_option maxRecDepth 10000 in
theorem v_X5_around27 {sl : Nat} {si : Nat → Int} {K : Nat → PH → ZL → List ZV → Prop} {Q : PH → List ZV → Prop} {h : PH} {s : Int} (H : K 4 h [(3, (0, 0)), (2, (0, 0)), (0, (2, 28)), (1, (0, s))] []) : vc (zz sl si (7, 0)) (fun p => Nat.beq p 4) K Q mX5_around 6 0 mX5_around.2.2.2.2.2.2 h [(0, (2, 28)), (1, (0, s))] [] := H
set_option maxRecDepth 10000 in
theorem v_X5_around27_4 {sl : Nat} {si : Nat → Int} {K : Nat → PH → ZL → List ZV → Prop} {Q : PH → List ZV → Prop} {h : PH} {s : Int} {v k : Int} (H : R32 (h 28 0) → ((h 28 0) ≤ k → Q h [(0, v)]) ∧ (¬ ((h 28 0) ≤ k) → ((zand (zshr s k) 1) ≠ 1 → K 4 h [(3, (0, w32 (k + 1))), (0, (2, 28)), (1, (0, s)), (2, (0, v))] []) ∧ (¬ ((zand (zshr s k) 1) ≠ 1) → 0 ≤ k ∧ k < (7 : Nat) → R32 (h 29 k.toNat) → K 4 h [(3, (0, w32 (k + 1))), (2, (0, zor v (h 29 k.toNat))), (0, (2, 28)), (1, (0, s))] []))) : vc (zz sl si (7, 0)) (fun p => Nat.beq p 4) K Q mX5_around 22 4 (ax_jmp mX5_around.2.2.2.2.2.2 4) h [(0, (2, 28)), (1, (0, s)), (2, (0, v)), (3, (0, k))] [] := H
set_option maxHeartbeats 600000 in
theorem c_X5_around27 {sl : Nat} {si : Nat → Int} {h h' : PH} {s : Int} {v : Int} (hn : 0 ≤ h 28 0 ∧ h 28 0 ≤ 7) (hc : CP (zz sl si (7, 0)) mX5_around h [(2, 28), (0, s)] h' [(0, v)]) : h' = h ∧ v = arC h 29 s (h 28 0).toNat := by
  have q : (fun (xh : PH) (r : List ZV) => ∀ v : Int, r = [(0, v)] → (xh = h ∧ v = arC h 29 s (h 28 0).toNat)) h' [(0, v)] := by
    refine cp_vc (cut := (fun p => Nat.beq p 4)) (K := fun p hx lv st => (p = 4 ∧ lK (fun u : Nat => [(0, (2, 28)), (1, (0, s)), (2, (0, arC h 29 s u)), (3, (0, (u : Int)))]) (fun u hx => (u : Int) ≤ h 28 0 ∧ hx = h) p hx lv st)) (Q := fun (xh : PH) (r : List ZV) => ∀ v : Int, r = [(0, v)] → (xh = h ∧ v = arC h 29 s (h 28 0).toNat)) (v_X5_around27 ?_) (fun pc hx lv st hcut hK => ?_) hc
    · exact (by exact ⟨rfl, rfl, 0, ⟨by omega, rfl⟩, rfl, rfl, rfl, rfl, trivial⟩)
    · rcases hK with ⟨rfl, rfl, u, hJ, hs⟩
      · obtain ⟨j1, j2⟩ := hJ
        subst j2
        exact ⟨_, _, hs, v_X5_around27_4 (fun r1 => ⟨fun c2 => (by intro v e; cases e; have eu : (hx 28 0).toNat = u := (by omega); exact ⟨rfl, by rw [eu]⟩), fun c2 => ⟨fun c3 => (by have e : arC hx 29 s (u + 1) = arC hx 29 s u := if_neg c3; exact ⟨rfl, rfl, u + 1, ⟨by omega, rfl⟩, rfl, rfl, (by rw [e]; rfl), wv (by omega) (by omega) (by omega), trivial⟩), fun c3 => (fun b4 r5 => (by have e : arC hx 29 s (u + 1) = zor (arC hx 29 s u) (hx 29 u) := if_pos (Classical.not_not.mp c3); rw [Int.toNat_natCast]; exact ⟨rfl, rfl, u + 1, ⟨by omega, rfl⟩, rfl, rfl, (by rw [e]; rfl), wv (by omega) (by omega) (by omega), trivial⟩))⟩⟩)⟩
  exact q v rfl
set_option maxRecDepth 10000 in
theorem v_X5_measureL27 {sl : Nat} {si : Nat → Int} {K : Nat → PH → ZL → List ZV → Prop} {Q : PH → List ZV → Prop} {h : PH} {a : Int} (H : K 9 h [(4, (0, 0)), (3, (0, zshl 1 a)), (2, (0, zshl 1 a)), (0, (2, 28)), (1, (0, a))] []) : vc (zz sl si (7, 0)) (fun p => Nat.beq p 9 || Nat.beq p 40 || Nat.beq p 52) K Q mX5_measureFrom 10 0 mX5_measureFrom.2.2.2.2.2.2 h [(0, (2, 28)), (1, (0, a))] [] := H
set_option maxRecDepth 10000 in
theorem v_X5_measureL27_9 {sl : Nat} {si : Nat → Int} {K : Nat → PH → ZL → List ZV → Prop} {Q : PH → List ZV → Prop} {h : PH} {a : Int} {e s k : Int} (H : R32 (h 28 0) → ((h 28 0) ≤ k → K 40 h [(4, (0, 0)), (0, (2, 28)), (1, (0, a)), (2, (0, e)), (3, (0, s))] []) ∧ (¬ ((h 28 0) ≤ k) → 0 ≤ w32 ((w32 (a * 7)) + k) ∧ w32 ((w32 (a * 7)) + k) < (49 : Nat) → K 9 (uph h 30 (w32 ((w32 (a * 7)) + k)).toNat (-1)) [(4, (0, w32 (k + 1))), (0, (2, 28)), (1, (0, a)), (2, (0, e)), (3, (0, s))] [])) : vc (zz sl si (7, 0)) (fun p => Nat.beq p 9 || Nat.beq p 40 || Nat.beq p 52) K Q mX5_measureFrom 17 9 (ax_jmp mX5_measureFrom.2.2.2.2.2.2 9) h [(0, (2, 28)), (1, (0, a)), (2, (0, e)), (3, (0, s)), (4, (0, k))] [] := H
set_option maxRecDepth 10000 in
theorem v_X5_measureL27_40 {sl : Nat} {si : Nat → Int} {K : Nat → PH → ZL → List ZV → Prop} {Q : PH → List ZV → Prop} {h : PH} {a : Int} {e s k : Int} (H : R32 (h 28 0) → ((h 28 0) ≤ k → Q h []) ∧ (¬ ((h 28 0) ≤ k) → K 52 h [(5, (0, 0)), (0, (2, 28)), (1, (0, a)), (2, (0, e)), (3, (0, s)), (4, (0, k))] [])) : vc (zz sl si (7, 0)) (fun p => Nat.beq p 9 || Nat.beq p 40 || Nat.beq p 52) K Q mX5_measureFrom 8 40 (ax_jmp mX5_measureFrom.2.2.2.2.2.2 40) h [(0, (2, 28)), (1, (0, a)), (2, (0, e)), (3, (0, s)), (4, (0, k))] [] := H
set_option maxRecDepth 10000 in
theorem v_X5_measureL27_52 {sl : Nat} {si : Nat → Int} {K : Nat → PH → ZL → List ZV → Prop} {Q : PH → List ZV → Prop} {h : PH} {a : Int} {e s k m : Int} (H : R32 (h 28 0) → ((h 28 0) ≤ m → ∀ h1 v1, CP (zz sl si (7, 0)) mX5_around h [(2, 28), (0, e)] h1 [(0, v1)] → R32 v1 → R32 (h1 28 1) → K 40 h1 [(4, (0, w32 (k + 1))), (3, (0, zor s (zand (zand v1 (zxor s (-1))) (zxor (h1 28 1) (-1))))), (2, (0, zand (zand v1 (zxor s (-1))) (zxor (h1 28 1) (-1)))), (0, (2, 28)), (1, (0, a)), (5, (0, m))] []) ∧ (¬ ((h 28 0) ≤ m) → ∀ h2 v2, CP (zz sl si (7, 0)) mX11_has h [(0, e), (0, m)] h2 [(0, v2)] → v2 = 0 ∨ v2 = 1 → (v2 = 0 → K 52 h2 [(5, (0, w32 (m + 1))), (0, (2, 28)), (1, (0, a)), (2, (0, e)), (3, (0, s)), (4, (0, k))] []) ∧ (¬ (v2 = 0) → 0 ≤ w32 ((w32 (a * 7)) + m) ∧ w32 ((w32 (a * 7)) + m) < (49 : Nat) → K 52 (uph h2 30 (w32 ((w32 (a * 7)) + m)).toNat k) [(5, (0, w32 (m + 1))), (0, (2, 28)), (1, (0, a)), (2, (0, e)), (3, (0, s)), (4, (0, k))] []))) : vc (zz sl si (7, 0)) (fun p => Nat.beq p 9 || Nat.beq p 40 || Nat.beq p 52) K Q mX5_measureFrom 25 52 (ax_jmp mX5_measureFrom.2.2.2.2.2.2 52) h [(0, (2, 28)), (1, (0, a)), (2, (0, e)), (3, (0, s)), (4, (0, k)), (5, (0, m))] [] := H
set_option maxHeartbeats 600000 in
theorem c_X5_measureL27 {sl : Nat} {si : Nat → Int} {h h' : PH} {a : Int} (hn : 0 ≤ h 28 0 ∧ h 28 0 ≤ 7) (ha : 0 ≤ a ∧ a < h 28 0) (hc : CP (zz sl si (7, 0)) mX5_measureFrom h [(2, 28), (0, a)] h' []) : (∀ t : Nat, (t : Int) < h 28 0 → h' 30 (7 * a.toNat + t) = leC h 28 29 a t (h 28 0).toNat) ∧ (∀ c k : Nat, ¬ (c = 30 ∧ 7 * a.toNat ≤ k ∧ k < 7 * a.toNat + 7) → h' c k = h c k) := by
  have q : (fun (xh : PH) (r : List ZV) => (∀ t : Nat, (t : Int) < h 28 0 → xh 30 (7 * a.toNat + t) = leC h 28 29 a t (h 28 0).toNat) ∧ (∀ c k : Nat, ¬ (c = 30 ∧ 7 * a.toNat ≤ k ∧ k < 7 * a.toNat + 7) → xh c k = h c k)) h' [] := by
    refine cp_vc (cut := (fun p => Nat.beq p 9 || Nat.beq p 40 || Nat.beq p 52)) (K := fun p hx lv st => (p = 9 ∧ lK (fun u : Nat => [(0, (2, 28)), (1, (0, a)), (2, (0, (esC h 28 29 a 0).1)), (3, (0, (esC h 28 29 a 0).2)), (4, (0, (u : Int)))]) (fun u hx => (u : Int) ≤ h 28 0 ∧ (∀ t : Nat, t < u → hx 30 (7 * a.toNat + t) = -1) ∧ (∀ c k : Nat, ¬ (c = 30 ∧ 7 * a.toNat ≤ k ∧ k < 7 * a.toNat + 7) → hx c k = h c k)) p hx lv st) ∨ (p = 40 ∧ lK (fun u : Nat => [(0, (2, 28)), (1, (0, a)), (2, (0, (esC h 28 29 a u).1)), (3, (0, (esC h 28 29 a u).2)), (4, (0, (u : Int)))]) (fun u hx => (u : Int) ≤ h 28 0 ∧ (∀ t : Nat, (t : Int) < h 28 0 → hx 30 (7 * a.toNat + t) = leC h 28 29 a t u) ∧ (∀ c k : Nat, ¬ (c = 30 ∧ 7 * a.toNat ≤ k ∧ k < 7 * a.toNat + 7) → hx c k = h c k)) p hx lv st) ∨ (p = 52 ∧ lN2 (fun u1 u2 : Nat => [(0, (2, 28)), (1, (0, a)), (2, (0, (esC h 28 29 a u1).1)), (3, (0, (esC h 28 29 a u1).2)), (4, (0, (u1 : Int))), (5, (0, (u2 : Int)))]) (fun u1 u2 hx => (u1 : Int) < h 28 0 ∧ (u2 : Int) ≤ h 28 0 ∧ (∀ t : Nat, (t : Int) < h 28 0 → hx 30 (7 * a.toNat + t) = if t < u2 then leC h 28 29 a t (u1 + 1) else leC h 28 29 a t u1) ∧ (∀ c k : Nat, ¬ (c = 30 ∧ 7 * a.toNat ≤ k ∧ k < 7 * a.toNat + 7) → hx c k = h c k)) p hx lv st)) (Q := fun (xh : PH) (r : List ZV) => (∀ t : Nat, (t : Int) < h 28 0 → xh 30 (7 * a.toNat + t) = leC h 28 29 a t (h 28 0).toNat) ∧ (∀ c k : Nat, ¬ (c = 30 ∧ 7 * a.toNat ≤ k ∧ k < 7 * a.toNat + 7) → xh c k = h c k)) (v_X5_measureL27 ?_) (fun pc hx lv st hcut hK => ?_) hc
    · exact (by exact Or.inl ⟨rfl, rfl, 0, ⟨by omega, fun t z => by omega, fun c k z => rfl⟩, rfl, rfl, rfl, rfl, rfl, trivial⟩)
    · rcases hK with ⟨rfl, rfl, u, hJ, hs⟩ | ⟨rfl, rfl, u, hJ, hs⟩ | ⟨rfl, rfl, u1, u2, hJ, hs⟩
      · obtain ⟨j1, j2, j3⟩ := hJ
        have r0 : hx 28 0 = h 28 0 := j3 28 0 (by omega)
        exact ⟨_, _, hs, v_X5_measureL27_9 (fun r1 => ⟨fun c2 => (by rw [r0] at c2; exact Or.inr (Or.inl ⟨rfl, rfl, 0, ⟨by omega, fun t z => j2 t (by omega), j3⟩, rfl, rfl, rfl, rfl, rfl, trivial⟩)), fun c2 => (fun b3 => (by rw [r0] at c2; have ix := ix7 (a := a) (k := u) (by omega) (by omega) (by omega); rw [ix]; exact Or.inl ⟨rfl, rfl, u + 1, ⟨by omega, fun t z => (by (by_cases y : t = u; (rw [y, up_sm]); (rw [up_ne (by omega)]; exact j2 t (by omega)))), fun c k z => by rw [up_ne (by omega)]; exact j3 c k z⟩, rfl, rfl, rfl, rfl, wv (by omega) (by omega) (by omega), trivial⟩))⟩)⟩
      · obtain ⟨j1, j2, j3⟩ := hJ
        have r0 : hx 28 0 = h 28 0 := j3 28 0 (by omega)
        exact ⟨_, _, hs, v_X5_measureL27_40 (fun r1 => ⟨fun c2 => (by rw [r0] at c2; have eu : (h 28 0).toNat = u := (by omega); exact ⟨fun t z => by rw [eu]; exact j2 t z, j3⟩), fun c2 => (by rw [r0] at c2; exact Or.inr (Or.inr ⟨rfl, rfl, u, 0, ⟨by omega, by omega, fun t z => by rw [if_neg (by omega)]; exact j2 t z, j3⟩, rfl, rfl, rfl, rfl, rfl, rfl, trivial⟩))⟩)⟩
      · obtain ⟨j1, j2, j3, j4⟩ := hJ
        have r0 : hx 28 0 = h 28 0 := j4 28 0 (by omega)
        have rr1 : hx 28 1 = h 28 1 := j4 28 1 (by omega)
        exact ⟨_, _, hs, v_X5_measureL27_52 (fun r1 => ⟨fun c2 => (fun h1 v1 p1 q1 => (fun r3 => (by rw [r0] at c2; obtain ⟨t1, w1⟩ := c_X5_around27 (by rw [r0]; exact hn) p1; have t1 := t1.symm; subst t1; rw [r0, arC_c (fun k z => j4 29 k (by omega))] at w1; rw [w1, rr1]; exact Or.inr (Or.inl ⟨rfl, rfl, u1 + 1, ⟨by omega, fun t z => (by (have y := j3 t z; rw [if_pos (by omega)] at y; exact y)), j4⟩, rfl, rfl, rfl, rfl, wv (by omega) (by omega) (by omega), trivial⟩)))), fun c2 => (fun h2 v2 p2 q2 => by obtain ⟨t2, e2⟩ := c_X11_hasB p2; have t2 := t2.symm; subst t2; exact ⟨fun c4 => (by rw [r0] at c2; have nb : ¬ zand (zshr (esC h 28 29 a u1).1 u2) 1 = 1 := (fun z => by have := e2.mpr z; omega); exact Or.inr (Or.inr ⟨rfl, rfl, u1, u2 + 1, ⟨by omega, by omega, fun t z => (by (have y := j3 t z; by_cases e : t = u2; (rw [if_neg (by omega)] at y; rw [if_pos (by omega), y, e]; exact (if_neg nb).symm); (by_cases e3 : t < u2; (rw [if_pos e3] at y; rw [if_pos (by omega)]; exact y); (rw [if_neg e3] at y; rw [if_neg (by omega)]; exact y)))), j4⟩, rfl, rfl, rfl, rfl, rfl, wv (by omega) (by omega) (by omega), trivial⟩)), fun c4 => (fun b5 => (by rw [r0] at c2; have nb : zand (zshr (esC h 28 29 a u1).1 u2) 1 = 1 := e2.mp (by omega); have ix := ix7 (a := a) (k := u2) (by omega) (by omega) (by omega); rw [ix]; exact Or.inr (Or.inr ⟨rfl, rfl, u1, u2 + 1, ⟨by omega, by omega, fun t z => (by (by_cases e : t = u2; (rw [if_pos (by omega), e, up_sm]; exact (if_pos nb).symm); (rw [up_ne (by omega)]; have y := j3 t z; by_cases e3 : t < u2; (rw [if_pos e3] at y; rw [if_pos (by omega)]; exact y); (rw [if_neg e3] at y; rw [if_neg (by omega)]; exact y)))), fun c k z => by rw [up_ne (by omega)]; exact j4 c k z⟩, rfl, rfl, rfl, rfl, rfl, wv (by omega) (by omega) (by omega), trivial⟩)))⟩)⟩)⟩
  exact q
set_option maxRecDepth 10000 in
theorem v_X5_distance27 {sl : Nat} {si : Nat → Int} {K : Nat → PH → ZL → List ZV → Prop} {Q : PH → List ZV → Prop} {h : PH} {a b : Int} (H : 0 ≤ w32 ((w32 (a * 7)) + b) ∧ w32 ((w32 (a * 7)) + b) < (49 : Nat) → R32 (h 30 (w32 ((w32 (a * 7)) + b)).toNat) → Q h [(0, (h 30 (w32 ((w32 (a * 7)) + b)).toNat))]) : vc (zz sl si (7, 0)) (fun _ => false) K Q mX5_distance 11 0 mX5_distance.2.2.2.2.2.2 h [(0, (2, 28)), (1, (0, a)), (2, (0, b))] [] := H
set_option maxHeartbeats 600000 in
theorem c_X5_distance27 {sl : Nat} {si : Nat → Int} {h h' : PH} {a b : Int} {v : Int} (ha : 0 ≤ a ∧ a ≤ 6) (hb : 0 ≤ b ∧ b ≤ 6) (hc : CP (zz sl si (7, 0)) mX5_distance h [(2, 28), (0, a), (0, b)] h' [(0, v)]) : h' = h ∧ v = h 30 (7 * a.toNat + b.toNat) := by
  have q : (fun (xh : PH) (r : List ZV) => ∀ v : Int, r = [(0, v)] → (xh = h ∧ v = h 30 (7 * a.toNat + b.toNat))) h' [(0, v)] := by
    refine cp_vc (cut := (fun _ => false)) (K := fun p hx lv st => False) (Q := fun (xh : PH) (r : List ZV) => ∀ v : Int, r = [(0, v)] → (xh = h ∧ v = h 30 (7 * a.toNat + b.toNat))) (v_X5_distance27 ?_) (fun pc hx lv st hcut hK => ?_) hc
    · exact (fun b1 r2 => (by intro v e; cases e; have ix := ix7 (a := a) (k := b.toNat) (by omega) (by omega) (by omega); rw [show ((b.toNat : Nat) : Int) = b by omega] at ix; rw [ix]; exact ⟨rfl, rfl⟩))
    · exact hK.elim
  exact q v rfl
set_option maxRecDepth 10000 in
theorem v_X5_leastNext27 {sl : Nat} {si : Nat → Int} {K : Nat → PH → ZL → List ZV → Prop} {Q : PH → List ZV → Prop} {h : PH} {a b : Int} (H : ∀ h1 v1, CP (zz sl si (7, 0)) mX5_distance h [(2, 28), (0, a), (0, b)] h1 [(0, v1)] → R32 v1 → K 10 h1 [(4, (0, 0)), (3, (0, v1)), (0, (2, 28)), (1, (0, a)), (2, (0, b))] []) : vc (zz sl si (7, 0)) (fun p => Nat.beq p 10) K Q mX5_leastNext 9 0 mX5_leastNext.2.2.2.2.2.2 h [(0, (2, 28)), (1, (0, a)), (2, (0, b))] [] := H
set_option maxRecDepth 10000 in
theorem v_X5_leastNext27_10 {sl : Nat} {si : Nat → Int} {K : Nat → PH → ZL → List ZV → Prop} {Q : PH → List ZV → Prop} {h : PH} {a b : Int} {w k : Int} (H : R32 (h 28 0) → ((h 28 0) ≤ k → Q h [(0, a)]) ∧ (¬ ((h 28 0) ≤ k) → (w ≤ 0 → Q h [(0, a)]) ∧ (¬ (w ≤ 0) → 0 ≤ a ∧ a < (7 : Nat) → R32 (h 29 a.toNat) → R32 (h 28 1) → ∀ h1 v1, CP (zz sl si (7, 0)) mX11_has h [(0, zand (h 29 a.toNat) (zxor (h 28 1) (-1))), (0, k)] h1 [(0, v1)] → v1 = 0 ∨ v1 = 1 → (v1 = 0 → K 10 h1 [(4, (0, w32 (k + 1))), (0, (2, 28)), (1, (0, a)), (2, (0, b)), (3, (0, w))] []) ∧ (¬ (v1 = 0) → ∀ h2 v2, CP (zz sl si (7, 0)) mX5_distance h1 [(2, 28), (0, k), (0, b)] h2 [(0, v2)] → R32 v2 → (v2 ≠ (w32 (w - 1)) → K 10 h2 [(4, (0, w32 (k + 1))), (0, (2, 28)), (1, (0, a)), (2, (0, b)), (3, (0, w))] []) ∧ (¬ (v2 ≠ (w32 (w - 1))) → Q h2 [(0, k)]))))) : vc (zz sl si (7, 0)) (fun p => Nat.beq p 10) K Q mX5_leastNext 30 10 (ax_jmp mX5_leastNext.2.2.2.2.2.2 10) h [(0, (2, 28)), (1, (0, a)), (2, (0, b)), (3, (0, w)), (4, (0, k))] [] := H
set_option maxHeartbeats 600000 in
theorem c_X5_leastNext27 {sl : Nat} {si : Nat → Int} {h h' : PH} {a b : Int} {v : Int} (hn : 0 ≤ h 28 0 ∧ h 28 0 ≤ 7) (ha : 0 ≤ a ∧ a ≤ 6) (hb : 0 ≤ b ∧ b ≤ 6) (hl : -1 ≤ h 30 (7 * a.toNat + b.toNat) ∧ h 30 (7 * a.toNat + b.toNat) ≤ 7) (hc : CP (zz sl si (7, 0)) mX5_leastNext h [(2, 28), (0, a), (0, b)] h' [(0, v)]) : h' = h ∧ v = nxC h 28 29 30 a.toNat b.toNat := by
  have q : (fun (xh : PH) (r : List ZV) => ∀ v : Int, r = [(0, v)] → (xh = h ∧ v = nxC h 28 29 30 a.toNat b.toNat)) h' [(0, v)] := by
    refine cp_vc (cut := (fun p => Nat.beq p 10)) (K := fun p hx lv st => (p = 10 ∧ lK (fun u : Nat => [(0, (2, 28)), (1, (0, a)), (2, (0, b)), (3, (0, h 30 (7 * a.toNat + b.toNat))), (4, (0, (u : Int)))]) (fun u hx => (u : Int) ≤ h 28 0 ∧ hx = h ∧ lnC h 28 29 30 a.toNat b.toNat u = -1) p hx lv st)) (Q := fun (xh : PH) (r : List ZV) => ∀ v : Int, r = [(0, v)] → (xh = h ∧ v = nxC h 28 29 30 a.toNat b.toNat)) (v_X5_leastNext27 ?_) (fun pc hx lv st hcut hK => ?_) hc
    · exact (fun h1 v1 p1 q1 => (by obtain ⟨t1, w1⟩ := c_X5_distance27 ha hb p1; have t1 := t1.symm; subst t1; exact ⟨rfl, rfl, 0, ⟨by omega, rfl, rfl⟩, rfl, rfl, rfl, (by rw [w1]; rfl), rfl, trivial⟩))
    · rcases hK with ⟨rfl, rfl, u, hJ, hs⟩
      · obtain ⟨j1, j2, j3⟩ := hJ
        subst j2
        have lb := hl
        exact ⟨_, _, hs, v_X5_leastNext27_10 (fun r1 => ⟨fun c2 => (by intro v e; cases e; have eu : (hx 28 0).toNat = u := (by omega); exact ⟨rfl, by unfold nxC; rw [eu, if_pos j3]; omega⟩), fun c2 => ⟨fun c3 => (by intro v e; cases e; have no : ∀ k : Nat, lnC hx 28 29 30 a.toNat b.toNat k = -1 := (fun k => by induction k with | zero => rfl | succ k i => exact (if_neg (fun z => by have := z.2.1; omega)).trans i); exact ⟨rfl, by unfold nxC; rw [if_pos (no _)]; omega⟩), fun c3 => (fun b4 r5 => (fun r6 => (fun h1 v1 p1 q1 => by obtain ⟨t1, e1⟩ := c_X11_hasB p1; have t1 := t1.symm; subst t1; exact ⟨fun c7 => (by have e : lnC hx 28 29 30 a.toNat b.toNat (u + 1) = -1 := (if_neg (fun z => by have := e1.mpr z.2.2.1; omega)).trans j3; exact ⟨rfl, rfl, u + 1, ⟨by omega, rfl, e⟩, rfl, rfl, rfl, rfl, wv (by omega) (by omega) (by omega), trivial⟩), fun c7 => (fun h2 v2 p2 q2 => ⟨fun c8 => (by obtain ⟨t2, w2⟩ := c_X5_distance27 (by omega) hb p2; have t2 := t2.symm; subst t2; rw [w32_id (by omega) (by omega), w2, Int.toNat_natCast] at c8; have e : lnC hx 28 29 30 a.toNat b.toNat (u + 1) = -1 := (if_neg (fun z => c8 z.2.2.2)).trans j3; exact ⟨rfl, rfl, u + 1, ⟨by omega, rfl, e⟩, rfl, rfl, rfl, rfl, wv (by omega) (by omega) (by omega), trivial⟩), fun c8 => (by obtain ⟨t2, w2⟩ := c_X5_distance27 (by omega) hb p2; have t2 := t2.symm; subst t2; rw [w32_id (by omega) (by omega), w2, Int.toNat_natCast] at c8; have y : lnC hx 28 29 30 a.toNat b.toNat (u + 1) = (u : Int) := if_pos ⟨j3, by omega, e1.mp (by omega), Classical.not_not.mp c8⟩; have st : ∀ m : Nat, lnC hx 28 29 30 a.toNat b.toNat (u + 1 + m) = (u : Int) := (fun m => by induction m with | zero => exact y | succ m i => exact (if_neg (fun z => by have := i.symm.trans z.1; omega)).trans i); intro v e; cases e; have em := st ((hx 28 0).toNat - (u + 1)); rw [show u + 1 + ((hx 28 0).toNat - (u + 1)) = (hx 28 0).toNat by omega] at em; exact ⟨rfl, by unfold nxC; rw [em, if_neg (by omega)]⟩)⟩)⟩)))⟩⟩)⟩
  exact q v rfl
set_option maxRecDepth 10000 in
theorem v_X5_survey27F {sl : Nat} {si : Nat → Int} {K : Nat → PH → ZL → List ZV → Prop} {Q : PH → List ZV → Prop} {h : PH} (H : K 2 h [(1, (0, 0)), (0, (2, 28))] []) : vc (zz sl si (7, 0)) (fun p => Nat.beq p 2 || Nat.beq p 23 || Nat.beq p 33) K Q mX5_survey 4 0 mX5_survey.2.2.2.2.2.2 h [(0, (2, 28))] [] := H
set_option maxRecDepth 10000 in
theorem v_X5_survey27F_2 {sl : Nat} {si : Nat → Int} {K : Nat → PH → ZL → List ZV → Prop} {Q : PH → List ZV → Prop} {h : PH} {k : Int} (H : R32 (h 28 0) → ((h 28 0) ≤ k → K 23 h [(1, (0, 0)), (0, (2, 28))] []) ∧ (¬ ((h 28 0) ≤ k) → ∀ h1, CP (zz sl si (7, 0)) mX5_measureFrom h [(2, 28), (0, k)] h1 [] → K 2 h1 [(1, (0, w32 (k + 1))), (0, (2, 28))] [])) : vc (zz sl si (7, 0)) (fun p => Nat.beq p 2 || Nat.beq p 23 || Nat.beq p 33) K Q mX5_survey 11 2 (ax_jmp mX5_survey.2.2.2.2.2.2 2) h [(0, (2, 28)), (1, (0, k))] [] := H
set_option maxRecDepth 10000 in
theorem v_X5_survey27F_23 {sl : Nat} {si : Nat → Int} {K : Nat → PH → ZL → List ZV → Prop} {Q : PH → List ZV → Prop} {h : PH} {k : Int} (H : R32 (h 28 0) → ((h 28 0) ≤ k → Q h []) ∧ (¬ ((h 28 0) ≤ k) → K 33 h [(2, (0, 0)), (0, (2, 28)), (1, (0, k))] [])) : vc (zz sl si (7, 0)) (fun p => Nat.beq p 2 || Nat.beq p 23 || Nat.beq p 33) K Q mX5_survey 8 23 (ax_jmp mX5_survey.2.2.2.2.2.2 23) h [(0, (2, 28)), (1, (0, k))] [] := H
set_option maxRecDepth 10000 in
theorem v_X5_survey27F_33 {sl : Nat} {si : Nat → Int} {K : Nat → PH → ZL → List ZV → Prop} {Q : PH → List ZV → Prop} {h : PH} {k m : Int} (H : R32 (h 28 0) → ((h 28 0) ≤ m → K 23 h [(1, (0, w32 (k + 1))), (0, (2, 28)), (2, (0, m))] []) ∧ (¬ ((h 28 0) ≤ m) → ∀ h1 v1, CP (zz sl si (7, 0)) mX5_leastNext h [(2, 28), (0, k), (0, m)] h1 [(0, v1)] → R32 v1 → 0 ≤ w32 ((w32 (k * 7)) + m) ∧ w32 ((w32 (k * 7)) + m) < (49 : Nat) → K 33 (uph h1 31 (w32 ((w32 (k * 7)) + m)).toNat v1) [(2, (0, w32 (m + 1))), (0, (2, 28)), (1, (0, k))] [])) : vc (zz sl si (7, 0)) (fun p => Nat.beq p 2 || Nat.beq p 23 || Nat.beq p 33) K Q mX5_survey 20 33 (ax_jmp mX5_survey.2.2.2.2.2.2 33) h [(0, (2, 28)), (1, (0, k)), (2, (0, m))] [] := H
set_option maxHeartbeats 600000 in
theorem c_X5_survey27F {sl : Nat} {si : Nat → Int} {h h' : PH} (hn : 0 ≤ h 28 0 ∧ h 28 0 ≤ 7) (hc : CP (zz sl si (7, 0)) mX5_survey h [(2, 28)] h' []) : (∀ f t : Nat, (f : Int) < h 28 0 → (t : Int) < h 28 0 → h' 30 (7 * f + t) = leC h 28 29 (f : Int) t (h 28 0).toNat) ∧ (∀ f t : Nat, (f : Int) < h 28 0 → (t : Int) < h 28 0 → h' 31 (7 * f + t) = nxC h' 28 29 30 f t) ∧ (∀ c k : Nat, ¬ ((c = 30 ∨ c = 31) ∧ k < 49) → h' c k = h c k) := by
  have q : (fun (xh : PH) (r : List ZV) => (∀ f t : Nat, (f : Int) < h 28 0 → (t : Int) < h 28 0 → xh 30 (7 * f + t) = leC h 28 29 (f : Int) t (h 28 0).toNat) ∧ (∀ f t : Nat, (f : Int) < h 28 0 → (t : Int) < h 28 0 → xh 31 (7 * f + t) = nxC xh 28 29 30 f t) ∧ (∀ c k : Nat, ¬ ((c = 30 ∨ c = 31) ∧ k < 49) → xh c k = h c k)) h' [] := by
    refine cp_vc (cut := (fun p => Nat.beq p 2 || Nat.beq p 23 || Nat.beq p 33)) (K := fun p hx lv st => (p = 2 ∧ lK (fun u : Nat => [(0, (2, 28)), (1, (0, (u : Int)))]) (fun u hx => (u : Int) ≤ h 28 0 ∧ (∀ f t : Nat, f < u → (t : Int) < h 28 0 → hx 30 (7 * f + t) = leC h 28 29 (f : Int) t (h 28 0).toNat) ∧ (∀ c k : Nat, ¬ ((c = 30 ∨ c = 31) ∧ k < 49) → hx c k = h c k)) p hx lv st) ∨ (p = 23 ∧ lK (fun u : Nat => [(0, (2, 28)), (1, (0, (u : Int)))]) (fun u hx => (u : Int) ≤ h 28 0 ∧ (∀ f t : Nat, (f : Int) < h 28 0 → (t : Int) < h 28 0 → hx 30 (7 * f + t) = leC h 28 29 (f : Int) t (h 28 0).toNat) ∧ (∀ f t : Nat, f < u → (t : Int) < h 28 0 → hx 31 (7 * f + t) = nxC hx 28 29 30 f t) ∧ (∀ c k : Nat, ¬ ((c = 30 ∨ c = 31) ∧ k < 49) → hx c k = h c k)) p hx lv st) ∨ (p = 33 ∧ lN2 (fun u1 u2 : Nat => [(0, (2, 28)), (1, (0, (u1 : Int))), (2, (0, (u2 : Int)))]) (fun u1 u2 hx => (u1 : Int) < h 28 0 ∧ (u2 : Int) ≤ h 28 0 ∧ (∀ f t : Nat, (f : Int) < h 28 0 → (t : Int) < h 28 0 → hx 30 (7 * f + t) = leC h 28 29 (f : Int) t (h 28 0).toNat) ∧ (∀ f t : Nat, f < u1 → (t : Int) < h 28 0 → hx 31 (7 * f + t) = nxC hx 28 29 30 f t) ∧ (∀ t : Nat, t < u2 → hx 31 (7 * u1 + t) = nxC hx 28 29 30 u1 t) ∧ (∀ c k : Nat, ¬ ((c = 30 ∨ c = 31) ∧ k < 49) → hx c k = h c k)) p hx lv st)) (Q := fun (xh : PH) (r : List ZV) => (∀ f t : Nat, (f : Int) < h 28 0 → (t : Int) < h 28 0 → xh 30 (7 * f + t) = leC h 28 29 (f : Int) t (h 28 0).toNat) ∧ (∀ f t : Nat, (f : Int) < h 28 0 → (t : Int) < h 28 0 → xh 31 (7 * f + t) = nxC xh 28 29 30 f t) ∧ (∀ c k : Nat, ¬ ((c = 30 ∨ c = 31) ∧ k < 49) → xh c k = h c k)) (v_X5_survey27F ?_) (fun pc hx lv st hcut hK => ?_) hc
    · exact (by exact Or.inl ⟨rfl, rfl, 0, ⟨by omega, fun f t z => by omega, fun c k z => rfl⟩, rfl, rfl, trivial⟩)
    · rcases hK with ⟨rfl, rfl, u, hJ, hs⟩ | ⟨rfl, rfl, u, hJ, hs⟩ | ⟨rfl, rfl, u1, u2, hJ, hs⟩
      · obtain ⟨j1, j2, j3⟩ := hJ
        have r0 : hx 28 0 = h 28 0 := j3 28 0 (by omega)
        exact ⟨_, _, hs, v_X5_survey27F_2 (fun r1 => ⟨fun c2 => (by rw [r0] at c2; exact Or.inr (Or.inl ⟨rfl, rfl, 0, ⟨by omega, fun f t z => j2 f t (by omega), fun f t z => by omega, j3⟩, rfl, rfl, trivial⟩)), fun c2 => (fun h1 p1 => (by rw [r0] at c2; obtain ⟨m1, m2⟩ := c_X5_measureL27 (by rw [r0]; exact hn) (by rw [r0]; omega) p1; rw [Int.toNat_natCast, r0] at m1; rw [Int.toNat_natCast] at m2; have CC : ∀ t k : Nat, leC hx 28 29 (u : Int) t k = leC h 28 29 (u : Int) t k := (fun t k => leC_c (r0) (j3 28 1 (by omega)) (by omega) (fun k z => j3 29 k (by omega)) k); exact Or.inl ⟨rfl, rfl, u + 1, ⟨by omega, fun f t z y => (by (by_cases e : f = u; (rw [e, m1 t y]; exact CC t _); (rw [m2 _ _ (by omega)]; exact j2 f t (by omega) y))), fun c k z => by rw [m2 c k (by omega)]; exact j3 c k z⟩, rfl, wv (by omega) (by omega) (by omega), trivial⟩))⟩)⟩
      · obtain ⟨j1, j2, j3, j4⟩ := hJ
        have r0 : hx 28 0 = h 28 0 := j4 28 0 (by omega)
        exact ⟨_, _, hs, v_X5_survey27F_23 (fun r1 => ⟨fun c2 => (by rw [r0] at c2; exact ⟨j2, fun f t z => j3 f t (by omega), j4⟩), fun c2 => (by rw [r0] at c2; exact Or.inr (Or.inr ⟨rfl, rfl, u, 0, ⟨by omega, by omega, j2, j3, fun t z => by omega, j4⟩, rfl, rfl, rfl, trivial⟩))⟩)⟩
      · obtain ⟨j1, j2, j3, j4, j5, j6⟩ := hJ
        have r0 : hx 28 0 = h 28 0 := j6 28 0 (by omega)
        have NC : ∀ (v : Int) (i f t : Nat), nxC (uph hx 31 i v) 28 29 30 f t = nxC hx 28 29 30 f t := fun v i f t => by
          unfold nxC
          rw [lnC_c (up_ne (by omega)) (up_ne (by omega)) (fun k => up_ne (by omega)), up_ne (by omega)]
        exact ⟨_, _, hs, v_X5_survey27F_33 (fun r1 => ⟨fun c2 => (by rw [r0] at c2; exact Or.inr (Or.inl ⟨rfl, rfl, u1 + 1, ⟨by omega, j3, fun f t z y => (by (by_cases e : f = u1; (rw [e]; exact j5 t (by omega)); exact j4 f t (by omega) y)), j6⟩, rfl, wv (by omega) (by omega) (by omega), trivial⟩)), fun c2 => (fun h1 v1 p1 q1 => (fun b3 => (by rw [r0] at c2; obtain ⟨t1, w1⟩ := c_X5_leastNext27 (by rw [r0]; exact hn) (by omega) (by omega) (by rw [Int.toNat_natCast, Int.toNat_natCast, j3 u1 u2 (by omega) (by omega)]; have lb := leC_b (h := h) (r := 28) (d := 29) (a := (u1 : Int)) (t := u2) (h 28 0).toNat; omega) p1; have t1 := t1.symm; subst t1; rw [Int.toNat_natCast, Int.toNat_natCast] at w1; have ix := ix7 (a := (u1 : Int)) (k := u2) (by omega) (by omega) (by omega); rw [Int.toNat_natCast] at ix; rw [ix]; exact Or.inr (Or.inr ⟨rfl, rfl, u1, u2 + 1, ⟨by omega, by omega, fun f t z y => by rw [up_ne (by omega)]; exact j3 f t z y, fun f t z y => by rw [NC, up_ne (by omega)]; exact j4 f t z y, fun t z => (by (rw [NC]; by_cases e : t = u2; (rw [e, up_sm]; exact w1); (rw [up_ne (by omega)]; exact j5 t (by omega)))), fun c k z => by rw [up_ne (by omega)]; exact j6 c k z⟩, rfl, rfl, wv (by omega) (by omega) (by omega), trivial⟩))))⟩)⟩
  exact q
theorem surv27 {sl : Nat} {si : Nat → Int} {h h' L : PH} (hL : CL 27 h L) (hn : 0 ≤ L 1 0 ∧ L 1 0 ≤ 7) (hc : CP (zz sl si (7, 0)) mX5_survey h [(2, 28)] h' []) : (∃ M : PH, CL 27 h' M ∧ TBL M ∧ ∀ j k : Nat, j ≠ 3 → j ≠ 4 → M j k = L j k) ∧ ∀ c k : Nat, c ≠ 30 → c ≠ 31 → h' c k = h c k := by
  have e0 : h 28 0 = L 1 0 := hL 1 0 (il1 (by decide))
  have hn' : 0 ≤ h 28 0 ∧ h 28 0 ≤ 7 := by rw [e0]; exact hn
  obtain ⟨s1, s2, s3⟩ := c_X5_survey27F hn' hc
  have F : ∀ c k : Nat, c ≠ 30 → c ≠ 31 → h' c k = h c k := fun c k y1 y2 => s3 c k (by omega)
  have rd : RDS 28 29 h L := ⟨e0, hL 1 1 (il1 (by decide)), fun i hi => hL 2 i (il2 hi)⟩
  have e0' : h' 28 0 = h 28 0 := F _ _ (by omega) (by omega)
  have rd' : RDS 28 29 h' L := ⟨e0'.trans rd.1, (F _ _ (by omega) (by omega)).trans rd.2.1, fun i hi => (F _ _ (by omega) (by omega)).trans (rd.2.2 i hi)⟩
  have l3 : ∀ f t : Nat, (f : Int) < L 1 0 → (t : Int) < L 1 0 → h' 30 (7 * f + t) = lenW (WLn L f t) := fun f t hf ht => by
    rw [s1 f t (by omega) (by omega), le_W hn' (by omega) (by omega), rd.W hn']
  let M : PH := fun j k => if j = 3 then h' 30 k else if j = 4 then h' 31 k else L j k
  have M3 : ∀ k, M 3 k = h' 30 k := fun k => if_pos rfl
  have M4 : ∀ k, M 4 k = h' 31 k := fun k => (if_neg (by omega)).trans (if_pos rfl)
  have MO : ∀ j k : Nat, j ≠ 3 → j ≠ 4 → M j k = L j k := fun j k q3 q4 => (if_neg q3).trans (if_neg q4)
  have WM : ∀ f t : Nat, WLn M f t = WLn L f t := fun f t => WLn_c (MO 1 0 (by omega) (by omega)) (MO 1 1 (by omega) (by omega)) (fun i => MO 2 i (by omega) (by omega))
  have NM : ∀ f t : Nat, nxT M f t = nxT L f t := fun f t => by
    unfold nxT
    rw [nxS_c (MO 1 0 (by omega) (by omega)) (MO 1 1 (by omega) (by omega)) (fun i => MO 2 i (by omega) (by omega)), MO 1 0 (by omega) (by omega)]
  refine ⟨⟨M, fun j k i => ?_, fun f t hf ht => ?_, MO⟩, F⟩
  · by_cases c3 : j = 3
    · subst c3; rw [M3]
    · by_cases c4 : j = 4
      · subst c4; rw [M4]
      · rw [MO j k c3 c4, F _ _ (by omega) (by omega)]; exact hL j k i
  · rw [MO 1 0 (by omega) (by omega)] at hf ht
    rw [M3, M4, WM, NM]
    refine ⟨l3 f t hf ht, fun y1 y2 => ?_⟩
    rw [s2 f t (by omega) (by omega)]
    exact ln_nx rd' (by rw [e0', e0]; exact hn) (by omega) (by omega) (fun i hi => l3 i t (by omega) ht) y1 y2
/-- the LAND that is read, with its table -/
def RST (h : PH) (r : PR) : Prop := match r with
  | .inl _ => True
  | .inr q => ∃ M : PH, CL 27 h M ∧ TBL M ∧ ∀ j k : Nat, j ≠ 3 → j ≠ 4 → M j k = q.2 j k
theorem RST.mk {T : TX} {h : PH} {r : PR} (z : RES T h r) {sl : Nat} {si : Nat → Int} {h' : PH} (p : CP (zz sl si (7, 0)) mX5_survey h [(2, 28)] h' []) : RST h' r := by
  match r, z with
  | .inl q, z => exact True.intro
  | .inr q, z =>
    have z : h 2 10 = 0 ∧ h 2 11 = -1 ∧ CLx 27 h q.2 ∧ WL q.2 := z
    let L' : PH := fun j k => if j = 3 then h 30 k else if j = 4 then h 31 k else q.2 j k
    have LO : ∀ j k : Nat, j ≠ 3 → j ≠ 4 → L' j k = q.2 j k := fun j k q3 q4 => (if_neg q3).trans (if_neg q4)
    have c : CL 27 h L' := fun j k i => by
      by_cases c3 : j = 3
      · subst c3; exact (if_pos rfl).symm
      · by_cases c4 : j = 4
        · subst c4; exact ((if_neg (by omega)).trans (if_pos rfl)).symm
        · rw [LO j k c3 c4]; exact z.2.2.1 j k i c3 c4
    obtain ⟨⟨M, m1, m2, m3⟩, -⟩ := surv27 c (by rw [LO 1 0 (by omega) (by omega)]; exact z.2.2.2.1) p
    exact ⟨M, m1, m2, fun j k q3 q4 => (m3 j k q3 q4).trans (LO j k q3 q4)⟩
set_option maxRecDepth 10000 in
theorem v_X2_readAllT {sl : Nat} {si : Nat → Int} {K : Nat → PH → ZL → List ZV → Prop} {Q : PH → List ZV → Prop} {h : PH}   {a : Int} (H : ∀ h1, CP (zz sl si (7, 0)) mX1_clear h [(2, 27)] h1 [] → ∀ h2, CP (zz sl si (7, 0)) mX9_begin h1 [(2, 2), (0, a)] h2 [] → K 17 h2 [(2, (0, 0)), (0, (2, 49)), (1, (0, a))] []) : vc (zz sl si (7, 0)) (fun p => Nat.beq p 17 || Nat.beq p 45) K Q mX2_readAll 11 0 mX2_readAll.2.2.2.2.2.2 h [(0, (2, 49)), (1, (0, a))] [] := H
set_option maxRecDepth 10000 in
theorem v_X2_readAllT_17 {sl : Nat} {si : Nat → Int} {K : Nat → PH → ZL → List ZV → Prop} {Q : PH → List ZV → Prop} {h : PH}   {a : Int} {k : Int} (H : ((900 : Int) ≤ k → K 45 h [(0, (2, 49)), (1, (0, a)), (2, (0, k))] []) ∧ (¬ ((900 : Int) ≤ k) → ∀ h1 v1, CP (zz sl si (7, 0)) mX9_goesOn h [(2, 2)] h1 [(0, v1)] → v1 = 0 ∨ v1 = 1 → (v1 = 0 → K 45 h1 [(0, (2, 49)), (1, (0, a)), (2, (0, k))] []) ∧ (¬ (v1 = 0) → ∀ h2 v2, CP (zz sl si (7, 0)) mX2_readPart h1 [(2, 49)] h2 [(0, v2)] → v2 = 0 ∨ v2 = 1 → K 17 h2 [(2, (0, w32 (k + 1))), (0, (2, 49)), (1, (0, a))] []))) : vc (zz sl si (7, 0)) (fun p => Nat.beq p 17 || Nat.beq p 45) K Q mX2_readAll 14 17 (ax_jmp mX2_readAll.2.2.2.2.2.2 17) h [(0, (2, 49)), (1, (0, a)), (2, (0, k))] [] := H
set_option maxRecDepth 10000 in
theorem v_X2_readAllT_45 {sl : Nat} {si : Nat → Int} {K : Nat → PH → ZL → List ZV → Prop} {Q : PH → List ZV → Prop} {h : PH}    (H : ∀ h1, CP (zz sl si (7, 0)) mX5_survey h [(2, 28)] h1 [] → Q h1 []) : vc (zz sl si (7, 0)) (fun p => Nat.beq p 17 || Nat.beq p 45) K Q mX2_readAll 7 45 (ax_jmp mX2_readAll.2.2.2.2.2.2 45) h [(0, (2, 49))] [] := H
set_option maxHeartbeats 600000 in
theorem c_X2_readAllT {sl : Nat} {si : Nat → Int} {h h' : PH} {T : TX} {L : PH} {a : Int} (hL : CL 27 h L) (hT : TK T) (hn : a = (T.2 : Int)) (hB : ∀ k : Nat, k < T.2 → h 3 k = T.1 k) (hK : ∀ k : Nat, k < 24 → h 4 k = kwt.getD k 0) (hc : CP (zz sl si (7, 0)) mX2_readAll h [(2, 49), (0, a)] h' []) : RST h' (pl T 900 (sk T 0) (clr L)) := by
  have q : (fun (xh : PH) (r : List ZV) => RST xh (pl T 900 (sk T 0) (clr L))) h' [] := by
    refine cp_vc (cut := (fun p => Nat.beq p 17 || Nat.beq p 45)) (K := fun p hx lv st => (p = 17 ∧ lK (fun u : Nat => [(0, (2, 49)), (1, (0, a)), (2, (0, (u : Int)))]) (fun u hx => JR T u hx (pl T 900 (sk T 0) (clr L)) ∧ u ≤ 900 ∧ (∀ c k : Nat, ¬ ((c = 2 ∧ 3 ≤ k ∧ k ≤ 11) ∨ (27 ≤ c ∧ c ≤ 42)) → hx c k = h c k)) p hx lv st) ∨ (p = 45 ∧ lK (fun u : Unit => [(0, (2, 49))]) (fun u hx => RES T hx (pl T 900 (sk T 0) (clr L)) ∧ (∀ c k : Nat, ¬ ((c = 2 ∧ 3 ≤ k ∧ k ≤ 11) ∨ (27 ≤ c ∧ c ≤ 42)) → hx c k = h c k)) p hx lv st)) (Q := fun (xh : PH) (r : List ZV) => RST xh (pl T 900 (sk T 0) (clr L))) (v_X2_readAllT ?_) (fun pc hx lv st hcut hK => ?_) hc
    · exact (fun h1 p1 => (fun h2 p2 => (by obtain ⟨a1, a2⟩ := c_clr hL p1; obtain ⟨b1, b2⟩ := c_X9_begin hT hn (fun k q => by rw [a2 3 k (by omega)]; exact hB k q) (fun k q => by rw [a2 4 k (by omega)]; exact hK k q) p2; exact Or.inl ⟨rfl, rfl, 0, ⟨Or.inl ⟨_, _, b1, a1.fr (fun c k z1 z2 => b2 c k (by omega)), WL.clr0 L, rfl⟩, by omega, fun c k q => by rw [b2 c k (by omega), a2 c k (by omega)]⟩, rfl, rfl, rfl, trivial⟩)))
    · rcases hK with ⟨rfl, rfl, u, hJ, hs⟩ | ⟨rfl, rfl, u, hJ, hs⟩
      · obtain ⟨j1, j2, j3⟩ := hJ
        exact ⟨_, _, hs, v_X2_readAllT_17 ⟨fun c1 => (by exact Or.inr ⟨rfl, rfl, (), ⟨j1.fin (Or.inl (by omega)), j3⟩, rfl, trivial⟩), fun c1 => (fun h1 v1 p1 q1 => by obtain ⟨t1, e1⟩ := c_X9_goesOn p1; have t1 := t1.symm; subst t1; exact ⟨fun c2 => (by exact Or.inr ⟨rfl, rfl, (), ⟨j1.fin (Or.inr (fun z => by have := e1.mpr z; omega)), j3⟩, rfl, trivial⟩), fun c2 => (fun h2 v2 p2 q2 => (by have g := e1.mp (by omega); rcases j1 with ⟨s, L1, hN, hL1, hW, hp⟩ | ⟨q, w1, w2⟩; (obtain ⟨d1, d2⟩ := c_X2_readPart hN hL1 hW p2; exact Or.inl ⟨rfl, rfl, u + 1, ⟨JR.step (by omega) (by rw [← hN.ek]; exact g.2) hp d1, by omega, fun c k q => by rw [d2 c k (by omega)]; exact j3 c k q⟩, rfl, rfl, wv (by omega) (by omega) (by omega), trivial⟩); (exfalso; have := w2.1; have := w2.2.2; omega)))⟩)⟩⟩
      · obtain ⟨j1, j2⟩ := hJ
        exact ⟨_, _, hs, v_X2_readAllT_45 (fun h1 p1 => (by exact RST.mk j1 p1))⟩
  exact q
/-- land() of the class: the LAND with its table -/
def LAT (h' : PH) (v : Int) (r : PR) : Prop := match r with
  | .inl _ => True
  | .inr q => ∃ M : PH, CL 5 h' M ∧ TBL M ∧ ∀ j k : Nat, j ≠ 3 → j ≠ 4 → M j k = q.2 j k
set_option maxRecDepth 10000 in
theorem v_X11_landT {sl : Nat} {si : Nat → Int} {K : Nat → PH → ZL → List ZV → Prop} {Q : PH → List ZV → Prop} {h : PH} {a : Int} (H : R32 (h 2 1) → ∀ h1 v1, CP (zz sl si (7, 0)) mX11_isWithin h [(0, a), (0, (h 2 1))] h1 [(0, v1)] → v1 = 0 ∨ v1 = 1 → (v1 ≠ 0 → ∀ h2, CP (zz sl si (7, 0)) mX2_readAll h1 [(2, 49), (0, a)] h2 [] → R32 (h2 2 10) → ((h2 2 10) = 0 → ∀ h3, CP (zz sl si (7, 0)) mX1_copyFrom (uph h2 2 1 0) [(2, 5), (2, 27)] h3 [] → ∀ h4, CP (zz sl si (7, 0)) mX7_clear h3 [(2, 21)] h4 [] → R32 (h4 5 4) → ∀ h5 v5, CP (zz sl si (7, 0)) mX11_answer h4 [(2, 0), (0, (h4 5 4))] h5 [(0, v5)] → R32 v5 → Q h5 [(0, v5)]) ∧ (¬ ((h2 2 10) = 0) → ∀ h6 v6, CP (zz sl si (7, 0)) mX11_refuse (uph h2 2 1 0) [(2, 0), (0, 9)] h6 [(0, v6)] → R32 v6 → Q h6 [(0, v6)])) ∧ (¬ (v1 ≠ 0) → ∀ h7 v7, CP (zz sl si (7, 0)) mX11_refuse h1 [(2, 0), (0, 1)] h7 [(0, v7)] → R32 v7 → Q h7 [(0, v7)])) : vc (zz sl si (7, 0)) (fun _ => false) K Q mX11_land 34 0 mX11_land.2.2.2.2.2.2 h [(0, (2, 0)), (1, (0, a))] [] := H
set_option maxHeartbeats 600000 in
theorem c_X11_landT {sl : Nat} {si : Nat → Int} {h h' : PH} {a : Int} {v : Int} (hJ : J10 h) (hc : CP (zz sl si (7, 0)) mX11_land h [(2, 0), (0, a)] h' [(0, v)]) : (0 ≤ a ∧ a ≤ h 2 1 → LAT h' v (pl (Tx (fun k => h 3 k) a) 900 (sk (Tx (fun k => h 3 k) a) 0) (clr (fun j k => h (27 + j) k)))) := by
  have RA : ∀ {h2 : PH}, 0 ≤ a ∧ a ≤ h 2 1 → CP (zz sl si (7, 0)) mX2_readAll h [(2, 49), (0, a)] h2 [] → RES (Tx (fun k => h 3 k) a) h2 (pl (Tx (fun k => h 3 k) a) 900 (sk (Tx (fun k => h 3 k) a) 0) (clr (fun j k => h (27 + j) k))) ∧ RST h2 (pl (Tx (fun k => h 3 k) a) 900 (sk (Tx (fun k => h 3 k) a) 0) (clr (fun j k => h (27 + j) k))) := fun {h2} ok p => by
    obtain ⟨ja, jb, jc, jd⟩ := hJ
    exact ⟨(c_X2_readAll (T := (Tx (fun k => h 3 k) a)) (L := fun j k => h (27 + j) k) (fun j k _ => rfl) (Tx_ok (by omega) (fun k hk => (jc k hk).2)) (by show a = ((a.toNat : Nat) : Int); omega) (fun k hk => (Tx_at hk).symm) jd p).1, c_X2_readAllT (T := (Tx (fun k => h 3 k) a)) (L := fun j k => h (27 + j) k) (fun j k _ => rfl) (Tx_ok (by omega) (fun k hk => (jc k hk).2)) (by show a = ((a.toNat : Nat) : Int); omega) (fun k hk => (Tx_at hk).symm) jd p⟩
  have q : (fun (xh : PH) (r : List ZV) => ∀ v : Int, r = [(0, v)] → ((0 ≤ a ∧ a ≤ h 2 1 → LAT xh v (pl (Tx (fun k => h 3 k) a) 900 (sk (Tx (fun k => h 3 k) a) 0) (clr (fun j k => h (27 + j) k)))))) h' [(0, v)] := by
    refine cp_vc (cut := (fun _ => false)) (K := fun p hx lv st => False) (Q := fun (xh : PH) (r : List ZV) => ∀ v : Int, r = [(0, v)] → ((0 ≤ a ∧ a ≤ h 2 1 → LAT xh v (pl (Tx (fun k => h 3 k) a) 900 (sk (Tx (fun k => h 3 k) a) 0) (clr (fun j k => h (27 + j) k)))))) (v_X11_landT ?_) (fun pc hx lv st hcut hK => ?_) hc
    · exact (fun r1 => (fun h1 v1 p1 q1 => by obtain ⟨t1, e1⟩ := c_X11_isWithin p1; have t1 := t1.symm; subst t1; exact ⟨fun c2 => (fun h2 p2 => (fun r3 => ⟨fun c4 => (fun h3 p3 => (fun h4 p4 => by obtain ⟨t4, e4⟩ := c_X7_clear p4; have t4 := t4.symm; subst t4; exact (fun r5 => (fun h5 v5 p5 q5 => by obtain ⟨t5, e5⟩ := c_X11_answer p5; have t5 := t5.symm; subst t5; exact (by intro v e; cases e; intro ok; obtain ⟨d1, d2⟩ := RA ok p2; obtain ⟨f1, f2⟩ := c_X1_copyFrom p3; generalize (pl (Tx (fun k => h 3 k) a) 900 (sk (Tx (fun k => h 3 k) a) 0) (clr (fun j k => h (27 + j) k))) = r at d1 d2; match r, d1, d2 with | .inl q, d1, d2 => exact True.intro | .inr q, d1, d2 => (obtain ⟨M, m1, m2, m3⟩ := d2; exact ⟨M, fun j k hi => (by have := inL_b hi; have z := f1 j k hi; rw [up_ne (by omega)] at z; rw [up_ne (by omega), up_ne (by omega), up_ne (by omega), up_ne (by omega), z]; exact m1 j k hi), m2, m3⟩)))))), fun c4 => (fun h6 v6 p6 q6 => by obtain ⟨t6, e6⟩ := c_X11_refuse p6; have t6 := t6.symm; subst t6; exact (by intro v e; cases e; intro ok; obtain ⟨d1, d2⟩ := RA ok p2; generalize (pl (Tx (fun k => h 3 k) a) 900 (sk (Tx (fun k => h 3 k) a) 0) (clr (fun j k => h (27 + j) k))) = r at d1 d2; match r, d1, d2 with | .inl q, d1, d2 => exact True.intro | .inr q, d1, d2 => exact absurd d1.1 c4))⟩)), fun c2 => (fun h7 v7 p7 q7 => by obtain ⟨t7, e7⟩ := c_X11_refuse p7; have t7 := t7.symm; subst t7; exact (by intro v e; cases e; intro ok; exact absurd (e1.mpr ok) (by omega)))⟩))
    · exact hK.elim
  exact q v rfl
end
section
/-! 45z.8l.land8 -/
/-! land(): the same LAND in both -/
theorem RLd.t {bs nb : Nat} {h L M : PH} (r : RLd bs nb h L) (e : ∀ j k : Nat, j ≠ 3 → j ≠ 4 → M j k = L j k) : RLd bs nb h M := by
  obtain ⟨a, b, c, d, f, g, i⟩ := r
  refine ⟨by rw [e 1 0 (by omega) (by omega), e 0 4 (by omega) (by omega), e 0 12 (by omega) (by omega), e 0 13 (by omega) (by omega)]; exact a, fun i hi => by rw [e 1 1 (by omega) (by omega), e 2 i (by omega) (by omega), e 15 i (by omega) (by omega)]; exact b i hi, fun p hp => by rw [e 0 4 (by omega) (by omega), e 11 p (by omega) (by omega), e 12 p (by omega) (by omega), e 0 7 (by omega) (by omega), e 0 8 (by omega) (by omega), e 0 9 (by omega) (by omega)]; exact c p hp, fun q hq => by rw [e 7 q (by omega) (by omega)]; exact d q hq, fun p hp => ?_, fun i hi => ?_, fun p hp => ?_⟩
  · rw [e 14 p (by omega) (by omega)]
    exact ⟨(f p hp).1, fun k hk q => by rw [e 13 _ (by omega) (by omega)]; exact (f p hp).2 k hk q⟩
  · rw [e 1 0 (by omega) (by omega)] at hi
    rw [e 9 i (by omega) (by omega)]; exact g i hi
  · rw [e 0 4 (by omega) (by omega)] at hp
    rw [e 10 p (by omega) (by omega)]; exact i p hp
section LAND
variable {sl : Nat} {si : Nat → Int} {h h1 h2 : PH} {a v w : Int}
theorem land_8 {L : PH} (hJ : J10 h) (hL : CL 5 h L) (hw : W10 L) (hr : RLd 0 0 h L) (p1 : CP (zz sl si (7, 0)) mX11_land h [(2, 0), (0, a)] h1 [(0, v)]) (p2 : CP (zz sl si (7, 0)) mX12_land h1 [(2, 169), (0, a)] h2 [(0, w)]) : v = w ∧ ((∃ M : PH, CL 5 h2 M ∧ W10 M ∧ RLd 0 0 h2 M ∧ (h2 21 0 = 0 ∧ h2 21 1 = 0 ∧ h2 21 2 = 0) ∧ h2 170 4 = -1) ∨ (CL 5 h2 L ∧ RLd 0 0 h2 L ∧ (∀ c k : Nat, 21 ≤ c → c ≤ 26 → h2 c k = h c k) ∧ ∀ k : Nat, k < 528 → h2 170 k = h 170 k)) ∧ FLC h h1 ∧ FLR h1 h2 := by
  have lt := c_X11_landT hJ p1
  obtain ⟨y1, n1, f1⟩ := c_X11_landF hJ p1
  obtain ⟨ja, jb, jc, jd⟩ := hJ
  have F1 : ∀ c k : Nat, 103 ≤ c → h1 c k = h c k := fun c k q => f1 c k (by omega) (by omega) (by omega) (by omega) (by omega) (by omega)
  obtain ⟨y2, n2, f2⟩ := c_X12_landF (B := fun k => h 3 k) (n := h 2 1) (L := fun j k => h (27 + j) k) (fun k hk => by rw [F1 175 k (by omega)]; exact jc k hk) (by rw [F1 169 10 (by omega)]; exact ja.symm) jb p2
  have F2 : ∀ c k : Nat, c ≤ 168 → h2 c k = h1 c k := fun c k q => f2 c k (by omega) (by omega) (by omega) (by omega) (by omega) (by omega)
  refine ⟨?_, ?_, f1, f2⟩
  · by_cases z : 0 ≤ a ∧ a ≤ h 2 1
    · have z1 := (y1 z).2
      have z2 := (y2 z).2
      generalize pl (Tx (fun k => h 3 k) a) 900 (sk (Tx (fun k => h 3 k) a) 0) (clr (fun j k => h (27 + j) k)) = r at z1 z2
      match r, z1, z2 with
      | .inl q, z1, z2 => exact z1.1.trans z2.1.symm
      | .inr q, z1, z2 => exact z1.1.trans z2.1.symm
    · exact (n1 z).2.trans (n2 z).2.symm
  · by_cases z : 0 ≤ a ∧ a ≤ h 2 1
    · have z0 := lt z
      have z1 := (y1 z).2
      have z2 := (y2 z).2
      have zP := pl_P (T := Tx (fun k => h 3 k) a) 900 (sk (Tx (fun k => h 3 k) a) 0) (clr (fun j k => h (27 + j) k)) (WP.cl _)
      generalize pl (Tx (fun k => h 3 k) a) 900 (sk (Tx (fun k => h 3 k) a) 0) (clr (fun j k => h (27 + j) k)) = r at z0 z1 z2 zP
      match r, z0, z1, z2, zP with
      | .inl q, z0, z1, z2, zP =>
        have z1 : v = -1 ∧ CF h1 q.1 q.2 ∧ h1 0 0 = 9 ∧ ∀ c k : Nat, 5 ≤ c → c ≤ 26 → h1 c k = h c k := z1
        have z2 : w = -1 ∧ h2 169 16 = q.1 ∧ h2 169 17 = (q.2 : Int) ∧ 0 < q.1 ∧ KS h1 h2 := z2
        obtain ⟨s1, s2⟩ := z2.2.2.2.2
        refine Or.inr ⟨hL.fr (fun c k q1 q2 => (F2 c k (by omega)).trans (z1.2.2.2 c k (by omega) (by omega))), hr.fr hw.1.1 (fun k q1 q2 => (s1 k (by omega)).trans (F1 170 k (by omega))) (fun k q1 q2 => (s2 k (by omega)).trans (F1 171 k (by omega))), fun c k q1 q2 => (F2 c k (by omega)).trans (z1.2.2.2 c k (by omega) q2), fun k hk => (s1 k hk).trans (F1 170 k (by omega))⟩
      | .inr q, z0, z1, z2, zP =>
        have z1 : v = q.2 0 4 ∧ (h1 2 10 = 0 ∧ h1 2 11 = -1) ∧ CLx 5 h1 q.2 ∧ WL q.2 ∧ (h1 21 0 = 0 ∧ h1 21 1 = 0 ∧ h1 21 2 = 0) ∧ h1 0 0 = 0 ∧ ∀ j k : Nat, inL j k → h1 (5 + j) k = h1 (27 + j) k := z1
        have z2 : w = q.2 0 4 ∧ h2 169 16 = 0 ∧ h2 169 17 = -1 ∧ RLd 0 0 h2 q.2 ∧ WL q.2 ∧ h2 170 4 = -1 := z2
        obtain ⟨M, m1, m2, m3⟩ := z0
        exact Or.inl ⟨M, m1.fr (fun c k q1 q2 => F2 c k (by omega)), (zP q rfl).w10 z1.2.2.2.1 m2 m3, z2.2.2.2.1.t m3, by rw [F2 21 0 (by omega), F2 21 1 (by omega), F2 21 2 (by omega)]; exact z1.2.2.2.2.1, z2.2.2.2.2.2⟩
    · have z1 := (n1 z).1
      have z2 := (n2 z).1
      refine Or.inr ⟨hL.fr (fun c k q1 q2 => by rw [z2, z1, up_ne (by omega), up_ne (by omega)]), hr.fr hw.1.1 (fun k q1 q2 => by rw [z2, z1, up_ne (by omega), up_ne (by omega)]) (fun k q1 q2 => by rw [z2, z1, up_ne (by omega), up_ne (by omega)]), fun c k q1 q2 => by rw [z2, z1, up_ne (by omega), up_ne (by omega)], fun k hk => by rw [z2, z1, up_ne (by omega), up_ne (by omega)]⟩
end LAND
end
