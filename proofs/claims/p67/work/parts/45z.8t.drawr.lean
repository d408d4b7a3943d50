/-! live(): one of the living, in the reference -/
noncomputable def liS (L : PH) : Nat → Int
  | 0 => 0
  | k + 1 => cif (¬ bB (L 0 7) k = true) (zor (liS L k) (zshl 1 (k : Int))) (liS L k)
theorem li_b {L : PH} : ∀ k : Nat, k ≤ 8 → SB (liS L k) (k : Int) ∧ (∀ x : Nat, x < 8 → (bB (liS L k) x = true ↔ x < k ∧ ¬ bB (L 0 7) x = true)) ∧ bnS (liS L k) = clv L k
  | 0, _ => ⟨SB.z _, fun x hx => by
      show bB 0 x = true ↔ _
      rw [bB_0 (by omega)]
      exact ⟨fun q => Bool.noConfusion q, fun q => absurd q.1 (by omega)⟩, by show bnS 0 = 0; decide⟩
  | k + 1, h => by
    obtain ⟨i1, i2, i3⟩ := li_b (L := L) k (by omega)
    by_cases c : bB (L 0 7) k = true
    · have e : liS L (k + 1) = liS L k := cif_n (fun z => z c)
      have ec : clv L (k + 1) = clv L k := by
        show clv L k + cif _ 1 0 = _
        rw [cif_n (fun z => z c)]; omega
      rw [e, ec]
      refine ⟨i1.mo (by omega), fun x hx => ?_, i3⟩
      rw [i2 x hx]
      constructor
      · rintro ⟨q1, q2⟩; exact ⟨by omega, q2⟩
      · rintro ⟨q1, q2⟩
        by_cases z : x = k
        · subst z; exact absurd c q2
        · exact ⟨by omega, q2⟩
    · have e : liS L (k + 1) = zor (liS L k) (zshl 1 (k : Int)) := cif_p c
      have ec : clv L (k + 1) = clv L k + 1 := by
        show clv L k + cif _ 1 0 = _
        rw [cif_p c]
      have nb : ¬ bB (liS L k) ((k : Int)).toNat = true := fun q => by
        rw [Int.toNat_natCast, i2 k (by omega)] at q
        omega
      obtain ⟨b1, b2, b3⟩ := bn_or i1.1 i1.2.1 (by omega) (by omega) nb
      have sa := (i1.add (by omega) (by omega)).1
      rw [e, ec]
      refine ⟨sa, fun x hx => ?_, by rw [b3, i3]⟩
      rw [b2 x hx, i2 x hx, Int.toNat_natCast]
      constructor
      · rintro (⟨q1, q2⟩ | q)
        · exact ⟨by omega, q2⟩
        · subst q; exact ⟨by omega, c⟩
      · rintro ⟨q1, q2⟩
        by_cases z : x = k
        · exact Or.inr z
        · exact Or.inl ⟨by omega, q2⟩
/-- the least of a set taken away -/
theorem lo_d : ∀ s : Fin 256, (s.val ≠ 0 → bnS (zand (s.val : Int) ((s.val : Int) - 1)) = bnS (s.val : Int) - 1 ∧ 0 ≤ zand (s.val : Int) ((s.val : Int) - 1) ∧ zand (s.val : Int) ((s.val : Int) - 1) < 256) := by decide +kernel
theorem lo_e : ∀ s : Fin 256, ∀ y : Fin 8, (bB (zand (s.val : Int) ((s.val : Int) - 1)) y.val = true ↔ bB (s.val : Int) y.val = true ∧ ∃ x : Fin 8, x.val < y.val ∧ bB (s.val : Int) x.val = true) := by decide +kernel
theorem lo_b {s : Int} (h0 : 0 ≤ s) (h1 : s < 256) (hs : s ≠ 0) : bnS (zand s (s - 1)) = bnS s - 1 ∧ 0 ≤ zand s (s - 1) ∧ zand s (s - 1) < 256 := by
  have z := lo_d ⟨s.toNat, by omega⟩
  dsimp only at z
  rw [Int.toNat_of_nonneg h0] at z
  exact z (by omega)
theorem lo_y {s : Int} (h0 : 0 ≤ s) (h1 : s < 256) {y : Nat} (hy : y < 8) : bB (zand s (s - 1)) y = true ↔ bB s y = true ∧ ∃ x : Nat, x < y ∧ bB s x = true := by
  have z := lo_e ⟨s.toNat, by omega⟩ ⟨y, hy⟩
  dsimp only at z
  rw [Int.toNat_of_nonneg h0] at z
  rw [z]
  exact ⟨fun ⟨q1, x, q2, q3⟩ => ⟨q1, x.val, q2, q3⟩, fun ⟨q1, x, q2, q3⟩ => ⟨q1, ⟨x, by omega⟩, q2, q3⟩⟩
theorem bn_0 : ∀ s : Fin 256, bnS (s.val : Int) = 0 → s.val = 0 := by decide +kernel
/-- one of the living for each number -/
theorem clv_i {L : PH} {j : Int} (hj : 0 ≤ j) : ∀ y : Nat, j < clv L y → ∃ x : Nat, x < y ∧ ¬ bB (L 0 7) x = true ∧ clv L x = j
  | 0, h => absurd h (by show ¬ j < 0; omega)
  | y + 1, h => by
    by_cases c : j < clv L y
    · obtain ⟨x, x1, x2⟩ := clv_i hj y c
      exact ⟨x, by omega, x2⟩
    · have h : j < clv L y + cif (¬ bB (L 0 7) y = true) 1 0 := h
      by_cases d : bB (L 0 7) y = true
      · rw [cif_n (fun z => z d)] at h; omega
      · rw [cif_p d] at h
        exact ⟨y, by omega, d, by omega⟩
theorem clv_mo {L : PH} {x : Nat} : ∀ k : Nat, clv L x ≤ clv L (x + k)
  | 0 => Int.le_refl _
  | k + 1 => by
    have i := clv_mo (L := L) (x := x) k
    show _ ≤ clv L (x + k) + cif (¬ bB (L 0 7) (x + k) = true) 1 0
    by_cases c : bB (L 0 7) (x + k) = true
    · rw [cif_n (fun z => z c)]; omega
    · rw [cif_p c]; omega
theorem clv_lt {L : PH} {x y : Nat} (hx : ¬ bB (L 0 7) x = true) (h : x < y) : clv L x + 1 ≤ clv L y := by
  have m := clv_mo (L := L) (x := x + 1) (y - (x + 1))
  rw [show x + 1 + (y - (x + 1)) = y by omega] at m
  have e : clv L (x + 1) = clv L x + 1 := by
    show clv L x + cif _ 1 0 = _
    rw [cif_p hx]
  omega
/-- those that are left when j are taken away -/
def lfS (L : PH) (s : Int) (j : Int) : Prop := (0 ≤ s ∧ s < 256) ∧ ∀ x : Nat, x < 8 → (bB s x = true ↔ (x : Int) < L 0 4 ∧ ¬ bB (L 0 7) x = true ∧ j ≤ clv L x)
theorem lfS.st {L : PH} {s j : Int} (l : lfS L s j) (hj : 0 ≤ j) (hs : s ≠ 0) : lfS L (zand s (s - 1)) (j + 1) := by
  obtain ⟨⟨s0, s1⟩, l⟩ := l
  obtain ⟨-, b0, b1⟩ := lo_b s0 s1 hs
  refine ⟨⟨b0, b1⟩, fun y hy => ?_⟩
  rw [lo_y s0 s1 hy, l y hy]
  constructor
  · rintro ⟨⟨q1, q2, q3⟩, x, x1, x2⟩
    have z := (l x (by omega)).mp x2
    have := clv_lt z.2.1 x1
    exact ⟨q1, q2, by omega⟩
  · rintro ⟨q1, q2, q3⟩
    obtain ⟨x, x1, x2, x3⟩ := clv_i (L := L) hj y (by omega)
    exact ⟨⟨q1, q2, by omega⟩, x, x1, (l x (by omega)).mpr ⟨by omega, x2, by omega⟩⟩
theorem lfS.p {L : PH} {s j : Int} (l : lfS L s j) (hj : 0 ≤ j) {p : Nat} (hp : p < 8) (h1 : bB s p = true) (h2 : ∀ x, x < p → ¬ bB s x = true) : (p : Int) < L 0 4 ∧ ¬ bB (L 0 7) p = true ∧ clv L p = j := by
  have z := (l.2 p hp).mp h1
  refine ⟨z.1, z.2.1, ?_⟩
  by_cases c : clv L p = j
  · exact c
  · obtain ⟨x, x1, x2, x3⟩ := clv_i (L := L) hj p (by omega)
    exact absurd ((l.2 x (by omega)).mpr ⟨by omega, x2, by omega⟩) (h2 x x1)
theorem clv_u {L : PH} {p q : Nat} (hp : ¬ bB (L 0 7) p = true) (hq : ¬ bB (L 0 7) q = true) (e : clv L p = clv L q) : p = q := by
  by_cases c : p < q
  · have := clv_lt hp c; omega
  · by_cases d : q < p
    · have := clv_lt hq d; omega
    · omega
set_option maxRecDepth 10000 in
theorem v_X12_drawL {sl : Nat} {si : Nat → Int} {K : Nat → PH → ZL → List ZV → Prop} {Q : PH → List ZV → Prop} {h : PH} {a : Int} (H : R32 (h 169 27) → (65536 : Int) ≠ 0 → R32 (zrem (w32 ((w32 ((h 169 27) * 2969)) + 11171)) 65536) → (8 : Int) ≠ 0 → a ≠ 0 → Q (uph h 169 27 (zrem (w32 ((w32 ((h 169 27) * 2969)) + 11171)) 65536)) [(0, zrem (zdiv (zrem (w32 ((w32 ((h 169 27) * 2969)) + 11171)) 65536) 8) a)]) : vc (zz sl si (7, 0)) (fun _ => false) K Q mX12_draw 19 0 mX12_draw.2.2.2.2.2.2 h [(0, (2, 169)), (1, (0, a))] [] := H
set_option maxHeartbeats 600000 in
theorem c_X12_drawL {sl : Nat} {si : Nat → Int} {h h' : PH} {a : Int} {v : Int} (hc : CP (zz sl si (7, 0)) mX12_draw h [(2, 169), (0, a)] h' [(0, v)]) : h' = uph h 169 27 (dwN (h 169 27)) ∧ v = dwI (h 169 27) a := by
  have q : (fun (xh : PH) (r : List ZV) => ∀ v : Int, r = [(0, v)] → (xh = uph h 169 27 (dwN (h 169 27)) ∧ v = dwI (h 169 27) a)) h' [(0, v)] := by
    refine cp_vc (cut := (fun _ => false)) (K := fun p hx lv st => False) (Q := fun (xh : PH) (r : List ZV) => ∀ v : Int, r = [(0, v)] → (xh = uph h 169 27 (dwN (h 169 27)) ∧ v = dwI (h 169 27) a)) (v_X12_drawL ?_) (fun pc hx lv st hcut hK => ?_) hc
    · exact (fun r1 => (fun d2 => (fun r3 => (fun d4 => (fun d5 => (by intro v e; cases e; exact ⟨rfl, rfl⟩))))))
    · exact hK.elim
  exact q v rfl
set_option maxRecDepth 10000 in
theorem v_X12_setOf3 {sl : Nat} {si : Nat → Int} {K : Nat → PH → ZL → List ZV → Prop} {Q : PH → List ZV → Prop} {h : PH}  (H : K 4 h [(3, (0, 0)), (2, (0, 0)), (0, (2, 169)), (1, (0, 3))] []) : vc (zz sl si (7, 0)) (fun p => Nat.beq p 4) K Q mX12_setOf 6 0 mX12_setOf.2.2.2.2.2.2 h [(0, (2, 169)), (1, (0, 3))] [] := H
set_option maxRecDepth 10000 in
theorem v_X12_setOf3_4 {sl : Nat} {si : Nat → Int} {K : Nat → PH → ZL → List ZV → Prop} {Q : PH → List ZV → Prop} {h : PH}  {s k : Int} (H : 0 ≤ (1 : Int) ∧ (1 : Int) < (3696 : Nat) → R32 (h 170 1) → ((h 170 1) ≤ k → Q h [(0, s)]) ∧ (¬ ((h 170 1) ≤ k) → ((3 : Int) ≠ 0 → ((3 : Int) ≠ 1 → ((3 : Int) ≠ 2 → ∀ h1 v1, CP (zz sl si (7, 0)) mX12_isDead h [(2, 169), (0, k)] h1 [(0, v1)] → v1 = 0 ∨ v1 = 1 → (v1 ≠ 0 → K 4 h1 [(3, (0, w32 (k + 1))), (2, (0, zor s 0)), (0, (2, 169)), (1, (0, 3))] []) ∧ (¬ (v1 ≠ 0) → K 4 h1 [(3, (0, w32 (k + 1))), (2, (0, zor s (zshl 1 k))), (0, (2, 169)), (1, (0, 3))] [])) ∧ (¬ ((3 : Int) ≠ 2) → ∀ h2 v2, CP (zz sl si (7, 0)) mX12_personRow h [(0, k)] h2 [(0, v2)] → R32 v2 → 0 ≤ w32 (v2 + 4) ∧ w32 (v2 + 4) < (3696 : Nat) → R32 (h2 170 (w32 (v2 + 4)).toNat) → ((h2 170 (w32 (v2 + 4)).toNat) ≠ 1 → K 4 h2 [(3, (0, w32 (k + 1))), (2, (0, zor s 0)), (0, (2, 169)), (1, (0, 3))] []) ∧ (¬ ((h2 170 (w32 (v2 + 4)).toNat) ≠ 1) → K 4 h2 [(3, (0, w32 (k + 1))), (2, (0, zor s (zshl 1 k))), (0, (2, 169)), (1, (0, 3))] []))) ∧ (¬ ((3 : Int) ≠ 1) → ∀ h3 v3, CP (zz sl si (7, 0)) mX12_isGhost h [(2, 169), (0, k)] h3 [(0, v3)] → v3 = 0 ∨ v3 = 1 → (v3 = 0 → K 4 h3 [(3, (0, w32 (k + 1))), (2, (0, zor s 0)), (0, (2, 169)), (1, (0, 3))] []) ∧ (¬ (v3 = 0) → K 4 h3 [(3, (0, w32 (k + 1))), (2, (0, zor s (zshl 1 k))), (0, (2, 169)), (1, (0, 3))] []))) ∧ (¬ ((3 : Int) ≠ 0) → ∀ h4 v4, CP (zz sl si (7, 0)) mX12_isDead h [(2, 169), (0, k)] h4 [(0, v4)] → v4 = 0 ∨ v4 = 1 → (v4 = 0 → K 4 h4 [(3, (0, w32 (k + 1))), (2, (0, zor s 0)), (0, (2, 169)), (1, (0, 3))] []) ∧ (¬ (v4 = 0) → K 4 h4 [(3, (0, w32 (k + 1))), (2, (0, zor s (zshl 1 k))), (0, (2, 169)), (1, (0, 3))] [])))) : vc (zz sl si (7, 0)) (fun p => Nat.beq p 4) K Q mX12_setOf 35 4 (ax_jmp mX12_setOf.2.2.2.2.2.2 4) h [(0, (2, 169)), (1, (0, 3)), (2, (0, s)), (3, (0, k))] [] := H
set_option maxHeartbeats 600000 in
theorem c_X12_setOf3 {sl : Nat} {si : Nat → Int} {h h' : PH} {L : PH} {v : Int} (r : RN9 h L) (hw : W10 L) (hc : CP (zz sl si (7, 0)) mX12_setOf h [(2, 169), (0, 3)] h' [(0, v)]) : h' = h ∧ v = liS L (L 0 4).toNat := by
  have q : (fun (xh : PH) (r : List ZV) => ∀ v : Int, r = [(0, v)] → (xh = h ∧ v = liS L (L 0 4).toNat)) h' [(0, v)] := by
    refine cp_vc (cut := (fun p => Nat.beq p 4)) (K := fun p hx lv st => (p = 4 ∧ lK (fun u : Nat => [(0, (2, 169)), (1, (0, 3)), (2, (0, liS L u)), (3, (0, (u : Int)))]) (fun u hx => (u : Int) ≤ L 0 4 ∧ hx = h) p hx lv st)) (Q := fun (xh : PH) (r : List ZV) => ∀ v : Int, r = [(0, v)] → (xh = h ∧ v = liS L (L 0 4).toNat)) (v_X12_setOf3 ?_) (fun pc hx lv st hcut hK => ?_) hc
    · exact (by have h8 := hw.1.1.2.1; exact ⟨rfl, rfl, 0, ⟨by omega, rfl⟩, rfl, rfl, rfl, rfl, trivial⟩)
    · rcases hK with ⟨rfl, rfl, u, hJ, hs⟩
      · obtain ⟨j1, j2⟩ := hJ
        subst j2
        have h8 := hw.1.1.2.1
        have n1 : hx 170 1 = L 0 4 := r.1.2.1
        exact ⟨_, _, hs, v_X12_setOf3_4 (fun b1 r2 => ⟨fun c3 => (by rw [n1] at c3; intro v e; cases e; have eu : (L 0 4).toNat = u := (by omega); rw [eu]; exact ⟨rfl, rfl⟩), fun c3 => ⟨fun c4 => ⟨fun c5 => ⟨fun c6 => (fun h1 v1 p1 q1 => by obtain ⟨t1, e1⟩ := c_X12_isDead p1; have t1 := t1.symm; subst t1; exact ⟨fun c7 => (by rw [n1] at c3; have dd := e1 (by omega) (by omega); rw [Int.toNat_natCast, (r.2.2.1 u (by omega)).2.1, bt_B (by omega)] at dd; obtain ⟨z1, z2, z3⟩ := li_b (L := L) u (by omega); have no : liS L (u + 1) = liS L u := cif_n (fun z => z (dd.mp (by omega))); exact ⟨rfl, rfl, u + 1, ⟨by omega, rfl⟩, rfl, rfl, (by rw [no, z1.or0]; rfl), wv (by omega) (by omega) (by omega), trivial⟩), fun c7 => (by rw [n1] at c3; have dd := e1 (by omega) (by omega); rw [Int.toNat_natCast, (r.2.2.1 u (by omega)).2.1, bt_B (by omega)] at dd; obtain ⟨z1, z2, z3⟩ := li_b (L := L) u (by omega); have ye : liS L (u + 1) = zor (liS L u) (zshl 1 (u : Int)) := cif_p (fun z => by have := dd.mpr z; omega); exact ⟨rfl, rfl, u + 1, ⟨by omega, rfl⟩, rfl, rfl, (by rw [ye]; rfl), wv (by omega) (by omega) (by omega), trivial⟩)⟩), fun c6 => (fun h2 v2 p2 q2 => (fun b8 r9 => ⟨fun c10 => (by omega), fun c10 => (by omega)⟩))⟩, fun c5 => (fun h3 v3 p3 q3 => ⟨fun c11 => (by omega), fun c11 => (by omega)⟩)⟩, fun c4 => (fun h4 v4 p4 q4 => by obtain ⟨t4, e4⟩ := c_X12_isDead p4; have t4 := t4.symm; subst t4; exact ⟨fun c12 => (by omega), fun c12 => (by omega)⟩)⟩⟩)⟩
  exact q v rfl
theorem bn_rd : ∀ s : Fin 256, 0 ≤ bnS (s.val : Int) ∧ bnS (s.val : Int) ≤ 8 := by decide +kernel
theorem bn_r {s : Int} (h0 : 0 ≤ s) (h1 : s < 256) : 0 ≤ bnS s ∧ bnS s ≤ 8 := by
  have z := bn_rd ⟨s.toNat, by omega⟩
  dsimp only at z
  rw [Int.toNat_of_nonneg h0] at z
  exact z
theorem bn_z : bnS 0 = 0 := by decide +kernel
set_option maxRecDepth 10000 in
theorem v_X12_bitsL {sl : Nat} {si : Nat → Int} {K : Nat → PH → ZL → List ZV → Prop} {Q : PH → List ZV → Prop} {h : PH} {a : Int} (H : K 4 h [(2, (0, a)), (1, (0, 0)), (0, (0, a))] []) : vc (zz sl si (7, 0)) (fun p => Nat.beq p 4) K Q mX12_bits 6 0 mX12_bits.2.2.2.2.2.2 h [(0, (0, a))] [] := H
set_option maxRecDepth 10000 in
theorem v_X12_bitsL_4 {sl : Nat} {si : Nat → Int} {K : Nat → PH → ZL → List ZV → Prop} {Q : PH → List ZV → Prop} {h : PH} {a : Int} {n k : Int} (H : (k = 0 → Q h [(0, n)]) ∧ (¬ (k = 0) → K 4 h [(2, (0, zand k (w32 (k - 1)))), (1, (0, w32 (n + 1))), (0, (0, a))] [])) : vc (zz sl si (7, 0)) (fun p => Nat.beq p 4) K Q mX12_bits 12 4 (ax_jmp mX12_bits.2.2.2.2.2.2 4) h [(0, (0, a)), (1, (0, n)), (2, (0, k))] [] := H
set_option maxHeartbeats 600000 in
theorem c_X12_bitsL {sl : Nat} {si : Nat → Int} {h h' : PH} {a : Int} {v : Int} (h0 : 0 ≤ a) (h1 : a < 256) (hc : CP (zz sl si (7, 0)) mX12_bits h [(0, a)] h' [(0, v)]) : h' = h ∧ v = bnS a := by
  have q : (fun (xh : PH) (r : List ZV) => ∀ v : Int, r = [(0, v)] → (xh = h ∧ v = bnS a)) h' [(0, v)] := by
    refine cp_vc (cut := (fun p => Nat.beq p 4)) (K := fun p hx lv st => (p = 4 ∧ lK2 (fun u1 u2 : Int => [(0, (0, a)), (1, (0, u1)), (2, (0, u2))]) (fun u1 u2 hx => (0 ≤ u2 ∧ u2 < 256) ∧ (0 ≤ u1 ∧ u1 + bnS u2 = bnS a) ∧ hx = h) p hx lv st)) (Q := fun (xh : PH) (r : List ZV) => ∀ v : Int, r = [(0, v)] → (xh = h ∧ v = bnS a)) (v_X12_bitsL ?_) (fun pc hx lv st hcut hK => ?_) hc
    · exact (by exact ⟨rfl, rfl, 0, a, ⟨⟨h0, h1⟩, ⟨by omega, by omega⟩, rfl⟩, rfl, rfl, rfl, trivial⟩)
    · rcases hK with ⟨rfl, rfl, u1, u2, hJ, hs⟩
      · obtain ⟨j1, j2, j3⟩ := hJ
        subst j3
        have ba := bn_r h0 h1
        have bk := bn_r j1.1 j1.2
        exact ⟨_, _, hs, v_X12_bitsL_4 ⟨fun c1 => (by intro v e; cases e; rw [c1, bn_z] at j2; exact ⟨rfl, by omega⟩), fun c1 => (by have lb := lo_b j1.1 j1.2 c1; have bk2 := bn_r lb.2.1 lb.2.2; exact ⟨rfl, rfl, u1 + 1, zand u2 (u2 - 1), ⟨lb.2, ⟨by omega, by omega⟩, rfl⟩, rfl, wv (by omega) (by omega) rfl, (by rw [w32_id (z := u2 - 1) (by omega) (by omega)]; rfl), trivial⟩)⟩⟩
  exact q v rfl
