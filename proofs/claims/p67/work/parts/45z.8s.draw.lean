/-! live(): one of the living -/
noncomputable def clv (L : PH) : Nat → Int
  | 0 => 0
  | k + 1 => clv L k + cif (¬ bB (L 0 7) k = true) 1 0
def bkS (v : Int) : Nat → Int
  | 0 => 0
  | k + 1 => bkS v k + bt v k
theorem bk8 (v : Int) : bkS v 8 = bnS v := by
  show 0 + bt v 0 + bt v 1 + bt v 2 + bt v 3 + bt v 4 + bt v 5 + bt v 6 + bt v 7 = _
  unfold bnS
  omega
theorem bk_z {v n : Int} (h : SB v n) (h0 : 0 ≤ n) : ∀ j : Nat, n.toNat + j ≤ 8 → bkS v (n.toNat + j) = bkS v n.toNat
  | 0, _ => rfl
  | j + 1, hj => by
    show bkS v (n.toNat + j) + bt v (n.toNat + j) = _
    rw [bk_z h h0 j (by omega), h.2.2 _ (by omega) (by omega)]
    omega
theorem clv_bk {L : PH} : ∀ k : Nat, k ≤ 8 → clv L k = (k : Int) - bkS (L 0 7) k
  | 0, _ => rfl
  | k + 1, h => by
    show clv L k + cif (¬ bB (L 0 7) k = true) 1 0 = _ - (bkS (L 0 7) k + bt (L 0 7) k)
    rw [clv_bk k (by omega), bt_e (by omega)]
    by_cases c : bB (L 0 7) k = true
    · rw [cif_n (fun z => z c), if_pos c]; omega
    · rw [cif_p c, if_neg c]; omega
theorem clv_n {L : PH} (w : W10 L) : clv L (L 0 4).toNat = L 0 4 - bnS (L 0 7) := by
  have h8 := w.1.1.2.1
  have s := w.1.1.s.2.1
  have z := bk_z s h8.1 (8 - (L 0 4).toNat) (by omega)
  rw [show (L 0 4).toNat + (8 - (L 0 4).toNat) = 8 by omega, bk8] at z
  rw [clv_bk _ (by omega), ← z]
  omega
theorem clv_b {L : PH} : ∀ k : Nat, 0 ≤ clv L k ∧ clv L k ≤ k
  | 0 => ⟨Int.le_refl 0, Int.le_refl 0⟩
  | k + 1 => by
    have i := clv_b (L := L) k
    show 0 ≤ clv L k + cif _ 1 0 ∧ clv L k + cif _ 1 0 ≤ _
    by_cases c : bB (L 0 7) k = true
    · rw [cif_n (fun z => z c)]; omega
    · rw [cif_p c]; omega
/-- the numbers drawn -/
def dwN (x : Int) : Int := zrem (w32 (w32 (x * 2969) + 11171)) 65536
def dwI (x n : Int) : Int := zrem (zdiv (dwN x) 8) n
theorem t32 {a : Int} (h1 : -2147483648 ≤ a) (h2 : a ≤ 2147483647) : (Int32.ofInt a).toInt = a := by
  exact Int32.toInt_ofInt_of_le h1 (by omega)
theorem zdiv_e {a b : Int} (h0 : 0 ≤ a) (h1 : a ≤ 2147483647) (b0 : 0 < b) (b1 : b ≤ 2147483647) : zdiv a b = a / b := by
  unfold zdiv
  rw [Int32.toInt_div, t32 (by omega) h1, t32 (by omega) b1]
  have : a.tdiv b = a / b := Int.tdiv_eq_ediv_of_nonneg h0
  rw [this]
  have x1 := Int.ediv_nonneg h0 (by omega : (0:Int) ≤ b)
  have x2 := Int.ediv_le_self b h0
  rw [Int.bmod_eq_of_le (by omega) (by omega)]
theorem zrem_e {a b : Int} (h0 : 0 ≤ a) (h1 : a ≤ 2147483647) (b0 : 0 < b) (b1 : b ≤ 2147483647) : zrem a b = a % b := by
  have d := zdiv_e h0 h1 b0 b1
  unfold zdiv at d
  unfold zrem
  rw [Int32.toInt_sub, Int32.toInt_mul, d, t32 (by omega) h1, t32 (by omega) b1]
  have m1 : a / b * b ≤ a := Int.ediv_mul_le a (by omega)
  have x1 := Int.ediv_nonneg h0 (by omega : (0:Int) ≤ b)
  have m0 : 0 ≤ a / b * b := Int.mul_nonneg x1 (by omega)
  have x := Int.emod_def a b
  rw [Int.mul_comm b (a / b)] at x
  rw [Int.bmod_eq_of_le (n := a / b * b) (by omega) (by omega), Int.bmod_eq_of_le (by omega) (by omega), x]
theorem dwN_b {x : Int} (h0 : 0 ≤ x) (h1 : x ≤ 65535) : 0 ≤ dwN x ∧ dwN x ≤ 65535 := by
  unfold dwN
  rw [w32_id (z := x * 2969) (by omega) (by omega), w32_id (by omega) (by omega), zrem_e (by omega) (by omega) (by omega) (by omega)]
  omega
theorem dwI_b {x n : Int} (h0 : 0 ≤ x) (h1 : x ≤ 65535) (n0 : 1 ≤ n) (n1 : n ≤ 8) : 0 ≤ dwI x n ∧ dwI x n < n := by
  have d := dwN_b h0 h1
  unfold dwI
  rw [zdiv_e d.1 (by omega) (by omega) (by omega), zrem_e (by omega) (by omega) (by omega) (by omega)]
  exact ⟨Int.emod_nonneg _ (by omega), Int.emod_lt_of_pos _ (by omega)⟩
set_option maxRecDepth 10000 in
theorem v_X3_drawLiving5 {sl : Nat} {si : Nat → Int} {K : Nat → PH → ZL → List ZV → Prop} {Q : PH → List ZV → Prop} {h : PH}  (H : R32 (h 5 4) → R32 (h 5 7) → ∀ h1 v1, CP (zz sl si (7, 0)) mJ6_bitCount_0f7a4 h [(0, (h 5 7))] h1 [(0, v1)] → R32 v1 → ((1 : Int) ≤ (w32 ((h 5 4) - v1)) → R32 (h1 89 7) → (65536 : Int) ≠ 0 → R32 (zrem (w32 ((w32 ((h1 89 7) * 2969)) + 11171)) 65536) → (8 : Int) ≠ 0 → (w32 ((h 5 4) - v1)) ≠ 0 → K 52 (uph h1 89 7 (zrem (w32 ((w32 ((h1 89 7) * 2969)) + 11171)) 65536)) [(4, (0, 0)), (3, (0, zrem (zdiv (zrem (w32 ((w32 ((h1 89 7) * 2969)) + 11171)) 65536) 8) (w32 ((h 5 4) - v1)))), (2, (0, w32 ((h 5 4) - v1))), (0, (2, 89)), (1, (2, 5))] []) ∧ (¬ ((1 : Int) ≤ (w32 ((h 5 4) - v1))) → Q h1 [(0, (-1))])) : vc (zz sl si (7, 0)) (fun p => Nat.beq p 52) K Q mX3_drawLiving 31 0 mX3_drawLiving.2.2.2.2.2.2 h [(0, (2, 89)), (1, (2, 5))] [] := H
set_option maxRecDepth 10000 in
theorem v_X3_drawLiving5_52 {sl : Nat} {si : Nat → Int} {K : Nat → PH → ZL → List ZV → Prop} {Q : PH → List ZV → Prop} {h : PH}  {l x k : Int} (H : R32 (h 5 4) → ((h 5 4) ≤ k → Q h [(0, (-1))]) ∧ (¬ ((h 5 4) ≤ k) → ∀ h1 v1, CP (zz sl si (7, 0)) mX1_isDead h [(2, 5), (0, k)] h1 [(0, v1)] → v1 = 0 ∨ v1 = 1 → (v1 ≠ 0 → K 52 h1 [(4, (0, w32 (k + 1))), (0, (2, 89)), (1, (2, 5)), (2, (0, l)), (3, (0, x))] []) ∧ (¬ (v1 ≠ 0) → (x ≠ 0 → K 52 h1 [(4, (0, w32 (k + 1))), (3, (0, w32 (x + (-1)))), (0, (2, 89)), (1, (2, 5)), (2, (0, l))] []) ∧ (¬ (x ≠ 0) → Q h1 [(0, k)])))) : vc (zz sl si (7, 0)) (fun p => Nat.beq p 52) K Q mX3_drawLiving 15 52 (ax_jmp mX3_drawLiving.2.2.2.2.2.2 52) h [(0, (2, 89)), (1, (2, 5)), (2, (0, l)), (3, (0, x)), (4, (0, k))] [] := H
set_option maxHeartbeats 600000 in
theorem c_X3_drawLiving5 {sl : Nat} {si : Nat → Int} {h h' : PH} {L : PH} {v : Int} (hL : CL 5 h L) (hw : W10 L) (hx0 : 0 ≤ h 89 7 ∧ h 89 7 ≤ 65535) (hc : CP (zz sl si (7, 0)) mX3_drawLiving h [(2, 89), (2, 5)] h' [(0, v)]) : (clv L (L 0 4).toNat < 1 → v = -1 ∧ h' = h) ∧ (1 ≤ clv L (L 0 4).toNat → ∃ p : Nat, (p : Int) < L 0 4 ∧ ¬ bB (L 0 7) p = true ∧ clv L p = dwI (h 89 7) (clv L (L 0 4).toNat) ∧ v = p ∧ h' = uph h 89 7 (dwN (h 89 7))) := by
  have q : (fun (xh : PH) (r : List ZV) => ∀ v : Int, r = [(0, v)] → ((clv L (L 0 4).toNat < 1 → v = -1 ∧ xh = h) ∧ (1 ≤ clv L (L 0 4).toNat → ∃ p : Nat, (p : Int) < L 0 4 ∧ ¬ bB (L 0 7) p = true ∧ clv L p = dwI (h 89 7) (clv L (L 0 4).toNat) ∧ v = p ∧ xh = uph h 89 7 (dwN (h 89 7))))) h' [(0, v)] := by
    refine cp_vc (cut := (fun p => Nat.beq p 52)) (K := fun p hx lv st => (p = 52 ∧ lK (fun u : Nat => [(0, (2, 89)), (1, (2, 5)), (2, (0, clv L (L 0 4).toNat)), (3, (0, dwI (h 89 7) (clv L (L 0 4).toNat) - clv L u)), (4, (0, (u : Int)))]) (fun u hx => (u : Int) ≤ L 0 4 ∧ 1 ≤ clv L (L 0 4).toNat ∧ clv L u ≤ dwI (h 89 7) (clv L (L 0 4).toNat) ∧ hx = uph h 89 7 (dwN (h 89 7))) p hx lv st)) (Q := fun (xh : PH) (r : List ZV) => ∀ v : Int, r = [(0, v)] → ((clv L (L 0 4).toNat < 1 → v = -1 ∧ xh = h) ∧ (1 ≤ clv L (L 0 4).toNat → ∃ p : Nat, (p : Int) < L 0 4 ∧ ¬ bB (L 0 7) p = true ∧ clv L p = dwI (h 89 7) (clv L (L 0 4).toNat) ∧ v = p ∧ xh = uph h 89 7 (dwN (h 89 7))))) (v_X3_drawLiving5 ?_) (fun pc hx lv st hcut hK => ?_) hc
    · exact (fun r1 => (fun r2 => (fun h1 v1 p1 q1 => ⟨fun c3 => (fun r4 => (fun d5 => (fun r6 => (fun d7 => (fun d8 => (by have k4 : h 5 4 = L 0 4 := hL 0 4 (by unfold inL; omega); have k7 : h 5 7 = L 0 7 := hL 0 7 (by unfold inL; omega); have s7 := hw.1.1.s.2.1; rw [k7] at p1; obtain ⟨t1, w1⟩ := c_J6_bitCountS s7.1 s7.2.1 p1; have t1 := t1.symm; subst t1; have cn := clv_n hw; have cb := clv_b (L := L) (L 0 4).toNat; have h8 := hw.1.1.2.1; have wl : w32 (h 5 4 - v1) = clv L (L 0 4).toNat := (by rw [k4, w1, cn, w32_id (by omega) (by omega)]); rw [wl] at c3 ⊢; have db := dwI_b hx0.1 hx0.2 c3 (by omega); exact ⟨rfl, rfl, 0, ⟨by omega, c3, by show (0 : Int) ≤ _; exact db.1, rfl⟩, rfl, rfl, rfl, (by show some ((0, dwI (h 89 7) (clv L (L 0 4).toNat)) : ZV) = some (0, dwI (h 89 7) (clv L (L 0 4).toNat) - 0); rw [Int.sub_zero]), rfl, trivial⟩)))))), fun c3 => (by have k4 : h 5 4 = L 0 4 := hL 0 4 (by unfold inL; omega); have k7 : h 5 7 = L 0 7 := hL 0 7 (by unfold inL; omega); have s7 := hw.1.1.s.2.1; rw [k7] at p1; obtain ⟨t1, w1⟩ := c_J6_bitCountS s7.1 s7.2.1 p1; have t1 := t1.symm; subst t1; have cn := clv_n hw; have cb := clv_b (L := L) (L 0 4).toNat; have h8 := hw.1.1.2.1; have wl : w32 (h 5 4 - v1) = clv L (L 0 4).toNat := (by rw [k4, w1, cn, w32_id (by omega) (by omega)]); rw [wl] at c3; intro v e; cases e; exact ⟨fun _ => ⟨rfl, rfl⟩, fun z => absurd z c3⟩)⟩)))
    · rcases hK with ⟨rfl, rfl, u, hJ, hs⟩
      · obtain ⟨j1, j2, j3, j4⟩ := hJ
        have h8 := hw.1.1.2.1
        have cb := clv_b (L := L) (L 0 4).toNat
        have db := dwI_b hx0.1 hx0.2 j2 (by omega)
        have hL2 : CL 5 hx L := hL.fr (fun c k q1 q2 => by rw [j4, up_ne (by omega)])
        have k4 : hx 5 4 = L 0 4 := hL2 0 4 (by unfold inL; omega)
        have cu := clv_b (L := L) u
        exact ⟨_, _, hs, v_X3_drawLiving5_52 (fun r1 => ⟨fun c2 => (by rw [k4] at c2; have eu : (L 0 4).toNat = u := (by omega); rw [eu] at j2 db j3; exfalso; omega), fun c2 => (fun h1 v1 p1 q1 => ⟨fun c3 => (by rw [k4] at c2; obtain ⟨t1, w1⟩ := c_X1_isDead5 hL2 (by omega) p1; have t1 := t1.symm; subst t1; rw [Int.toNat_natCast] at w1; have st : clv L (u + 1) = clv L u := (by show clv L u + cif _ 1 0 = _; rw [cif_n (fun z => z (w1.mp (by omega)))]; omega); exact ⟨rfl, rfl, u + 1, ⟨by omega, j2, by rw [st]; exact j3, j4⟩, rfl, rfl, rfl, (by rw [st]; rfl), wv (by omega) (by omega) (by omega), trivial⟩), fun c3 => ⟨fun c4 => (by rw [k4] at c2; obtain ⟨t1, w1⟩ := c_X1_isDead5 hL2 (by omega) p1; have t1 := t1.symm; subst t1; rw [Int.toNat_natCast] at w1; have st : clv L (u + 1) = clv L u + 1 := (by show clv L u + cif _ 1 0 = _; rw [cif_p (fun z => by have := w1.mpr z; omega)]); exact ⟨rfl, rfl, u + 1, ⟨by omega, j2, by rw [st]; omega, j4⟩, rfl, rfl, rfl, (by rw [st]; exact wv (by omega) (by omega) (by omega)), wv (by omega) (by omega) (by omega), trivial⟩), fun c4 => (by rw [k4] at c2; obtain ⟨t1, w1⟩ := c_X1_isDead5 hL2 (by omega) p1; have t1 := t1.symm; subst t1; rw [Int.toNat_natCast] at w1; intro v e; cases e; exact ⟨fun z => absurd j2 (by omega), fun _ => ⟨u, by omega, fun z => (by have := w1.mpr z; omega), by omega, rfl, j4⟩⟩)⟩⟩)⟩)⟩
  exact q v rfl
