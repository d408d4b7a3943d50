/-! AIM, the next HOUSE: the reference's -/
noncomputable def WY (h : PH) (f t : Nat) : Int := lvS (h 170 0).toNat (drR h) (clR h (-1)) f 7 t
def atR (h : PH) (q : Nat) : Nat := (h 170 (27 + 5 * q)).toNat
def BdR (h : PH) : Prop := (0 ≤ h 170 0 ∧ h 170 0 ≤ 7) ∧ (0 ≤ h 170 1 ∧ h 170 1 ≤ 8) ∧ ∀ q : Nat, q < 8 → 0 ≤ h 170 (27 + 5 * q) ∧ h 170 (27 + 5 * q) ≤ 6
noncomputable def amR (h : PH) (p : Nat) : Nat → Int
  | 0 => -1
  | q + 1 => cif (0 < h 170 (67 + 8 * p + q) ∧ WY h (atR h p) (atR h q) < 1000000 ∧ (amR h p q = -1 ∨ WY h (atR h p) (atR h q) < WY h (atR h p) (atR h (amR h p q).toNat))) (q : Int) (amR h p q)
theorem am_b {h : PH} {p : Nat} : ∀ (q : Nat), amR h p q = -1 ∨ (0 ≤ amR h p q ∧ amR h p q < q)
  | 0 => Or.inl rfl
  | q + 1 => by
    have i := am_b (h := h) (p := p) q
    by_cases C : 0 < h 170 (67 + 8 * p + q) ∧ WY h (atR h p) (atR h q) < 1000000 ∧ (amR h p q = -1 ∨ WY h (atR h p) (atR h q) < WY h (atR h p) (atR h (amR h p q).toNat))
    · have e : amR h p (q + 1) = (q : Int) := cif_p C
      rw [e]
      omega
    · have e : amR h p (q + 1) = amR h p q := cif_n C
      rw [e]
      omega
set_option maxRecDepth 10000 in
theorem v_X12_aimOf {sl : Nat} {si : Nat → Int} {K : Nat → PH → ZL → List ZV → Prop} {Q : PH → List ZV → Prop} {h : PH} {a : Int} (H : ∀ h1 v1, CP (zz sl si (7, 0)) mX12_whereOf h [(2, 169), (0, a)] h1 [(0, v1)] → R32 v1 → ∀ h2, CP (zz sl si (7, 0)) mX12_laysWays h1 [(2, 169), (0, v1), (0, (-1))] h2 [] → K 14 h2 [(3, (0, 0)), (2, (0, (-1))), (0, (2, 169)), (1, (0, a))] []) : vc (zz sl si (7, 0)) (fun p => Nat.beq p 14) K Q mX12_aimOf 12 0 mX12_aimOf.2.2.2.2.2.2 h [(0, (2, 169)), (1, (0, a))] [] := H
set_option maxRecDepth 10000 in
theorem v_X12_aimOf_14 {sl : Nat} {si : Nat → Int} {K : Nat → PH → ZL → List ZV → Prop} {Q : PH → List ZV → Prop} {h : PH} {a : Int} {m q : Int} (H : 0 ≤ (1 : Int) ∧ (1 : Int) < (3696 : Nat) → R32 (h 170 1) → ((h 170 1) ≤ q → Q h [(0, m)]) ∧ (¬ ((h 170 1) ≤ q) → ∀ h1 v1, CP (zz sl si (7, 0)) mX12_owes h [(2, 169), (0, a), (0, q)] h1 [(0, v1)] → R32 v1 → (v1 ≤ 0 → K 14 h1 [(3, (0, w32 (q + 1))), (0, (2, 169)), (1, (0, a)), (2, (0, m))] []) ∧ (¬ (v1 ≤ 0) → ∀ h2 v2, CP (zz sl si (7, 0)) mX12_whereOf h1 [(2, 169), (0, q)] h2 [(0, v2)] → R32 v2 → 0 ≤ v2 ∧ v2 < (7 : Nat) → R32 (h2 178 v2.toNat) → ((1000000 : Int) ≤ (h2 178 v2.toNat) → K 14 h2 [(3, (0, w32 (q + 1))), (0, (2, 169)), (1, (0, a)), (2, (0, m))] []) ∧ (¬ ((1000000 : Int) ≤ (h2 178 v2.toNat)) → (m = (-1) → K 14 h2 [(3, (0, w32 (q + 1))), (2, (0, q)), (0, (2, 169)), (1, (0, a))] []) ∧ (¬ (m = (-1)) → ∀ h3 v3, CP (zz sl si (7, 0)) mX12_whereOf h2 [(2, 169), (0, q)] h3 [(0, v3)] → R32 v3 → 0 ≤ v3 ∧ v3 < (7 : Nat) → R32 (h3 178 v3.toNat) → ∀ h4 v4, CP (zz sl si (7, 0)) mX12_whereOf h3 [(2, 169), (0, m)] h4 [(0, v4)] → R32 v4 → 0 ≤ v4 ∧ v4 < (7 : Nat) → R32 (h4 178 v4.toNat) → ((h4 178 v4.toNat) ≤ (h3 178 v3.toNat) → K 14 h4 [(3, (0, w32 (q + 1))), (0, (2, 169)), (1, (0, a)), (2, (0, m))] []) ∧ (¬ ((h4 178 v4.toNat) ≤ (h3 178 v3.toNat)) → K 14 h4 [(3, (0, w32 (q + 1))), (2, (0, q)), (0, (2, 169)), (1, (0, a))] [])))))) : vc (zz sl si (7, 0)) (fun p => Nat.beq p 14) K Q mX12_aimOf 41 14 (ax_jmp mX12_aimOf.2.2.2.2.2.2 14) h [(0, (2, 169)), (1, (0, a)), (2, (0, m)), (3, (0, q))] [] := H
set_option maxHeartbeats 600000 in
theorem c_X12_aimOf {sl : Nat} {si : Nat → Int} {h h' : PH} {a : Int} {v : Int} (hB : BdR h) (ha : 0 ≤ a ∧ a ≤ 7) (hc : CP (zz sl si (7, 0)) mX12_aimOf h [(2, 169), (0, a)] h' [(0, v)]) : v = amR h a.toNat (h 170 1).toNat ∧ (∀ c k : Nat, ¬ (c = 178 ∧ k < 7) → h' c k = h c k) := by
  have q : (fun (xh : PH) (r : List ZV) => ∀ v : Int, r = [(0, v)] → (v = amR h a.toNat (h 170 1).toNat ∧ (∀ c k : Nat, ¬ (c = 178 ∧ k < 7) → xh c k = h c k))) h' [(0, v)] := by
    refine cp_vc (cut := (fun p => Nat.beq p 14)) (K := fun p hx lv st => (p = 14 ∧ lK (fun u : Nat => [(0, (2, 169)), (1, (0, a)), (2, (0, amR h a.toNat u)), (3, (0, (u : Int)))]) (fun u hx => (u : Int) ≤ h 170 1 ∧ (∀ t : Nat, t < 7 → hx 178 t = WY h (atR h a.toNat) t) ∧ (∀ c k : Nat, ¬ (c = 178 ∧ k < 7) → hx c k = h c k)) p hx lv st)) (Q := fun (xh : PH) (r : List ZV) => ∀ v : Int, r = [(0, v)] → (v = amR h a.toNat (h 170 1).toNat ∧ (∀ c k : Nat, ¬ (c = 178 ∧ k < 7) → xh c k = h c k))) (v_X12_aimOf ?_) (fun pc hx lv st hcut hK => ?_) hc
    · exact (fun h1 v1 p1 q1 => by obtain ⟨t1, e1⟩ := c_X12_whereOf p1; have t1 := t1.symm; subst t1; exact (fun h2 p2 => (by have e1 := e1 (by omega) (by omega); subst e1; have hb := hB.2.2 a.toNat (by omega); obtain ⟨g1, g2⟩ := c_X12_laysWays hB.1 hb p2; exact ⟨rfl, rfl, 0, ⟨by have := hB.2.1; omega, fun t q => g1 t q, g2⟩, rfl, rfl, rfl, rfl, trivial⟩)))
    · rcases hK with ⟨rfl, rfl, u, hJ, hs⟩
      · obtain ⟨j1, j2, j3⟩ := hJ
        have e0 : hx 170 1 = h 170 1 := j3 170 1 (by omega)
        have h8 := hB.2.1
        exact ⟨_, _, hs, v_X12_aimOf_14 (fun b1 r2 => ⟨fun c3 => (by intro v e; cases e; rw [e0] at c3; have eu : (h 170 1).toNat = u := (by omega); exact ⟨by rw [eu], j3⟩), fun c3 => (fun h1 v1 p1 q1 => by obtain ⟨t1, e1⟩ := c_X12_owes p1; have t1 := t1.symm; subst t1; exact ⟨fun c4 => (by rw [e0] at c3; have w1 : v1 = h 170 (67 + 8 * a.toNat + u) := (by rw [e1 (by omega) (by omega) (by omega) (by omega), Int.toNat_natCast, j3 170 _ (by omega)]); have hb := hB.2.2 u (by omega); have am : amR h a.toNat (u + 1) = amR h a.toNat u := cif_n (fun z => (by have := z.1; omega)); exact ⟨rfl, rfl, u + 1, ⟨by omega, j2, j3⟩, rfl, rfl, (by rw [am]; rfl), wv (by omega) (by omega) (by omega), trivial⟩), fun c4 => (fun h2 v2 p2 q2 => by obtain ⟨t2, e2⟩ := c_X12_whereOf p2; have t2 := t2.symm; subst t2; exact (fun b5 r6 => ⟨fun c7 => (by rw [e0] at c3; have w1 : v1 = h 170 (67 + 8 * a.toNat + u) := (by rw [e1 (by omega) (by omega) (by omega) (by omega), Int.toNat_natCast, j3 170 _ (by omega)]); have hb := hB.2.2 u (by omega); have w2 : v2 = h 170 (27 + 5 * u) := (by rw [e2 (by omega) (by omega), Int.toNat_natCast, j3 170 _ (by omega)]); have d2 : hx 178 v2.toNat = WY h (atR h a.toNat) (atR h u) := (by rw [w2]; exact j2 _ (by omega)); rw [d2] at c7; have am : amR h a.toNat (u + 1) = amR h a.toNat u := cif_n (fun z => (by have := z.2.1; omega)); exact ⟨rfl, rfl, u + 1, ⟨by omega, j2, j3⟩, rfl, rfl, (by rw [am]; rfl), wv (by omega) (by omega) (by omega), trivial⟩), fun c7 => ⟨fun c8 => (by rw [e0] at c3; have w1 : v1 = h 170 (67 + 8 * a.toNat + u) := (by rw [e1 (by omega) (by omega) (by omega) (by omega), Int.toNat_natCast, j3 170 _ (by omega)]); have hb := hB.2.2 u (by omega); have w2 : v2 = h 170 (27 + 5 * u) := (by rw [e2 (by omega) (by omega), Int.toNat_natCast, j3 170 _ (by omega)]); have d2 : hx 178 v2.toNat = WY h (atR h a.toNat) (atR h u) := (by rw [w2]; exact j2 _ (by omega)); rw [d2] at c7; have am : amR h a.toNat (u + 1) = (u : Int) := cif_p ⟨by omega, by omega, Or.inl c8⟩; exact ⟨rfl, rfl, u + 1, ⟨by omega, j2, j3⟩, rfl, rfl, (by rw [am]; rfl), wv (by omega) (by omega) (by omega), trivial⟩), fun c8 => (fun h3 v3 p3 q3 => by obtain ⟨t3, e3⟩ := c_X12_whereOf p3; have t3 := t3.symm; subst t3; exact (fun b9 r10 => (fun h4 v4 p4 q4 => by obtain ⟨t4, e4⟩ := c_X12_whereOf p4; have t4 := t4.symm; subst t4; exact (fun b11 r12 => ⟨fun c13 => (by rw [e0] at c3; have w1 : v1 = h 170 (67 + 8 * a.toNat + u) := (by rw [e1 (by omega) (by omega) (by omega) (by omega), Int.toNat_natCast, j3 170 _ (by omega)]); have hb := hB.2.2 u (by omega); have w2 : v2 = h 170 (27 + 5 * u) := (by rw [e2 (by omega) (by omega), Int.toNat_natCast, j3 170 _ (by omega)]); have d2 : hx 178 v2.toNat = WY h (atR h a.toNat) (atR h u) := (by rw [w2]; exact j2 _ (by omega)); rw [d2] at c7; have bm := am_b (h := h) (p := a.toNat) u; have hm := hB.2.2 (amR h a.toNat u).toNat (by omega); have w3 : v3 = h 170 (27 + 5 * u) := (by rw [e3 (by omega) (by omega), Int.toNat_natCast, j3 170 _ (by omega)]); have d3 : hx 178 v3.toNat = WY h (atR h a.toNat) (atR h u) := (by rw [w3]; exact j2 _ (by omega)); have w4 : v4 = h 170 (27 + 5 * (amR h a.toNat u).toNat) := (by rw [e4 (by omega) (by omega), j3 170 _ (by omega)]); have d4 : hx 178 v4.toNat = WY h (atR h a.toNat) (atR h (amR h a.toNat u).toNat) := (by rw [w4]; exact j2 _ (by omega)); rw [d3, d4] at c13; have am : amR h a.toNat (u + 1) = amR h a.toNat u := cif_n (fun z => z.2.2.elim c8 (fun y => by omega)); exact ⟨rfl, rfl, u + 1, ⟨by omega, j2, j3⟩, rfl, rfl, (by rw [am]; rfl), wv (by omega) (by omega) (by omega), trivial⟩), fun c13 => (by rw [e0] at c3; have w1 : v1 = h 170 (67 + 8 * a.toNat + u) := (by rw [e1 (by omega) (by omega) (by omega) (by omega), Int.toNat_natCast, j3 170 _ (by omega)]); have hb := hB.2.2 u (by omega); have w2 : v2 = h 170 (27 + 5 * u) := (by rw [e2 (by omega) (by omega), Int.toNat_natCast, j3 170 _ (by omega)]); have d2 : hx 178 v2.toNat = WY h (atR h a.toNat) (atR h u) := (by rw [w2]; exact j2 _ (by omega)); rw [d2] at c7; have bm := am_b (h := h) (p := a.toNat) u; have hm := hB.2.2 (amR h a.toNat u).toNat (by omega); have w3 : v3 = h 170 (27 + 5 * u) := (by rw [e3 (by omega) (by omega), Int.toNat_natCast, j3 170 _ (by omega)]); have d3 : hx 178 v3.toNat = WY h (atR h a.toNat) (atR h u) := (by rw [w3]; exact j2 _ (by omega)); have w4 : v4 = h 170 (27 + 5 * (amR h a.toNat u).toNat) := (by rw [e4 (by omega) (by omega), j3 170 _ (by omega)]); have d4 : hx 178 v4.toNat = WY h (atR h a.toNat) (atR h (amR h a.toNat u).toNat) := (by rw [w4]; exact j2 _ (by omega)); rw [d3, d4] at c13; have am : amR h a.toNat (u + 1) = (u : Int) := cif_p ⟨by omega, by omega, Or.inr (by omega)⟩; exact ⟨rfl, rfl, u + 1, ⟨by omega, j2, j3⟩, rfl, rfl, (by rw [am]; rfl), wv (by omega) (by omega) (by omega), trivial⟩)⟩))))⟩⟩))⟩)⟩)⟩
  exact q v rfl
/-- the HOUSE that comes next, out of those below k -/
noncomputable def nxR (h : PH) (f t : Nat) : Nat → Int
  | 0 => -1
  | k + 1 => cif (nxR h f t k = -1 ∧ drR h f k ∧ h 170 (6 + 3 * k) ≠ 1 ∧ WY h k t = WY h f t - 1) (k : Int) (nxR h f t k)
theorem nx_b2 {h : PH} {f t : Nat} : ∀ (k : Nat), nxR h f t k = -1 ∨ (0 ≤ nxR h f t k ∧ nxR h f t k < k)
  | 0 => Or.inl rfl
  | k + 1 => by
    have i := nx_b2 (h := h) (f := f) (t := t) k
    by_cases C : nxR h f t k = -1 ∧ drR h f k ∧ h 170 (6 + 3 * k) ≠ 1 ∧ WY h k t = WY h f t - 1
    · have e : nxR h f t (k + 1) = (k : Int) := cif_p C
      rw [e]
      omega
    · have e : nxR h f t (k + 1) = nxR h f t k := cif_n C
      rw [e]
      omega
theorem nx_st {h : PH} {f t k : Nat} (hk : nxR h f t k ≠ -1) : ∀ m : Nat, nxR h f t (k + m) = nxR h f t k
  | 0 => rfl
  | m + 1 => (cif_n (fun z => by
    have i := nx_st hk m
    have y : nxR h f t (k + m) = -1 := z.1
    rw [i] at y
    exact hk y)).trans (nx_st hk m)
theorem WY_b {n : Nat} {dr : Nat → Nat → Prop} {cl : Nat → Prop} {f : Nat} : ∀ (k t : Nat), lvS n dr cl f k t = 1000000 ∨ (0 ≤ lvS n dr cl f k t ∧ lvS n dr cl f k t ≤ k)
  | 0, t => by
    show (if t = f then (0 : Int) else 1000000) = 1000000 ∨ _
    by_cases e : t = f
    · refine Or.inr ?_
      show 0 ≤ (if t = f then (0 : Int) else 1000000) ∧ (if t = f then (0 : Int) else 1000000) ≤ _
      rw [if_pos e]
      omega
    · exact Or.inl (if_neg e)
  | k + 1, t => by
    have i := WY_b (n := n) (dr := dr) (cl := cl) (f := f) k t
    by_cases C : lvS n dr cl f k t = 1000000 ∧ t < n ∧ ¬ cl t ∧ ∃ a, a < n ∧ lvS n dr cl f k a = (k : Int) ∧ dr a t
    · have e : lvS n dr cl f (k + 1) t = ((k + 1 : Nat) : Int) := cif_p C
      rw [e]
      omega
    · have e : lvS n dr cl f (k + 1) t = lvS n dr cl f k t := cif_n C
      rw [e]
      omega
theorem drR_c {h h' : PH} (hF : ∀ c k : Nat, ¬ (c = 178 ∧ k < 7) → h' c k = h c k) : drR h' = drR h := funext (fun i => funext (fun j => by
  unfold drR
  rw [hF 170 _ (by omega)]))
theorem clR_c {h h' : PH} {b : Int} (hF : ∀ c k : Nat, ¬ (c = 178 ∧ k < 7) → h' c k = h c k) : clR h' b = clR h b := funext (fun t => by
  unfold clR
  rw [hF 170 _ (by omega)])
theorem WY_c {h h' : PH} (hF : ∀ c k : Nat, ¬ (c = 178 ∧ k < 7) → h' c k = h c k) {f t : Nat} : WY h' f t = WY h f t := by
  unfold WY
  rw [hF 170 0 (by omega), drR_c hF, clR_c hF]
theorem lw {sl : Nat} {si : Nat → Int} {h : PH} (hx h3 : PH) (u : Nat) (hB : BdR h) (j3 : ∀ c k : Nat, ¬ (c = 178 ∧ k < 7) → hx c k = h c k) (hu : u < 7) (p3 : CP (zz sl si (7, 0)) mX12_laysWays hx [(2, 169), (0, (u : Int)), (0, (-1))] h3 []) : (∀ t : Nat, t < 7 → h3 178 t = WY h u t) ∧ ∀ c k : Nat, ¬ (c = 178 ∧ k < 7) → h3 c k = h c k := by
  obtain ⟨g1, g2⟩ := c_X12_laysWays (by rw [j3 170 0 (by omega)]; exact hB.1) (by omega) p3
  rw [Int.toNat_natCast] at g1
  exact ⟨fun t ht => (g1 t ht).trans (WY_c j3), fun c k q => by rw [g2 c k q, j3 c k q]⟩
set_option maxRecDepth 10000 in
theorem v_X12_nextOn {sl : Nat} {si : Nat → Int} {K : Nat → PH → ZL → List ZV → Prop} {Q : PH → List ZV → Prop} {h : PH} {a b : Int} (H : ∀ h1, CP (zz sl si (7, 0)) mX12_laysWays h [(2, 169), (0, a), (0, (-1))] h1 [] → 0 ≤ b ∧ b < (7 : Nat) → R32 (h1 178 b.toNat) → K 16 h1 [(4, (0, 0)), (3, (0, (h1 178 b.toNat))), (0, (2, 169)), (1, (0, a)), (2, (0, b))] []) : vc (zz sl si (7, 0)) (fun p => Nat.beq p 16) K Q mX12_nextOn 13 0 mX12_nextOn.2.2.2.2.2.2 h [(0, (2, 169)), (1, (0, a)), (2, (0, b))] [] := H
set_option maxRecDepth 10000 in
theorem v_X12_nextOn_16 {sl : Nat} {si : Nat → Int} {K : Nat → PH → ZL → List ZV → Prop} {Q : PH → List ZV → Prop} {h : PH} {a b : Int} {l k : Int} (H : 0 ≤ (0 : Int) ∧ (0 : Int) < (3696 : Nat) → R32 (h 170 0) → ((h 170 0) ≤ k → Q h [(0, a)]) ∧ (¬ ((h 170 0) ≤ k) → ∀ h1 v1, CP (zz sl si (7, 0)) mX12_isDoor h [(2, 169), (0, a), (0, k)] h1 [(0, v1)] → v1 = 0 ∨ v1 = 1 → (v1 = 0 → K 16 h1 [(4, (0, w32 (k + 1))), (0, (2, 169)), (1, (0, a)), (2, (0, b)), (3, (0, l))] []) ∧ (¬ (v1 = 0) → ∀ h2 v2, CP (zz sl si (7, 0)) mX12_isSalt h1 [(2, 169), (0, k)] h2 [(0, v2)] → v2 = 0 ∨ v2 = 1 → (v2 = 0 → ∀ h3, CP (zz sl si (7, 0)) mX12_laysWays h2 [(2, 169), (0, k), (0, (-1))] h3 [] → 0 ≤ b ∧ b < (7 : Nat) → R32 (h3 178 b.toNat) → ((h3 178 b.toNat) ≠ (w32 (l - 1)) → K 16 h3 [(4, (0, w32 (k + 1))), (0, (2, 169)), (1, (0, a)), (2, (0, b)), (3, (0, l))] []) ∧ (¬ ((h3 178 b.toNat) ≠ (w32 (l - 1))) → Q h3 [(0, k)])) ∧ (¬ (v2 = 0) → K 16 h2 [(4, (0, w32 (k + 1))), (0, (2, 169)), (1, (0, a)), (2, (0, b)), (3, (0, l))] [])))) : vc (zz sl si (7, 0)) (fun p => Nat.beq p 16) K Q mX12_nextOn 31 16 (ax_jmp mX12_nextOn.2.2.2.2.2.2 16) h [(0, (2, 169)), (1, (0, a)), (2, (0, b)), (3, (0, l)), (4, (0, k))] [] := H
set_option maxHeartbeats 600000 in
theorem c_X12_nextOn {sl : Nat} {si : Nat → Int} {h h' : PH} {a b : Int} {v : Int} (hB : BdR h) (ha : 0 ≤ a ∧ a ≤ 6) (hb : 0 ≤ b ∧ b ≤ 6) (hc : CP (zz sl si (7, 0)) mX12_nextOn h [(2, 169), (0, a), (0, b)] h' [(0, v)]) : v = (if nxR h a.toNat b.toNat (h 170 0).toNat = -1 then a else nxR h a.toNat b.toNat (h 170 0).toNat) ∧ (∀ c k : Nat, ¬ (c = 178 ∧ k < 7) → h' c k = h c k) := by
  have q : (fun (xh : PH) (r : List ZV) => ∀ v : Int, r = [(0, v)] → (v = (if nxR h a.toNat b.toNat (h 170 0).toNat = -1 then a else nxR h a.toNat b.toNat (h 170 0).toNat) ∧ (∀ c k : Nat, ¬ (c = 178 ∧ k < 7) → xh c k = h c k))) h' [(0, v)] := by
    refine cp_vc (cut := (fun p => Nat.beq p 16)) (K := fun p hx lv st => (p = 16 ∧ lK (fun u : Nat => [(0, (2, 169)), (1, (0, a)), (2, (0, b)), (3, (0, WY h a.toNat b.toNat)), (4, (0, (u : Int)))]) (fun u hx => (u : Int) ≤ h 170 0 ∧ nxR h a.toNat b.toNat u = -1 ∧ (∀ c k : Nat, ¬ (c = 178 ∧ k < 7) → hx c k = h c k)) p hx lv st)) (Q := fun (xh : PH) (r : List ZV) => ∀ v : Int, r = [(0, v)] → (v = (if nxR h a.toNat b.toNat (h 170 0).toNat = -1 then a else nxR h a.toNat b.toNat (h 170 0).toNat) ∧ (∀ c k : Nat, ¬ (c = 178 ∧ k < 7) → xh c k = h c k))) (v_X12_nextOn ?_) (fun pc hx lv st hcut hK => ?_) hc
    · exact (fun h1 p1 => (fun b1 r2 => (by obtain ⟨g1, g2⟩ := c_X12_laysWays hB.1 ha p1; exact ⟨rfl, rfl, 0, ⟨by have := hB.1; omega, rfl, g2⟩, rfl, rfl, rfl, (by rw [g1 _ (by omega)]; rfl), rfl, trivial⟩)))
    · rcases hK with ⟨rfl, rfl, u, hJ, hs⟩
      · obtain ⟨j1, j2, j3⟩ := hJ
        have e0 : hx 170 0 = h 170 0 := j3 170 0 (by omega)
        have h7 := hB.1
        have wl := WY_b (n := (h 170 0).toNat) (dr := drR h) (cl := clR h (-1)) (f := a.toNat) 7 b.toNat
        exact ⟨_, _, hs, v_X12_nextOn_16 (fun b1 r2 => ⟨fun c3 => (by intro v e; cases e; rw [e0] at c3; have eu : (h 170 0).toNat = u := (by omega); exact ⟨by rw [eu, if_pos j2], j3⟩), fun c3 => (fun h1 v1 p1 q1 => by obtain ⟨t1, e1⟩ := c_X12_isDoor p1; have t1 := t1.symm; subst t1; exact ⟨fun c4 => (by rw [e0] at c3; have q1 : v1 = 1 ↔ drR h a.toNat u := (by rw [e1 (by omega) (by omega), j3 170 _ (by omega)]; exact Iff.rfl); have am : nxR h a.toNat b.toNat (u + 1) = -1 := (cif_n (fun z => (by have := q1.mpr z.2.1; omega))).trans j2; exact ⟨rfl, rfl, u + 1, ⟨by omega, am, j3⟩, rfl, rfl, rfl, rfl, wv (by omega) (by omega) (by omega), trivial⟩), fun c4 => (fun h2 v2 p2 q2 => by obtain ⟨t2, e2⟩ := c_X12_isSalt p2; have t2 := t2.symm; subst t2; exact ⟨fun c5 => (fun h3 p3 => (fun b6 r7 => ⟨fun c8 => (by rw [e0] at c3; have q1 : v1 = 1 ↔ drR h a.toNat u := (by rw [e1 (by omega) (by omega), j3 170 _ (by omega)]; exact Iff.rfl); have q2 : v2 = 1 ↔ h 170 (6 + 3 * u) = 1 := (by rw [e2 (by omega) (by omega), Int.toNat_natCast, j3 170 _ (by omega)]); have gd : (∀ t : Nat, t < 7 → h3 178 t = WY h u t) ∧ (∀ c k : Nat, ¬ (c = 178 ∧ k < 7) → h3 c k = h c k) := (lw hx h3 u hB j3 (by omega) p3); rw [gd.1 _ (by omega)] at c8; have wz : w32 (WY h a.toNat b.toNat - 1) = WY h a.toNat b.toNat - 1 := w32_id (by unfold WY; omega) (by unfold WY; omega); rw [wz] at c8; have am : nxR h a.toNat b.toNat (u + 1) = -1 := (cif_n (fun z => c8 z.2.2.2)).trans j2; exact ⟨rfl, rfl, u + 1, ⟨by omega, am, gd.2⟩, rfl, rfl, rfl, rfl, wv (by omega) (by omega) (by omega), trivial⟩), fun c8 => (by intro v e; cases e; rw [e0] at c3; have q1 : v1 = 1 ↔ drR h a.toNat u := (by rw [e1 (by omega) (by omega), j3 170 _ (by omega)]; exact Iff.rfl); have q2 : v2 = 1 ↔ h 170 (6 + 3 * u) = 1 := (by rw [e2 (by omega) (by omega), Int.toNat_natCast, j3 170 _ (by omega)]); have gd : (∀ t : Nat, t < 7 → h3 178 t = WY h u t) ∧ (∀ c k : Nat, ¬ (c = 178 ∧ k < 7) → h3 c k = h c k) := (lw hx h3 u hB j3 (by omega) p3); rw [gd.1 _ (by omega)] at c8; have wz : w32 (WY h a.toNat b.toNat - 1) = WY h a.toNat b.toNat - 1 := w32_id (by unfold WY; omega) (by unfold WY; omega); rw [wz] at c8; have am : nxR h a.toNat b.toNat (u + 1) = (u : Int) := cif_p ⟨j2, q1.mp (by omega), fun z => (by have := q2.mpr z; omega), Classical.not_not.mp c8⟩; have st : nxR h a.toNat b.toNat (h 170 0).toNat = (u : Int) := (by have k1 := nx_st (h := h) (f := a.toNat) (t := b.toNat) (k := u + 1) (by rw [am]; omega) ((h 170 0).toNat - (u + 1)); rw [show u + 1 + ((h 170 0).toNat - (u + 1)) = (h 170 0).toNat by omega] at k1; exact k1.trans am); exact ⟨by rw [st, if_neg (by omega)], gd.2⟩)⟩)), fun c5 => (by rw [e0] at c3; have q1 : v1 = 1 ↔ drR h a.toNat u := (by rw [e1 (by omega) (by omega), j3 170 _ (by omega)]; exact Iff.rfl); have q2 : v2 = 1 ↔ h 170 (6 + 3 * u) = 1 := (by rw [e2 (by omega) (by omega), Int.toNat_natCast, j3 170 _ (by omega)]); have am : nxR h a.toNat b.toNat (u + 1) = -1 := (cif_n (fun z => z.2.2.1 (q2.mp (by omega)))).trans j2; exact ⟨rfl, rfl, u + 1, ⟨by omega, am, j3⟩, rfl, rfl, rfl, rfl, wv (by omega) (by omega) (by omega), trivial⟩)⟩)⟩)⟩)⟩
  exact q v rfl
