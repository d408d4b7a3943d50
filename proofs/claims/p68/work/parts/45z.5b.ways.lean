section
/-! 45z.5b.ways -/
/-! WAYS: the search by lengths -/
def lN2 (A : Nat → Nat → ZL) (J : Nat → Nat → PH → Prop) : Nat → PH → ZL → List ZV → Prop := fun _ h lv st => st = [] ∧ ∃ a b, J a b h ∧ zsb (A a b) lv
def lN3 (A : Nat → Nat → Nat → ZL) (J : Nat → Nat → Nat → PH → Prop) : Nat → PH → ZL → List ZV → Prop := fun _ h lv st => st = [] ∧ ∃ a b c, J a b c h ∧ zsb (A a b c) lv
noncomputable def cif (p : Prop) (x y : Int) : Int := @ite Int p (Classical.propDecidable p) x y
theorem cif_p {p : Prop} {x y : Int} (h : p) : cif p x y = x := @if_pos p (Classical.propDecidable p) h Int x y
theorem cif_n {p : Prop} {x y : Int} (h : ¬ p) : cif p x y = y := @if_neg p (Classical.propDecidable p) h Int x y
theorem cif_c {p q : Prop} {x y : Int} (h : p ↔ q) : cif p x y = cif q x y := by rw [propext h]
section W
variable {n : Nat} {dr : Nat → Nat → Prop} {cl : Nat → Prop} {f : Nat}
/-- in how many steps one comes to t, as far as k steps tell; 1000000: not -/
noncomputable def lvS (n : Nat) (dr : Nat → Nat → Prop) (cl : Nat → Prop) (f : Nat) : Nat → Nat → Int
  | 0, t => if t = f then 0 else 1000000
  | k + 1, t => cif (lvS n dr cl f k t = 1000000 ∧ t < n ∧ ¬ cl t ∧ ∃ a, a < n ∧ lvS n dr cl f k a = (k : Int) ∧ dr a t) ((k + 1 : Nat) : Int) (lvS n dr cl f k t)
/-- .. on the way from k to k + 1 steps -/
noncomputable def lvM (n : Nat) (dr : Nat → Nat → Prop) (cl : Nat → Prop) (f k p q t : Nat) : Int := cif (lvS n dr cl f k t = 1000000 ∧ t < n ∧ ¬ cl t ∧ ∃ a, (a < p ∨ (a = p ∧ t < q)) ∧ lvS n dr cl f k a = (k : Int) ∧ dr a t) ((k + 1 : Nat) : Int) (lvS n dr cl f k t)
theorem lvM_0 {k t : Nat} : lvM n dr cl f k 0 0 t = lvS n dr cl f k t := cif_n (fun ⟨_, _, _, a, h, _⟩ => by omega)
theorem lvM_end {k t : Nat} : lvM n dr cl f k n 0 t = lvS n dr cl f (k + 1) t := cif_c ⟨fun ⟨x, y, z, a, h, w⟩ => ⟨x, y, z, a, by omega, w⟩, fun ⟨x, y, z, a, h, w⟩ => ⟨x, y, z, a, by omega, w⟩⟩
theorem lvM_q {k p q t : Nat} (hq : n ≤ q) : lvM n dr cl f k p q t = lvM n dr cl f k (p + 1) 0 t := cif_c ⟨fun ⟨x, y, z, a, h, w⟩ => ⟨x, y, z, a, by omega, w⟩, fun ⟨x, y, z, a, h, w⟩ => ⟨x, y, z, a, by omega, w⟩⟩
theorem lvM_s {k p q t : Nat} (ht : ¬ t = q) : lvM n dr cl f k p (q + 1) t = lvM n dr cl f k p q t := cif_c ⟨fun ⟨x, y, z, a, h, w⟩ => ⟨x, y, z, a, by omega, w⟩, fun ⟨x, y, z, a, h, w⟩ => ⟨x, y, z, a, by omega, w⟩⟩
theorem lvM_e {k p q : Nat} (h : ¬ (lvS n dr cl f k p = (k : Int) ∧ dr p q ∧ ¬ cl q ∧ q < n ∧ lvM n dr cl f k p q q = 1000000)) : lvM n dr cl f k p (q + 1) q = lvM n dr cl f k p q q := by
  by_cases C : lvS n dr cl f k q = 1000000 ∧ q < n ∧ ¬ cl q ∧ ∃ a, (a < p ∨ (a = p ∧ q < q)) ∧ lvS n dr cl f k a = (k : Int) ∧ dr a q
  · obtain ⟨x, y, z, a, ha, w⟩ := id C
    exact (cif_p ⟨x, y, z, a, by omega, w⟩).trans (cif_p C).symm
  · refine (cif_n ?_).trans (cif_n C).symm
    rintro ⟨x, y, z, a, ha, w1, w2⟩
    rcases ha with ha | ⟨ha, -⟩
    · exact C ⟨x, y, z, a, Or.inl ha, w1, w2⟩
    · subst ha
      exact h ⟨w1, w2, z, y, (cif_n C).trans x⟩
theorem lvM_y {k p q : Nat} (hk : k ≤ 900000) (h : lvS n dr cl f k p = (k : Int) ∧ dr p q ∧ ¬ cl q ∧ q < n ∧ lvM n dr cl f k p q q = 1000000) : lvM n dr cl f k p (q + 1) q = ((k + 1 : Nat) : Int) := by
  obtain ⟨h1, h2, h3, h4, h5⟩ := h
  by_cases C : lvS n dr cl f k q = 1000000 ∧ q < n ∧ ¬ cl q ∧ ∃ a, (a < p ∨ (a = p ∧ q < q)) ∧ lvS n dr cl f k a = (k : Int) ∧ dr a q
  · have e : lvM n dr cl f k p q q = ((k + 1 : Nat) : Int) := cif_p C
    rw [e] at h5
    omega
  · have e : lvM n dr cl f k p q q = lvS n dr cl f k q := cif_n C
    rw [e] at h5
    exact cif_p ⟨h5, h4, h3, p, Or.inr ⟨rfl, by omega⟩, h1, h2⟩
theorem lvM_k {k p q t : Nat} (hk : k ≤ 900000) : lvM n dr cl f k p q t = (k : Int) ↔ lvS n dr cl f k t = (k : Int) := by
  by_cases C : lvS n dr cl f k t = 1000000 ∧ t < n ∧ ¬ cl t ∧ ∃ a, (a < p ∨ (a = p ∧ t < q)) ∧ lvS n dr cl f k a = (k : Int) ∧ dr a t
  · have e : lvM n dr cl f k p q t = ((k + 1 : Nat) : Int) := cif_p C
    rw [e, C.1]
    omega
  · have e : lvM n dr cl f k p q t = lvS n dr cl f k t := cif_n C
    rw [e]
end W
def drR (h : PH) (i j : Nat) : Prop := zand (zshr (h 170 (7 + 3 * i)) (j : Int)) 1 = 1
def clR (h : PH) (b : Int) (t : Nat) : Prop := h 170 (6 + 3 * t) = 1 ∨ (t : Int) = b
set_option maxRecDepth 10000 in
theorem v_X12_laysWays {sl : Nat} {si : Nat → Int} {K : Nat → PH → ZL → List ZV → Prop} {Q : PH → List ZV → Prop} {h : PH} {a b : Int} (H : K 2 h [(3, (0, 0)), (0, (2, 169)), (1, (0, a)), (2, (0, b))] []) : vc (zz sl si (7, 0)) (fun p => Nat.beq p 2 || Nat.beq p 34 || Nat.beq p 43 || Nat.beq p 57) K Q mX12_laysWays 4 0 mX12_laysWays.2.2.2.2.2.2 h [(0, (2, 169)), (1, (0, a)), (2, (0, b))] [] := H
set_option maxRecDepth 10000 in
theorem v_X12_laysWays_2 {sl : Nat} {si : Nat → Int} {K : Nat → PH → ZL → List ZV → Prop} {Q : PH → List ZV → Prop} {h : PH} {a b : Int} {k : Int} (H : ((7 : Int) ≤ k → K 34 h [(3, (0, 0)), (0, (2, 169)), (1, (0, a)), (2, (0, b))] []) ∧ (¬ ((7 : Int) ≤ k) → (k ≠ a → 0 ≤ k ∧ k < (7 : Nat) → K 2 (uph h 178 k.toNat 1000000) [(3, (0, w32 (k + 1))), (0, (2, 169)), (1, (0, a)), (2, (0, b))] []) ∧ (¬ (k ≠ a) → 0 ≤ k ∧ k < (7 : Nat) → K 2 (uph h 178 k.toNat 0) [(3, (0, w32 (k + 1))), (0, (2, 169)), (1, (0, a)), (2, (0, b))] []))) : vc (zz sl si (7, 0)) (fun p => Nat.beq p 2 || Nat.beq p 34 || Nat.beq p 43 || Nat.beq p 57) K Q mX12_laysWays 16 2 (ax_jmp mX12_laysWays.2.2.2.2.2.2 2) h [(0, (2, 169)), (1, (0, a)), (2, (0, b)), (3, (0, k))] [] := H
set_option maxRecDepth 10000 in
theorem v_X12_laysWays_34 {sl : Nat} {si : Nat → Int} {K : Nat → PH → ZL → List ZV → Prop} {Q : PH → List ZV → Prop} {h : PH} {a b : Int} {n : Int} (H : ((7 : Int) ≤ n → Q h []) ∧ (¬ ((7 : Int) ≤ n) → K 43 h [(4, (0, 0)), (0, (2, 169)), (1, (0, a)), (2, (0, b)), (3, (0, n))] [])) : vc (zz sl si (7, 0)) (fun p => Nat.beq p 2 || Nat.beq p 34 || Nat.beq p 43 || Nat.beq p 57) K Q mX12_laysWays 7 34 (ax_jmp mX12_laysWays.2.2.2.2.2.2 34) h [(0, (2, 169)), (1, (0, a)), (2, (0, b)), (3, (0, n))] [] := H
set_option maxRecDepth 10000 in
theorem v_X12_laysWays_43 {sl : Nat} {si : Nat → Int} {K : Nat → PH → ZL → List ZV → Prop} {Q : PH → List ZV → Prop} {h : PH} {a b : Int} {n p : Int} (H : 0 ≤ (0 : Int) ∧ (0 : Int) < (3696 : Nat) → R32 (h 170 0) → ((h 170 0) ≤ p → K 34 h [(3, (0, w32 (n + 1))), (0, (2, 169)), (1, (0, a)), (2, (0, b)), (4, (0, p))] []) ∧ (¬ ((h 170 0) ≤ p) → K 57 h [(5, (0, 0)), (0, (2, 169)), (1, (0, a)), (2, (0, b)), (3, (0, n)), (4, (0, p))] [])) : vc (zz sl si (7, 0)) (fun p => Nat.beq p 2 || Nat.beq p 34 || Nat.beq p 43 || Nat.beq p 57) K Q mX12_laysWays 10 43 (ax_jmp mX12_laysWays.2.2.2.2.2.2 43) h [(0, (2, 169)), (1, (0, a)), (2, (0, b)), (3, (0, n)), (4, (0, p))] [] := H
set_option maxRecDepth 10000 in
theorem v_X12_laysWays_57 {sl : Nat} {si : Nat → Int} {K : Nat → PH → ZL → List ZV → Prop} {Q : PH → List ZV → Prop} {h : PH} {a b : Int} {n p q : Int} (H : 0 ≤ (0 : Int) ∧ (0 : Int) < (3696 : Nat) → R32 (h 170 0) → ((h 170 0) ≤ q → K 43 h [(4, (0, w32 (p + 1))), (0, (2, 169)), (1, (0, a)), (2, (0, b)), (3, (0, n)), (5, (0, q))] []) ∧ (¬ ((h 170 0) ≤ q) → 0 ≤ p ∧ p < (7 : Nat) → R32 (h 178 p.toNat) → ((h 178 p.toNat) ≠ n → K 57 h [(5, (0, w32 (q + 1))), (0, (2, 169)), (1, (0, a)), (2, (0, b)), (3, (0, n)), (4, (0, p))] []) ∧ (¬ ((h 178 p.toNat) ≠ n) → 0 ≤ q ∧ q < (7 : Nat) → R32 (h 178 q.toNat) → ((h 178 q.toNat) ≠ 1000000 → K 57 h [(5, (0, w32 (q + 1))), (0, (2, 169)), (1, (0, a)), (2, (0, b)), (3, (0, n)), (4, (0, p))] []) ∧ (¬ ((h 178 q.toNat) ≠ 1000000) → ∀ h1 v1, CP (zz sl si (7, 0)) mX12_isDoor h [(2, 169), (0, p), (0, q)] h1 [(0, v1)] → v1 = 0 ∨ v1 = 1 → (v1 = 0 → K 57 h1 [(5, (0, w32 (q + 1))), (0, (2, 169)), (1, (0, a)), (2, (0, b)), (3, (0, n)), (4, (0, p))] []) ∧ (¬ (v1 = 0) → ∀ h2 v2, CP (zz sl si (7, 0)) mX12_isSalt h1 [(2, 169), (0, q)] h2 [(0, v2)] → v2 = 0 ∨ v2 = 1 → (v2 ≠ 0 → K 57 h2 [(5, (0, w32 (q + 1))), (0, (2, 169)), (1, (0, a)), (2, (0, b)), (3, (0, n)), (4, (0, p))] []) ∧ (¬ (v2 ≠ 0) → (q = b → K 57 h2 [(5, (0, w32 (q + 1))), (0, (2, 169)), (1, (0, a)), (2, (0, b)), (3, (0, n)), (4, (0, p))] []) ∧ (¬ (q = b) → 0 ≤ q ∧ q < (7 : Nat) → K 57 (uph h2 178 q.toNat (w32 (n + 1))) [(5, (0, w32 (q + 1))), (0, (2, 169)), (1, (0, a)), (2, (0, b)), (3, (0, n)), (4, (0, p))] []))))))) : vc (zz sl si (7, 0)) (fun p => Nat.beq p 2 || Nat.beq p 34 || Nat.beq p 43 || Nat.beq p 57) K Q mX12_laysWays 41 57 (ax_jmp mX12_laysWays.2.2.2.2.2.2 57) h [(0, (2, 169)), (1, (0, a)), (2, (0, b)), (3, (0, n)), (4, (0, p)), (5, (0, q))] [] := H
set_option maxHeartbeats 600000 in
theorem c_X12_laysWays {sl : Nat} {si : Nat → Int} {h h' : PH} {a b : Int} (hn : 0 ≤ h 170 0 ∧ h 170 0 ≤ 7) (ha : 0 ≤ a ∧ a ≤ 6) (hc : CP (zz sl si (7, 0)) mX12_laysWays h [(2, 169), (0, a), (0, b)] h' []) : (∀ t : Nat, t < 7 → h' 178 t = lvS (h 170 0).toNat (drR h) (clR h b) a.toNat 7 t) ∧ ∀ c k : Nat, ¬ (c = 178 ∧ k < 7) → h' c k = h c k := by
  have q : (fun (xh : PH) (r : List ZV) => (∀ t : Nat, t < 7 → xh 178 t = lvS (h 170 0).toNat (drR h) (clR h b) a.toNat 7 t) ∧ ∀ c k : Nat, ¬ (c = 178 ∧ k < 7) → xh c k = h c k) h' [] := by
    refine cp_vc (cut := (fun p => Nat.beq p 2 || Nat.beq p 34 || Nat.beq p 43 || Nat.beq p 57)) (K := fun p hx lv st => (p = 2 ∧ lK (fun u : Nat => [(0, (2, 169)), (1, (0, a)), (2, (0, b)), (3, (0, (u : Int)))]) (fun u hx => u ≤ 7 ∧ (∀ t : Nat, t < u → hx 178 t = lvS (h 170 0).toNat (drR h) (clR h b) a.toNat 0 t) ∧ ∀ c k : Nat, ¬ (c = 178 ∧ k < 7) → hx c k = h c k) p hx lv st) ∨ (p = 34 ∧ lK (fun u : Nat => [(0, (2, 169)), (1, (0, a)), (2, (0, b)), (3, (0, (u : Int)))]) (fun u hx => u ≤ 7 ∧ (∀ t : Nat, t < 7 → hx 178 t = lvS (h 170 0).toNat (drR h) (clR h b) a.toNat u t) ∧ ∀ c k : Nat, ¬ (c = 178 ∧ k < 7) → hx c k = h c k) p hx lv st) ∨ (p = 43 ∧ lN2 (fun u1 u2 : Nat => [(0, (2, 169)), (1, (0, a)), (2, (0, b)), (3, (0, (u1 : Int))), (4, (0, (u2 : Int)))]) (fun u1 u2 hx => u1 < 7 ∧ (u2 : Int) ≤ h 170 0 ∧ (∀ t : Nat, t < 7 → hx 178 t = lvM (h 170 0).toNat (drR h) (clR h b) a.toNat u1 u2 0 t) ∧ ∀ c k : Nat, ¬ (c = 178 ∧ k < 7) → hx c k = h c k) p hx lv st) ∨ (p = 57 ∧ lN3 (fun u1 u2 u3 : Nat => [(0, (2, 169)), (1, (0, a)), (2, (0, b)), (3, (0, (u1 : Int))), (4, (0, (u2 : Int))), (5, (0, (u3 : Int)))]) (fun u1 u2 u3 hx => u1 < 7 ∧ (u2 : Int) < h 170 0 ∧ (u3 : Int) ≤ h 170 0 ∧ (∀ t : Nat, t < 7 → hx 178 t = lvM (h 170 0).toNat (drR h) (clR h b) a.toNat u1 u2 u3 t) ∧ ∀ c k : Nat, ¬ (c = 178 ∧ k < 7) → hx c k = h c k) p hx lv st)) (Q := fun (xh : PH) (r : List ZV) => (∀ t : Nat, t < 7 → xh 178 t = lvS (h 170 0).toNat (drR h) (clR h b) a.toNat 7 t) ∧ ∀ c k : Nat, ¬ (c = 178 ∧ k < 7) → xh c k = h c k) (v_X12_laysWays ?_) (fun pc hx lv st hcut hK => ?_) hc
    · exact (by exact Or.inl ⟨rfl, rfl, 0, ⟨by omega, fun t q => by omega, fun c k q => rfl⟩, rfl, rfl, rfl, rfl, trivial⟩)
    · rcases hK with ⟨rfl, rfl, u, hJ, hs⟩ | ⟨rfl, rfl, u, hJ, hs⟩ | ⟨rfl, rfl, u1, u2, hJ, hs⟩ | ⟨rfl, rfl, u1, u2, u3, hJ, hs⟩
      · obtain ⟨j1, j2, j3⟩ := hJ
        exact ⟨_, _, hs, v_X12_laysWays_2 ⟨fun c1 => (by have e : u = 7 := (by omega); subst e; exact Or.inr (Or.inl ⟨rfl, rfl, 0, ⟨by omega, j2, j3⟩, rfl, rfl, rfl, rfl, trivial⟩)), fun c1 => ⟨fun c2 => (fun b3 => (by rw [Int.toNat_natCast]; refine Or.inl ⟨rfl, rfl, u + 1, ⟨by omega, fun t q => ?_, fun c k q => by rw [up_ne (by omega)]; exact j3 c k q⟩, rfl, rfl, rfl, wv (by omega) (by omega) (by omega), trivial⟩; by_cases z : t = u; (rw [z, up_sm]; exact (if_neg (by omega)).symm); (rw [up_ne (by omega)]; exact j2 t (by omega)))), fun c2 => (fun b4 => (by rw [Int.toNat_natCast]; refine Or.inl ⟨rfl, rfl, u + 1, ⟨by omega, fun t q => ?_, fun c k q => by rw [up_ne (by omega)]; exact j3 c k q⟩, rfl, rfl, rfl, wv (by omega) (by omega) (by omega), trivial⟩; by_cases z : t = u; (rw [z, up_sm]; exact (if_pos (by omega)).symm); (rw [up_ne (by omega)]; exact j2 t (by omega))))⟩⟩⟩
      · obtain ⟨j1, j2, j3⟩ := hJ
        exact ⟨_, _, hs, v_X12_laysWays_34 ⟨fun c1 => (by have e : u = 7 := (by omega); subst e; exact ⟨j2, j3⟩), fun c1 => (by exact Or.inr (Or.inr (Or.inl ⟨rfl, rfl, u, 0, ⟨by omega, by omega, fun t q => by rw [lvM_0]; exact j2 t q, j3⟩, rfl, rfl, rfl, rfl, rfl, trivial⟩)))⟩⟩
      · obtain ⟨j1, j4, j2, j3⟩ := hJ
        have e0 : hx 170 0 = h 170 0 := j3 170 0 (by omega)
        exact ⟨_, _, hs, v_X12_laysWays_43 (fun b1 r2 => ⟨fun c3 => (by rw [e0] at c3; have ep : u2 = (h 170 0).toNat := (by omega); exact Or.inr (Or.inl ⟨rfl, rfl, u1 + 1, ⟨by omega, fun t q => (by rw [j2 t q, ep]; exact lvM_end), j3⟩, rfl, rfl, rfl, wv (by omega) (by omega) (by omega), trivial⟩)), fun c3 => (by rw [e0] at c3; exact Or.inr (Or.inr (Or.inr ⟨rfl, rfl, u1, u2, 0, ⟨j1, by omega, by omega, j2, j3⟩, rfl, rfl, rfl, rfl, rfl, rfl, trivial⟩)))⟩)⟩
      · obtain ⟨j1, jp, jq, j2, j3⟩ := hJ
        have e0 : hx 170 0 = h 170 0 := j3 170 0 (by omega)
        exact ⟨_, _, hs, v_X12_laysWays_57 (fun b1 r2 => ⟨fun c3 => (by rw [e0] at c3; exact Or.inr (Or.inr (Or.inl ⟨rfl, rfl, u1, u2 + 1, ⟨j1, by omega, fun t z => by rw [j2 t z]; exact lvM_q (by omega), j3⟩, rfl, rfl, rfl, rfl, wv (by omega) (by omega) (by omega), trivial⟩))), fun c3 => (fun b4 r5 => ⟨fun c6 => (by rw [e0] at c3; refine Or.inr (Or.inr (Or.inr ⟨rfl, rfl, u1, u2, u3 + 1, ⟨j1, jp, by omega, fun t z => ?_, j3⟩, rfl, rfl, rfl, rfl, rfl, wv (by omega) (by omega) (by omega), trivial⟩)); rw [j2 t z]; by_cases y : t = u3; (rw [y]; exact (lvM_e (fun w => c6 (by rw [Int.toNat_natCast, j2 u2 (by omega)]; exact (lvM_k (by omega)).mpr w.1))).symm); exact (lvM_s y).symm), fun c6 => (fun b7 r8 => ⟨fun c9 => (by rw [e0] at c3; refine Or.inr (Or.inr (Or.inr ⟨rfl, rfl, u1, u2, u3 + 1, ⟨j1, jp, by omega, fun t z => ?_, j3⟩, rfl, rfl, rfl, rfl, rfl, wv (by omega) (by omega) (by omega), trivial⟩)); rw [j2 t z]; by_cases y : t = u3; (rw [y]; exact (lvM_e (fun w => c9 (by rw [Int.toNat_natCast, j2 u3 (by omega)]; exact w.2.2.2.2))).symm); exact (lvM_s y).symm), fun c9 => (fun h1 v1 p1 q1 => by obtain ⟨t1, e1⟩ := c_X12_isDoor p1; have t1 := t1.symm; subst t1; exact ⟨fun c10 => (by rw [e0] at c3; refine Or.inr (Or.inr (Or.inr ⟨rfl, rfl, u1, u2, u3 + 1, ⟨j1, jp, by omega, fun t z => ?_, j3⟩, rfl, rfl, rfl, rfl, rfl, wv (by omega) (by omega) (by omega), trivial⟩)); rw [j2 t z]; by_cases y : t = u3; (rw [y]; exact (lvM_e (fun w => (by have k9 := (e1 (by omega) (by omega)).mpr (by rw [Int.toNat_natCast, j3 170 _ (by omega)]; exact w.2.1); omega))).symm); exact (lvM_s y).symm), fun c10 => (fun h2 v2 p2 q2 => by obtain ⟨t2, e2⟩ := c_X12_isSalt p2; have t2 := t2.symm; subst t2; exact ⟨fun c11 => (by rw [e0] at c3; refine Or.inr (Or.inr (Or.inr ⟨rfl, rfl, u1, u2, u3 + 1, ⟨j1, jp, by omega, fun t z => ?_, j3⟩, rfl, rfl, rfl, rfl, rfl, wv (by omega) (by omega) (by omega), trivial⟩)); rw [j2 t z]; by_cases y : t = u3; (rw [y]; exact (lvM_e (fun w => (by have k9 := (e2 (by omega) (by omega)).mp (by omega); rw [Int.toNat_natCast, j3 170 _ (by omega)] at k9; exact w.2.2.1 (Or.inl k9)))).symm); exact (lvM_s y).symm), fun c11 => ⟨fun c12 => (by rw [e0] at c3; refine Or.inr (Or.inr (Or.inr ⟨rfl, rfl, u1, u2, u3 + 1, ⟨j1, jp, by omega, fun t z => ?_, j3⟩, rfl, rfl, rfl, rfl, rfl, wv (by omega) (by omega) (by omega), trivial⟩)); rw [j2 t z]; by_cases y : t = u3; (rw [y]; exact (lvM_e (fun w => w.2.2.1 (Or.inr c12))).symm); exact (lvM_s y).symm), fun c12 => (fun b13 => (by rw [e0] at c3; rw [Int.toNat_natCast]; rw [Int.toNat_natCast, j2 u2 (by omega)] at c6; rw [Int.toNat_natCast, j2 u3 (by omega)] at c9; have A1 := (lvM_k (by omega)).mp (Classical.not_not.mp c6); have A5 := Classical.not_not.mp c9; have A2 := (e1 (by omega) (by omega)).mp (by omega); rw [Int.toNat_natCast, j3 170 _ (by omega)] at A2; have A3 : ¬ clR h b u3 := (fun z => z.elim (fun y => (by have k9 := (e2 (by omega) (by omega)).mpr (by rw [Int.toNat_natCast, j3 170 _ (by omega)]; exact y); omega)) (fun y => c12 y)); have wn : w32 ((u1 : Int) + 1) = ((u1 + 1 : Nat) : Int) := (by rw [w32_id (by omega) (by omega)]; omega); rw [wn]; refine Or.inr (Or.inr (Or.inr ⟨rfl, rfl, u1, u2, u3 + 1, ⟨j1, jp, by omega, fun t z => ?_, fun c k y => by rw [up_ne (by omega)]; exact j3 c k y⟩, rfl, rfl, rfl, rfl, rfl, wv (by omega) (by omega) (by omega), trivial⟩)); by_cases y : t = u3; (rw [y, up_sm]; exact (lvM_y (by omega) ⟨A1, A2, A3, by omega, A5⟩).symm); (rw [up_ne (by omega), j2 t z]; exact (lvM_s y).symm)))⟩⟩)⟩)⟩)⟩)⟩)⟩
  exact q
end
section
/-! 45z.5c.aim -/
/-! AIM, the next HOUSE: the reference's -/
noncomputable def WY (h : PH) (f t : Nat) : Int := lvS (h 170 0).toNat (drR h) (clR h (-1)) f 7 t
def atR (h : PH) (q : Nat) : Nat := (h 170 (27 + 5 * q)).toNat
def BdR (h : PH) : Prop := (0 ≤ h 170 0 ∧ h 170 0 ≤ 7) ∧ (0 ≤ h 170 1 ∧ h 170 1 ≤ 8) ∧ ∀ q : Nat, q < 8 → 0 ≤ h 170 (27 + 5 * q) ∧ h 170 (27 + 5 * q) ≤ 6
noncomputable def amR (h : PH) (p : Nat) : Nat → Int
  | 0 => -1
  | q + 1 => cif (0 < h 170 (67 + 8 * p + q) ∧ WY h (atR h p) (atR h q) < 1000000 ∧ (amR h p q = -1 ∨ WY h (atR h p) (atR h q) < WY h (atR h p) (atR h (amR h p q).toNat))) (q : Int) (amR h p q)
theorem am_b {h : PH} {p : Nat} : ∀ (q : Nat), amR h p q = -1 ∨ (0 ≤ amR h p q ∧ amR h p q < q)
  | 0 => Or.inl rfl
  | q + 1 => by
    have i := am_b (h := h) (p := p) q
    by_cases C : 0 < h 170 (67 + 8 * p + q) ∧ WY h (atR h p) (atR h q) < 1000000 ∧ (amR h p q = -1 ∨ WY h (atR h p) (atR h q) < WY h (atR h p) (atR h (amR h p q).toNat))
    · have e : amR h p (q + 1) = (q : Int) := cif_p C
      rw [e]
      omega
    · have e : amR h p (q + 1) = amR h p q := cif_n C
      rw [e]
      omega
set_option maxRecDepth 10000 in
theorem v_X12_aimOf {sl : Nat} {si : Nat → Int} {K : Nat → PH → ZL → List ZV → Prop} {Q : PH → List ZV → Prop} {h : PH} {a : Int} (H : ∀ h1 v1, CP (zz sl si (7, 0)) mX12_whereOf h [(2, 169), (0, a)] h1 [(0, v1)] → R32 v1 → ∀ h2, CP (zz sl si (7, 0)) mX12_laysWays h1 [(2, 169), (0, v1), (0, (-1))] h2 [] → K 14 h2 [(3, (0, 0)), (2, (0, (-1))), (0, (2, 169)), (1, (0, a))] []) : vc (zz sl si (7, 0)) (fun p => Nat.beq p 14) K Q mX12_aimOf 12 0 mX12_aimOf.2.2.2.2.2.2 h [(0, (2, 169)), (1, (0, a))] [] := H
set_option maxRecDepth 10000 in
theorem v_X12_aimOf_14 {sl : Nat} {si : Nat → Int} {K : Nat → PH → ZL → List ZV → Prop} {Q : PH → List ZV → Prop} {h : PH} {a : Int} {m q : Int} (H : 0 ≤ (1 : Int) ∧ (1 : Int) < (3696 : Nat) → R32 (h 170 1) → ((h 170 1) ≤ q → Q h [(0, m)]) ∧ (¬ ((h 170 1) ≤ q) → ∀ h1 v1, CP (zz sl si (7, 0)) mX12_owes h [(2, 169), (0, a), (0, q)] h1 [(0, v1)] → R32 v1 → (v1 ≤ 0 → K 14 h1 [(3, (0, w32 (q + 1))), (0, (2, 169)), (1, (0, a)), (2, (0, m))] []) ∧ (¬ (v1 ≤ 0) → ∀ h2 v2, CP (zz sl si (7, 0)) mX12_whereOf h1 [(2, 169), (0, q)] h2 [(0, v2)] → R32 v2 → 0 ≤ v2 ∧ v2 < (7 : Nat) → R32 (h2 178 v2.toNat) → ((1000000 : Int) ≤ (h2 178 v2.toNat) → K 14 h2 [(3, (0, w32 (q + 1))), (0, (2, 169)), (1, (0, a)), (2, (0, m))] []) ∧ (¬ ((1000000 : Int) ≤ (h2 178 v2.toNat)) → (m = (-1) → K 14 h2 [(3, (0, w32 (q + 1))), (2, (0, q)), (0, (2, 169)), (1, (0, a))] []) ∧ (¬ (m = (-1)) → ∀ h3 v3, CP (zz sl si (7, 0)) mX12_whereOf h2 [(2, 169), (0, q)] h3 [(0, v3)] → R32 v3 → 0 ≤ v3 ∧ v3 < (7 : Nat) → R32 (h3 178 v3.toNat) → ∀ h4 v4, CP (zz sl si (7, 0)) mX12_whereOf h3 [(2, 169), (0, m)] h4 [(0, v4)] → R32 v4 → 0 ≤ v4 ∧ v4 < (7 : Nat) → R32 (h4 178 v4.toNat) → ((h4 178 v4.toNat) ≤ (h3 178 v3.toNat) → K 14 h4 [(3, (0, w32 (q + 1))), (0, (2, 169)), (1, (0, a)), (2, (0, m))] []) ∧ (¬ ((h4 178 v4.toNat) ≤ (h3 178 v3.toNat)) → K 14 h4 [(3, (0, w32 (q + 1))), (2, (0, q)), (0, (2, 169)), (1, (0, a))] [])))))) : vc (zz sl si (7, 0)) (fun p => Nat.beq p 14) K Q mX12_aimOf 41 14 (ax_jmp mX12_aimOf.2.2.2.2.2.2 14) h [(0, (2, 169)), (1, (0, a)), (2, (0, m)), (3, (0, q))] [] := H
set_option maxHeartbeats 600000 in
theorem c_X12_aimOf {sl : Nat} {si : Nat → Int} {h h' : PH} {a : Int} {v : Int} (hB : BdR h) (ha : 0 ≤ a ∧ a ≤ 7) (hc : CP (zz sl si (7, 0)) mX12_aimOf h [(2, 169), (0, a)] h' [(0, v)]) : v = amR h a.toNat (h 170 1).toNat ∧ (∀ c k : Nat, ¬ (c = 178 ∧ k < 7) → h' c k = h c k) := by
  have q : (fun (xh : PH) (r : List ZV) => ∀ v : Int, r = [(0, v)] → (v = amR h a.toNat (h 170 1).toNat ∧ (∀ c k : Nat, ¬ (c = 178 ∧ k < 7) → xh c k = h c k))) h' [(0, v)] := by
    refine cp_vc (cut := (fun p => Nat.beq p 14)) (K := fun p hx lv st => (p = 14 ∧ lK (fun u : Nat => [(0, (2, 169)), (1, (0, a)), (2, (0, amR h a.toNat u)), (3, (0, (u : Int)))]) (fun u hx => (u : Int) ≤ h 170 1 ∧ (∀ t : Nat, t < 7 → hx 178 t = WY h (atR h a.toNat) t) ∧ (∀ c k : Nat, ¬ (c = 178 ∧ k < 7) → hx c k = h c k)) p hx lv st)) (Q := fun (xh : PH) (r : List ZV) => ∀ v : Int, r = [(0, v)] → (v = amR h a.toNat (h 170 1).toNat ∧ (∀ c k : Nat, ¬ (c = 178 ∧ k < 7) → xh c k = h c k))) (v_X12_aimOf ?_) (fun pc hx lv st hcut hK => ?_) hc
    · exact (fun h1 v1 p1 q1 => by obtain ⟨t1, e1⟩ := c_X12_whereOf p1; have t1 := t1.symm; subst t1; exact (fun h2 p2 => (by have e1 := e1 (by omega) (by omega); subst e1; have hb := hB.2.2 a.toNat (by omega); obtain ⟨g1, g2⟩ := c_X12_laysWays hB.1 hb p2; exact ⟨rfl, rfl, 0, ⟨by have := hB.2.1; omega, fun t q => g1 t q, g2⟩, rfl, rfl, rfl, rfl, trivial⟩)))
    · rcases hK with ⟨rfl, rfl, u, hJ, hs⟩
      · obtain ⟨j1, j2, j3⟩ := hJ
        have e0 : hx 170 1 = h 170 1 := j3 170 1 (by omega)
        have h8 := hB.2.1
        exact ⟨_, _, hs, v_X12_aimOf_14 (fun b1 r2 => ⟨fun c3 => (by intro v e; cases e; rw [e0] at c3; have eu : (h 170 1).toNat = u := (by omega); exact ⟨by rw [eu], j3⟩), fun c3 => (fun h1 v1 p1 q1 => by obtain ⟨t1, e1⟩ := c_X12_owes p1; have t1 := t1.symm; subst t1; exact ⟨fun c4 => (by rw [e0] at c3; have w1 : v1 = h 170 (67 + 8 * a.toNat + u) := (by rw [e1 (by omega) (by omega) (by omega) (by omega), Int.toNat_natCast, j3 170 _ (by omega)]); have hb := hB.2.2 u (by omega); have am : amR h a.toNat (u + 1) = amR h a.toNat u := cif_n (fun z => (by have := z.1; omega)); exact ⟨rfl, rfl, u + 1, ⟨by omega, j2, j3⟩, rfl, rfl, (by rw [am]; rfl), wv (by omega) (by omega) (by omega), trivial⟩), fun c4 => (fun h2 v2 p2 q2 => by obtain ⟨t2, e2⟩ := c_X12_whereOf p2; have t2 := t2.symm; subst t2; exact (fun b5 r6 => ⟨fun c7 => (by rw [e0] at c3; have w1 : v1 = h 170 (67 + 8 * a.toNat + u) := (by rw [e1 (by omega) (by omega) (by omega) (by omega), Int.toNat_natCast, j3 170 _ (by omega)]); have hb := hB.2.2 u (by omega); have w2 : v2 = h 170 (27 + 5 * u) := (by rw [e2 (by omega) (by omega), Int.toNat_natCast, j3 170 _ (by omega)]); have d2 : hx 178 v2.toNat = WY h (atR h a.toNat) (atR h u) := (by rw [w2]; exact j2 _ (by omega)); rw [d2] at c7; have am : amR h a.toNat (u + 1) = amR h a.toNat u := cif_n (fun z => (by have := z.2.1; omega)); exact ⟨rfl, rfl, u + 1, ⟨by omega, j2, j3⟩, rfl, rfl, (by rw [am]; rfl), wv (by omega) (by omega) (by omega), trivial⟩), fun c7 => ⟨fun c8 => (by rw [e0] at c3; have w1 : v1 = h 170 (67 + 8 * a.toNat + u) := (by rw [e1 (by omega) (by omega) (by omega) (by omega), Int.toNat_natCast, j3 170 _ (by omega)]); have hb := hB.2.2 u (by omega); have w2 : v2 = h 170 (27 + 5 * u) := (by rw [e2 (by omega) (by omega), Int.toNat_natCast, j3 170 _ (by omega)]); have d2 : hx 178 v2.toNat = WY h (atR h a.toNat) (atR h u) := (by rw [w2]; exact j2 _ (by omega)); rw [d2] at c7; have am : amR h a.toNat (u + 1) = (u : Int) := cif_p ⟨by omega, by omega, Or.inl c8⟩; exact ⟨rfl, rfl, u + 1, ⟨by omega, j2, j3⟩, rfl, rfl, (by rw [am]; rfl), wv (by omega) (by omega) (by omega), trivial⟩), fun c8 => (fun h3 v3 p3 q3 => by obtain ⟨t3, e3⟩ := c_X12_whereOf p3; have t3 := t3.symm; subst t3; exact (fun b9 r10 => (fun h4 v4 p4 q4 => by obtain ⟨t4, e4⟩ := c_X12_whereOf p4; have t4 := t4.symm; subst t4; exact (fun b11 r12 => ⟨fun c13 => (by rw [e0] at c3; have w1 : v1 = h 170 (67 + 8 * a.toNat + u) := (by rw [e1 (by omega) (by omega) (by omega) (by omega), Int.toNat_natCast, j3 170 _ (by omega)]); have hb := hB.2.2 u (by omega); have w2 : v2 = h 170 (27 + 5 * u) := (by rw [e2 (by omega) (by omega), Int.toNat_natCast, j3 170 _ (by omega)]); have d2 : hx 178 v2.toNat = WY h (atR h a.toNat) (atR h u) := (by rw [w2]; exact j2 _ (by omega)); rw [d2] at c7; have bm := am_b (h := h) (p := a.toNat) u; have hm := hB.2.2 (amR h a.toNat u).toNat (by omega); have w3 : v3 = h 170 (27 + 5 * u) := (by rw [e3 (by omega) (by omega), Int.toNat_natCast, j3 170 _ (by omega)]); have d3 : hx 178 v3.toNat = WY h (atR h a.toNat) (atR h u) := (by rw [w3]; exact j2 _ (by omega)); have w4 : v4 = h 170 (27 + 5 * (amR h a.toNat u).toNat) := (by rw [e4 (by omega) (by omega), j3 170 _ (by omega)]); have d4 : hx 178 v4.toNat = WY h (atR h a.toNat) (atR h (amR h a.toNat u).toNat) := (by rw [w4]; exact j2 _ (by omega)); rw [d3, d4] at c13; have am : amR h a.toNat (u + 1) = amR h a.toNat u := cif_n (fun z => z.2.2.elim c8 (fun y => by omega)); exact ⟨rfl, rfl, u + 1, ⟨by omega, j2, j3⟩, rfl, rfl, (by rw [am]; rfl), wv (by omega) (by omega) (by omega), trivial⟩), fun c13 => (by rw [e0] at c3; have w1 : v1 = h 170 (67 + 8 * a.toNat + u) := (by rw [e1 (by omega) (by omega) (by omega) (by omega), Int.toNat_natCast, j3 170 _ (by omega)]); have hb := hB.2.2 u (by omega); have w2 : v2 = h 170 (27 + 5 * u) := (by rw [e2 (by omega) (by omega), Int.toNat_natCast, j3 170 _ (by omega)]); have d2 : hx 178 v2.toNat = WY h (atR h a.toNat) (atR h u) := (by rw [w2]; exact j2 _ (by omega)); rw [d2] at c7; have bm := am_b (h := h) (p := a.toNat) u; have hm := hB.2.2 (amR h a.toNat u).toNat (by omega); have w3 : v3 = h 170 (27 + 5 * u) := (by rw [e3 (by omega) (by omega), Int.toNat_natCast, j3 170 _ (by omega)]); have d3 : hx 178 v3.toNat = WY h (atR h a.toNat) (atR h u) := (by rw [w3]; exact j2 _ (by omega)); have w4 : v4 = h 170 (27 + 5 * (amR h a.toNat u).toNat) := (by rw [e4 (by omega) (by omega), j3 170 _ (by omega)]); have d4 : hx 178 v4.toNat = WY h (atR h a.toNat) (atR h (amR h a.toNat u).toNat) := (by rw [w4]; exact j2 _ (by omega)); rw [d3, d4] at c13; have am : amR h a.toNat (u + 1) = (u : Int) := cif_p ⟨by omega, by omega, Or.inr (by omega)⟩; exact ⟨rfl, rfl, u + 1, ⟨by omega, j2, j3⟩, rfl, rfl, (by rw [am]; rfl), wv (by omega) (by omega) (by omega), trivial⟩)⟩))))⟩⟩))⟩)⟩)⟩
  exact q v rfl
/-- the HOUSE that comes next, out of those below k -/
noncomputable def nxR (h : PH) (f t : Nat) : Nat → Int
  | 0 => -1
  | k + 1 => cif (nxR h f t k = -1 ∧ drR h f k ∧ h 170 (6 + 3 * k) ≠ 1 ∧ WY h k t = WY h f t - 1) (k : Int) (nxR h f t k)
theorem nx_b2 {h : PH} {f t : Nat} : ∀ (k : Nat), nxR h f t k = -1 ∨ (0 ≤ nxR h f t k ∧ nxR h f t k < k)
  | 0 => Or.inl rfl
  | k + 1 => by
    have i := nx_b2 (h := h) (f := f) (t := t) k
    by_cases C : nxR h f t k = -1 ∧ drR h f k ∧ h 170 (6 + 3 * k) ≠ 1 ∧ WY h k t = WY h f t - 1
    · have e : nxR h f t (k + 1) = (k : Int) := cif_p C
      rw [e]
      omega
    · have e : nxR h f t (k + 1) = nxR h f t k := cif_n C
      rw [e]
      omega
theorem nx_st {h : PH} {f t k : Nat} (hk : nxR h f t k ≠ -1) : ∀ m : Nat, nxR h f t (k + m) = nxR h f t k
  | 0 => rfl
  | m + 1 => (cif_n (fun z => by
    have i := nx_st hk m
    have y : nxR h f t (k + m) = -1 := z.1
    rw [i] at y
    exact hk y)).trans (nx_st hk m)
theorem WY_b {n : Nat} {dr : Nat → Nat → Prop} {cl : Nat → Prop} {f : Nat} : ∀ (k t : Nat), lvS n dr cl f k t = 1000000 ∨ (0 ≤ lvS n dr cl f k t ∧ lvS n dr cl f k t ≤ k)
  | 0, t => by
    show (if t = f then (0 : Int) else 1000000) = 1000000 ∨ _
    by_cases e : t = f
    · refine Or.inr ?_
      show 0 ≤ (if t = f then (0 : Int) else 1000000) ∧ (if t = f then (0 : Int) else 1000000) ≤ _
      rw [if_pos e]
      omega
    · exact Or.inl (if_neg e)
  | k + 1, t => by
    have i := WY_b (n := n) (dr := dr) (cl := cl) (f := f) k t
    by_cases C : lvS n dr cl f k t = 1000000 ∧ t < n ∧ ¬ cl t ∧ ∃ a, a < n ∧ lvS n dr cl f k a = (k : Int) ∧ dr a t
    · have e : lvS n dr cl f (k + 1) t = ((k + 1 : Nat) : Int) := cif_p C
      rw [e]
      omega
    · have e : lvS n dr cl f (k + 1) t = lvS n dr cl f k t := cif_n C
      rw [e]
      omega
theorem drR_c {h h' : PH} (hF : ∀ c k : Nat, ¬ (c = 178 ∧ k < 7) → h' c k = h c k) : drR h' = drR h := funext (fun i => funext (fun j => by
  unfold drR
  rw [hF 170 _ (by omega)]))
theorem clR_c {h h' : PH} {b : Int} (hF : ∀ c k : Nat, ¬ (c = 178 ∧ k < 7) → h' c k = h c k) : clR h' b = clR h b := funext (fun t => by
  unfold clR
  rw [hF 170 _ (by omega)])
theorem WY_c {h h' : PH} (hF : ∀ c k : Nat, ¬ (c = 178 ∧ k < 7) → h' c k = h c k) {f t : Nat} : WY h' f t = WY h f t := by
  unfold WY
  rw [hF 170 0 (by omega), drR_c hF, clR_c hF]
theorem lw {sl : Nat} {si : Nat → Int} {h : PH} (hx h3 : PH) (u : Nat) (hB : BdR h) (j3 : ∀ c k : Nat, ¬ (c = 178 ∧ k < 7) → hx c k = h c k) (hu : u < 7) (p3 : CP (zz sl si (7, 0)) mX12_laysWays hx [(2, 169), (0, (u : Int)), (0, (-1))] h3 []) : (∀ t : Nat, t < 7 → h3 178 t = WY h u t) ∧ ∀ c k : Nat, ¬ (c = 178 ∧ k < 7) → h3 c k = h c k := by
  obtain ⟨g1, g2⟩ := c_X12_laysWays (by rw [j3 170 0 (by omega)]; exact hB.1) (by omega) p3
  rw [Int.toNat_natCast] at g1
  exact ⟨fun t ht => (g1 t ht).trans (WY_c j3), fun c k q => by rw [g2 c k q, j3 c k q]⟩
set_option maxRecDepth 10000 in
theorem v_X12_nextOn {sl : Nat} {si : Nat → Int} {K : Nat → PH → ZL → List ZV → Prop} {Q : PH → List ZV → Prop} {h : PH} {a b : Int} (H : ∀ h1, CP (zz sl si (7, 0)) mX12_laysWays h [(2, 169), (0, a), (0, (-1))] h1 [] → 0 ≤ b ∧ b < (7 : Nat) → R32 (h1 178 b.toNat) → K 16 h1 [(4, (0, 0)), (3, (0, (h1 178 b.toNat))), (0, (2, 169)), (1, (0, a)), (2, (0, b))] []) : vc (zz sl si (7, 0)) (fun p => Nat.beq p 16) K Q mX12_nextOn 13 0 mX12_nextOn.2.2.2.2.2.2 h [(0, (2, 169)), (1, (0, a)), (2, (0, b))] [] := H
set_option maxRecDepth 10000 in
theorem v_X12_nextOn_16 {sl : Nat} {si : Nat → Int} {K : Nat → PH → ZL → List ZV → Prop} {Q : PH → List ZV → Prop} {h : PH} {a b : Int} {l k : Int} (H : 0 ≤ (0 : Int) ∧ (0 : Int) < (3696 : Nat) → R32 (h 170 0) → ((h 170 0) ≤ k → Q h [(0, a)]) ∧ (¬ ((h 170 0) ≤ k) → ∀ h1 v1, CP (zz sl si (7, 0)) mX12_isDoor h [(2, 169), (0, a), (0, k)] h1 [(0, v1)] → v1 = 0 ∨ v1 = 1 → (v1 = 0 → K 16 h1 [(4, (0, w32 (k + 1))), (0, (2, 169)), (1, (0, a)), (2, (0, b)), (3, (0, l))] []) ∧ (¬ (v1 = 0) → ∀ h2 v2, CP (zz sl si (7, 0)) mX12_isSalt h1 [(2, 169), (0, k)] h2 [(0, v2)] → v2 = 0 ∨ v2 = 1 → (v2 = 0 → ∀ h3, CP (zz sl si (7, 0)) mX12_laysWays h2 [(2, 169), (0, k), (0, (-1))] h3 [] → 0 ≤ b ∧ b < (7 : Nat) → R32 (h3 178 b.toNat) → ((h3 178 b.toNat) ≠ (w32 (l - 1)) → K 16 h3 [(4, (0, w32 (k + 1))), (0, (2, 169)), (1, (0, a)), (2, (0, b)), (3, (0, l))] []) ∧ (¬ ((h3 178 b.toNat) ≠ (w32 (l - 1))) → Q h3 [(0, k)])) ∧ (¬ (v2 = 0) → K 16 h2 [(4, (0, w32 (k + 1))), (0, (2, 169)), (1, (0, a)), (2, (0, b)), (3, (0, l))] [])))) : vc (zz sl si (7, 0)) (fun p => Nat.beq p 16) K Q mX12_nextOn 31 16 (ax_jmp mX12_nextOn.2.2.2.2.2.2 16) h [(0, (2, 169)), (1, (0, a)), (2, (0, b)), (3, (0, l)), (4, (0, k))] [] := H
set_option maxHeartbeats 600000 in
theorem c_X12_nextOn {sl : Nat} {si : Nat → Int} {h h' : PH} {a b : Int} {v : Int} (hB : BdR h) (ha : 0 ≤ a ∧ a ≤ 6) (hb : 0 ≤ b ∧ b ≤ 6) (hc : CP (zz sl si (7, 0)) mX12_nextOn h [(2, 169), (0, a), (0, b)] h' [(0, v)]) : v = (if nxR h a.toNat b.toNat (h 170 0).toNat = -1 then a else nxR h a.toNat b.toNat (h 170 0).toNat) ∧ (∀ c k : Nat, ¬ (c = 178 ∧ k < 7) → h' c k = h c k) := by
  have q : (fun (xh : PH) (r : List ZV) => ∀ v : Int, r = [(0, v)] → (v = (if nxR h a.toNat b.toNat (h 170 0).toNat = -1 then a else nxR h a.toNat b.toNat (h 170 0).toNat) ∧ (∀ c k : Nat, ¬ (c = 178 ∧ k < 7) → xh c k = h c k))) h' [(0, v)] := by
    refine cp_vc (cut := (fun p => Nat.beq p 16)) (K := fun p hx lv st => (p = 16 ∧ lK (fun u : Nat => [(0, (2, 169)), (1, (0, a)), (2, (0, b)), (3, (0, WY h a.toNat b.toNat)), (4, (0, (u : Int)))]) (fun u hx => (u : Int) ≤ h 170 0 ∧ nxR h a.toNat b.toNat u = -1 ∧ (∀ c k : Nat, ¬ (c = 178 ∧ k < 7) → hx c k = h c k)) p hx lv st)) (Q := fun (xh : PH) (r : List ZV) => ∀ v : Int, r = [(0, v)] → (v = (if nxR h a.toNat b.toNat (h 170 0).toNat = -1 then a else nxR h a.toNat b.toNat (h 170 0).toNat) ∧ (∀ c k : Nat, ¬ (c = 178 ∧ k < 7) → xh c k = h c k))) (v_X12_nextOn ?_) (fun pc hx lv st hcut hK => ?_) hc
    · exact (fun h1 p1 => (fun b1 r2 => (by obtain ⟨g1, g2⟩ := c_X12_laysWays hB.1 ha p1; exact ⟨rfl, rfl, 0, ⟨by have := hB.1; omega, rfl, g2⟩, rfl, rfl, rfl, (by rw [g1 _ (by omega)]; rfl), rfl, trivial⟩)))
    · rcases hK with ⟨rfl, rfl, u, hJ, hs⟩
      · obtain ⟨j1, j2, j3⟩ := hJ
        have e0 : hx 170 0 = h 170 0 := j3 170 0 (by omega)
        have h7 := hB.1
        have wl := WY_b (n := (h 170 0).toNat) (dr := drR h) (cl := clR h (-1)) (f := a.toNat) 7 b.toNat
        exact ⟨_, _, hs, v_X12_nextOn_16 (fun b1 r2 => ⟨fun c3 => (by intro v e; cases e; rw [e0] at c3; have eu : (h 170 0).toNat = u := (by omega); exact ⟨by rw [eu, if_pos j2], j3⟩), fun c3 => (fun h1 v1 p1 q1 => by obtain ⟨t1, e1⟩ := c_X12_isDoor p1; have t1 := t1.symm; subst t1; exact ⟨fun c4 => (by rw [e0] at c3; have q1 : v1 = 1 ↔ drR h a.toNat u := (by rw [e1 (by omega) (by omega), j3 170 _ (by omega)]; exact Iff.rfl); have am : nxR h a.toNat b.toNat (u + 1) = -1 := (cif_n (fun z => (by have := q1.mpr z.2.1; omega))).trans j2; exact ⟨rfl, rfl, u + 1, ⟨by omega, am, j3⟩, rfl, rfl, rfl, rfl, wv (by omega) (by omega) (by omega), trivial⟩), fun c4 => (fun h2 v2 p2 q2 => by obtain ⟨t2, e2⟩ := c_X12_isSalt p2; have t2 := t2.symm; subst t2; exact ⟨fun c5 => (fun h3 p3 => (fun b6 r7 => ⟨fun c8 => (by rw [e0] at c3; have q1 : v1 = 1 ↔ drR h a.toNat u := (by rw [e1 (by omega) (by omega), j3 170 _ (by omega)]; exact Iff.rfl); have q2 : v2 = 1 ↔ h 170 (6 + 3 * u) = 1 := (by rw [e2 (by omega) (by omega), Int.toNat_natCast, j3 170 _ (by omega)]); have gd : (∀ t : Nat, t < 7 → h3 178 t = WY h u t) ∧ (∀ c k : Nat, ¬ (c = 178 ∧ k < 7) → h3 c k = h c k) := (lw hx h3 u hB j3 (by omega) p3); rw [gd.1 _ (by omega)] at c8; have wz : w32 (WY h a.toNat b.toNat - 1) = WY h a.toNat b.toNat - 1 := w32_id (by unfold WY; omega) (by unfold WY; omega); rw [wz] at c8; have am : nxR h a.toNat b.toNat (u + 1) = -1 := (cif_n (fun z => c8 z.2.2.2)).trans j2; exact ⟨rfl, rfl, u + 1, ⟨by omega, am, gd.2⟩, rfl, rfl, rfl, rfl, wv (by omega) (by omega) (by omega), trivial⟩), fun c8 => (by intro v e; cases e; rw [e0] at c3; have q1 : v1 = 1 ↔ drR h a.toNat u := (by rw [e1 (by omega) (by omega), j3 170 _ (by omega)]; exact Iff.rfl); have q2 : v2 = 1 ↔ h 170 (6 + 3 * u) = 1 := (by rw [e2 (by omega) (by omega), Int.toNat_natCast, j3 170 _ (by omega)]); have gd : (∀ t : Nat, t < 7 → h3 178 t = WY h u t) ∧ (∀ c k : Nat, ¬ (c = 178 ∧ k < 7) → h3 c k = h c k) := (lw hx h3 u hB j3 (by omega) p3); rw [gd.1 _ (by omega)] at c8; have wz : w32 (WY h a.toNat b.toNat - 1) = WY h a.toNat b.toNat - 1 := w32_id (by unfold WY; omega) (by unfold WY; omega); rw [wz] at c8; have am : nxR h a.toNat b.toNat (u + 1) = (u : Int) := cif_p ⟨j2, q1.mp (by omega), fun z => (by have := q2.mpr z; omega), Classical.not_not.mp c8⟩; have st : nxR h a.toNat b.toNat (h 170 0).toNat = (u : Int) := (by have k1 := nx_st (h := h) (f := a.toNat) (t := b.toNat) (k := u + 1) (by rw [am]; omega) ((h 170 0).toNat - (u + 1)); rw [show u + 1 + ((h 170 0).toNat - (u + 1)) = (h 170 0).toNat by omega] at k1; exact k1.trans am); exact ⟨by rw [st, if_neg (by omega)], gd.2⟩)⟩)), fun c5 => (by rw [e0] at c3; have q1 : v1 = 1 ↔ drR h a.toNat u := (by rw [e1 (by omega) (by omega), j3 170 _ (by omega)]; exact Iff.rfl); have q2 : v2 = 1 ↔ h 170 (6 + 3 * u) = 1 := (by rw [e2 (by omega) (by omega), Int.toNat_natCast, j3 170 _ (by omega)]); have am : nxR h a.toNat b.toNat (u + 1) = -1 := (cif_n (fun z => z.2.2.1 (q2.mp (by omega)))).trans j2; exact ⟨rfl, rfl, u + 1, ⟨by omega, am, j3⟩, rfl, rfl, rfl, rfl, wv (by omega) (by omega) (by omega), trivial⟩)⟩)⟩)⟩)⟩
  exact q v rfl
end
section
/-! 45z.5d.said -/
/-! GHOSTS, SORRIES: the reference's -/
def BdD (h : PH) : Prop := ∀ i : Nat, i < 64 → 0 ≤ h 170 (67 + i) ∧ h 170 (67 + i) ≤ 99
theorem rs_b9 {h : PH} (hD : BdD h) {p : Nat} (hp : p < 8) : ∀ n : Nat, n ≤ 8 → 0 ≤ rs (h 170) (67 + 8 * p) n ∧ rs (h 170) (67 + 8 * p) n ≤ 99 * n
  | 0, _ => by
    show (0 : Int) ≤ 0 ∧ (0 : Int) ≤ _
    omega
  | n + 1, hn => by
    have i := rs_b9 hD hp n (by omega)
    have d := hD (8 * p + n) (by omega)
    rw [show 67 + (8 * p + n) = 67 + 8 * p + n by omega] at d
    show 0 ≤ rs (h 170) (67 + 8 * p) n + h 170 (67 + 8 * p + n) ∧ rs (h 170) (67 + 8 * p) n + h 170 (67 + 8 * p + n) ≤ _
    omega
/-- what is said: behind that it was counted -/
def soG (g : PH) (p b : Nat) : PH := if g 170 (29 + 5 * b) = 1 then uph (uph g 170 (67 + 8 * p + b) (zmin 99 (if 0 < g 170 (67 + 8 * b + p) then 0 else w32 (g 170 (67 + 8 * p + b) - 1)))) 170 (67 + 8 * b + p) (zmin 99 0) else if g 170 (31 + 5 * b) = 1 then uph g 170 (8 + 3 * atR g b) (zmin 9999 (w32 (g 170 (8 + 3 * atR g b) + 1))) else if g 170 (30 + 5 * b) = 0 ∨ zrem (g 170 2) 2 = 1 then uph g 170 (67 + 8 * p + b) (zmin 99 (w32 (g 170 (67 + 8 * p + b) - 1))) else g
def soR (h : PH) (p b : Nat) : PH := soG (uph h 170 3 (w32 (h 170 3 + 1))) p b
set_option maxRecDepth 10000 in
theorem v_X12_owesAll {sl : Nat} {si : Nat → Int} {K : Nat → PH → ZL → List ZV → Prop} {Q : PH → List ZV → Prop} {h : PH} {a : Int} (H : K 4 h [(3, (0, 0)), (2, (0, 0)), (0, (2, 169)), (1, (0, a))] []) : vc (zz sl si (7, 0)) (fun p => Nat.beq p 4) K Q mX12_owesAll 6 0 mX12_owesAll.2.2.2.2.2.2 h [(0, (2, 169)), (1, (0, a))] [] := H
set_option maxRecDepth 10000 in
theorem v_X12_owesAll_4 {sl : Nat} {si : Nat → Int} {K : Nat → PH → ZL → List ZV → Prop} {Q : PH → List ZV → Prop} {h : PH} {a : Int} {s q : Int} (H : 0 ≤ (1 : Int) ∧ (1 : Int) < (3696 : Nat) → R32 (h 170 1) → ((h 170 1) ≤ q → Q h [(0, s)]) ∧ (¬ ((h 170 1) ≤ q) → ∀ h1 v1, CP (zz sl si (7, 0)) mX12_owes h [(2, 169), (0, a), (0, q)] h1 [(0, v1)] → R32 v1 → K 4 h1 [(3, (0, w32 (q + 1))), (2, (0, w32 (s + v1))), (0, (2, 169)), (1, (0, a))] [])) : vc (zz sl si (7, 0)) (fun p => Nat.beq p 4) K Q mX12_owesAll 17 4 (ax_jmp mX12_owesAll.2.2.2.2.2.2 4) h [(0, (2, 169)), (1, (0, a)), (2, (0, s)), (3, (0, q))] [] := H
set_option maxHeartbeats 600000 in
theorem c_X12_owesAll {sl : Nat} {si : Nat → Int} {h h' : PH} {a : Int} {v : Int} (hn : 0 ≤ h 170 1 ∧ h 170 1 ≤ 8) (hD : BdD h) (ha : 0 ≤ a ∧ a ≤ 7) (hc : CP (zz sl si (7, 0)) mX12_owesAll h [(2, 169), (0, a)] h' [(0, v)]) : h' = h ∧ v = rs (h 170) (67 + 8 * a.toNat) (h 170 1).toNat := by
  have q : (fun (xh : PH) (r : List ZV) => ∀ v : Int, r = [(0, v)] → (xh = h ∧ v = rs (h 170) (67 + 8 * a.toNat) (h 170 1).toNat)) h' [(0, v)] := by
    refine cp_vc (cut := (fun p => Nat.beq p 4)) (K := fun p hx lv st => (p = 4 ∧ lK (fun u : Nat => [(0, (2, 169)), (1, (0, a)), (2, (0, rs (h 170) (67 + 8 * a.toNat) u)), (3, (0, (u : Int)))]) (fun u hx => (u : Int) ≤ h 170 1 ∧ hx = h) p hx lv st)) (Q := fun (xh : PH) (r : List ZV) => ∀ v : Int, r = [(0, v)] → (xh = h ∧ v = rs (h 170) (67 + 8 * a.toNat) (h 170 1).toNat)) (v_X12_owesAll ?_) (fun pc hx lv st hcut hK => ?_) hc
    · exact (by exact ⟨rfl, rfl, 0, ⟨by omega, rfl⟩, rfl, rfl, rfl, rfl, trivial⟩)
    · rcases hK with ⟨rfl, rfl, u, hJ, hs⟩
      · obtain ⟨j1, j2⟩ := hJ
        subst j2
        exact ⟨_, _, hs, v_X12_owesAll_4 (fun b1 r2 => ⟨fun c3 => (by intro v e; cases e; have eu : (hx 170 1).toNat = u := (by omega); exact ⟨rfl, by rw [eu]⟩), fun c3 => (fun h1 v1 p1 q1 => by obtain ⟨t1, e1⟩ := c_X12_owes p1; have t1 := t1.symm; subst t1; exact (by have w1 := e1 (by omega) (by omega) (by omega) (by omega); rw [Int.toNat_natCast] at w1; have d := hD (8 * a.toNat + u) (by omega); rw [show 67 + (8 * a.toNat + u) = 67 + 8 * a.toNat + u by omega, ← w1] at d; have r8 := rs_b9 hD (p := a.toNat) (by omega) u (by omega); have ws : w32 (rs (hx 170) (67 + 8 * a.toNat) u + v1) = rs (hx 170) (67 + 8 * a.toNat) (u + 1) := (by rw [w32_id (by omega) (by omega), w1]; rfl); exact ⟨rfl, rfl, u + 1, ⟨by omega, rfl⟩, rfl, rfl, (by rw [ws]; rfl), wv (by omega) (by omega) (by omega), trivial⟩))⟩)⟩
  exact q v rfl
set_option maxRecDepth 10000 in
theorem v_X12_isGhost {sl : Nat} {si : Nat → Int} {K : Nat → PH → ZL → List ZV → Prop} {Q : PH → List ZV → Prop} {h : PH} {a : Int} (H : ∀ h1 v1, CP (zz sl si (7, 0)) mX12_isDead h [(2, 169), (0, a)] h1 [(0, v1)] → v1 = 0 ∨ v1 = 1 → (v1 = 0 → Q h1 [(0, 0)]) ∧ (¬ (v1 = 0) → ∀ h2 v2, CP (zz sl si (7, 0)) mX12_owesAll h1 [(2, 169), (0, a)] h2 [(0, v2)] → R32 v2 → (v2 ≤ 0 → Q h2 [(0, 0)]) ∧ (¬ (v2 ≤ 0) → Q h2 [(0, 1)]))) : vc (zz sl si (7, 0)) (fun _ => false) K Q mX12_isGhost 13 0 mX12_isGhost.2.2.2.2.2.2 h [(0, (2, 169)), (1, (0, a))] [] := H
set_option maxHeartbeats 600000 in
theorem c_X12_isGhost {sl : Nat} {si : Nat → Int} {h h' : PH} {a : Int} {v : Int} (hn : 0 ≤ h 170 1 ∧ h 170 1 ≤ 8) (hD : BdD h) (ha : 0 ≤ a ∧ a ≤ 7) (hc : CP (zz sl si (7, 0)) mX12_isGhost h [(2, 169), (0, a)] h' [(0, v)]) : h' = h ∧ (v = 1 ↔ h 170 (29 + 5 * a.toNat) = 1 ∧ 0 < rs (h 170) (67 + 8 * a.toNat) (h 170 1).toNat) := by
  have q : (fun (xh : PH) (r : List ZV) => ∀ v : Int, r = [(0, v)] → (xh = h ∧ (v = 1 ↔ h 170 (29 + 5 * a.toNat) = 1 ∧ 0 < rs (h 170) (67 + 8 * a.toNat) (h 170 1).toNat))) h' [(0, v)] := by
    refine cp_vc (cut := (fun _ => false)) (K := fun p hx lv st => False) (Q := fun (xh : PH) (r : List ZV) => ∀ v : Int, r = [(0, v)] → (xh = h ∧ (v = 1 ↔ h 170 (29 + 5 * a.toNat) = 1 ∧ 0 < rs (h 170) (67 + 8 * a.toNat) (h 170 1).toNat))) (v_X12_isGhost ?_) (fun pc hx lv st hcut hK => ?_) hc
    · exact (fun h1 v1 p1 q1 => by obtain ⟨t1, e1⟩ := c_X12_isDead p1; have t1 := t1.symm; subst t1; exact ⟨fun c1 => (by intro v e; cases e; have w1 := e1 (by omega) (by omega); exact ⟨rfl, ⟨fun z => by omega, fun z => by have := w1.mpr z.1; omega⟩⟩), fun c1 => (fun h2 v2 p2 q2 => ⟨fun c2 => (by intro v e; cases e; have w1 := e1 (by omega) (by omega); obtain ⟨t2, w2⟩ := c_X12_owesAll hn hD ha p2; subst t2; exact ⟨rfl, ⟨fun z => by omega, fun z => by omega⟩⟩), fun c2 => (by intro v e; cases e; have w1 := e1 (by omega) (by omega); obtain ⟨t2, w2⟩ := c_X12_owesAll hn hD ha p2; subst t2; exact ⟨rfl, ⟨fun z => ⟨w1.mp (by omega), by omega⟩, fun z => rfl⟩⟩)⟩)⟩)
    · exact hK.elim
  exact q v rfl
set_option maxRecDepth 10000 in
theorem v_X12_sorries {sl : Nat} {si : Nat → Int} {K : Nat → PH → ZL → List ZV → Prop} {Q : PH → List ZV → Prop} {h : PH} {a b : Int} (H : 0 ≤ (3 : Int) ∧ (3 : Int) < (3696 : Nat) → R32 (h 170 3) → 0 ≤ (3 : Int) ∧ (3 : Int) < (3696 : Nat) → ∀ h1 v1, CP (zz sl si (7, 0)) mX12_isDead (uph h 170 3 (w32 ((h 170 3) + 1))) [(2, 169), (0, b)] h1 [(0, v1)] → v1 = 0 ∨ v1 = 1 → (v1 = 0 → ∀ h2 v2, CP (zz sl si (7, 0)) mX12_whereOf h1 [(2, 169), (0, b)] h2 [(0, v2)] → R32 v2 → ∀ h3 v3, CP (zz sl si (7, 0)) mX12_houseRow h2 [(0, v2)] h3 [(0, v3)] → R32 v3 → ∀ h4 v4, CP (zz sl si (7, 0)) mX12_personRow h3 [(0, b)] h4 [(0, v4)] → R32 v4 → 0 ≤ w32 (v4 + 4) ∧ w32 (v4 + 4) < (3696 : Nat) → R32 (h4 170 (w32 (v4 + 4)).toNat) → ((h4 170 (w32 (v4 + 4)).toNat) ≠ 1 → ∀ h5 v5, CP (zz sl si (7, 0)) mX12_personRow h4 [(0, b)] h5 [(0, v5)] → R32 v5 → 0 ≤ w32 (v5 + 3) ∧ w32 (v5 + 3) < (3696 : Nat) → R32 (h5 170 (w32 (v5 + 3)).toNat) → ((h5 170 (w32 (v5 + 3)).toNat) = 0 → ∀ h6 v6, CP (zz sl si (7, 0)) mX12_owes h5 [(2, 169), (0, a), (0, b)] h6 [(0, v6)] → R32 v6 → ∀ h7, CP (zz sl si (7, 0)) mX12_owesNow h6 [(2, 169), (0, a), (0, b), (0, w32 (v6 - 1))] h7 [] → Q h7 []) ∧ (¬ ((h5 170 (w32 (v5 + 3)).toNat) = 0) → 0 ≤ (2 : Int) ∧ (2 : Int) < (3696 : Nat) → R32 (h5 170 2) → (2 : Int) ≠ 0 → ((zrem (h5 170 2) 2) ≠ 1 → Q h5 []) ∧ (¬ ((zrem (h5 170 2) 2) ≠ 1) → ∀ h8 v8, CP (zz sl si (7, 0)) mX12_owes h5 [(2, 169), (0, a), (0, b)] h8 [(0, v8)] → R32 v8 → ∀ h9, CP (zz sl si (7, 0)) mX12_owesNow h8 [(2, 169), (0, a), (0, b), (0, w32 (v8 - 1))] h9 [] → Q h9 []))) ∧ (¬ ((h4 170 (w32 (v4 + 4)).toNat) ≠ 1) → 0 ≤ w32 (v3 + 2) ∧ w32 (v3 + 2) < (3696 : Nat) → R32 (h4 170 (w32 (v3 + 2)).toNat) → 0 ≤ w32 (v3 + 2) ∧ w32 (v3 + 2) < (3696 : Nat) → Q (uph h4 170 (w32 (v3 + 2)).toNat (zmin 9999 (w32 ((h4 170 (w32 (v3 + 2)).toNat) + 1)))) [])) ∧ (¬ (v1 = 0) → ∀ h10 v10, CP (zz sl si (7, 0)) mX12_owes h1 [(2, 169), (0, b), (0, a)] h10 [(0, v10)] → R32 v10 → (v10 ≤ 0 → ((0 : Int) = 0 → ∀ h11 v11, CP (zz sl si (7, 0)) mX12_owes h10 [(2, 169), (0, a), (0, b)] h11 [(0, v11)] → R32 v11 → ∀ h12, CP (zz sl si (7, 0)) mX12_owesNow h11 [(2, 169), (0, a), (0, b), (0, w32 (v11 - 1))] h12 [] → ∀ h13, CP (zz sl si (7, 0)) mX12_owesNow h12 [(2, 169), (0, b), (0, a), (0, 0)] h13 [] → Q h13 []) ∧ (¬ ((0 : Int) = 0) → ∀ h14, CP (zz sl si (7, 0)) mX12_owesNow h10 [(2, 169), (0, a), (0, b), (0, 0)] h14 [] → ∀ h15, CP (zz sl si (7, 0)) mX12_owesNow h14 [(2, 169), (0, b), (0, a), (0, 0)] h15 [] → Q h15 [])) ∧ (¬ (v10 ≤ 0) → ((1 : Int) = 0 → ∀ h16 v16, CP (zz sl si (7, 0)) mX12_owes h10 [(2, 169), (0, a), (0, b)] h16 [(0, v16)] → R32 v16 → ∀ h17, CP (zz sl si (7, 0)) mX12_owesNow h16 [(2, 169), (0, a), (0, b), (0, w32 (v16 - 1))] h17 [] → ∀ h18, CP (zz sl si (7, 0)) mX12_owesNow h17 [(2, 169), (0, b), (0, a), (0, 0)] h18 [] → Q h18 []) ∧ (¬ ((1 : Int) = 0) → ∀ h19, CP (zz sl si (7, 0)) mX12_owesNow h10 [(2, 169), (0, a), (0, b), (0, 0)] h19 [] → ∀ h20, CP (zz sl si (7, 0)) mX12_owesNow h19 [(2, 169), (0, b), (0, a), (0, 0)] h20 [] → Q h20 [])))) : vc (zz sl si (7, 0)) (fun _ => false) K Q mX12_sorries 57 0 mX12_sorries.2.2.2.2.2.2 h [(0, (2, 169)), (1, (0, a)), (2, (0, b))] [] := H
set_option maxHeartbeats 600000 in
theorem c_X12_sorries {sl : Nat} {si : Nat → Int} {h h' : PH} {a b : Int} (ha : 0 ≤ a ∧ a ≤ 7) (hb : 0 ≤ b ∧ b ≤ 7) (hw : 0 ≤ h 170 (27 + 5 * b.toNat) ∧ h 170 (27 + 5 * b.toNat) ≤ 6) (hc : CP (zz sl si (7, 0)) mX12_sorries h [(2, 169), (0, a), (0, b)] h' []) : h' = soR h a.toNat b.toNat := by
  have q : (fun (xh : PH) (r : List ZV) => xh = soR h a.toNat b.toNat) h' [] := by
    refine cp_vc (cut := (fun _ => false)) (K := fun p hx lv st => False) (Q := fun (xh : PH) (r : List ZV) => xh = soR h a.toNat b.toNat) (v_X12_sorries ?_) (fun pc hx lv st hcut hK => ?_) hc
    · exact (fun b1 r2 => (fun b3 => (fun h1 v1 p1 q1 => by obtain ⟨t1, e1⟩ := c_X12_isDead p1; have t1 := t1.symm; subst t1; exact ⟨fun c4 => (fun h2 v2 p2 q2 => by obtain ⟨t2, e2⟩ := c_X12_whereOf p2; have t2 := t2.symm; subst t2; exact (fun h3 v3 p3 q3 => by obtain ⟨t3, e3⟩ := c_X12_houseRow p3; have t3 := t3.symm; subst t3; exact (fun h4 v4 p4 q4 => by obtain ⟨t4, e4⟩ := c_X12_personRow p4; have t4 := t4.symm; subst t4; exact (fun b5 r6 => ⟨fun c7 => (fun h5 v5 p5 q5 => by obtain ⟨t5, e5⟩ := c_X12_personRow p5; have t5 := t5.symm; subst t5; exact (fun b8 r9 => ⟨fun c10 => (fun h6 v6 p6 q6 => by obtain ⟨t6, e6⟩ := c_X12_owes p6; have t6 := t6.symm; subst t6; exact (fun h7 p7 => (by have nd : ¬ (uph h 170 3 (w32 (h 170 3 + 1))) 170 (29 + 5 * b.toNat) = 1 := (fun z => by have := (e1 (by omega) (by omega)).mpr z; omega); have w4 := e4 (by omega) (by omega); have i4 : (w32 (v4 + 4)).toNat = 31 + 5 * b.toNat := (by rw [w4, w32_id (by omega) (by omega)]; omega); rw [i4] at c7; have w5 := e5 (by omega) (by omega); have i5 : (w32 (v5 + 3)).toNat = 30 + 5 * b.toNat := (by rw [w5, w32_id (by omega) (by omega)]; omega); rw [i5] at c10; have w6 := e6 (by omega) (by omega) (by omega) (by omega); have o7 := c_X12_owesNow (by omega) (by omega) (by omega) (by omega) p7; rw [o7, w6]; unfold soR soG; rw [if_neg nd, if_neg c7, if_pos (Or.inl c10)]))), fun c10 => (fun b11 r12 => (fun d13 => ⟨fun c14 => (by have nd : ¬ (uph h 170 3 (w32 (h 170 3 + 1))) 170 (29 + 5 * b.toNat) = 1 := (fun z => by have := (e1 (by omega) (by omega)).mpr z; omega); have w4 := e4 (by omega) (by omega); have i4 : (w32 (v4 + 4)).toNat = 31 + 5 * b.toNat := (by rw [w4, w32_id (by omega) (by omega)]; omega); rw [i4] at c7; have w5 := e5 (by omega) (by omega); have i5 : (w32 (v5 + 3)).toNat = 30 + 5 * b.toNat := (by rw [w5, w32_id (by omega) (by omega)]; omega); rw [i5] at c10; unfold soR soG; rw [if_neg nd, if_neg c7, if_neg (fun z => z.elim c10 (fun y => c14 y))]), fun c14 => (fun h8 v8 p8 q8 => by obtain ⟨t8, e8⟩ := c_X12_owes p8; have t8 := t8.symm; subst t8; exact (fun h9 p9 => (by have nd : ¬ (uph h 170 3 (w32 (h 170 3 + 1))) 170 (29 + 5 * b.toNat) = 1 := (fun z => by have := (e1 (by omega) (by omega)).mpr z; omega); have w4 := e4 (by omega) (by omega); have i4 : (w32 (v4 + 4)).toNat = 31 + 5 * b.toNat := (by rw [w4, w32_id (by omega) (by omega)]; omega); rw [i4] at c7; have w5 := e5 (by omega) (by omega); have i5 : (w32 (v5 + 3)).toNat = 30 + 5 * b.toNat := (by rw [w5, w32_id (by omega) (by omega)]; omega); rw [i5] at c10; have w8 := e8 (by omega) (by omega) (by omega) (by omega); have o9 := c_X12_owesNow (by omega) (by omega) (by omega) (by omega) p9; rw [o9, w8]; unfold soR soG; rw [if_neg nd, if_neg c7, if_pos (Or.inr (Classical.not_not.mp c14))])))⟩))⟩)), fun c7 => (fun b15 r16 => (fun b17 => (by have nd : ¬ (uph h 170 3 (w32 (h 170 3 + 1))) 170 (29 + 5 * b.toNat) = 1 := (fun z => by have := (e1 (by omega) (by omega)).mpr z; omega); have w4 := e4 (by omega) (by omega); have i4 : (w32 (v4 + 4)).toNat = 31 + 5 * b.toNat := (by rw [w4, w32_id (by omega) (by omega)]; omega); rw [i4] at c7; have w2 := e2 (by omega) (by omega); rw [up_ne (by omega)] at w2; have w3 := e3 (by omega) (by omega); have i3 : (w32 (v3 + 2)).toNat = 8 + 3 * atR (uph h 170 3 (w32 (h 170 3 + 1))) b.toNat := (by unfold atR; rw [up_ne (by omega), ← w2, w3, w32_id (by omega) (by omega)]; omega); rw [i3]; unfold soR soG; rw [if_neg nd, if_pos (Classical.not_not.mp c7)])))⟩)))), fun c4 => (fun h10 v10 p10 q10 => by obtain ⟨t10, e10⟩ := c_X12_owes p10; have t10 := t10.symm; subst t10; exact ⟨fun c18 => ⟨fun c19 => (fun h11 v11 p11 q11 => by obtain ⟨t11, e11⟩ := c_X12_owes p11; have t11 := t11.symm; subst t11; exact (fun h12 p12 => (fun h13 p13 => (by have yd : (uph h 170 3 (w32 (h 170 3 + 1))) 170 (29 + 5 * b.toNat) = 1 := (e1 (by omega) (by omega)).mp (by omega); have w10 := e10 (by omega) (by omega) (by omega) (by omega); have w11 := e11 (by omega) (by omega) (by omega) (by omega); have o12 := c_X12_owesNow (by omega) (by omega) (by omega) (by omega) p12; have o13 := c_X12_owesNow (by omega) (by omega) (by omega) (by omega) p13; rw [o13, o12, w11]; unfold soR soG; rw [if_pos yd, if_neg (by rw [← w10]; omega)])))), fun c19 => (fun h14 p14 => (fun h15 p15 => (by exact absurd rfl c19)))⟩, fun c18 => ⟨fun c20 => (fun h16 v16 p16 q16 => by obtain ⟨t16, e16⟩ := c_X12_owes p16; have t16 := t16.symm; subst t16; exact (fun h17 p17 => (fun h18 p18 => (by exact absurd c20 (by decide))))), fun c20 => (fun h19 p19 => (fun h20 p20 => (by have yd : (uph h 170 3 (w32 (h 170 3 + 1))) 170 (29 + 5 * b.toNat) = 1 := (e1 (by omega) (by omega)).mp (by omega); have w10 := e10 (by omega) (by omega) (by omega) (by omega); have o19 := c_X12_owesNow (by omega) (by omega) (by omega) (by omega) p19; have o20 := c_X12_owesNow (by omega) (by omega) (by omega) (by omega) p20; rw [o20, o19]; unfold soR soG; rw [if_pos yd, if_pos (by rw [← w10]; omega)])))⟩⟩)⟩)))
    · exact hK.elim
  exact q
end
section
/-! 45z.5e.night -/
/-! A NIGHT: the reference's -/
/-- but for the row of the search -/
def E78 (h h' : PH) : Prop := ∀ c k : Nat, ¬ (c = 178 ∧ k < 7) → h' c k = h c k
theorem E78.r {h h' : PH} (hF : E78 h h') : h' 170 = h 170 := funext (fun k => hF 170 k (by omega))
theorem amR_c {h h' : PH} (hF : E78 h h') {p : Nat} : ∀ q : Nat, amR h' p q = amR h p q
  | 0 => rfl
  | q + 1 => by
    have e : atR h' = atR h := funext (fun i => by unfold atR; rw [hF.r])
    have w : WY h' = WY h := funext (fun i => funext (fun j => WY_c hF))
    show cif (0 < h' 170 (67 + 8 * p + q) ∧ WY h' (atR h' p) (atR h' q) < 1000000 ∧ (amR h' p q = -1 ∨ WY h' (atR h' p) (atR h' q) < WY h' (atR h' p) (atR h' (amR h' p q).toNat))) (q : Int) (amR h' p q) = _
    rw [amR_c hF q, e, w, hF.r]
    rfl
theorem nxR_c {h h' : PH} (hF : E78 h h') {f t : Nat} : ∀ k : Nat, nxR h' f t k = nxR h f t k
  | 0 => rfl
  | k + 1 => by
    have w : WY h' = WY h := funext (fun i => funext (fun j => WY_c hF))
    show cif (nxR h' f t k = -1 ∧ drR h' f k ∧ h' 170 (6 + 3 * k) ≠ 1 ∧ WY h' k t = WY h' f t - 1) (k : Int) (nxR h' f t k) = _
    rw [nxR_c hF k, w, hF.r, drR_c hF]
    rfl
/-- where one comes to -/
noncomputable def wzR (g : PH) (p m : Nat) : Int := if nxR g (atR g p) (atR g m) (g 170 0).toNat = -1 then g 170 (27 + 5 * p) else nxR g (atR g p) (atR g m) (g 170 0).toNat
/-- one's turn in a NIGHT -/
noncomputable def haR (g : PH) (p : Nat) : PH := if g 170 (29 + 5 * p) = 1 ∧ 0 < rs (g 170) (67 + 8 * p) (g 170 1).toNat then (if amR g p (g 170 1).toNat = -1 then g else if g 170 (27 + 5 * (amR g p (g 170 1).toNat).toNat) = g 170 (27 + 5 * p) then soR g p (amR g p (g 170 1).toNat).toNat else uph g 170 (27 + 5 * p) (wzR g p (amR g p (g 170 1).toNat).toNat)) else g
noncomputable def niR (g : PH) : Nat → PH
  | 0 => uph g 170 2 (w32 (g 170 2 + 1))
  | p + 1 => haR (niR g p) p
theorem am_pos {h : PH} {p : Nat} : ∀ q : Nat, amR h p q ≠ -1 → 0 < h 170 (67 + 8 * p + (amR h p q).toNat)
  | 0, hq => absurd rfl hq
  | q + 1, hq => by
    by_cases C : 0 < h 170 (67 + 8 * p + q) ∧ WY h (atR h p) (atR h q) < 1000000 ∧ (amR h p q = -1 ∨ WY h (atR h p) (atR h q) < WY h (atR h p) (atR h (amR h p q).toNat))
    · have e : amR h p (q + 1) = (q : Int) := cif_p C
      rw [e, Int.toNat_natCast]
      exact C.1
    · have e : amR h p (q + 1) = amR h p q := cif_n C
      rw [e] at hq ⊢
      exact am_pos q hq
theorem soG_o {g : PH} {p b c k : Nat} (hp : p < 8) (hb : b < 8) (hw : 0 ≤ g 170 (27 + 5 * b) ∧ g 170 (27 + 5 * b) ≤ 6) (hk : ¬ (c = 170 ∧ ((8 ≤ k ∧ k ≤ 26) ∨ (67 ≤ k ∧ k < 131)))) : soG g p b c k = g c k := by
  have ha : atR g b ≤ 6 := by unfold atR; omega
  unfold soG
  by_cases c1 : g 170 (29 + 5 * b) = 1
  · rw [if_pos c1, up_ne (by omega), up_ne (by omega)]
  · rw [if_neg c1]
    by_cases c2 : g 170 (31 + 5 * b) = 1
    · rw [if_pos c2, up_ne (by omega)]
    · rw [if_neg c2]
      by_cases c3 : g 170 (30 + 5 * b) = 0 ∨ zrem (g 170 2) 2 = 1
      · rw [if_pos c3, up_ne (by omega)]
      · rw [if_neg c3]
theorem zm9 {x : Int} (h : 0 ≤ x) : 0 ≤ zmin 99 x ∧ zmin 99 x ≤ 99 := by
  unfold zmin
  split <;> omega
theorem soG_d {g : PH} {p b : Nat} (hp : p < 8) (hb : b < 8) (hD : BdD g) (hw : 0 ≤ g 170 (27 + 5 * b) ∧ g 170 (27 + 5 * b) ≤ 6) (ho : 0 < g 170 (67 + 8 * p + b)) : BdD (soG g p b) := fun i hi => by
  have ha : atR g b ≤ 6 := by unfold atR; omega
  have d := hD i hi
  have dp := hD (8 * p + b) (by omega)
  rw [show 67 + (8 * p + b) = 67 + 8 * p + b by omega] at dp
  have w : w32 (g 170 (67 + 8 * p + b) - 1) = g 170 (67 + 8 * p + b) - 1 := w32_id (by omega) (by omega)
  unfold soG
  by_cases c1 : g 170 (29 + 5 * b) = 1
  · rw [if_pos c1]
    by_cases e1 : 67 + i = 67 + 8 * b + p
    · rw [e1, up_sm]; exact zm9 (by omega)
    · rw [up_ne (by omega)]
      by_cases e2 : 67 + i = 67 + 8 * p + b
      · rw [e2, up_sm, w]
        by_cases e3 : 0 < g 170 (67 + 8 * b + p)
        · rw [if_pos e3]; exact zm9 (by omega)
        · rw [if_neg e3]; exact zm9 (by omega)
      · rw [up_ne (by omega)]; exact d
  · rw [if_neg c1]
    by_cases c2 : g 170 (31 + 5 * b) = 1
    · rw [if_pos c2, up_ne (by omega)]; exact d
    · rw [if_neg c2]
      by_cases c3 : g 170 (30 + 5 * b) = 0 ∨ zrem (g 170 2) 2 = 1
      · rw [if_pos c3]
        by_cases e2 : 67 + i = 67 + 8 * p + b
        · rw [e2, up_sm, w]; exact zm9 (by omega)
        · rw [up_ne (by omega)]; exact d
      · rw [if_neg c3]; exact d
/-- what a turn leaves as it is -/
theorem haR_b {g : PH} {p : Nat} (hp : p < 8) (hB : BdR g) (hD : BdD g) : BdR (haR g p) ∧ BdD (haR g p) ∧ ∀ c k : Nat, ¬ (c = 170 ∧ (k = 3 ∨ (8 ≤ k ∧ k < 131))) → haR g p c k = g c k := by
  obtain ⟨b0, b1, b2⟩ := id hB
  unfold haR
  by_cases c1 : g 170 (29 + 5 * p) = 1 ∧ 0 < rs (g 170) (67 + 8 * p) (g 170 1).toNat
  · rw [if_pos c1]
    by_cases c2 : amR g p (g 170 1).toNat = -1
    · rw [if_pos c2]; exact ⟨hB, hD, fun c k _ => rfl⟩
    · rw [if_neg c2]
      have bm := am_b (h := g) (p := p) (g 170 1).toNat
      have po := am_pos (h := g) (p := p) (g 170 1).toNat c2
      generalize hm : (amR g p (g 170 1).toNat).toNat = m at *
      have hm8 : m < 8 := by omega
      by_cases c3 : g 170 (27 + 5 * m) = g 170 (27 + 5 * p)
      · rw [if_pos c3]
        unfold soR
        have G : ∀ k : Nat, k ≠ 3 → uph g 170 3 (w32 (g 170 3 + 1)) 170 k = g 170 k := fun k hk => up_ne (by omega)
        have hw : 0 ≤ uph g 170 3 (w32 (g 170 3 + 1)) 170 (27 + 5 * m) ∧ uph g 170 3 (w32 (g 170 3 + 1)) 170 (27 + 5 * m) ≤ 6 := by rw [G _ (by omega)]; exact b2 m hm8
        refine ⟨⟨?_, ?_, fun q hq => ?_⟩, soG_d hp hm8 (fun i hi => by rw [G _ (by omega)]; exact hD i hi) hw (by rw [G _ (by omega)]; exact po), fun c k q => ?_⟩
        · rw [soG_o hp hm8 hw (by omega), G _ (by omega)]; exact b0
        · rw [soG_o hp hm8 hw (by omega), G _ (by omega)]; exact b1
        · rw [soG_o hp hm8 hw (by omega), G _ (by omega)]; exact b2 q hq
        · rw [soG_o hp hm8 hw (by omega), up_ne (by omega)]
      · rw [if_neg c3]
        have tb : 0 ≤ wzR g p m ∧ wzR g p m ≤ 6 := by
          unfold wzR
          have nb := nx_b2 (h := g) (f := atR g p) (t := atR g m) (g 170 0).toNat
          by_cases e : nxR g (atR g p) (atR g m) (g 170 0).toNat = -1
          · rw [if_pos e]; exact b2 p hp
          · rw [if_neg e]; omega
        refine ⟨⟨by rw [up_ne (by omega)]; exact b0, by rw [up_ne (by omega)]; exact b1, fun q hq => ?_⟩, fun i hi => by rw [up_ne (by omega)]; exact hD i hi, fun c k q => up_ne (by omega)⟩
        by_cases e : q = p
        · rw [e, up_sm]; exact tb
        · rw [up_ne (by omega)]; exact b2 q hq
  · rw [if_neg c1]; exact ⟨hB, hD, fun c k _ => rfl⟩
theorem niR_b {g : PH} (hB : BdR g) (hD : BdD g) : ∀ p : Nat, p ≤ 8 → BdR (niR g p) ∧ BdD (niR g p) ∧ ∀ c k : Nat, ¬ (c = 170 ∧ (k = 2 ∨ k = 3 ∨ (8 ≤ k ∧ k < 131))) → niR g p c k = g c k
  | 0, _ => ⟨⟨by show 0 ≤ uph g 170 2 _ 170 0 ∧ uph g 170 2 _ 170 0 ≤ 7; rw [up_ne (by omega)]; exact hB.1, by show 0 ≤ uph g 170 2 _ 170 1 ∧ uph g 170 2 _ 170 1 ≤ 8; rw [up_ne (by omega)]; exact hB.2.1, fun q hq => by show 0 ≤ uph g 170 2 _ 170 (27 + 5 * q) ∧ uph g 170 2 _ 170 (27 + 5 * q) ≤ 6; rw [up_ne (by omega)]; exact hB.2.2 q hq⟩, fun i hi => by show 0 ≤ uph g 170 2 _ 170 (67 + i) ∧ uph g 170 2 _ 170 (67 + i) ≤ 99; rw [up_ne (by omega)]; exact hD i hi, fun c k q => up_ne (by omega)⟩
  | p + 1, hp => by
    obtain ⟨x, y, z⟩ := niR_b hB hD p (by omega)
    obtain ⟨x2, y2, z2⟩ := haR_b (p := p) (by omega) x y
    exact ⟨x2, y2, fun c k q => (z2 c k (by omega)).trans (z c k q)⟩
end
section
/-! 45z.5f.nights -/
theorem E78.up {h h' : PH} (hF : E78 h h') {i : Nat} {v : Int} : E78 (uph h 170 i v) (uph h' 170 i v) := fun c k q => by
  rw [up_rd, up_rd, hF c k q]
theorem E78.tr {h h1 h2 : PH} (x : E78 h h1) (y : E78 h1 h2) : E78 h h2 := fun c k q => (y c k q).trans (x c k q)
theorem soG_c {g g' : PH} (hF : E78 g g') {p b : Nat} : E78 (soG g p b) (soG g' p b) := by
  have e : atR g' = atR g := funext (fun i => by unfold atR; rw [hF.r])
  unfold soG
  rw [hF.r, e]
  by_cases c1 : g 170 (29 + 5 * b) = 1
  · rw [if_pos c1, if_pos c1]; exact hF.up.up
  · rw [if_neg c1, if_neg c1]
    by_cases c2 : g 170 (31 + 5 * b) = 1
    · rw [if_pos c2, if_pos c2]; exact hF.up
    · rw [if_neg c2, if_neg c2]
      by_cases c3 : g 170 (30 + 5 * b) = 0 ∨ zrem (g 170 2) 2 = 1
      · rw [if_pos c3, if_pos c3]; exact hF.up
      · rw [if_neg c3, if_neg c3]; exact hF
theorem soR_c {g g' : PH} (hF : E78 g g') {p b : Nat} : E78 (soR g p b) (soR g' p b) := by
  unfold soR
  rw [hF.r]
  exact soG_c hF.up
set_option maxRecDepth 10000 in
theorem v_X12_night0 {sl : Nat} {si : Nat → Int} {K : Nat → PH → ZL → List ZV → Prop} {Q : PH → List ZV → Prop} {h : PH} (H : 0 ≤ (2 : Int) ∧ (2 : Int) < (3696 : Nat) → R32 (h 170 2) → 0 ≤ (2 : Int) ∧ (2 : Int) < (3696 : Nat) → K 12 (uph h 170 2 (w32 ((h 170 2) + 1))) [(1, (0, 0)), (0, (2, 169))] []) : vc (zz sl si (7, 0)) (fun p => Nat.beq p 12) K Q mX12_night0 12 0 mX12_night0.2.2.2.2.2.2 h [(0, (2, 169))] [] := H
set_option maxRecDepth 10000 in
theorem v_X12_night0_12 {sl : Nat} {si : Nat → Int} {K : Nat → PH → ZL → List ZV → Prop} {Q : PH → List ZV → Prop} {h : PH} {p : Int} (H : 0 ≤ (1 : Int) ∧ (1 : Int) < (3696 : Nat) → R32 (h 170 1) → ((h 170 1) ≤ p → Q h []) ∧ (¬ ((h 170 1) ≤ p) → ∀ h1 v1, CP (zz sl si (7, 0)) mX12_isGhost h [(2, 169), (0, p)] h1 [(0, v1)] → v1 = 0 ∨ v1 = 1 → (v1 = 0 → (((-1) : Int) ≠ (-1) → ∀ h2 v2, CP (zz sl si (7, 0)) mX12_whereOf h1 [(2, 169), (0, (-1))] h2 [(0, v2)] → R32 v2 → ∀ h3 v3, CP (zz sl si (7, 0)) mX12_whereOf h2 [(2, 169), (0, p)] h3 [(0, v3)] → R32 v3 → (v2 ≠ v3 → ∀ h4 v4, CP (zz sl si (7, 0)) mX12_personRow h3 [(0, p)] h4 [(0, v4)] → R32 v4 → ∀ h5 v5, CP (zz sl si (7, 0)) mX12_whereOf h4 [(2, 169), (0, p)] h5 [(0, v5)] → R32 v5 → ∀ h6 v6, CP (zz sl si (7, 0)) mX12_whereOf h5 [(2, 169), (0, (-1))] h6 [(0, v6)] → R32 v6 → ∀ h7 v7, CP (zz sl si (7, 0)) mX12_nextOn h6 [(2, 169), (0, v5), (0, v6)] h7 [(0, v7)] → R32 v7 → 0 ≤ v4 ∧ v4 < (3696 : Nat) → K 12 (uph h7 170 v4.toNat v7) [(1, (0, w32 (p + 1))), (2, (0, (-1))), (0, (2, 169))] []) ∧ (¬ (v2 ≠ v3) → ∀ h8, CP (zz sl si (7, 0)) mX12_sorries h3 [(2, 169), (0, p), (0, (-1))] h8 [] → K 12 h8 [(1, (0, w32 (p + 1))), (2, (0, (-1))), (0, (2, 169))] [])) ∧ (¬ (((-1) : Int) ≠ (-1)) → K 12 h1 [(1, (0, w32 (p + 1))), (2, (0, (-1))), (0, (2, 169))] [])) ∧ (¬ (v1 = 0) → ∀ h9 v9, CP (zz sl si (7, 0)) mX12_aimOf h1 [(2, 169), (0, p)] h9 [(0, v9)] → R32 v9 → (v9 ≠ (-1) → ∀ h10 v10, CP (zz sl si (7, 0)) mX12_whereOf h9 [(2, 169), (0, v9)] h10 [(0, v10)] → R32 v10 → ∀ h11 v11, CP (zz sl si (7, 0)) mX12_whereOf h10 [(2, 169), (0, p)] h11 [(0, v11)] → R32 v11 → (v10 ≠ v11 → ∀ h12 v12, CP (zz sl si (7, 0)) mX12_personRow h11 [(0, p)] h12 [(0, v12)] → R32 v12 → ∀ h13 v13, CP (zz sl si (7, 0)) mX12_whereOf h12 [(2, 169), (0, p)] h13 [(0, v13)] → R32 v13 → ∀ h14 v14, CP (zz sl si (7, 0)) mX12_whereOf h13 [(2, 169), (0, v9)] h14 [(0, v14)] → R32 v14 → ∀ h15 v15, CP (zz sl si (7, 0)) mX12_nextOn h14 [(2, 169), (0, v13), (0, v14)] h15 [(0, v15)] → R32 v15 → 0 ≤ v12 ∧ v12 < (3696 : Nat) → K 12 (uph h15 170 v12.toNat v15) [(1, (0, w32 (p + 1))), (2, (0, v9)), (0, (2, 169))] []) ∧ (¬ (v10 ≠ v11) → ∀ h16, CP (zz sl si (7, 0)) mX12_sorries h11 [(2, 169), (0, p), (0, v9)] h16 [] → K 12 h16 [(1, (0, w32 (p + 1))), (2, (0, v9)), (0, (2, 169))] [])) ∧ (¬ (v9 ≠ (-1)) → K 12 h9 [(1, (0, w32 (p + 1))), (2, (0, v9)), (0, (2, 169))] [])))) : vc (zz sl si (7, 0)) (fun p => Nat.beq p 12) K Q mX12_night0 42 12 (ax_jmp mX12_night0.2.2.2.2.2.2 12) h [(0, (2, 169)), (1, (0, p))] [] := H
set_option maxHeartbeats 600000 in
theorem c_X12_night0 {sl : Nat} {si : Nat → Int} {h h' : PH} (hB : BdR h) (hD : BdD h) (hc : CP (zz sl si (7, 0)) mX12_night0 h [(2, 169)] h' []) : E78 (niR h (h 170 1).toNat) h' := by
  have q : (fun (xh : PH) (r : List ZV) => E78 (niR h (h 170 1).toNat) xh) h' [] := by
    refine cp_vc (cut := (fun p => Nat.beq p 12)) (K := fun p hx lv st => (p = 12 ∧ lK (fun u : Nat => [(0, (2, 169)), (1, (0, (u : Int)))]) (fun u hx => (u : Int) ≤ h 170 1 ∧ E78 (niR h u) hx) p hx lv st)) (Q := fun (xh : PH) (r : List ZV) => E78 (niR h (h 170 1).toNat) xh) (v_X12_night0 ?_) (fun pc hx lv st hcut hK => ?_) hc
    · exact (fun b1 r2 => (fun b3 => (by exact ⟨rfl, rfl, 0, ⟨by have := hB.2.1; omega, fun c k q => rfl⟩, rfl, rfl, trivial⟩)))
    · rcases hK with ⟨rfl, rfl, u, hJ, hs⟩
      · obtain ⟨j1, j2⟩ := hJ
        have h8 := hB.2.1
        obtain ⟨x1, x2, x3⟩ := niR_b hB hD u (by omega)
        have r := j2.r
        have e1n : hx 170 1 = h 170 1 := (j2 170 1 (by omega)).trans (x3 170 1 (by omega))
        have hBx : BdR hx := by unfold BdR; rw [r]; exact x1
        have hDx : BdD hx := by unfold BdD; rw [r]; exact x2
        exact ⟨_, _, hs, v_X12_night0_12 (fun b1 r2 => ⟨fun c3 => (by rw [e1n] at c3; have eu : (h 170 1).toNat = u := (by omega); rw [eu]; exact j2), fun c3 => (fun h1 v1 p1 q1 => ⟨fun c4 => ⟨fun c5 => (fun h2 v2 p2 q2 => by obtain ⟨t2, e2⟩ := c_X12_whereOf p2; have t2 := t2.symm; subst t2; exact (fun h3 v3 p3 q3 => by obtain ⟨t3, e3⟩ := c_X12_whereOf p3; have t3 := t3.symm; subst t3; exact ⟨fun c6 => (fun h4 v4 p4 q4 => by obtain ⟨t4, e4⟩ := c_X12_personRow p4; have t4 := t4.symm; subst t4; exact (fun h5 v5 p5 q5 => by obtain ⟨t5, e5⟩ := c_X12_whereOf p5; have t5 := t5.symm; subst t5; exact (fun h6 v6 p6 q6 => by obtain ⟨t6, e6⟩ := c_X12_whereOf p6; have t6 := t6.symm; subst t6; exact (fun h7 v7 p7 q7 => (fun b7 => (by exact absurd rfl c5)))))), fun c6 => (fun h8 p8 => (by exact absurd rfl c5))⟩)), fun c5 => (by rw [e1n] at c3; obtain ⟨t1, w1⟩ := c_X12_isGhost hBx.2.1 hDx (by omega) p1; subst t1; rw [Int.toNat_natCast, r] at w1; have ng : haR (niR h u) u = niR h u := (by unfold haR; exact if_neg (fun z => by have := w1.mpr z; omega)); exact ⟨rfl, rfl, u + 1, ⟨by omega, (show E78 (haR (niR h u) u) _ by rw [ng]; exact j2)⟩, rfl, wv (by omega) (by omega) (by omega), trivial⟩)⟩, fun c4 => (fun h9 v9 p9 q9 => ⟨fun c8 => (fun h10 v10 p10 q10 => by obtain ⟨t10, e10⟩ := c_X12_whereOf p10; have t10 := t10.symm; subst t10; exact (fun h11 v11 p11 q11 => by obtain ⟨t11, e11⟩ := c_X12_whereOf p11; have t11 := t11.symm; subst t11; exact ⟨fun c9 => (fun h12 v12 p12 q12 => by obtain ⟨t12, e12⟩ := c_X12_personRow p12; have t12 := t12.symm; subst t12; exact (fun h13 v13 p13 q13 => by obtain ⟨t13, e13⟩ := c_X12_whereOf p13; have t13 := t13.symm; subst t13; exact (fun h14 v14 p14 q14 => by obtain ⟨t14, e14⟩ := c_X12_whereOf p14; have t14 := t14.symm; subst t14; exact (fun h15 v15 p15 q15 => (fun b10 => (by rw [e1n] at c3; obtain ⟨t1, w1⟩ := c_X12_isGhost hBx.2.1 hDx (by omega) p1; subst t1; rw [Int.toNat_natCast, r] at w1; have gz := w1.mp (by omega); obtain ⟨w9, f9⟩ := c_X12_aimOf hBx (by omega) p9; rw [Int.toNat_natCast, amR_c j2, r] at w9; have j9 : E78 (niR h u) h9 := j2.tr f9; have r9 := j9.r; have b1 := x1.2.1; have bm := am_b (h := (niR h u)) (p := u) ((niR h u) 170 1).toNat; rw [← w9] at bm; have y10 := e10 (by omega) (by omega); have y11 := e11 (by omega) (by omega); rw [Int.toNat_natCast, r9] at y11; rw [r9] at y10; have hu := x1.2.2 u (by omega); have hm := x1.2.2 v9.toNat (by omega); have y12 := e12 (by omega) (by omega); have y13 := e13 (by omega) (by omega); have y14 := e14 (by omega) (by omega); rw [Int.toNat_natCast, r9] at y13; rw [r9] at y14; have hB9 : BdR h9 := (by unfold BdR; rw [r9]; exact x1); obtain ⟨w15, f15⟩ := c_X12_nextOn hB9 (by omega) (by omega) p15; rw [nxR_c j9, r9, y13, y14] at w15; have i12 : v12.toNat = 27 + 5 * u := (by omega); rw [i12, w15]; have ng : haR (niR h u) u = uph (niR h u) 170 (27 + 5 * u) (wzR (niR h u) u v9.toNat) := (by unfold haR; rw [if_pos gz, ← w9, if_neg c8, if_neg (by omega)]); exact ⟨rfl, rfl, u + 1, ⟨by omega, (show E78 (haR (niR h u) u) _ by rw [ng]; exact (j9.tr f15).up)⟩, rfl, wv (by omega) (by omega) (by omega), trivial⟩)))))), fun c9 => (fun h16 p16 => (by rw [e1n] at c3; obtain ⟨t1, w1⟩ := c_X12_isGhost hBx.2.1 hDx (by omega) p1; subst t1; rw [Int.toNat_natCast, r] at w1; have gz := w1.mp (by omega); obtain ⟨w9, f9⟩ := c_X12_aimOf hBx (by omega) p9; rw [Int.toNat_natCast, amR_c j2, r] at w9; have j9 : E78 (niR h u) h9 := j2.tr f9; have r9 := j9.r; have b1 := x1.2.1; have bm := am_b (h := (niR h u)) (p := u) ((niR h u) 170 1).toNat; rw [← w9] at bm; have y10 := e10 (by omega) (by omega); have y11 := e11 (by omega) (by omega); rw [Int.toNat_natCast, r9] at y11; rw [r9] at y10; have hu := x1.2.2 u (by omega); have hm := x1.2.2 v9.toNat (by omega); have o16 := c_X12_sorries (by omega) (by omega) (by rw [r9]; exact hm) p16; rw [Int.toNat_natCast] at o16; subst o16; have ng : haR (niR h u) u = soR (niR h u) u v9.toNat := (by unfold haR; rw [if_pos gz, ← w9, if_neg c8, if_pos (by omega)]); exact ⟨rfl, rfl, u + 1, ⟨by omega, (show E78 (haR (niR h u) u) _ by rw [ng]; exact soR_c j9)⟩, rfl, wv (by omega) (by omega) (by omega), trivial⟩))⟩)), fun c8 => (by rw [e1n] at c3; obtain ⟨t1, w1⟩ := c_X12_isGhost hBx.2.1 hDx (by omega) p1; subst t1; rw [Int.toNat_natCast, r] at w1; have gz := w1.mp (by omega); obtain ⟨w9, f9⟩ := c_X12_aimOf hBx (by omega) p9; rw [Int.toNat_natCast, amR_c j2, r] at w9; have j9 : E78 (niR h u) h9 := j2.tr f9; have r9 := j9.r; have b1 := x1.2.1; have ng : haR (niR h u) u = niR h u := (by unfold haR; rw [if_pos gz, if_pos (by rw [← w9]; omega)]); exact ⟨rfl, rfl, u + 1, ⟨by omega, (show E78 (haR (niR h u) u) _ by rw [ng]; exact j9)⟩, rfl, wv (by omega) (by omega) (by omega), trivial⟩)⟩)⟩)⟩)⟩
  exact q
noncomputable def nsR (g : PH) : Nat → PH
  | 0 => g
  | k + 1 => niR (nsR g k) (nsR g k 170 1).toNat
end
section
/-! 45z.5g.many -/
theorem wzR_c {g g' : PH} (hF : E78 g g') {p m : Nat} : wzR g' p m = wzR g p m := by
  have e : atR g' = atR g := funext (fun i => by unfold atR; rw [hF.r])
  unfold wzR
  rw [e, nxR_c hF, hF.r]
theorem haR_c {g g' : PH} (hF : E78 g g') {p : Nat} : E78 (haR g p) (haR g' p) := by
  unfold haR
  rw [hF.r, amR_c hF, wzR_c hF]
  by_cases c1 : g 170 (29 + 5 * p) = 1 ∧ 0 < rs (g 170) (67 + 8 * p) (g 170 1).toNat
  · rw [if_pos c1, if_pos c1]
    by_cases c2 : amR g p (g 170 1).toNat = -1
    · rw [if_pos c2, if_pos c2]; exact hF
    · rw [if_neg c2, if_neg c2]
      by_cases c3 : g 170 (27 + 5 * (amR g p (g 170 1).toNat).toNat) = g 170 (27 + 5 * p)
      · rw [if_pos c3, if_pos c3]; exact soR_c hF
      · rw [if_neg c3, if_neg c3]; exact hF.up
  · rw [if_neg c1, if_neg c1]; exact hF
theorem niR_c {g g' : PH} (hF : E78 g g') : ∀ p : Nat, E78 (niR g p) (niR g' p)
  | 0 => by
    show E78 (uph g 170 2 (w32 (g 170 2 + 1))) (uph g' 170 2 (w32 (g' 170 2 + 1)))
    rw [hF.r]
    exact hF.up
  | p + 1 => haR_c (niR_c hF p)
theorem nsR_b {g : PH} (hB : BdR g) (hD : BdD g) : ∀ k : Nat, BdR (nsR g k) ∧ BdD (nsR g k) ∧ ∀ c i : Nat, ¬ (c = 170 ∧ (i = 2 ∨ i = 3 ∨ (8 ≤ i ∧ i < 131))) → nsR g k c i = g c i
  | 0 => ⟨hB, hD, fun c i q => rfl⟩
  | k + 1 => by
    obtain ⟨x, y, z⟩ := nsR_b hB hD k
    have b1 := x.2.1
    obtain ⟨x2, y2, z2⟩ := niR_b x y (nsR g k 170 1).toNat (by omega)
    exact ⟨x2, y2, fun c i q => (z2 c i q).trans (z c i q)⟩
set_option maxRecDepth 10000 in
theorem v_X12_nights {sl : Nat} {si : Nat → Int} {K : Nat → PH → ZL → List ZV → Prop} {Q : PH → List ZV → Prop} {h : PH} {a : Int} (H : K 2 h [(2, (0, 0)), (0, (2, 169)), (1, (0, a))] []) : vc (zz sl si (7, 0)) (fun p => Nat.beq p 2) K Q mX12_nights 4 0 mX12_nights.2.2.2.2.2.2 h [(0, (2, 169)), (1, (0, a))] [] := H
set_option maxRecDepth 10000 in
theorem v_X12_nights_2 {sl : Nat} {si : Nat → Int} {K : Nat → PH → ZL → List ZV → Prop} {Q : PH → List ZV → Prop} {h : PH} {a : Int} {k : Int} (H : (a ≤ k → Q h []) ∧ (¬ (a ≤ k) → ∀ h1, CP (zz sl si (7, 0)) mX12_night0 h [(2, 169)] h1 [] → K 2 h1 [(2, (0, w32 (k + 1))), (0, (2, 169)), (1, (0, a))] [])) : vc (zz sl si (7, 0)) (fun p => Nat.beq p 2) K Q mX12_nights 9 2 (ax_jmp mX12_nights.2.2.2.2.2.2 2) h [(0, (2, 169)), (1, (0, a)), (2, (0, k))] [] := H
set_option maxHeartbeats 600000 in
theorem c_X12_nights {sl : Nat} {si : Nat → Int} {h h' : PH} {a : Int} (hB : BdR h) (hD : BdD h) (ha : 0 ≤ a ∧ a ≤ 9999) (hc : CP (zz sl si (7, 0)) mX12_nights h [(2, 169), (0, a)] h' []) : E78 (nsR h a.toNat) h' := by
  have q : (fun (xh : PH) (r : List ZV) => E78 (nsR h a.toNat) xh) h' [] := by
    refine cp_vc (cut := (fun p => Nat.beq p 2)) (K := fun p hx lv st => (p = 2 ∧ lK (fun u : Nat => [(0, (2, 169)), (1, (0, a)), (2, (0, (u : Int)))]) (fun u hx => (u : Int) ≤ a ∧ E78 (nsR h u) hx) p hx lv st)) (Q := fun (xh : PH) (r : List ZV) => E78 (nsR h a.toNat) xh) (v_X12_nights ?_) (fun pc hx lv st hcut hK => ?_) hc
    · exact (by exact ⟨rfl, rfl, 0, ⟨by omega, fun c k q => rfl⟩, rfl, rfl, rfl, trivial⟩)
    · rcases hK with ⟨rfl, rfl, u, hJ, hs⟩
      · obtain ⟨j1, j2⟩ := hJ
        obtain ⟨x1, x2, x3⟩ := nsR_b hB hD u
        have r := j2.r
        have hBx : BdR hx := by unfold BdR; rw [r]; exact x1
        have hDx : BdD hx := by unfold BdD; rw [r]; exact x2
        exact ⟨_, _, hs, v_X12_nights_2 ⟨fun c1 => (by have eu : a.toNat = u := (by omega); rw [eu]; exact j2), fun c1 => (fun h1 p1 => (by have n0 := c_X12_night0 hBx hDx p1; rw [r] at n0; exact ⟨rfl, rfl, u + 1, ⟨by omega, (show E78 (niR (nsR h u) (nsR h u 170 1).toNat) h1 from (niR_c j2 _).tr n0)⟩, rfl, rfl, wv (by omega) (by omega) (by omega), trivial⟩))⟩⟩
  exact q
end
section
/-! 45z.5h.trial -/
set_option maxRecDepth 10000 in
theorem v_X12_isPerson {sl : Nat} {si : Nat → Int} {K : Nat → PH → ZL → List ZV → Prop} {Q : PH → List ZV → Prop} {h : PH} {a : Int} (H : (a < 0 → Q h [(0, 0)]) ∧ (¬ (a < 0) → 0 ≤ (1 : Int) ∧ (1 : Int) < (3696 : Nat) → R32 (h 170 1) → ((h 170 1) ≤ a → Q h [(0, 0)]) ∧ (¬ ((h 170 1) ≤ a) → Q h [(0, 1)]))) : vc (zz sl si (7, 0)) (fun _ => false) K Q mX12_isPerson 13 0 mX12_isPerson.2.2.2.2.2.2 h [(0, (2, 169)), (1, (0, a))] [] := H
theorem c_X12_isPerson {sl : Nat} {si : Nat → Int} {h h' : PH} {a : Int} {v : Int} (hc : CP (zz sl si (7, 0)) mX12_isPerson h [(2, 169), (0, a)] h' [(0, v)]) : h' = h ∧ (v = 1 ↔ 0 ≤ a ∧ a < h 170 1) := by
  have q := cp_vc (K := fun _ _ _ _ => True) (Q := fun xh r => xh = h ∧ ∀ v, r = [(0, v)] → (v = 1 ↔ 0 ≤ a ∧ a < h 170 1)) (v_X12_isPerson ⟨fun c1 => (by exact ⟨rfl, fun v e => by cases e; omega⟩), fun c1 => (fun b2 r3 => ⟨fun c4 => (by exact ⟨rfl, fun v e => by cases e; omega⟩), fun c4 => (by exact ⟨rfl, fun v e => by cases e; omega⟩)⟩)⟩) (fun _ _ _ _ z _ => Bool.noConfusion z) hc
  exact ⟨q.1, q.2 v rfl⟩
set_option maxRecDepth 10000 in
theorem v_X12_isHouse {sl : Nat} {si : Nat → Int} {K : Nat → PH → ZL → List ZV → Prop} {Q : PH → List ZV → Prop} {h : PH} {a : Int} (H : (a < 0 → Q h [(0, 0)]) ∧ (¬ (a < 0) → 0 ≤ (0 : Int) ∧ (0 : Int) < (3696 : Nat) → R32 (h 170 0) → ((h 170 0) ≤ a → Q h [(0, 0)]) ∧ (¬ ((h 170 0) ≤ a) → Q h [(0, 1)]))) : vc (zz sl si (7, 0)) (fun _ => false) K Q mX12_isHouse 13 0 mX12_isHouse.2.2.2.2.2.2 h [(0, (2, 169)), (1, (0, a))] [] := H
theorem c_X12_isHouse {sl : Nat} {si : Nat → Int} {h h' : PH} {a : Int} {v : Int} (hc : CP (zz sl si (7, 0)) mX12_isHouse h [(2, 169), (0, a)] h' [(0, v)]) : h' = h ∧ (v = 1 ↔ 0 ≤ a ∧ a < h 170 0) := by
  have q := cp_vc (K := fun _ _ _ _ => True) (Q := fun xh r => xh = h ∧ ∀ v, r = [(0, v)] → (v = 1 ↔ 0 ≤ a ∧ a < h 170 0)) (v_X12_isHouse ⟨fun c1 => (by exact ⟨rfl, fun v e => by cases e; omega⟩), fun c1 => (fun b2 r3 => ⟨fun c4 => (by exact ⟨rfl, fun v e => by cases e; omega⟩), fun c4 => (by exact ⟨rfl, fun v e => by cases e; omega⟩)⟩)⟩) (fun _ _ _ _ z _ => Bool.noConfusion z) hc
  exact ⟨q.1, q.2 v rfl⟩
theorem zcmp_l {a b : Int} : zcmp a b < 0 ↔ a < b := by
  unfold zcmp
  repeat' split
  all_goals omega
theorem zcmp_g {a b : Int} : 0 < zcmp a b ↔ b < a := by
  unfold zcmp
  repeat' split
  all_goals omega
set_option maxRecDepth 10000 in
theorem v_X12_isFrom {sl : Nat} {si : Nat → Int} {K : Nat → PH → ZL → List ZV → Prop} {Q : PH → List ZV → Prop} {h : PH} {x y z : Int} (H : ((zcmp x y) < 0 → Q h [(0, 0)]) ∧ (¬ ((zcmp x y) < 0) → ((0 : Int) < (zcmp x z) → Q h [(0, 0)]) ∧ (¬ ((0 : Int) < (zcmp x z)) → Q h [(0, 1)]))) : vc (zz sl si (7, 0)) (fun _ => false) K Q mX12_isFrom 13 0 mX12_isFrom.2.2.2.2.2.2 h [(0, (1, x)), (2, (1, y)), (4, (1, z))] [] := H
set_option maxHeartbeats 600000 in
theorem c_X12_isFrom {sl : Nat} {si : Nat → Int} {h h' : PH} {x y z : Int} {v : Int} (hc : CP (zz sl si (7, 0)) mX12_isFrom h [(1, x), (1, y), (1, z)] h' [(0, v)]) : h' = h ∧ (v = 1 ↔ y ≤ x ∧ x ≤ z) := by
  have q : (fun (xh : PH) (r : List ZV) => ∀ v : Int, r = [(0, v)] → (xh = h ∧ (v = 1 ↔ y ≤ x ∧ x ≤ z))) h' [(0, v)] := by
    refine cp_vc (cut := (fun _ => false)) (K := fun p hx lv st => False) (Q := fun (xh : PH) (r : List ZV) => ∀ v : Int, r = [(0, v)] → (xh = h ∧ (v = 1 ↔ y ≤ x ∧ x ≤ z))) (v_X12_isFrom ?_) (fun pc hx lv st hcut hK => ?_) hc
    · exact ⟨fun c1 => (by intro v e; cases e; rw [zcmp_l] at c1; exact ⟨rfl, by omega⟩), fun c1 => ⟨fun c2 => (by intro v e; cases e; rw [zcmp_l] at c1; rw [zcmp_g] at c2; exact ⟨rfl, by omega⟩), fun c2 => (by intro v e; cases e; rw [zcmp_l] at c1; rw [zcmp_g] at c2; exact ⟨rfl, by omega⟩)⟩⟩
    · exact hK.elim
  exact q v rfl
set_option maxRecDepth 10000 in
theorem v_X12_isLater {sl : Nat} {si : Nat → Int} {K : Nat → PH → ZL → List ZV → Prop} {Q : PH → List ZV → Prop} {h : PH} {a : Int} (H : ∀ h1 v1, CP (zz sl si (7, 0)) mX12_isFrom h [(1, a), (1, 0), (1, 999)] h1 [(0, v1)] → v1 = 0 ∨ v1 = 1 → Q h1 [(0, v1)]) : vc (zz sl si (7, 0)) (fun _ => false) K Q mX12_isLater 8 0 mX12_isLater.2.2.2.2.2.2 h [(0, (2, 169)), (1, (0, a))] [] := H
theorem c_X12_isLater {sl : Nat} {si : Nat → Int} {h h' : PH} {a : Int} {v : Int} (hc : CP (zz sl si (7, 0)) mX12_isLater h [(2, 169), (0, a)] h' [(0, v)]) : h' = h ∧ (v = 1 ↔ 0 ≤ a ∧ a ≤ 999) := by
  have q := cp_vc (K := fun _ _ _ _ => True) (Q := fun xh r => xh = h ∧ ∀ v, r = [(0, v)] → (v = 1 ↔ 0 ≤ a ∧ a ≤ 999)) (v_X12_isLater (fun h1 v1 p1 q1 => by obtain ⟨t1, e1⟩ := c_X12_isFrom p1; have t1 := t1.symm; subst t1; exact (by exact ⟨rfl, fun v e => by cases e; omega⟩))) (fun _ _ _ _ z _ => Bool.noConfusion z) hc
  exact ⟨q.1, q.2 v rfl⟩
/-- the LAND is as it was, and all else but what is laid by -/
def SamL (h h' : PH) : Prop := (∀ k : Nat, k < 164 → h' 170 k = h 170 k) ∧ ∀ c k : Nat, ¬ (c = 169 ∧ k = 2) → ¬ (c = 178 ∧ k < 7) → ¬ (c = 170 ∧ (k < 164 ∨ (3168 ≤ k ∧ k < 3332))) → h' c k = h c k
theorem try_ok {sl : Nat} {si : Nat → Int} {h h1 h2 h3 : PH} {n : Nat} (hB : BdR h) (hD : BdD h) (p1 : CP (zz sl si (7, 0)) mX12_keeps h [(2, 169), (0, 3168)] h1 []) (e : E78 (nsR h1 n) h2) (p3 : CP (zz sl si (7, 0)) mX12_restores h2 [(2, 169), (0, 3168)] h3 []) : SamL h h3 := by
  obtain ⟨a1, a2⟩ := c_X12_keeps (by omega) p1
  obtain ⟨b1, b2⟩ := c_X12_restores (by omega) p3
  have hB1 : BdR h1 := ⟨by rw [a2 170 0 (by omega)]; exact hB.1, by rw [a2 170 1 (by omega)]; exact hB.2.1, fun q hq => by rw [a2 170 _ (by omega)]; exact hB.2.2 q hq⟩
  have hD1 : BdD h1 := fun i hi => by rw [a2 170 _ (by omega)]; exact hD i hi
  obtain ⟨-, -, x3⟩ := nsR_b hB1 hD1 n
  refine ⟨fun k hk => ?_, fun c k q1 q2 q3 => ?_⟩
  · rw [b1 k hk, e 170 _ (by omega), x3 170 _ (by omega)]
    exact a1 k hk
  · rw [b2 c k (by omega), e c k (by omega), x3 c k (by omega), a2 c k (by omega)]
end
section
/-! 45z.5i.ahead -/
theorem SamL.u {h h' : PH} (s : SamL h h') {v : Int} : SamL h (uph h' 169 2 v) := ⟨fun k hk => by rw [up_ne (by omega)]; exact s.1 k hk, fun c k q1 q2 q3 => by rw [up_ne (by omega)]; exact s.2 c k q1 q2 q3⟩
theorem SamL.rf (h : PH) : SamL h h := ⟨fun _ _ => rfl, fun _ _ _ _ _ => rfl⟩
theorem try2 {sl : Nat} {si : Nat → Int} {h h1 h2 h3 : PH} {m : Int} (hB : BdR h) (hD : BdD h) (hm : 0 ≤ m ∧ m ≤ 9999) (p1 : CP (zz sl si (7, 0)) mX12_keeps h [(2, 169), (0, 3168)] h1 []) (p2 : CP (zz sl si (7, 0)) mX12_nights h1 [(2, 169), (0, m)] h2 []) (p3 : CP (zz sl si (7, 0)) mX12_restores h2 [(2, 169), (0, 3168)] h3 []) : SamL h h3 ∧ BdR h2 ∧ BdD h2 := by
  obtain ⟨a1, a2⟩ := c_X12_keeps (by omega) p1
  have hB1 : BdR h1 := ⟨by rw [a2 170 0 (by omega)]; exact hB.1, by rw [a2 170 1 (by omega)]; exact hB.2.1, fun q hq => by rw [a2 170 _ (by omega)]; exact hB.2.2 q hq⟩
  have hD1 : BdD h1 := fun i hi => by rw [a2 170 _ (by omega)]; exact hD i hi
  have e := c_X12_nights hB1 hD1 hm p2
  obtain ⟨x1, x2, -⟩ := nsR_b hB1 hD1 m.toNat
  exact ⟨try_ok hB hD p1 e p3, by unfold BdR; rw [e.r]; exact x1, by unfold BdD; rw [e.r]; exact x2⟩
set_option maxRecDepth 10000 in
theorem v_X12_walks {sl : Nat} {si : Nat → Int} {K : Nat → PH → ZL → List ZV → Prop} {Q : PH → List ZV → Prop} {h : PH} {a b : Int} (H : ∀ h1 v1, CP (zz sl si (7, 0)) mX12_isPerson h [(2, 169), (0, a)] h1 [(0, v1)] → v1 = 0 ∨ v1 = 1 → (v1 = 0 → ∀ h2 v2, CP (zz sl si (7, 0)) mX12_refuse h1 [(2, 169), (0, 1)] h2 [(0, v2)] → R32 v2 → Q h2 [(0, v2)]) ∧ (¬ (v1 = 0) → ∀ h3 v3, CP (zz sl si (7, 0)) mX12_isLater h1 [(2, 169), (0, b)] h3 [(0, v3)] → v3 = 0 ∨ v3 = 1 → (v3 ≠ 0 → ∀ h4, CP (zz sl si (7, 0)) mX12_keeps h3 [(2, 169), (0, 3168)] h4 [] → ∀ h5, CP (zz sl si (7, 0)) mX12_nights h4 [(2, 169), (0, b)] h5 [] → ∀ h6 v6, CP (zz sl si (7, 0)) mX12_whereOf h5 [(2, 169), (0, a)] h6 [(0, v6)] → R32 v6 → ∀ h7, CP (zz sl si (7, 0)) mX12_restores h6 [(2, 169), (0, 3168)] h7 [] → ∀ h8 v8, CP (zz sl si (7, 0)) mX12_gives h7 [(2, 169), (0, v6)] h8 [(0, v8)] → R32 v8 → Q h8 [(0, v8)]) ∧ (¬ (v3 ≠ 0) → ∀ h9 v9, CP (zz sl si (7, 0)) mX12_refuse h3 [(2, 169), (0, 1)] h9 [(0, v9)] → R32 v9 → Q h9 [(0, v9)]))) : vc (zz sl si (7, 0)) (fun _ => false) K Q mX12_walks 27 0 mX12_walks.2.2.2.2.2.2 h [(0, (2, 169)), (1, (0, a)), (2, (0, b))] [] := H
set_option maxHeartbeats 600000 in
theorem c_X12_walks {sl : Nat} {si : Nat → Int} {h h' : PH} {a b : Int} {v : Int} (hB : BdR h) (hD : BdD h) (hc : CP (zz sl si (7, 0)) mX12_walks h [(2, 169), (0, a), (0, b)] h' [(0, v)]) : SamL h h' := by
  have q : (fun (xh : PH) (r : List ZV) => ∀ v : Int, r = [(0, v)] → (SamL h xh)) h' [(0, v)] := by
    refine cp_vc (cut := (fun _ => false)) (K := fun p hx lv st => False) (Q := fun (xh : PH) (r : List ZV) => ∀ v : Int, r = [(0, v)] → (SamL h xh)) (v_X12_walks ?_) (fun pc hx lv st hcut hK => ?_) hc
    · exact (fun h1 v1 p1 q1 => by obtain ⟨t1, e1⟩ := c_X12_isPerson p1; have t1 := t1.symm; subst t1; exact ⟨fun c1 => (fun h2 v2 p2 q2 => by obtain ⟨t2, e2⟩ := c_X12_refuse p2; have t2 := t2.symm; subst t2; exact (by intro v e; cases e; exact (SamL.rf _).u)), fun c1 => (fun h3 v3 p3 q3 => by obtain ⟨t3, e3⟩ := c_X12_isLater p3; have t3 := t3.symm; subst t3; exact ⟨fun c2 => (fun h4 p4 => (fun h5 p5 => (fun h6 v6 p6 q6 => by obtain ⟨t6, e6⟩ := c_X12_whereOf p6; have t6 := t6.symm; subst t6; exact (fun h7 p7 => (fun h8 v8 p8 q8 => by obtain ⟨t8, e8⟩ := c_X12_gives p8; have t8 := t8.symm; subst t8; exact (by intro v e; cases e; exact (try2 hB hD (by omega) p4 p5 p7).1.u)))))), fun c2 => (fun h9 v9 p9 q9 => by obtain ⟨t9, e9⟩ := c_X12_refuse p9; have t9 := t9.symm; subst t9; exact (by intro v e; cases e; exact (SamL.rf _).u))⟩)⟩)
    · exact hK.elim
  exact q v rfl
end
section
/-! 45z.5j.pure -/
/-! METHODS THAT WRITE NOTHING -/
noncomputable def pue (S : List (Nat × Nat)) (e : ME) : Bool :=
  !(Nat.beq e.2.1 9) && (!(Nat.ble 14 e.2.1 && Nat.ble e.2.1 16) && (bif Nat.beq e.2.1 21 then (match e.2.2.2.1 with
    | x :: l1 => !(Nat.beq x 901) && (match l1 with
      | b :: _ => Nat.beq x 902 || (Nat.beq x 903 || S.any (fun q => Nat.beq q.1 x && Nat.beq q.2 b))
      | [] => true)
    | [] => true) else true))
noncomputable def puc (S : List (Nat × Nat)) : Bool := S.all (fun q => match mth q.1 q.2 with
  | some C => C.2.2.2.2.2.2.all (pue S)
  | none => true)
theorem puc_in {S : List (Nat × Nat)} (h : puc S = true) {C : MR} (hC : inS S C) : ∀ e ∈ C.2.2.2.2.2.2, pue S e = true := by
  obtain ⟨q, hq, hm⟩ := hC
  have a := List.all_eq_true.mp h q hq
  rw [hm] at a
  exact List.all_eq_true.mp a
section PU
variable {Z : ZP} {S : List (Nat × Nat)}
theorem pu_st {cr : CRl} (hcr : ∀ C h as h' r, inS S C → cr C h as h' r → h' = h) (hn : puc S = true) {M : MR} (hM : inS S M) {s s' : ZS} (H : zSt Z cr M s s') : s'.2.1 = s.2.1 := by
  obtain ⟨e, he, hpc, hz⟩ := H
  have hne := puc_in hn hM e he
  unfold pue at hne
  obtain ⟨n1, hne⟩ := bb_and hne
  obtain ⟨n2, n3⟩ := bb_and hne
  by_cases h9 : e.2.1 = 9
  · rw [h9] at n1
    cases n1
  · by_cases h14 : 14 ≤ e.2.1 ∧ e.2.1 ≤ 16
    · exfalso
      rw [Nat.ble_eq_true_of_le h14.1, Nat.ble_eq_true_of_le h14.2] at n2
      cases n2
    · by_cases h21 : e.2.1 = 21
      · unfold z_st at hz
        rw [h21] at hz
        have hz : z_inv (R := Prop) False exA (exC cr) mth e.2.2.2.1 s.2.1 s.2.2.2 (fun h' st' => s' = (s.1 + e.2.2.1, h', s.2.2.1, st')) := hz
        obtain ⟨x, l1, e1, e2⟩ := z_inv_k hz
        rw [h21, e1] at n3
        rcases e2 with e2 | ⟨r, e2⟩ | ⟨b, l2, C, as, h', r, q, e2, e3, e4, e5⟩
        · exfalso
          have w := bb_and n3
          rw [e2] at w
          cases w.1
        · rw [e2]
        · rw [e5]
          rw [e2] at n3
          have w := (bb_and n3).2
          refine hcr C _ as h' r ?_ e4
          rcases (Bool.or_eq_true _ _).mp w with z | z
          · exfalso
            rw [bb_eq z] at e3
            exact mx902 _ _ e3
          · rcases (Bool.or_eq_true _ _).mp z with z | z
            · exfalso
              rw [bb_eq z] at e3
              exact mx903 _ _ e3
            · obtain ⟨p, p1, p2⟩ := List.any_eq_true.mp z
              have p2 := bb_and p2
              exact ⟨p, p1, by rw [bb_eq p2.1, bb_eq p2.2]; exact e3⟩
      · rw [z_st_h h9 h14 h21] at hz
        exact z_st_par (R2 := Prop) (Rl := fun a _ => a → s'.2.1 = s.2.1) (b2 := True) (br2 := fun _ _ _ => True) (as2 := fun _ _ => True) (cl2 := fun _ _ _ _ => True) (fun h => h.elim) (fun c x1 x2 y1 y2 hx hy h => h.elim (fun q => hx q.2) (fun q => hy q.2)) (fun c x1 x2 hx h => hx h.2) (fun C h as k1 k2 hk q => by
          obtain ⟨h', r, -, b⟩ := q
          exact hk h' r b) (nx2 := fun _ _ _ => True) (jp2 := fun _ _ _ _ => True) (fun _ _ _ z => by rw [z]) (fun _ _ _ _ z => by rw [z]) hz
theorem pu_n {cr : CRl} (hcr : ∀ C h as h' r, inS S C → cr C h as h' r → h' = h) (hn : puc S = true) {M : MR} (hM : inS S M) : ∀ (n : Nat) {s s' : ZS}, Zn Z cr n M s s' → s'.2.1 = s.2.1
  | 0, _, _, H => by
    have H := H
    rw [H]
  | n + 1, _, _, H => by
    obtain ⟨s1, a, b⟩ := H
    rw [pu_n hcr hn hM n b, pu_st hcr hn hM a]
theorem pu_c (hn : puc S = true) : ∀ (f : Nat) (C : MR) (h : PH) (as : List ZV) (h' : PH) (r : List ZV), inS S C → Zc Z f C h as h' r → h' = h
  | 0, _, _, _, _, _, _, H => H.elim
  | f + 1, C, h, as, h', r, hC, H => by
    obtain ⟨-, n, pc', lv', a, -⟩ := H
    exact pu_n (pu_c hn f) hn hC n a
theorem pu_cp (hn : puc S = true) {C : MR} {h : PH} {as : List ZV} {h' : PH} {r : List ZV} (hC : inS S C) (H : CP Z C h as h' r) : h' = h := by
  obtain ⟨f, H⟩ := H
  exact pu_c hn f C h as h' r hC H
end PU
def sPu : List (Nat × Nat) := [(0, 3), (0, 6), (0, 7), (0, 8), (0, 9), (0, 10), (0, 11), (0, 15), (0, 16), (0, 17), (0, 18), (0, 19), (1, 0), (1, 1), (1, 2), (1, 3), (1, 7), (1, 8), (2, 9), (2, 10), (2, 18), (3, 1), (3, 3), (3, 4), (3, 5), (3, 6), (3, 12), (3, 13), (3, 14), (3, 17), (3, 18), (3, 19), (4, 0), (4, 2), (5, 2), (5, 18), (5, 19), (6, 0), (6, 1), (6, 2), (6, 4), (6, 5), (6, 16), (6, 19), (7, 0), (7, 1), (7, 9), (10, 15), (10, 16), (10, 17), (10, 18), (10, 19), (11, 0), (11, 1), (11, 2), (11, 6), (11, 7), (11, 8), (11, 14), (11, 15), (11, 17), (12, 1), (12, 4), (12, 5), (12, 6), (12, 8), (12, 9), (12, 15), (12, 16), (12, 17), (12, 18), (13, 17), (13, 18), (13, 19), (14, 0), (14, 1), (14, 2), (14, 3), (14, 4), (14, 5), (14, 6), (14, 7), (14, 9), (14, 10), (14, 11), (14, 12), (14, 13), (14, 18), (15, 1), (15, 10), (15, 11), (15, 12), (16, 10), (16, 13), (17, 4), (18, 6), (18, 9), (19, 4), (19, 13), (19, 16), (19, 17), (19, 18), (19, 19), (20, 0), (20, 1), (20, 2), (20, 3), (20, 4), (20, 5), (20, 8)]
set_option maxRecDepth 100000 in
theorem pu_ok : puc sPu = true := by decide +kernel
theorem u_X12_areTwo {sl : Nat} {si : Nat → Int} {h h' : PH} {as r : List ZV} (hc : CP (zz sl si (7, 0)) mX12_areTwo h as h' r) : h' = h ∧ True := ⟨pu_cp pu_ok ⟨(14, 1), by decide +kernel, rfl⟩ hc, trivial⟩
theorem u_X12_isIn {sl : Nat} {si : Nat → Int} {h h' : PH} {as r : List ZV} (hc : CP (zz sl si (7, 0)) mX12_isIn h as h' r) : h' = h ∧ True := ⟨pu_cp pu_ok ⟨(14, 2), by decide +kernel, rfl⟩ hc, trivial⟩
theorem u_X12_bits {sl : Nat} {si : Nat → Int} {h h' : PH} {as r : List ZV} (hc : CP (zz sl si (7, 0)) mX12_bits h as h' r) : h' = h ∧ True := ⟨pu_cp pu_ok ⟨(14, 3), by decide +kernel, rfl⟩ hc, trivial⟩
theorem u_X12_owesAll {sl : Nat} {si : Nat → Int} {h h' : PH} {as r : List ZV} (hc : CP (zz sl si (7, 0)) mX12_owesAll h as h' r) : h' = h ∧ True := ⟨pu_cp pu_ok ⟨(14, 9), by decide +kernel, rfl⟩ hc, trivial⟩
theorem u_X12_sorrow {sl : Nat} {si : Nat → Int} {h h' : PH} {as r : List ZV} (hc : CP (zz sl si (7, 0)) mX12_sorrow h as h' r) : h' = h ∧ True := ⟨pu_cp pu_ok ⟨(14, 11), by decide +kernel, rfl⟩ hc, trivial⟩
theorem u_X12_isGhost {sl : Nat} {si : Nat → Int} {h h' : PH} {as r : List ZV} (hc : CP (zz sl si (7, 0)) mX12_isGhost h as h' r) : h' = h ∧ True := ⟨pu_cp pu_ok ⟨(14, 12), by decide +kernel, rfl⟩ hc, trivial⟩
theorem u_X12_setOf {sl : Nat} {si : Nat → Int} {h h' : PH} {as r : List ZV} (hc : CP (zz sl si (7, 0)) mX12_setOf h as h' r) : h' = h ∧ True := ⟨pu_cp pu_ok ⟨(14, 13), by decide +kernel, rfl⟩ hc, trivial⟩
theorem u_X12_inHouse {sl : Nat} {si : Nat → Int} {h h' : PH} {as r : List ZV} (hc : CP (zz sl si (7, 0)) mX12_inHouse h as h' r) : h' = h ∧ True := ⟨pu_cp pu_ok ⟨(15, 1), by decide +kernel, rfl⟩ hc, trivial⟩
theorem u_X12_isSo {sl : Nat} {si : Nat → Int} {h h' : PH} {as r : List ZV} (hc : CP (zz sl si (7, 0)) mX12_isSo h as h' r) : h' = h ∧ True := ⟨pu_cp pu_ok ⟨(16, 13), by decide +kernel, rfl⟩ hc, trivial⟩
theorem u_X12_mostOf {sl : Nat} {si : Nat → Int} {h h' : PH} {as r : List ZV} (hc : CP (zz sl si (7, 0)) mX12_mostOf h as h' r) : h' = h ∧ True := ⟨pu_cp pu_ok ⟨(17, 4), by decide +kernel, rfl⟩ hc, trivial⟩
/-! METHODS THAT WRITE NO ROW -/
theorem z_putf_k2 {sh : SHP} {lk : List Nat} {h : PH} {st : List ZV} {kk : PH → List ZV → Prop} (H : z_putf (R := Prop) False sh lk h st kk) : ∃ ci k rest a v r q, lk = ci :: k :: rest ∧ sh[zc a]? = some q ∧ q.1 < 100 ∧ q.1 = ci ∧ kk (uph h (zc a) k v) r := by
  unfold z_putf at H
  match lk, st, H with
  | ci :: k :: tc :: rest, v :: a :: r, H =>
    have H : gdr False (Nat.beq a.1 2) (obr False (ax_nth sh (zc a)) (fun q => gdr False (Nat.beq q.1 ci && Nat.blt ci 100) (kk (uph h (zc a) k v.2) r))) := H
    cases g1 : Nat.beq a.1 2 with
    | false => rw [g1] at H; exact H.elim
    | true =>
      rw [g1] at H
      have H : obr False (ax_nth sh (zc a)) (fun q => gdr False (Nat.beq q.1 ci && Nat.blt ci 100) (kk (uph h (zc a) k v.2) r)) := H
      cases g2 : ax_nth sh (zc a) with
      | none => rw [g2] at H; exact H.elim
      | some q =>
        rw [g2] at H
        have H : gdr False (Nat.beq q.1 ci && Nat.blt ci 100) (kk (uph h (zc a) k v.2) r) := H
        cases g3 : (Nat.beq q.1 ci && Nat.blt ci 100) with
        | false => rw [g3] at H; exact H.elim
        | true =>
          rw [g3] at H
          rw [ax_nth_eq] at g2
          have w := bb_and g3
          have w1 := bb_eq w.1
          have w2 : ci < 100 := Nat.lt_of_succ_le (Nat.le_of_ble_eq_true w.2)
          exact ⟨ci, k, _, a, v.2, r, q, rfl, g2, by omega, w1, H⟩
noncomputable def nae (S : List (Nat × Nat)) (e : ME) : Bool :=
  !(Nat.ble 14 e.2.1 && Nat.ble e.2.1 16) && (bif Nat.beq e.2.1 21 then (match e.2.2.2.1 with
    | x :: l1 => !(Nat.beq x 901) && (match l1 with
      | b :: _ => Nat.beq x 902 || (Nat.beq x 903 || S.any (fun q => Nat.beq q.1 x && Nat.beq q.2 b))
      | [] => true)
    | [] => true) else true)
noncomputable def nac (S : List (Nat × Nat)) : Bool := S.all (fun q => match mth q.1 q.2 with
  | some C => C.2.2.2.2.2.2.all (nae S)
  | none => true)
theorem nac_in {S : List (Nat × Nat)} (h : nac S = true) {C : MR} (hC : inS S C) : ∀ e ∈ C.2.2.2.2.2.2, nae S e = true := by
  obtain ⟨q, hq, hm⟩ := hC
  have a := List.all_eq_true.mp h q hq
  rw [hm] at a
  exact List.all_eq_true.mp a
section NA
variable {Z : ZP} {c0 k0 : Nat} {S : List (Nat × Nat)} {q0 : Nat × Nat × List (Nat × Nat)}
theorem na_st (h0 : Z.2.2.2.1[c0]? = some q0) (hq : 100 ≤ q0.1) {cr : CRl} (hcr : ∀ C h as h' r, inS S C → cr C h as h' r → h' c0 k0 = h c0 k0) (hn : nac S = true) {M : MR} (hM : inS S M) {s s' : ZS} (H : zSt Z cr M s s') : s'.2.1 c0 k0 = s.2.1 c0 k0 := by
  obtain ⟨e, he, hpc, hz⟩ := H
  have hne := nac_in hn hM e he
  unfold nae at hne
  obtain ⟨n2, n3⟩ := bb_and hne
  by_cases h9 : e.2.1 = 9
  · unfold z_st at hz
    rw [h9] at hz
    have hz : z_putf (R := Prop) False Z.2.2.2.1 e.2.2.2.1 s.2.1 s.2.2.2 (fun h' st' => s' = (s.1 + e.2.2.1, h', s.2.2.1, st')) := hz
    obtain ⟨c, k, rest, a, v, r, q, e1, e2, e3, e5, e4⟩ := z_putf_k2 hz
    rw [e4]
    show uph s.2.1 (zc a) k v c0 k0 = s.2.1 c0 k0
    unfold uph
    rw [if_neg]
    intro z
    rw [← z.1, h0] at e2
    have e2 := Option.some.inj e2
    rw [← e2] at e3
    omega
  · by_cases h14 : 14 ≤ e.2.1 ∧ e.2.1 ≤ 16
    · exfalso
      rw [Nat.ble_eq_true_of_le h14.1, Nat.ble_eq_true_of_le h14.2] at n2
      cases n2
    · by_cases h21 : e.2.1 = 21
      · unfold z_st at hz
        rw [h21] at hz
        have hz : z_inv (R := Prop) False exA (exC cr) mth e.2.2.2.1 s.2.1 s.2.2.2 (fun h' st' => s' = (s.1 + e.2.2.1, h', s.2.2.1, st')) := hz
        obtain ⟨x, l1, e1, e2⟩ := z_inv_k hz
        rw [h21, e1] at n3
        rcases e2 with e2 | ⟨r, e2⟩ | ⟨b, l2, C, as, h', r, q, e2, e3, e4, e5⟩
        · exfalso
          have w := bb_and n3
          rw [e2] at w
          cases w.1
        · rw [e2]
        · rw [e5]
          rw [e2] at n3
          have w := (bb_and n3).2
          refine hcr C _ as h' r ?_ e4
          rcases (Bool.or_eq_true _ _).mp w with z | z
          · exfalso
            rw [bb_eq z] at e3
            exact mx902 _ _ e3
          · rcases (Bool.or_eq_true _ _).mp z with z | z
            · exfalso
              rw [bb_eq z] at e3
              exact mx903 _ _ e3
            · obtain ⟨p, p1, p2⟩ := List.any_eq_true.mp z
              have p2 := bb_and p2
              exact ⟨p, p1, by rw [bb_eq p2.1, bb_eq p2.2]; exact e3⟩
      · rw [z_st_h h9 h14 h21] at hz
        exact z_st_par (R2 := Prop) (Rl := fun a _ => a → s'.2.1 c0 k0 = s.2.1 c0 k0) (b2 := True) (br2 := fun _ _ _ => True) (as2 := fun _ _ => True) (cl2 := fun _ _ _ _ => True) (fun h => h.elim) (fun c x1 x2 y1 y2 hx hy h => h.elim (fun q => hx q.2) (fun q => hy q.2)) (fun c x1 x2 hx h => hx h.2) (fun C h as k1 k2 hk q => by
          obtain ⟨h', r, -, b⟩ := q
          exact hk h' r b) (nx2 := fun _ _ _ => True) (jp2 := fun _ _ _ _ => True) (fun _ _ _ z => by rw [z]) (fun _ _ _ _ z => by rw [z]) hz
theorem na_n (h0 : Z.2.2.2.1[c0]? = some q0) (hq : 100 ≤ q0.1) {cr : CRl} (hcr : ∀ C h as h' r, inS S C → cr C h as h' r → h' c0 k0 = h c0 k0) (hn : nac S = true) {M : MR} (hM : inS S M) : ∀ (n : Nat) {s s' : ZS}, Zn Z cr n M s s' → s'.2.1 c0 k0 = s.2.1 c0 k0
  | 0, _, _, H => by
    have H := H
    rw [H]
  | n + 1, _, _, H => by
    obtain ⟨s1, a, b⟩ := H
    rw [na_n h0 hq hcr hn hM n b, na_st h0 hq hcr hn hM a]
theorem na_c (h0 : Z.2.2.2.1[c0]? = some q0) (hq : 100 ≤ q0.1) (hn : nac S = true) : ∀ (f : Nat) (C : MR) (h : PH) (as : List ZV) (h' : PH) (r : List ZV), inS S C → Zc Z f C h as h' r → h' c0 k0 = h c0 k0
  | 0, _, _, _, _, _, _, H => H.elim
  | f + 1, C, h, as, h', r, hC, H => by
    obtain ⟨-, n, pc', lv', a, -⟩ := H
    exact na_n h0 hq (na_c h0 hq hn f) hn hC n a
/-- the rows stay -/
theorem na_cp (h0 : Z.2.2.2.1[c0]? = some q0) (hq : 100 ≤ q0.1) (hn : nac S = true) {C : MR} {h : PH} {as : List ZV} {h' : PH} {r : List ZV} (hC : inS S C) (H : CP Z C h as h' r) : h' c0 = h c0 := funext (fun k => by
  obtain ⟨f, H⟩ := H
  exact na_c h0 hq hn f C h as h' r hC H)
end NA
def sNa : List (Nat × Nat) := [(0, 0), (0, 3), (0, 6), (0, 7), (0, 8), (0, 9), (0, 10), (0, 11), (0, 12), (0, 15), (0, 16), (0, 17), (0, 18), (0, 19), (1, 0), (1, 1), (1, 2), (1, 3), (1, 7), (1, 8), (1, 14), (1, 17), (1, 18), (2, 4), (2, 5), (2, 7), (2, 9), (2, 10), (2, 12), (2, 13), (2, 18), (3, 1), (3, 3), (3, 4), (3, 5), (3, 6), (3, 7), (3, 12), (3, 13), (3, 14), (3, 17), (3, 18), (3, 19), (4, 0), (4, 2), (4, 3), (4, 14), (4, 15), (4, 18), (5, 2), (5, 14), (5, 15), (5, 16), (5, 17), (5, 18), (5, 19), (6, 0), (6, 1), (6, 2), (6, 3), (6, 4), (6, 5), (6, 6), (6, 7), (6, 8), (6, 9), (6, 10), (6, 11), (6, 12), (6, 13), (6, 14), (6, 16), (6, 19), (7, 0), (7, 1), (7, 4), (7, 9), (7, 10), (7, 11), (7, 12), (7, 13), (7, 14), (7, 15), (7, 16), (8, 2), (8, 5), (8, 6), (8, 7), (8, 15), (8, 16), (9, 1), (9, 4), (9, 8), (9, 9), (9, 10), (9, 11), (9, 12), (9, 15), (9, 16), (9, 17), (9, 18), (9, 19), (10, 0), (10, 2), (10, 3), (10, 5), (10, 9), (10, 10), (10, 11), (10, 12), (10, 13), (10, 14), (10, 15), (10, 16), (10, 17), (10, 18), (10, 19), (11, 0), (11, 1), (11, 2), (11, 3), (11, 6), (11, 7), (11, 8), (11, 9), (11, 10), (11, 11), (11, 12), (11, 13), (11, 14), (11, 15), (11, 17), (11, 19), (12, 1), (12, 4), (12, 5), (12, 6), (12, 7), (12, 8), (12, 9), (12, 10), (12, 12), (12, 13), (12, 15), (12, 16), (12, 17), (12, 18), (12, 19), (13, 0), (13, 17), (13, 18), (13, 19), (14, 0), (14, 1), (14, 2), (14, 3), (14, 4), (14, 5), (14, 6), (14, 7), (14, 9), (14, 10), (14, 11), (14, 12), (14, 13), (14, 14), (14, 15), (14, 16), (14, 17), (14, 18), (14, 19), (15, 0), (15, 1), (15, 2), (15, 10), (15, 11), (15, 12), (16, 10), (16, 13), (17, 4), (17, 12), (17, 18), (17, 19), (18, 0), (18, 6), (18, 9), (18, 10), (18, 11), (18, 12), (18, 13), (18, 14), (18, 15), (18, 17), (18, 19), (19, 4), (19, 8), (19, 13), (19, 16), (19, 17), (19, 18), (19, 19), (20, 0), (20, 1), (20, 2), (20, 3), (20, 4), (20, 5), (20, 8), (900, 0), (900, 1)]
set_option maxRecDepth 100000 in
theorem na_ok : nac sNa = true := by decide +kernel
theorem n_X12_is {sl : Nat} {si : Nat → Int} {h h' : PH} {as r : List ZV} {c0 : Nat} {q0 : Nat × Nat × List (Nat × Nat)} (h0 : shq[c0]? = some q0) (hq : 100 ≤ q0.1) (hc : CP (zz sl si (7, 0)) mX12_is h as h' r) : h' c0 = h c0 := na_cp (Z := zz sl si (7, 0)) h0 hq na_ok ⟨(11, 9), by decide +kernel, rfl⟩ hc
theorem n_X12_tellsBy {sl : Nat} {si : Nat → Int} {h h' : PH} {as r : List ZV} {c0 : Nat} {q0 : Nat × Nat × List (Nat × Nat)} (h0 : shq[c0]? = some q0) (hq : 100 ≤ q0.1) (hc : CP (zz sl si (7, 0)) mX12_tellsBy h as h' r) : h' c0 = h c0 := na_cp (Z := zz sl si (7, 0)) h0 hq na_ok ⟨(11, 13), by decide +kernel, rfl⟩ hc
end
