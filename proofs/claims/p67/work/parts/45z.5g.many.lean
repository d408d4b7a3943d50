theorem wzR_c {g g' : PH} (hF : E78 g g') {p m : Nat} : wzR g' p m = wzR g p m := by
  have e : atR g' = atR g := funext (fun i => by unfold atR; rw [hF.r])
  unfold wzR
  rw [e, nxR_c hF, hF.r]
theorem haR_c {g g' : PH} (hF : E78 g g') {p : Nat} : E78 (haR g p) (haR g' p) := by
  unfold haR
  rw [hF.r, amR_c hF, wzR_c hF]
  by_cases c1 : g 170 (29 + 5 * p) = 1 ∧ 0 < rs (g 170) (67 + 8 * p) (g 170 1).toNat
  · rw [if_pos c1, if_pos c1]
    by_cases c2 : amR g p (g 170 1).toNat = -1
    · rw [if_pos c2, if_pos c2]; exact hF
    · rw [if_neg c2, if_neg c2]
      by_cases c3 : g 170 (27 + 5 * (amR g p (g 170 1).toNat).toNat) = g 170 (27 + 5 * p)
      · rw [if_pos c3, if_pos c3]; exact soR_c hF
      · rw [if_neg c3, if_neg c3]; exact hF.up
  · rw [if_neg c1, if_neg c1]; exact hF
theorem niR_c {g g' : PH} (hF : E78 g g') : ∀ p : Nat, E78 (niR g p) (niR g' p)
  | 0 => by
    show E78 (uph g 170 2 (w32 (g 170 2 + 1))) (uph g' 170 2 (w32 (g' 170 2 + 1)))
    rw [hF.r]
    exact hF.up
  | p + 1 => haR_c (niR_c hF p)
theorem nsR_b {g : PH} (hB : BdR g) (hD : BdD g) : ∀ k : Nat, BdR (nsR g k) ∧ BdD (nsR g k) ∧ ∀ c i : Nat, ¬ (c = 170 ∧ (i = 2 ∨ i = 3 ∨ (8 ≤ i ∧ i < 131))) → nsR g k c i = g c i
  | 0 => ⟨hB, hD, fun c i q => rfl⟩
  | k + 1 => by
    obtain ⟨x, y, z⟩ := nsR_b hB hD k
    have b1 := x.2.1
    obtain ⟨x2, y2, z2⟩ := niR_b x y (nsR g k 170 1).toNat (by omega)
    exact ⟨x2, y2, fun c i q => (z2 c i q).trans (z c i q)⟩
set_option maxRecDepth 10000 in
theorem v_X12_nights {sl : Nat} {si : Nat → Int} {K : Nat → PH → ZL → List ZV → Prop} {Q : PH → List ZV → Prop} {h : PH} {a : Int} (H : K 2 h [(2, (0, 0)), (0, (2, 169)), (1, (0, a))] []) : vc (zz sl si (7, 0)) (fun p => Nat.beq p 2) K Q mX12_nights 4 0 mX12_nights.2.2.2.2.2.2 h [(0, (2, 169)), (1, (0, a))] [] := H
set_option maxRecDepth 10000 in
theorem v_X12_nights_2 {sl : Nat} {si : Nat → Int} {K : Nat → PH → ZL → List ZV → Prop} {Q : PH → List ZV → Prop} {h : PH} {a : Int} {k : Int} (H : (a ≤ k → Q h []) ∧ (¬ (a ≤ k) → ∀ h1, CP (zz sl si (7, 0)) mX12_night0 h [(2, 169)] h1 [] → K 2 h1 [(2, (0, w32 (k + 1))), (0, (2, 169)), (1, (0, a))] [])) : vc (zz sl si (7, 0)) (fun p => Nat.beq p 2) K Q mX12_nights 9 2 (ax_jmp mX12_nights.2.2.2.2.2.2 2) h [(0, (2, 169)), (1, (0, a)), (2, (0, k))] [] := H
set_option maxHeartbeats 600000 in
theorem c_X12_nights {sl : Nat} {si : Nat → Int} {h h' : PH} {a : Int} (hB : BdR h) (hD : BdD h) (ha : 0 ≤ a ∧ a ≤ 9999) (hc : CP (zz sl si (7, 0)) mX12_nights h [(2, 169), (0, a)] h' []) : E78 (nsR h a.toNat) h' := by
  have q : (fun (xh : PH) (r : List ZV) => E78 (nsR h a.toNat) xh) h' [] := by
    refine cp_vc (cut := (fun p => Nat.beq p 2)) (K := fun p hx lv st => (p = 2 ∧ lK (fun u : Nat => [(0, (2, 169)), (1, (0, a)), (2, (0, (u : Int)))]) (fun u hx => (u : Int) ≤ a ∧ E78 (nsR h u) hx) p hx lv st)) (Q := fun (xh : PH) (r : List ZV) => E78 (nsR h a.toNat) xh) (v_X12_nights ?_) (fun pc hx lv st hcut hK => ?_) hc
    · exact (by exact ⟨rfl, rfl, 0, ⟨by omega, fun c k q => rfl⟩, rfl, rfl, rfl, trivial⟩)
    · rcases hK with ⟨rfl, rfl, u, hJ, hs⟩
      · obtain ⟨j1, j2⟩ := hJ
        obtain ⟨x1, x2, x3⟩ := nsR_b hB hD u
        have r := j2.r
        have hBx : BdR hx := by unfold BdR; rw [r]; exact x1
        have hDx : BdD hx := by unfold BdD; rw [r]; exact x2
        exact ⟨_, _, hs, v_X12_nights_2 ⟨fun c1 => (by have eu : a.toNat = u := (by omega); rw [eu]; exact j2), fun c1 => (fun h1 p1 => (by have n0 := c_X12_night0 hBx hDx p1; rw [r] at n0; exact ⟨rfl, rfl, u + 1, ⟨by omega, (show E78 (niR (nsR h u) (nsR h u 170 1).toNat) h1 from (niR_c j2 _).tr n0)⟩, rfl, rfl, wv (by omega) (by omega) (by omega), trivial⟩))⟩⟩
  exact q
