section
/-! 45z.58h.feed -/
/-! THE TAPE: bytes of both sides; land of both sides -/
theorem bp_b (x : Int32) : x.toInt8.toInt32 &&& 255 = x &&& 255 := by
  apply Int32.toBitVec_inj.mp
  rw [Int32.toBitVec_and, Int32.toBitVec_and, Int8.toBitVec_toInt32, Int32.toBitVec_toInt8]
  apply BitVec.eq_of_getLsbD_eq
  intro i hi
  rw [BitVec.getLsbD_and, BitVec.getLsbD_and]
  have hm : ∀ i < 32, 8 ≤ i → (255 : Int32).toBitVec.getLsbD i = false := by decide
  rcases Nat.lt_or_ge i 8 with z | z
  · rw [BitVec.getLsbD_signExtend, BitVec.getLsbD_signExtend, if_pos z, if_pos hi]
    simp only [z, hi, decide_true, Bool.true_and]
  · rw [hm i hi z]; simp
theorem zb_255 (a : Int) : zand (zi2b a) 255 = zand a 255 := by
  unfold zand zi2b
  rw [Int32.ofInt_toInt]
  exact congrArg Int32.toInt (bp_b (Int32.ofInt a))
theorem za_255 (a : Int) : 0 ≤ zand a 255 ∧ zand a 255 ≤ 255 := by
  unfold zand
  have e := Kit.i32_mask (Int32.ofInt a) (Int32.ofInt 255) (k := 8) (by omega) (by decide +kernel)
  rw [e]
  omega
theorem zb_0 : zand 0 255 = 0 := by decide +kernel
/-- between calls: the tapes of both sides -/
def J10 (h : PH) : Prop := h 2 1 = h 169 10 ∧ (0 ≤ h 2 1 ∧ h 2 1 ≤ 900) ∧ (∀ k : Nat, k < 900 → zand (h 175 k) 255 = h 3 k ∧ 0 ≤ h 3 k ∧ h 3 k ≤ 255) ∧ ∀ k : Nat, k < 24 → h 4 k = kwt.getD k 0
def F10 : List (Nat × Int × Int) := [(2, 1, 1), (3, 0, 899), (4, 0, 23), (169, 10, 10), (175, 0, 899)]
theorem J10_frm {h h' : PH} (hJ : J10 h) (hF : Frm F10 h h') : J10 h' := by
  obtain ⟨a, b, c, d⟩ := hJ
  have f1 : h' 2 1 = h 2 1 := hF (2, 1, 1) (by decide) 1 (by decide) (by decide)
  have f2 : h' 169 10 = h 169 10 := hF (169, 10, 10) (by decide) 10 (by decide) (by decide)
  have f3 : ∀ k : Nat, k < 900 → h' 3 k = h 3 k := fun k hk => hF (3, 0, 899) (by decide) k (by show (0 : Int) ≤ _; omega) (by show _ ≤ (899 : Int); omega)
  have f4 : ∀ k : Nat, k < 24 → h' 4 k = h 4 k := fun k hk => hF (4, 0, 23) (by decide) k (by show (0 : Int) ≤ _; omega) (by show _ ≤ (23 : Int); omega)
  have f5 : ∀ k : Nat, k < 900 → h' 175 k = h 175 k := fun k hk => hF (175, 0, 899) (by decide) k (by show (0 : Int) ≤ _; omega) (by show _ ≤ (899 : Int); omega)
  exact ⟨by rw [f1, f2]; exact a, by rw [f1]; exact b, fun k hk => by rw [f5 k hk, f3 k hk]; exact c k hk, fun k hk => by rw [f4 k hk]; exact d k hk⟩
set_option maxRecDepth 10000 in
theorem v_X9_put {sl : Nat} {si : Nat → Int} {K : Nat → PH → ZL → List ZV → Prop} {Q : PH → List ZV → Prop} {h : PH} {a : Int}  (H : K 3 h [(2, (0, 24)), (0, (2, 2)), (1, (0, a))] []) : vc (zz sl si (7, 0)) (fun p => Nat.beq p 3) K Q mX9_put 4 0 mX9_put.2.2.2.2.2.2 h [(0, (2, 2)), (1, (0, a))] [] := H
set_option maxRecDepth 10000 in
theorem v_X9_put_3 {sl : Nat} {si : Nat → Int} {K : Nat → PH → ZL → List ZV → Prop} {Q : PH → List ZV → Prop} {h : PH} {a : Int}  {k : Int} (H : (k < 0 → Q h []) ∧ (¬ (k < 0) → R32 (h 2 1) → ((900 : Int) ≤ (h 2 1) → Q h []) ∧ (¬ ((900 : Int) ≤ (h 2 1)) → R32 (h 2 1) → 0 ≤ (h 2 1) ∧ (h 2 1) < (900 : Nat) → R32 (h 2 1) → K 3 (uph (uph h 3 (h 2 1).toNat (zand (zshr a k) 255)) 2 1 (w32 ((h 2 1) + 1))) [(2, (0, w32 (k + (-8)))), (0, (2, 2)), (1, (0, a))] []))) : vc (zz sl si (7, 0)) (fun p => Nat.beq p 3) K Q mX9_put 26 3 (ax_jmp mX9_put.2.2.2.2.2.2 3) h [(0, (2, 2)), (1, (0, a)), (2, (0, k))] [] := H
set_option maxHeartbeats 600000 in
theorem c_X9_put {sl : Nat} {si : Nat → Int} {h h' : PH} {a : Int} {l : Nat} (hl : h 2 1 = (l : Int)) (h8 : l ≤ 896) (hc : CP (zz sl si (7, 0)) mX9_put h [(2, 2), (0, a)] h' []) : h' 2 1 = (l : Int) + 4 ∧ (∀ i : Nat, i < 4 → h' 3 (l + i) = (zand (zshr a ((24 : Int) - 8 * i)) 255)) ∧ ∀ c k : Nat, ¬ (c = 2 ∧ k = 1) → ¬ (c = 3 ∧ l ≤ k ∧ k < l + 4) → h' c k = h c k := by
  have q : (fun (xh : PH) (r : List ZV) => xh 2 1 = (l : Int) + 4 ∧ (∀ i : Nat, i < 4 → xh 3 (l + i) = (zand (zshr a ((24 : Int) - 8 * i)) 255)) ∧ ∀ c k : Nat, ¬ (c = 2 ∧ k = 1) → ¬ (c = 3 ∧ l ≤ k ∧ k < l + 4) → xh c k = h c k) h' [] := by
    refine cp_vc (cut := (fun p => Nat.beq p 3)) (K := fun p hx lv st => (p = 3 ∧ lK (fun u : Nat => [(0, (2, 2)), (1, (0, a)), (2, (0, 24 - 8 * (u : Int)))]) (fun u hx => u ≤ 4 ∧ hx 2 1 = (l : Int) + u ∧ (∀ i : Nat, i < u → hx 3 (l + i) = (zand (zshr a ((24 : Int) - 8 * i)) 255)) ∧ ∀ c k : Nat, ¬ (c = 2 ∧ k = 1) → ¬ (c = 3 ∧ l ≤ k ∧ k < l + 4) → hx c k = h c k) p hx lv st)) (Q := fun (xh : PH) (r : List ZV) => xh 2 1 = (l : Int) + 4 ∧ (∀ i : Nat, i < 4 → xh 3 (l + i) = (zand (zshr a ((24 : Int) - 8 * i)) 255)) ∧ ∀ c k : Nat, ¬ (c = 2 ∧ k = 1) → ¬ (c = 3 ∧ l ≤ k ∧ k < l + 4) → xh c k = h c k) (v_X9_put ?_) (fun pc hx lv st hcut hK => ?_) hc
    · exact (by exact ⟨rfl, rfl, 0, ⟨by omega, by rw [hl]; rfl, fun i q => by omega, fun c k q1 q2 => rfl⟩, rfl, rfl, rfl, trivial⟩)
    · rcases hK with ⟨rfl, rfl, u, hJ, hs⟩
      · obtain ⟨j1, j2, j3, j4⟩ := hJ
        exact ⟨_, _, hs, v_X9_put_3 ⟨fun c1 => (by have e : u = 4 := (by omega); subst e; exact ⟨j2, j3, j4⟩), fun c1 => (fun r2 => ⟨fun c3 => (by exfalso; omega), fun c3 => (fun r4 => (fun b5 => (fun r6 => (by have i1 : (hx 2 1).toNat = l + u := (by omega); rw [i1, j2]; refine ⟨rfl, rfl, u + 1, ⟨by omega, ?_, fun i hi => ?_, fun c k q1 q2 => by rw [up_ne (by omega), up_ne (by omega)]; exact j4 c k q1 q2⟩, rfl, rfl, wv (by omega) (by omega) (by omega), trivial⟩; (rw [up_sm, w32_id (by omega) (by omega)]; omega); by_cases z : i = u; (rw [z, up_ne (by omega), up_sm]); (rw [up_ne (by omega), up_ne (by omega)]; exact j3 i (by omega))))))⟩)⟩⟩
  exact q
set_option maxRecDepth 10000 in
theorem v_X12_four {sl : Nat} {si : Nat → Int} {K : Nat → PH → ZL → List ZV → Prop} {Q : PH → List ZV → Prop} {h : PH} {a : Int}  (H : K 3 h [(2, (0, 24)), (0, (2, 169)), (1, (0, a))] []) : vc (zz sl si (7, 0)) (fun p => Nat.beq p 3) K Q mX12_four 4 0 mX12_four.2.2.2.2.2.2 h [(0, (2, 169)), (1, (0, a))] [] := H
set_option maxRecDepth 10000 in
theorem v_X12_four_3 {sl : Nat} {si : Nat → Int} {K : Nat → PH → ZL → List ZV → Prop} {Q : PH → List ZV → Prop} {h : PH} {a : Int}  {k : Int} (H : (k < 0 → Q h []) ∧ (¬ (k < 0) → R32 (h 169 10) → 0 ≤ (h 169 10) ∧ (h 169 10) < (900 : Nat) → R32 (h 169 10) → K 3 (uph (uph h 175 (h 169 10).toNat (zi2b (zshr a k))) 169 10 (w32 ((h 169 10) + 1))) [(2, (0, w32 (k + (-8)))), (0, (2, 169)), (1, (0, a))] [])) : vc (zz sl si (7, 0)) (fun p => Nat.beq p 3) K Q mX12_four 21 3 (ax_jmp mX12_four.2.2.2.2.2.2 3) h [(0, (2, 169)), (1, (0, a)), (2, (0, k))] [] := H
set_option maxHeartbeats 600000 in
theorem c_X12_four {sl : Nat} {si : Nat → Int} {h h' : PH} {a : Int} {l : Nat} (hl : h 169 10 = (l : Int)) (h8 : l ≤ 896) (hc : CP (zz sl si (7, 0)) mX12_four h [(2, 169), (0, a)] h' []) : h' 169 10 = (l : Int) + 4 ∧ (∀ i : Nat, i < 4 → h' 175 (l + i) = (zi2b (zshr a ((24 : Int) - 8 * i)))) ∧ ∀ c k : Nat, ¬ (c = 169 ∧ k = 10) → ¬ (c = 175 ∧ l ≤ k ∧ k < l + 4) → h' c k = h c k := by
  have q : (fun (xh : PH) (r : List ZV) => xh 169 10 = (l : Int) + 4 ∧ (∀ i : Nat, i < 4 → xh 175 (l + i) = (zi2b (zshr a ((24 : Int) - 8 * i)))) ∧ ∀ c k : Nat, ¬ (c = 169 ∧ k = 10) → ¬ (c = 175 ∧ l ≤ k ∧ k < l + 4) → xh c k = h c k) h' [] := by
    refine cp_vc (cut := (fun p => Nat.beq p 3)) (K := fun p hx lv st => (p = 3 ∧ lK (fun u : Nat => [(0, (2, 169)), (1, (0, a)), (2, (0, 24 - 8 * (u : Int)))]) (fun u hx => u ≤ 4 ∧ hx 169 10 = (l : Int) + u ∧ (∀ i : Nat, i < u → hx 175 (l + i) = (zi2b (zshr a ((24 : Int) - 8 * i)))) ∧ ∀ c k : Nat, ¬ (c = 169 ∧ k = 10) → ¬ (c = 175 ∧ l ≤ k ∧ k < l + 4) → hx c k = h c k) p hx lv st)) (Q := fun (xh : PH) (r : List ZV) => xh 169 10 = (l : Int) + 4 ∧ (∀ i : Nat, i < 4 → xh 175 (l + i) = (zi2b (zshr a ((24 : Int) - 8 * i)))) ∧ ∀ c k : Nat, ¬ (c = 169 ∧ k = 10) → ¬ (c = 175 ∧ l ≤ k ∧ k < l + 4) → xh c k = h c k) (v_X12_four ?_) (fun pc hx lv st hcut hK => ?_) hc
    · exact (by exact ⟨rfl, rfl, 0, ⟨by omega, by rw [hl]; rfl, fun i q => by omega, fun c k q1 q2 => rfl⟩, rfl, rfl, rfl, trivial⟩)
    · rcases hK with ⟨rfl, rfl, u, hJ, hs⟩
      · obtain ⟨j1, j2, j3, j4⟩ := hJ
        exact ⟨_, _, hs, v_X12_four_3 ⟨fun c1 => (by have e : u = 4 := (by omega); subst e; exact ⟨j2, j3, j4⟩), fun c1 => (fun r2 => (fun b3 => (fun r4 => (by have i1 : (hx 169 10).toNat = l + u := (by omega); rw [i1, j2]; refine ⟨rfl, rfl, u + 1, ⟨by omega, ?_, fun i hi => ?_, fun c k q1 q2 => by rw [up_ne (by omega), up_ne (by omega)]; exact j4 c k q1 q2⟩, rfl, rfl, wv (by omega) (by omega) (by omega), trivial⟩; (rw [up_sm, w32_id (by omega) (by omega)]; omega); by_cases z : i = u; (rw [z, up_ne (by omega), up_sm]); (rw [up_ne (by omega), up_ne (by omega)]; exact j3 i (by omega))))))⟩⟩
  exact q
set_option maxRecDepth 10000 in
theorem v_X11_feed {sl : Nat} {si : Nat → Int} {K : Nat → PH → ZL → List ZV → Prop} {Q : PH → List ZV → Prop} {h : PH} {a b c d e : Int}  (H : R32 (h 2 1) → ((w32 ((h 2 1) + 20)) ≤ 900 → ∀ h1, CP (zz sl si (7, 0)) mX9_put h [(2, 2), (0, a)] h1 [] → ∀ h2, CP (zz sl si (7, 0)) mX9_put h1 [(2, 2), (0, b)] h2 [] → ∀ h3, CP (zz sl si (7, 0)) mX9_put h2 [(2, 2), (0, c)] h3 [] → ∀ h4, CP (zz sl si (7, 0)) mX9_put h3 [(2, 2), (0, d)] h4 [] → ∀ h5, CP (zz sl si (7, 0)) mX9_put h4 [(2, 2), (0, e)] h5 [] → R32 (h5 2 1) → Q h5 [(0, (h5 2 1))]) ∧ (¬ ((w32 ((h 2 1) + 20)) ≤ 900) → Q h [(0, (-1))])) : vc (zz sl si (7, 0)) (fun _ => false) K Q mX11_feed 33 0 mX11_feed.2.2.2.2.2.2 h [(0, (2, 0)), (1, (0, a)), (2, (0, b)), (3, (0, c)), (4, (0, d)), (5, (0, e))] [] := H
set_option maxHeartbeats 600000 in
theorem c_X11_feed {sl : Nat} {si : Nat → Int} {h h' : PH} {a b c d e : Int} {l : Nat} {v : Int} (hl : h 2 1 = (l : Int)) (h9 : l ≤ 900) (hc : CP (zz sl si (7, 0)) mX11_feed h [(2, 0), (0, a), (0, b), (0, c), (0, d), (0, e)] h' [(0, v)]) : (l ≤ 880 → v = (l : Int) + 20 ∧ h' 2 1 = (l : Int) + 20 ∧ (∀ i : Nat, i < 4 → h' 3 (l + i) = (zand (zshr a ((24 : Int) - 8 * i)) 255) ∧ h' 3 (l + 4 + i) = (zand (zshr b ((24 : Int) - 8 * i)) 255) ∧ h' 3 (l + 8 + i) = (zand (zshr c ((24 : Int) - 8 * i)) 255) ∧ h' 3 (l + 12 + i) = (zand (zshr d ((24 : Int) - 8 * i)) 255) ∧ h' 3 (l + 16 + i) = (zand (zshr e ((24 : Int) - 8 * i)) 255)) ∧ ∀ c k : Nat, ¬ (c = 2 ∧ k = 1) → ¬ (c = 3 ∧ l ≤ k ∧ k < l + 20) → h' c k = h c k) ∧ (880 < l → v = -1 ∧ h' = h) := by
  have q : (fun (xh : PH) (r : List ZV) => ∀ v : Int, r = [(0, v)] → ((l ≤ 880 → v = (l : Int) + 20 ∧ xh 2 1 = (l : Int) + 20 ∧ (∀ i : Nat, i < 4 → xh 3 (l + i) = (zand (zshr a ((24 : Int) - 8 * i)) 255) ∧ xh 3 (l + 4 + i) = (zand (zshr b ((24 : Int) - 8 * i)) 255) ∧ xh 3 (l + 8 + i) = (zand (zshr c ((24 : Int) - 8 * i)) 255) ∧ xh 3 (l + 12 + i) = (zand (zshr d ((24 : Int) - 8 * i)) 255) ∧ xh 3 (l + 16 + i) = (zand (zshr e ((24 : Int) - 8 * i)) 255)) ∧ ∀ c k : Nat, ¬ (c = 2 ∧ k = 1) → ¬ (c = 3 ∧ l ≤ k ∧ k < l + 20) → xh c k = h c k) ∧ (880 < l → v = -1 ∧ xh = h))) h' [(0, v)] := by
    refine cp_vc (cut := (fun _ => false)) (K := fun p hx lv st => False) (Q := fun (xh : PH) (r : List ZV) => ∀ v : Int, r = [(0, v)] → ((l ≤ 880 → v = (l : Int) + 20 ∧ xh 2 1 = (l : Int) + 20 ∧ (∀ i : Nat, i < 4 → xh 3 (l + i) = (zand (zshr a ((24 : Int) - 8 * i)) 255) ∧ xh 3 (l + 4 + i) = (zand (zshr b ((24 : Int) - 8 * i)) 255) ∧ xh 3 (l + 8 + i) = (zand (zshr c ((24 : Int) - 8 * i)) 255) ∧ xh 3 (l + 12 + i) = (zand (zshr d ((24 : Int) - 8 * i)) 255) ∧ xh 3 (l + 16 + i) = (zand (zshr e ((24 : Int) - 8 * i)) 255)) ∧ ∀ c k : Nat, ¬ (c = 2 ∧ k = 1) → ¬ (c = 3 ∧ l ≤ k ∧ k < l + 20) → xh c k = h c k) ∧ (880 < l → v = -1 ∧ xh = h))) (v_X11_feed ?_) (fun pc hx lv st hcut hK => ?_) hc
    · exact (fun r1 => ⟨fun c2 => (fun h1 p1 => (fun h2 p2 => (fun h3 p3 => (fun h4 p4 => (fun h5 p5 => (fun r3 => (by intro v e; cases e; rw [hl, w32_id (by omega) (by omega)] at c2; obtain ⟨a1, a2, a3⟩ := c_X9_put (l := l) hl (by omega) p1; obtain ⟨b1, b2, b3⟩ := c_X9_put (l := l + 4) (by omega) (by omega) p2; obtain ⟨d1, d2, d3⟩ := c_X9_put (l := l + 8) (by omega) (by omega) p3; obtain ⟨g1, g2, g3⟩ := c_X9_put (l := l + 12) (by omega) (by omega) p4; obtain ⟨k1, k2, k3⟩ := c_X9_put (l := l + 16) (by omega) (by omega) p5; refine ⟨fun _ => ⟨by omega, by omega, fun i hi => ⟨?_, ?_, ?_, ?_, k2 i hi⟩, fun c k q1 q2 => by rw [k3 c k q1 (by omega), g3 c k q1 (by omega), d3 c k q1 (by omega), b3 c k q1 (by omega), a3 c k q1 (by omega)]⟩, fun z => by omega⟩; (rw [k3 _ _ (by omega) (by omega), g3 _ _ (by omega) (by omega), d3 _ _ (by omega) (by omega), b3 _ _ (by omega) (by omega)]; exact a2 i hi); (rw [k3 _ _ (by omega) (by omega), g3 _ _ (by omega) (by omega), d3 _ _ (by omega) (by omega)]; exact b2 i hi); (rw [k3 _ _ (by omega) (by omega), g3 _ _ (by omega) (by omega)]; exact d2 i hi); (rw [k3 _ _ (by omega) (by omega)]; exact g2 i hi)))))))), fun c2 => (by intro v e; cases e; rw [hl, w32_id (by omega) (by omega)] at c2; exact ⟨fun z => by omega, fun _ => ⟨rfl, rfl⟩⟩)⟩)
    · exact hK.elim
  exact q v rfl
set_option maxRecDepth 10000 in
theorem v_X12_feed {sl : Nat} {si : Nat → Int} {K : Nat → PH → ZL → List ZV → Prop} {Q : PH → List ZV → Prop} {h : PH} {a b c d e : Int}  (H : R32 (h 169 10) → ((w32 ((h 169 10) + 20)) ≤ 900 → ∀ h1, CP (zz sl si (7, 0)) mX12_four h [(2, 169), (0, a)] h1 [] → ∀ h2, CP (zz sl si (7, 0)) mX12_four h1 [(2, 169), (0, b)] h2 [] → ∀ h3, CP (zz sl si (7, 0)) mX12_four h2 [(2, 169), (0, c)] h3 [] → ∀ h4, CP (zz sl si (7, 0)) mX12_four h3 [(2, 169), (0, d)] h4 [] → ∀ h5, CP (zz sl si (7, 0)) mX12_four h4 [(2, 169), (0, e)] h5 [] → R32 (h5 169 10) → Q h5 [(0, (h5 169 10))]) ∧ (¬ ((w32 ((h 169 10) + 20)) ≤ 900) → Q h [(0, (-1))])) : vc (zz sl si (7, 0)) (fun _ => false) K Q mX12_feed 26 0 mX12_feed.2.2.2.2.2.2 h [(0, (2, 169)), (1, (0, a)), (2, (0, b)), (3, (0, c)), (4, (0, d)), (5, (0, e))] [] := H
set_option maxHeartbeats 600000 in
theorem c_X12_feed {sl : Nat} {si : Nat → Int} {h h' : PH} {a b c d e : Int} {l : Nat} {v : Int} (hl : h 169 10 = (l : Int)) (h9 : l ≤ 900) (hc : CP (zz sl si (7, 0)) mX12_feed h [(2, 169), (0, a), (0, b), (0, c), (0, d), (0, e)] h' [(0, v)]) : (l ≤ 880 → v = (l : Int) + 20 ∧ h' 169 10 = (l : Int) + 20 ∧ (∀ i : Nat, i < 4 → h' 175 (l + i) = (zi2b (zshr a ((24 : Int) - 8 * i))) ∧ h' 175 (l + 4 + i) = (zi2b (zshr b ((24 : Int) - 8 * i))) ∧ h' 175 (l + 8 + i) = (zi2b (zshr c ((24 : Int) - 8 * i))) ∧ h' 175 (l + 12 + i) = (zi2b (zshr d ((24 : Int) - 8 * i))) ∧ h' 175 (l + 16 + i) = (zi2b (zshr e ((24 : Int) - 8 * i)))) ∧ ∀ c k : Nat, ¬ (c = 169 ∧ k = 10) → ¬ (c = 175 ∧ l ≤ k ∧ k < l + 20) → h' c k = h c k) ∧ (880 < l → v = -1 ∧ h' = h) := by
  have q : (fun (xh : PH) (r : List ZV) => ∀ v : Int, r = [(0, v)] → ((l ≤ 880 → v = (l : Int) + 20 ∧ xh 169 10 = (l : Int) + 20 ∧ (∀ i : Nat, i < 4 → xh 175 (l + i) = (zi2b (zshr a ((24 : Int) - 8 * i))) ∧ xh 175 (l + 4 + i) = (zi2b (zshr b ((24 : Int) - 8 * i))) ∧ xh 175 (l + 8 + i) = (zi2b (zshr c ((24 : Int) - 8 * i))) ∧ xh 175 (l + 12 + i) = (zi2b (zshr d ((24 : Int) - 8 * i))) ∧ xh 175 (l + 16 + i) = (zi2b (zshr e ((24 : Int) - 8 * i)))) ∧ ∀ c k : Nat, ¬ (c = 169 ∧ k = 10) → ¬ (c = 175 ∧ l ≤ k ∧ k < l + 20) → xh c k = h c k) ∧ (880 < l → v = -1 ∧ xh = h))) h' [(0, v)] := by
    refine cp_vc (cut := (fun _ => false)) (K := fun p hx lv st => False) (Q := fun (xh : PH) (r : List ZV) => ∀ v : Int, r = [(0, v)] → ((l ≤ 880 → v = (l : Int) + 20 ∧ xh 169 10 = (l : Int) + 20 ∧ (∀ i : Nat, i < 4 → xh 175 (l + i) = (zi2b (zshr a ((24 : Int) - 8 * i))) ∧ xh 175 (l + 4 + i) = (zi2b (zshr b ((24 : Int) - 8 * i))) ∧ xh 175 (l + 8 + i) = (zi2b (zshr c ((24 : Int) - 8 * i))) ∧ xh 175 (l + 12 + i) = (zi2b (zshr d ((24 : Int) - 8 * i))) ∧ xh 175 (l + 16 + i) = (zi2b (zshr e ((24 : Int) - 8 * i)))) ∧ ∀ c k : Nat, ¬ (c = 169 ∧ k = 10) → ¬ (c = 175 ∧ l ≤ k ∧ k < l + 20) → xh c k = h c k) ∧ (880 < l → v = -1 ∧ xh = h))) (v_X12_feed ?_) (fun pc hx lv st hcut hK => ?_) hc
    · exact (fun r1 => ⟨fun c2 => (fun h1 p1 => (fun h2 p2 => (fun h3 p3 => (fun h4 p4 => (fun h5 p5 => (fun r3 => (by intro v e; cases e; rw [hl, w32_id (by omega) (by omega)] at c2; obtain ⟨a1, a2, a3⟩ := c_X12_four (l := l) hl (by omega) p1; obtain ⟨b1, b2, b3⟩ := c_X12_four (l := l + 4) (by omega) (by omega) p2; obtain ⟨d1, d2, d3⟩ := c_X12_four (l := l + 8) (by omega) (by omega) p3; obtain ⟨g1, g2, g3⟩ := c_X12_four (l := l + 12) (by omega) (by omega) p4; obtain ⟨k1, k2, k3⟩ := c_X12_four (l := l + 16) (by omega) (by omega) p5; refine ⟨fun _ => ⟨by omega, by omega, fun i hi => ⟨?_, ?_, ?_, ?_, k2 i hi⟩, fun c k q1 q2 => by rw [k3 c k q1 (by omega), g3 c k q1 (by omega), d3 c k q1 (by omega), b3 c k q1 (by omega), a3 c k q1 (by omega)]⟩, fun z => by omega⟩; (rw [k3 _ _ (by omega) (by omega), g3 _ _ (by omega) (by omega), d3 _ _ (by omega) (by omega), b3 _ _ (by omega) (by omega)]; exact a2 i hi); (rw [k3 _ _ (by omega) (by omega), g3 _ _ (by omega) (by omega), d3 _ _ (by omega) (by omega)]; exact b2 i hi); (rw [k3 _ _ (by omega) (by omega), g3 _ _ (by omega) (by omega)]; exact d2 i hi); (rw [k3 _ _ (by omega) (by omega)]; exact g2 i hi)))))))), fun c2 => (by intro v e; cases e; rw [hl, w32_id (by omega) (by omega)] at c2; exact ⟨fun z => by omega, fun _ => ⟨rfl, rfl⟩⟩)⟩)
    · exact hK.elim
  exact q v rfl
section PR
variable {sl : Nat} {si : Nat → Int} {h h1 h2 : PH} {a b c d e x v w : Int}
theorem pr_feed (hJ : J10 h) (p1 : CP (zz sl si (7, 0)) mX11_feed h [(2, 0), (0, a), (0, b), (0, c), (0, d), (0, e)] h1 [(0, v)]) (p2 : CP (zz sl si (7, 0)) mX12_feed h1 [(2, 169), (0, a), (0, b), (0, c), (0, d), (0, e)] h2 [(0, w)]) : J10 h2 ∧ v = w := by
  obtain ⟨ja, jb, jc, jd⟩ := hJ
  obtain ⟨l, hl⟩ : ∃ l : Nat, h 2 1 = (l : Int) := ⟨(h 2 1).toNat, by omega⟩
  obtain ⟨y1, n1⟩ := c_X11_feed (l := l) hl (by omega) p1
  rcases Nat.lt_or_ge 880 l with z | z
  · obtain ⟨e1, e2⟩ := n1 z
    subst e2
    obtain ⟨-, n2⟩ := c_X12_feed (l := l) (by omega) (by omega) p2
    obtain ⟨e3, e4⟩ := n2 z
    subst e4
    exact ⟨⟨ja, jb, jc, jd⟩, by omega⟩
  · obtain ⟨e1, e2, e3, e4⟩ := y1 z
    obtain ⟨y2, -⟩ := c_X12_feed (l := l) (by rw [e4 169 10 (by omega) (by omega)]; omega) (by omega) p2
    obtain ⟨g1, g2, g3, g4⟩ := y2 z
    refine ⟨⟨by rw [g4 2 1 (by omega) (by omega)]; omega, by rw [g4 2 1 (by omega) (by omega)]; omega, fun k hk => ?_, fun k hk => by rw [g4 4 k (by omega) (by omega), e4 4 k (by omega) (by omega)]; exact jd k hk⟩, by omega⟩
    rw [g4 3 k (by omega) (by omega)]
    by_cases q : l ≤ k ∧ k < l + 20
    · have B : ∀ i : Nat, i < 4 → ∀ t : Int, zand (zi2b (zshr t ((24 : Int) - 8 * i))) 255 = zand (zshr t ((24 : Int) - 8 * i)) 255 ∧ 0 ≤ zand (zshr t ((24 : Int) - 8 * i)) 255 ∧ zand (zshr t ((24 : Int) - 8 * i)) 255 ≤ 255 := fun i _ t => ⟨zb_255 _, (za_255 _).1, (za_255 _).2⟩
      have D : ∃ j i : Nat, j < 5 ∧ i < 4 ∧ k = l + 4 * j + i := ⟨(k - l) / 4, (k - l) % 4, by omega, by omega, by omega⟩
      obtain ⟨j, i, hj, hi, rfl⟩ := D
      obtain ⟨u1, u2, u3, u4, u5⟩ := e3 i hi
      obtain ⟨t1, t2, t3, t4, t5⟩ := g3 i hi
      rcases (show j = 0 ∨ j = 1 ∨ j = 2 ∨ j = 3 ∨ j = 4 by omega) with rfl | rfl | rfl | rfl | rfl
      · rw [show l + 4 * 0 + i = l + i by omega, u1, t1]; exact B i hi _
      · rw [show l + 4 * 1 + i = l + 4 + i by omega, u2, t2]; exact B i hi _
      · rw [show l + 4 * 2 + i = l + 8 + i by omega, u3, t3]; exact B i hi _
      · rw [show l + 4 * 3 + i = l + 12 + i by omega, u4, t4]; exact B i hi _
      · rw [show l + 4 * 4 + i = l + 16 + i by omega, u5, t5]; exact B i hi _
    · rw [g4 175 k (by omega) (by omega), e4 175 k (by omega) (by omega), e4 3 k (by omega) (by omega)]
      exact jc k hk
end PR
end
section
/-! 45z.58i.land -/
/-! LAND, the calls -/
def GEp (s : Nat) (r : PR) : Prop := ∀ q, r = .inr q → s < q.1
theorem ge_bad {T : TX} {s t : Nat} {k : Int} : GEp s (bad T k t) := fun q h => by cases h
theorem ge_noN {T : TX} {s t : Nat} : GEp s (noN T t) := fun q h => by cases h
theorem ge_semi {T : TX} {s t : Nat} {L : PH} (h : s ≤ t) (ht : t ≤ T.2) : GEp s (semi T t L) := fun q hq => by
  unfold semi at hq
  by_cases e : isG T t 59
  · rw [if_pos e] at hq
    cases hq
    have := (nt_b ht).2.2 (by rw [e.1]; decide)
    show s < nt T t
    omega
  · rw [if_neg e] at hq
    cases hq
theorem ge_ite {c : Prop} [Decidable c] {s : Nat} {a b : PR} (ha : GEp s a) (hb : GEp s b) : GEp s (if c then a else b) := by
  by_cases e : c
  · rw [if_pos e]; exact ha
  · rw [if_neg e]; exact hb
theorem tk_b {T : TX} {s : Nat} (w : Int) (hs : s ≤ T.2) : s ≤ tk T s w ∧ tk T s w ≤ T.2 := by
  unfold tk
  have := nt_b hs
  by_cases e : isW T s w
  · rw [if_pos e]; omega
  · rw [if_neg e]; omega
theorem ge_part {T : TX} {s : Nat} {L : PH} (hs : s ≤ T.2) : GEp s (pPart T s L) := by
  have b1 := nt_b hs
  have b2 := nt_b b1.2.1
  have b3 := nt_b b2.2.1
  have b4 := nt_b b3.2.1
  have b5 := nt_b b4.2.1
  have t1 := tk_b 1 b2.2.1
  have p5 := tk_b 5 b4.2.1
  have p6 := tk_b 6 p5.2
  have p7 := tk_b 7 p6.2
  unfold pPart pHouse pDoor pPerson pOwes pHeir pTwo pNew pPers2
  refine ge_ite (ge_ite ge_bad (ge_ite (ge_ite ge_bad (ge_semi (by omega) (by omega))) ge_bad)) (ge_ite (ge_ite ge_noN (ge_ite ge_noN (ge_ite ge_bad (ge_semi (by omega) (by omega))))) (ge_ite (ge_ite ge_bad (ge_ite (ge_ite ge_bad (ge_ite (ge_ite ge_noN (ge_semi (by omega) (by omega))) ge_bad)) ge_bad)) (ge_ite (ge_ite ge_noN (ge_ite ge_noN (ge_ite ge_bad (ge_ite (ge_ite (ge_semi (by omega) (by omega)) ge_bad) ge_bad)))) (ge_ite (ge_ite ge_noN (ge_ite ge_noN (ge_ite ge_bad (ge_ite ge_bad (ge_ite ge_bad (ge_semi (by omega) (by omega))))))) ge_bad))))
/-- the text of a call -/
def Tx (B : Nat → Int) (a : Int) : TX := (fun k => if k < a.toNat then B k else 0, a.toNat)
theorem Tx_ok {B : Nat → Int} {a : Int} (h9 : a ≤ 900) (hB : ∀ k : Nat, k < 900 → 0 ≤ B k ∧ B k ≤ 255) : TK (Tx B a) := by
  refine ⟨by show a.toNat ≤ 900; omega, fun k => ?_⟩
  show 0 ≤ (if k < a.toNat then B k else 0) ∧ (if k < a.toNat then B k else 0) ≤ 255
  by_cases e : k < a.toNat
  · rw [if_pos e]; exact hB k (by omega)
  · rw [if_neg e]; omega
theorem Tx_at {B : Nat → Int} {a : Int} {k : Nat} (h : k < (Tx B a).2) : (Tx B a).1 k = B k := if_pos h
/-- what is answered -/
def ans (v : Int) (r : PR) : Prop := match r with
  | .inl _ => v = -1
  | .inr q => v = q.2 0 4
theorem ans_un {v w : Int} {r : PR} (h : ans v r) (h' : ans w r) : v = w := by
  cases r with
  | inl q => exact Eq.trans (show v = -1 from h) (show w = -1 from h').symm
  | inr q => exact Eq.trans (show v = q.2 0 4 from h) (show w = q.2 0 4 from h').symm
set_option maxRecDepth 10000 in
theorem v_X11_answer {sl : Nat} {si : Nat → Int} {K : Nat → PH → ZL → List ZV → Prop} {Q : PH → List ZV → Prop} {h : PH} {a : Int} (H : Q (uph h 0 0 0) [(0, a)]) : vc (zz sl si (7, 0)) (fun _ => false) K Q mX11_answer 7 0 mX11_answer.2.2.2.2.2.2 h [(0, (2, 0)), (1, (0, a))] [] := H
theorem c_X11_answer {sl : Nat} {si : Nat → Int} {h h' : PH} {a : Int} {v : Int} (hc : CP (zz sl si (7, 0)) mX11_answer h [(2, 0), (0, a)] h' [(0, v)]) : h' = uph h 0 0 0 ∧ (v = a) := by
  have q := cp_vc (K := fun _ _ _ _ => True) (Q := fun xh r => xh = uph h 0 0 0 ∧ ∀ v, r = [(0, v)] → (v = a)) (v_X11_answer (by exact ⟨rfl, fun v e => by cases e; omega⟩)) (fun _ _ _ _ z _ => Bool.noConfusion z) hc
  exact ⟨q.1, q.2 v rfl⟩
set_option maxRecDepth 10000 in
theorem v_X7_clear {sl : Nat} {si : Nat → Int} {K : Nat → PH → ZL → List ZV → Prop} {Q : PH → List ZV → Prop} {h : PH} (H : Q (uph (uph (uph h 21 0 0) 21 1 0) 21 2 0) []) : vc (zz sl si (7, 0)) (fun _ => false) K Q mX7_clear 12 0 mX7_clear.2.2.2.2.2.2 h [(0, (2, 21))] [] := H
theorem c_X7_clear {sl : Nat} {si : Nat → Int} {h h' : PH} (hc : CP (zz sl si (7, 0)) mX7_clear h [(2, 21)] h' []) : h' = uph (uph (uph h 21 0 0) 21 1 0) 21 2 0 ∧ True := by
  exact ⟨cp_vc (K := fun _ _ _ _ => True) (Q := fun xh r => xh = uph (uph (uph h 21 0 0) 21 1 0) 21 2 0) (v_X7_clear (by exact rfl)) (fun _ _ _ _ z _ => Bool.noConfusion z) hc, trivial⟩
set_option maxRecDepth 10000 in
theorem v_X11_land {sl : Nat} {si : Nat → Int} {K : Nat → PH → ZL → List ZV → Prop} {Q : PH → List ZV → Prop} {h : PH} {a : Int} (H : R32 (h 2 1) → ∀ h1 v1, CP (zz sl si (7, 0)) mX11_isWithin h [(0, a), (0, (h 2 1))] h1 [(0, v1)] → v1 = 0 ∨ v1 = 1 → (v1 ≠ 0 → ∀ h2, CP (zz sl si (7, 0)) mX2_readAll h1 [(2, 49), (0, a)] h2 [] → R32 (h2 2 10) → ((h2 2 10) = 0 → ∀ h3, CP (zz sl si (7, 0)) mX1_copyFrom (uph h2 2 1 0) [(2, 5), (2, 27)] h3 [] → ∀ h4, CP (zz sl si (7, 0)) mX7_clear h3 [(2, 21)] h4 [] → R32 (h4 5 4) → ∀ h5 v5, CP (zz sl si (7, 0)) mX11_answer h4 [(2, 0), (0, (h4 5 4))] h5 [(0, v5)] → R32 v5 → Q h5 [(0, v5)]) ∧ (¬ ((h2 2 10) = 0) → ∀ h6 v6, CP (zz sl si (7, 0)) mX11_refuse (uph h2 2 1 0) [(2, 0), (0, 9)] h6 [(0, v6)] → R32 v6 → Q h6 [(0, v6)])) ∧ (¬ (v1 ≠ 0) → ∀ h7 v7, CP (zz sl si (7, 0)) mX11_refuse h1 [(2, 0), (0, 1)] h7 [(0, v7)] → R32 v7 → Q h7 [(0, v7)])) : vc (zz sl si (7, 0)) (fun _ => false) K Q mX11_land 34 0 mX11_land.2.2.2.2.2.2 h [(0, (2, 0)), (1, (0, a))] [] := H
set_option maxHeartbeats 600000 in
theorem c_X11_land {sl : Nat} {si : Nat → Int} {h h' : PH} {a : Int} {v : Int} (hJ : J10 h) (hc : CP (zz sl si (7, 0)) mX11_land h [(2, 0), (0, a)] h' [(0, v)]) : (0 ≤ a ∧ a ≤ h 2 1 → h' 2 1 = 0 ∧ ans v (pl (Tx (fun k => h 3 k) a) 900 (sk (Tx (fun k => h 3 k) a) 0) (clr (fun j k => h (27 + j) k)))) ∧ (¬ (0 ≤ a ∧ a ≤ h 2 1) → h' 2 1 = h 2 1 ∧ v = -1) ∧ (∀ c k : Nat, c = 3 ∨ c = 4 ∨ 169 ≤ c → h' c k = h c k) := by
  have RA : ∀ {h2 : PH}, 0 ≤ a ∧ a ≤ h 2 1 → CP (zz sl si (7, 0)) mX2_readAll h [(2, 49), (0, a)] h2 [] → RES (Tx (fun k => h 3 k) a) h2 (pl (Tx (fun k => h 3 k) a) 900 (sk (Tx (fun k => h 3 k) a) 0) (clr (fun j k => h (27 + j) k))) ∧ ∀ c k : Nat, ¬ ((c = 2 ∧ 3 ≤ k ∧ k ≤ 11) ∨ (27 ≤ c ∧ c ≤ 42)) → h2 c k = h c k := fun {h2} ok p => by
    obtain ⟨ja, jb, jc, jd⟩ := hJ
    exact c_X2_readAll (T := (Tx (fun k => h 3 k) a)) (L := fun j k => h (27 + j) k) (fun j k _ => rfl) (Tx_ok (by omega) (fun k hk => (jc k hk).2)) (by show a = ((a.toNat : Nat) : Int); omega) (fun k hk => (Tx_at hk).symm) jd p
  have q : (fun (xh : PH) (r : List ZV) => ∀ v : Int, r = [(0, v)] → ((0 ≤ a ∧ a ≤ h 2 1 → xh 2 1 = 0 ∧ ans v (pl (Tx (fun k => h 3 k) a) 900 (sk (Tx (fun k => h 3 k) a) 0) (clr (fun j k => h (27 + j) k)))) ∧ (¬ (0 ≤ a ∧ a ≤ h 2 1) → xh 2 1 = h 2 1 ∧ v = -1) ∧ (∀ c k : Nat, c = 3 ∨ c = 4 ∨ 169 ≤ c → xh c k = h c k))) h' [(0, v)] := by
    refine cp_vc (cut := (fun _ => false)) (K := fun p hx lv st => False) (Q := fun (xh : PH) (r : List ZV) => ∀ v : Int, r = [(0, v)] → ((0 ≤ a ∧ a ≤ h 2 1 → xh 2 1 = 0 ∧ ans v (pl (Tx (fun k => h 3 k) a) 900 (sk (Tx (fun k => h 3 k) a) 0) (clr (fun j k => h (27 + j) k)))) ∧ (¬ (0 ≤ a ∧ a ≤ h 2 1) → xh 2 1 = h 2 1 ∧ v = -1) ∧ (∀ c k : Nat, c = 3 ∨ c = 4 ∨ 169 ≤ c → xh c k = h c k))) (v_X11_land ?_) (fun pc hx lv st hcut hK => ?_) hc
    · exact (fun r1 => (fun h1 v1 p1 q1 => by obtain ⟨t1, e1⟩ := c_X11_isWithin p1; have t1 := t1.symm; subst t1; exact ⟨fun c2 => (fun h2 p2 => (fun r3 => ⟨fun c4 => (fun h3 p3 => (fun h4 p4 => by obtain ⟨t4, e4⟩ := c_X7_clear p4; have t4 := t4.symm; subst t4; exact (fun r5 => (fun h5 v5 p5 q5 => by obtain ⟨t5, e5⟩ := c_X11_answer p5; have t5 := t5.symm; subst t5; exact (by intro v e; cases e; have ok := e1.mp (by omega); obtain ⟨d1, d2⟩ := RA ok p2; obtain ⟨f1, f2⟩ := c_X1_copyFrom p3; refine ⟨fun _ => ⟨by rw [up_ne (by omega), up_ne (by omega), up_ne (by omega), up_ne (by omega), f2 2 1 (by omega), up_sm], ?_⟩, fun z => absurd ok z, fun c k q => by rw [up_ne (by omega), up_ne (by omega), up_ne (by omega), up_ne (by omega), f2 c k (by omega), up_ne (by omega)]; exact d2 c k (by omega)⟩; have g1 : h3 5 4 = h2 27 4 := (by have := f1 0 4 (Or.inl ⟨rfl, Or.inl rfl⟩); rw [up_ne (by omega)] at this; exact this); generalize (pl (Tx (fun k => h 3 k) a) 900 (sk (Tx (fun k => h 3 k) a) 0) (clr (fun j k => h (27 + j) k))) = r at d1; cases r with | inl q => exact absurd c4 (by have := d1.1; have := d1.2.2; omega) | inr q => (show _ = q.2 0 4; rw [e5, up_ne (by omega), up_ne (by omega), up_ne (by omega), g1]; exact d1.2.2.1 0 4 (by unfold inL; omega) (by omega) (by omega))))))), fun c4 => (fun h6 v6 p6 q6 => by obtain ⟨t6, e6⟩ := c_X11_refuse p6; have t6 := t6.symm; subst t6; exact (by intro v e; cases e; have ok := e1.mp (by omega); obtain ⟨d1, d2⟩ := RA ok p2; refine ⟨fun _ => ⟨by rw [up_ne (by omega), up_sm], ?_⟩, fun z => absurd ok z, fun c k q => by rw [up_ne (by omega), up_ne (by omega)]; exact d2 c k (by omega)⟩; generalize (pl (Tx (fun k => h 3 k) a) 900 (sk (Tx (fun k => h 3 k) a) 0) (clr (fun j k => h (27 + j) k))) = r at d1; cases r with | inl q => exact e6 | inr q => exact absurd d1.1 c4))⟩)), fun c2 => (fun h7 v7 p7 q7 => by obtain ⟨t7, e7⟩ := c_X11_refuse p7; have t7 := t7.symm; subst t7; exact (by intro v e; cases e; exact ⟨fun z => by have := e1.mpr z; omega, fun _ => ⟨by rw [up_ne (by omega)], e7⟩, fun c k q => by rw [up_ne (by omega)]⟩))⟩))
    · exact hK.elim
  exact q v rfl
set_option maxRecDepth 10000 in
theorem v_X12_plain {sl : Nat} {si : Nat → Int} {K : Nat → PH → ZL → List ZV → Prop} {Q : PH → List ZV → Prop} {h : PH} {a : Int} (H : K 2 h [(2, (0, 0)), (0, (2, 169)), (1, (0, a))] []) : vc (zz sl si (7, 0)) (fun p => Nat.beq p 2) K Q mX12_plain 4 0 mX12_plain.2.2.2.2.2.2 h [(0, (2, 169)), (1, (0, a))] [] := H
set_option maxRecDepth 10000 in
theorem v_X12_plain_2 {sl : Nat} {si : Nat → Int} {K : Nat → PH → ZL → List ZV → Prop} {Q : PH → List ZV → Prop} {h : PH} {a : Int} {k : Int} (H : ((528 : Int) ≤ k → 0 ≤ w32 (a + 4) ∧ w32 (a + 4) < (3696 : Nat) → Q (uph h 170 (w32 (a + 4)).toNat (-1)) []) ∧ (¬ ((528 : Int) ≤ k) → 0 ≤ w32 (a + k) ∧ w32 (a + k) < (3696 : Nat) → K 2 (uph h 170 (w32 (a + k)).toNat 0) [(2, (0, w32 (k + 1))), (0, (2, 169)), (1, (0, a))] [])) : vc (zz sl si (7, 0)) (fun p => Nat.beq p 2) K Q mX12_plain 14 2 (ax_jmp mX12_plain.2.2.2.2.2.2 2) h [(0, (2, 169)), (1, (0, a)), (2, (0, k))] [] := H
set_option maxHeartbeats 600000 in
theorem c_X12_plain {sl : Nat} {si : Nat → Int} {h h' : PH} {a : Int} (ha : a = 2112) (hc : CP (zz sl si (7, 0)) mX12_plain h [(2, 169), (0, a)] h' []) : (∀ k : Nat, 2112 ≤ k → k < 2640 → k ≠ 2116 → h' 170 k = 0) ∧ ∀ c k : Nat, ¬ (c = 170 ∧ 2112 ≤ k ∧ k < 2640) → h' c k = h c k := by
  have q : (fun (xh : PH) (r : List ZV) => (∀ k : Nat, 2112 ≤ k → k < 2640 → k ≠ 2116 → xh 170 k = 0) ∧ ∀ c k : Nat, ¬ (c = 170 ∧ 2112 ≤ k ∧ k < 2640) → xh c k = h c k) h' [] := by
    refine cp_vc (cut := (fun p => Nat.beq p 2)) (K := fun p hx lv st => (p = 2 ∧ lK (fun u : Nat => [(0, (2, 169)), (1, (0, a)), (2, (0, (u : Int)))]) (fun u hx => u ≤ 528 ∧ (∀ k : Nat, 2112 ≤ k → k < 2112 + u → hx 170 k = 0) ∧ ∀ c k : Nat, ¬ (c = 170 ∧ 2112 ≤ k ∧ k < 2640) → hx c k = h c k) p hx lv st)) (Q := fun (xh : PH) (r : List ZV) => (∀ k : Nat, 2112 ≤ k → k < 2640 → k ≠ 2116 → xh 170 k = 0) ∧ ∀ c k : Nat, ¬ (c = 170 ∧ 2112 ≤ k ∧ k < 2640) → xh c k = h c k) (v_X12_plain ?_) (fun pc hx lv st hcut hK => ?_) hc
    · exact (by exact ⟨rfl, rfl, 0, ⟨by omega, fun k q1 q2 => by omega, fun c k q => rfl⟩, rfl, rfl, rfl, trivial⟩)
    · rcases hK with ⟨rfl, rfl, u, hJ, hs⟩
      · obtain ⟨j1, j2, j3⟩ := hJ
        have ix : ∀ t : Int, 0 ≤ t → t ≤ 528 → (w32 (a + t)).toNat = 2112 + t.toNat := fun t z1 z2 => by rw [w32_id (by omega) (by omega)]; omega
        exact ⟨_, _, hs, v_X12_plain_2 ⟨fun c1 => (fun b2 => (by have e : u = 528 := (by omega); subst e; rw [ix 4 (by omega) (by omega)]; exact ⟨fun k q1 q2 q3 => by rw [up_ne (by omega)]; exact j2 k q1 (by omega), fun c k q => by rw [up_ne (by omega)]; exact j3 c k q⟩)), fun c1 => (fun b3 => (by rw [ix _ (by omega) (by omega), Int.toNat_natCast]; refine ⟨rfl, rfl, u + 1, ⟨by omega, fun k q1 q2 => ?_, fun c k q => by rw [up_ne (by omega)]; exact j3 c k q⟩, rfl, rfl, wv (by omega) (by omega) (by omega), trivial⟩; by_cases z : k = 2112 + u; (rw [z, up_sm]); (rw [up_ne (by omega)]; exact j2 k q1 (by omega))))⟩⟩
  exact q
set_option maxRecDepth 10000 in
theorem v_X12_begins {sl : Nat} {si : Nat → Int} {K : Nat → PH → ZL → List ZV → Prop} {Q : PH → List ZV → Prop} {h : PH} {a b : Int} (H : (a < 0 → Q h [(0, 0)]) ∧ (¬ (a < 0) → R32 (h 169 10) → ((h 169 10) < a → Q h [(0, 0)]) ∧ (¬ ((h 169 10) < a) → (a ≤ b → K 26 (uph h 169 11 a) [(3, (0, 0)), (0, (2, 169)), (1, (0, a)), (2, (0, b))] []) ∧ (¬ (a ≤ b) → Q h [(0, 0)])))) : vc (zz sl si (7, 0)) (fun p => Nat.beq p 26) K Q mX12_begins 16 0 mX12_begins.2.2.2.2.2.2 h [(0, (2, 169)), (1, (0, a)), (2, (0, b))] [] := H
set_option maxRecDepth 10000 in
theorem v_X12_begins_26 {sl : Nat} {si : Nat → Int} {K : Nat → PH → ZL → List ZV → Prop} {Q : PH → List ZV → Prop} {h : PH} {a b : Int} {k : Int} (H : (a ≤ k → ∀ h1, CP (zz sl si (7, 0)) mX12_ahead (uph (uph (uph (uph (uph h 169 10 0) 169 18 0) 169 17 (-1)) 169 14 0) 169 19 0) [(2, 169)] h1 [] → Q h1 [(0, 1)]) ∧ (¬ (a ≤ k) → 0 ≤ k ∧ k < (900 : Nat) → R32 (h 175 k.toNat) → 0 ≤ k ∧ k < (900 : Nat) → K 26 (uph h 176 k.toNat (h 175 k.toNat)) [(3, (0, w32 (k + 1))), (0, (2, 169)), (1, (0, a)), (2, (0, b))] [])) : vc (zz sl si (7, 0)) (fun p => Nat.beq p 26) K Q mX12_begins 24 26 (ax_jmp mX12_begins.2.2.2.2.2.2 26) h [(0, (2, 169)), (1, (0, a)), (2, (0, b)), (3, (0, k))] [] := H
set_option maxHeartbeats 600000 in
theorem c_X12_begins {sl : Nat} {si : Nat → Int} {h h' : PH} {a b : Int} {v : Int} {B : Nat → Int} {n : Int} (hB : ∀ k : Nat, k < 900 → zand (h 175 k) 255 = B k ∧ 0 ≤ B k ∧ B k ≤ 255) (hl : h 169 10 = n) (hn : 0 ≤ n ∧ n ≤ 900) (hc : CP (zz sl si (7, 0)) mX12_begins h [(2, 169), (0, a), (0, b)] h' [(0, v)]) : (0 ≤ a ∧ a ≤ n ∧ a ≤ b → v = 1 ∧ RN (Tx B a) h' (sk (Tx B a) 0) ∧ h' 169 10 = 0 ∧ ∀ c k : Nat, ¬ (c = 169 ∧ 10 ≤ k ∧ k ≤ 19 ∧ k ≠ 16) → c ≠ 176 → h' c k = h c k) ∧ (¬ (0 ≤ a ∧ a ≤ n ∧ a ≤ b) → v = 0 ∧ h' = h) := by
  have q : (fun (xh : PH) (r : List ZV) => ∀ v : Int, r = [(0, v)] → ((0 ≤ a ∧ a ≤ n ∧ a ≤ b → v = 1 ∧ RN (Tx B a) xh (sk (Tx B a) 0) ∧ xh 169 10 = 0 ∧ ∀ c k : Nat, ¬ (c = 169 ∧ 10 ≤ k ∧ k ≤ 19 ∧ k ≠ 16) → c ≠ 176 → xh c k = h c k) ∧ (¬ (0 ≤ a ∧ a ≤ n ∧ a ≤ b) → v = 0 ∧ xh = h))) h' [(0, v)] := by
    refine cp_vc (cut := (fun p => Nat.beq p 26)) (K := fun p hx lv st => (p = 26 ∧ lK (fun u : Nat => [(0, (2, 169)), (1, (0, a)), (2, (0, b)), (3, (0, (u : Int)))]) (fun u hx => (0 ≤ a ∧ a ≤ n ∧ a ≤ b) ∧ (u : Int) ≤ a ∧ hx 169 11 = a ∧ (∀ k : Nat, k < u → hx 176 k = h 175 k) ∧ ∀ c k : Nat, ¬ (c = 169 ∧ k = 11) → c ≠ 176 → hx c k = h c k) p hx lv st)) (Q := fun (xh : PH) (r : List ZV) => ∀ v : Int, r = [(0, v)] → ((0 ≤ a ∧ a ≤ n ∧ a ≤ b → v = 1 ∧ RN (Tx B a) xh (sk (Tx B a) 0) ∧ xh 169 10 = 0 ∧ ∀ c k : Nat, ¬ (c = 169 ∧ 10 ≤ k ∧ k ≤ 19 ∧ k ≠ 16) → c ≠ 176 → xh c k = h c k) ∧ (¬ (0 ≤ a ∧ a ≤ n ∧ a ≤ b) → v = 0 ∧ xh = h))) (v_X12_begins ?_) (fun pc hx lv st hcut hK => ?_) hc
    · exact ⟨fun c1 => (by intro v e; cases e; exact ⟨fun z => by omega, fun _ => ⟨rfl, rfl⟩⟩), fun c1 => (fun r2 => ⟨fun c3 => (by intro v e; cases e; exact ⟨fun z => by omega, fun _ => ⟨rfl, rfl⟩⟩), fun c3 => ⟨fun c4 => (by exact ⟨rfl, rfl, 0, ⟨by omega, by omega, up_sm, fun k q => by omega, fun c k q1 q2 => up_ne (by omega)⟩, rfl, rfl, rfl, rfl, trivial⟩), fun c4 => (by intro v e; cases e; exact ⟨fun z => by omega, fun _ => ⟨rfl, rfl⟩⟩)⟩⟩)⟩
    · rcases hK with ⟨rfl, rfl, u, hJ, hs⟩
      · obtain ⟨j1, j2, j3, j4, j5⟩ := hJ
        exact ⟨_, _, hs, v_X12_begins_26 ⟨fun c1 => (fun h1 p1 => (by intro v e; cases e; have e : (u : Int) = a := (by omega); have tk := Tx_ok (B := B) (a := a) (by omega) (fun k hk => (hB k hk).2); have X : RX (Tx B a) (uph (uph (uph (uph (uph hx 169 10 0) 169 18 0) 169 17 (-1)) 169 14 0) 169 19 0) := ⟨tk, by rw [up_ne (by omega), up_ne (by omega), up_ne (by omega), up_ne (by omega), up_ne (by omega), j3]; show a = ((a.toNat : Nat) : Int); omega, fun k hk => by have hk2 : k < a.toNat := hk; rw [up_ne (by omega), up_ne (by omega), up_ne (by omega), up_ne (by omega), up_ne (by omega), j4 k (by omega), Tx_at hk]; exact (hB k (by omega)).1⟩; obtain ⟨d1, d2⟩ := c_X12_ahead X (i := 0) (by omega) (by rw [up_ne (by omega), up_sm]; rfl) p1; exact ⟨fun _ => ⟨rfl, ⟨d1, by rw [d2 169 18 (by omega), up_ne (by omega), up_ne (by omega), up_ne (by omega), up_sm], by rw [d2 169 17 (by omega), up_ne (by omega), up_ne (by omega), up_sm]⟩, by rw [d2 169 10 (by omega), up_ne (by omega), up_ne (by omega), up_ne (by omega), up_ne (by omega), up_sm], fun c k q1 q2 => by rw [d2 c k (by omega), up_ne (by omega), up_ne (by omega), up_ne (by omega), up_ne (by omega), up_ne (by omega)]; exact j5 c k (by omega) q2⟩, fun z => absurd j1 z⟩)), fun c1 => (fun b2 r3 => (fun b4 => (by rw [Int.toNat_natCast]; refine ⟨rfl, rfl, u + 1, ⟨j1, by omega, by rw [up_ne (by omega)]; exact j3, fun k q => ?_, fun c k q1 q2 => by rw [up_ne (by omega)]; exact j5 c k q1 q2⟩, rfl, rfl, rfl, wv (by omega) (by omega) (by omega), trivial⟩; by_cases z : k = u; (rw [z, up_sm]; exact j5 175 u (by omega) (by omega)); (rw [up_ne (by omega)]; exact j4 k (by omega)))))⟩⟩
  exact q v rfl
set_option maxRecDepth 10000 in
theorem v_X12_refuse {sl : Nat} {si : Nat → Int} {K : Nat → PH → ZL → List ZV → Prop} {Q : PH → List ZV → Prop} {h : PH} {a : Int} (H : Q (uph h 169 2 a) [(0, (-1))]) : vc (zz sl si (7, 0)) (fun _ => false) K Q mX12_refuse 7 0 mX12_refuse.2.2.2.2.2.2 h [(0, (2, 169)), (1, (0, a))] [] := H
theorem c_X12_refuse {sl : Nat} {si : Nat → Int} {h h' : PH} {a : Int} {v : Int} (hc : CP (zz sl si (7, 0)) mX12_refuse h [(2, 169), (0, a)] h' [(0, v)]) : h' = uph h 169 2 a ∧ (v = -1) := by
  have q := cp_vc (K := fun _ _ _ _ => True) (Q := fun xh r => xh = uph h 169 2 a ∧ ∀ v, r = [(0, v)] → (v = -1)) (v_X12_refuse (by exact ⟨rfl, fun v e => by cases e; omega⟩)) (fun _ _ _ _ z _ => Bool.noConfusion z) hc
  exact ⟨q.1, q.2 v rfl⟩
set_option maxRecDepth 10000 in
theorem v_X12_gives {sl : Nat} {si : Nat → Int} {K : Nat → PH → ZL → List ZV → Prop} {Q : PH → List ZV → Prop} {h : PH} {a : Int} (H : Q (uph h 169 2 0) [(0, a)]) : vc (zz sl si (7, 0)) (fun _ => false) K Q mX12_gives 7 0 mX12_gives.2.2.2.2.2.2 h [(0, (2, 169)), (1, (0, a))] [] := H
theorem c_X12_gives {sl : Nat} {si : Nat → Int} {h h' : PH} {a : Int} {v : Int} (hc : CP (zz sl si (7, 0)) mX12_gives h [(2, 169), (0, a)] h' [(0, v)]) : h' = uph h 169 2 0 ∧ (v = a) := by
  have q := cp_vc (K := fun _ _ _ _ => True) (Q := fun xh r => xh = uph h 169 2 0 ∧ ∀ v, r = [(0, v)] → (v = a)) (v_X12_gives (by exact ⟨rfl, fun v e => by cases e; omega⟩)) (fun _ _ _ _ z _ => Bool.noConfusion z) hc
  exact ⟨q.1, q.2 v rfl⟩
set_option maxRecDepth 10000 in
theorem v_X12_taken {sl : Nat} {si : Nat → Int} {K : Nat → PH → ZL → List ZV → Prop} {Q : PH → List ZV → Prop} {h : PH} {a : Int} (H : R32 (h 169 18) → R32 (h 169 18) → ((h 169 18) ≤ 0 → ∀ h1 v1, CP (zz sl si (7, 0)) mX12_gives (uph h 169 16 (h 169 18)) [(2, 169), (0, a)] h1 [(0, v1)] → R32 v1 → Q h1 [(0, v1)]) ∧ (¬ ((h 169 18) ≤ 0) → ∀ h2 v2, CP (zz sl si (7, 0)) mX12_refuse (uph h 169 16 (h 169 18)) [(2, 169), (0, 9)] h2 [(0, v2)] → R32 v2 → Q h2 [(0, v2)])) : vc (zz sl si (7, 0)) (fun _ => false) K Q mX12_taken 14 0 mX12_taken.2.2.2.2.2.2 h [(0, (2, 169)), (1, (0, a))] [] := H
set_option maxHeartbeats 600000 in
theorem c_X12_taken {sl : Nat} {si : Nat → Int} {h h' : PH} {a : Int} {v : Int} (hc : CP (zz sl si (7, 0)) mX12_taken h [(2, 169), (0, a)] h' [(0, v)]) : ((h 169 18 ≤ 0 → v = a) ∧ (0 < h 169 18 → v = -1)) ∧ ∀ c k : Nat, ¬ (c = 169 ∧ (k = 2 ∨ k = 16)) → h' c k = h c k := by
  have q : (fun (xh : PH) (r : List ZV) => ∀ v : Int, r = [(0, v)] → (((h 169 18 ≤ 0 → v = a) ∧ (0 < h 169 18 → v = -1)) ∧ ∀ c k : Nat, ¬ (c = 169 ∧ (k = 2 ∨ k = 16)) → xh c k = h c k)) h' [(0, v)] := by
    refine cp_vc (cut := (fun _ => false)) (K := fun p hx lv st => False) (Q := fun (xh : PH) (r : List ZV) => ∀ v : Int, r = [(0, v)] → (((h 169 18 ≤ 0 → v = a) ∧ (0 < h 169 18 → v = -1)) ∧ ∀ c k : Nat, ¬ (c = 169 ∧ (k = 2 ∨ k = 16)) → xh c k = h c k)) (v_X12_taken ?_) (fun pc hx lv st hcut hK => ?_) hc
    · exact (fun r1 => (fun r2 => ⟨fun c3 => (fun h1 v1 p1 q1 => by obtain ⟨t1, e1⟩ := c_X12_gives p1; have t1 := t1.symm; subst t1; exact (by intro v e; cases e; exact ⟨⟨fun _ => e1, fun z => by omega⟩, fun c k q => by rw [up_ne (by omega), up_ne (by omega)]⟩)), fun c3 => (fun h2 v2 p2 q2 => by obtain ⟨t2, e2⟩ := c_X12_refuse p2; have t2 := t2.symm; subst t2; exact (by intro v e; cases e; exact ⟨⟨fun z => by omega, fun _ => e2⟩, fun c k q => by rw [up_ne (by omega), up_ne (by omega)]⟩))⟩))
    · exact hK.elim
  exact q v rfl
theorem RLd.nil {h L : PH} (hz : ∀ k : Nat, 2112 ≤ k → k < 2640 → k ≠ 2116 → h 170 k = 0) : RLd 2112 60 h (clr L) := by
  have b0 : ∀ i : Nat, i < 8 → bt 0 i = 0 := fun i hi => (SB.z 0).2.2 i hi (by omega)
  refine ⟨⟨by rw [hz _ (by omega) (by omega) (by omega), clr_0 (by omega)], by rw [hz _ (by omega) (by omega) (by omega), clr_0 (by omega)], by rw [hz _ (by omega) (by omega) (by omega), clr_0 (by omega)], by rw [hz _ (by omega) (by omega) (by omega), clr_0 (by omega)]⟩, fun i hi => ?_, fun p hp => ?_, fun q hq => by rw [hz _ (by omega) (by omega) (by omega), clr_0 (by omega)], fun p hp => ⟨by rw [hz _ (by omega) (by omega) (by omega), clr_0 (by omega)], fun k hk z => by rw [clr_0 (by omega)] at z; omega⟩, fun i hi => by rw [clr_0 (by omega)] at hi; omega, fun p hp => by rw [clr_0 (by omega)] at hp; omega⟩
  · rw [hz (2112 + 6 + 3 * i) (by omega) (by omega) (by omega), hz (2112 + 7 + 3 * i) (by omega) (by omega) (by omega), hz (2112 + 8 + 3 * i) (by omega) (by omega) (by omega), clr_0 (j := 1) (by omega), clr_0 (j := 2) (by omega), clr_0 (j := 15) (by omega), b0 i (by omega)]
    exact ⟨rfl, rfl, rfl⟩
  · rw [hz (2112 + 29 + 5 * p) (by omega) (by omega) (by omega), hz (2112 + 30 + 5 * p) (by omega) (by omega) (by omega), hz (2112 + 31 + 5 * p) (by omega) (by omega) (by omega), clr_0 (j := 0) (k := 4) (by omega), clr_0 (j := 0) (k := 7) (by omega), clr_0 (j := 0) (k := 8) (by omega), clr_0 (j := 0) (k := 9) (by omega), b0 p hp]
    exact ⟨fun z => by omega, rfl, rfl, rfl⟩
def JQ (T : TX) (u : Nat) (b : Int) (h : PH) (r : PR) : Prop := (b = 1 ∧ ∃ s L, RN T h s ∧ RLd 2112 60 h L ∧ WL L ∧ u ≤ s ∧ pl T (900 - u) s L = r) ∨ (b = 0 ∧ ∃ q, r = .inl q ∧ RF h q.1 q.2)
def JE (h : PH) (r : PR) : Prop := (h 169 18 = 0 ∧ ∃ q, r = .inr q ∧ RLd 2112 60 h q.2 ∧ WL q.2) ∨ ∃ q, r = .inl q ∧ RF h q.1 q.2
theorem JQ.step {T : TX} {u : Nat} {h' : PH} {r : PR} {s : Nat} {L : PH} {v : Int} (hs : s ≤ T.2) (hT : T.2 ≤ 900) (hu : u ≤ s) (hk : kd T s ≠ 0) (hp : pl T (900 - u) s L = r) (hc : ROp T v h' (pPart T s L)) : JQ T (u + 1) v h' r := by
  have h9 : s < T.2 := by
    rcases Nat.lt_or_ge s T.2 with q | q
    · exact q
    · exfalso
      apply hk
      unfold kd
      rw [if_pos q]
  rw [show 900 - u = (900 - (u + 1)) + 1 by omega] at hp
  have hp : (if kd T s = 0 then Sum.inr (s, L) else (match pPart T s L with
    | .inl q => .inl q
    | .inr q => pl T (900 - (u + 1)) q.1 q.2)) = r := hp
  rw [if_neg hk] at hp
  have hg := ge_part (T := T) (s := s) (L := L) hs
  generalize pPart T s L = z at hp hc hg
  cases z with
  | inl q => exact Or.inr ⟨hc.1, q, hp.symm, hc.2⟩
  | inr q => exact Or.inl ⟨hc.1, q.1, q.2, hc.2.1, hc.2.2.1, hc.2.2.2, by have := hg q rfl; omega, hp⟩
theorem JQ.fin {T : TX} {u : Nat} {b : Int} {h : PH} {r : PR} (hJ : JQ T u b h r) (hd : b = 0 ∨ h 169 12 = 0) : JE h r := by
  rcases hJ with ⟨hb, s, L, hN, hL, hW, hu, hp⟩ | ⟨hb, q, e, hq⟩
  · have hk : kd T s = 0 := by
      rcases hd with q | q
      · omega
      · rw [← hN.ek]; exact q
    have e : r = .inr (s, L) := by
      cases hn : 900 - u with
      | zero => rw [hn] at hp; exact hp.symm
      | succ n =>
        rw [hn] at hp
        have hp : (if kd T s = 0 then Sum.inr (s, L) else (match pPart T s L with
          | .inl q => .inl q
          | .inr q => pl T n q.1 q.2)) = r := hp
        rw [if_pos hk] at hp
        exact hp.symm
    exact Or.inl ⟨hN.2.1, (s, L), e, hL, hW⟩
  · exact Or.inr ⟨q, e, hq⟩
set_option maxRecDepth 10000 in
theorem v_X12_land {sl : Nat} {si : Nat → Int} {K : Nat → PH → ZL → List ZV → Prop} {Q : PH → List ZV → Prop} {h : PH} {a : Int}  (H : ∀ h1 v1, CP (zz sl si (7, 0)) mX12_begins h [(2, 169), (0, a), (0, 900)] h1 [(0, v1)] → v1 = 0 ∨ v1 = 1 → (v1 ≠ 0 → ∀ h2, CP (zz sl si (7, 0)) mX12_plain h1 [(2, 169), (0, 2112)] h2 [] → K 26 h2 [(2, (0, 1)), (0, (2, 169)), (1, (0, a))] []) ∧ (¬ (v1 ≠ 0) → ∀ h3 v3, CP (zz sl si (7, 0)) mX12_refuse h1 [(2, 169), (0, 1)] h3 [(0, v3)] → R32 v3 → Q h3 [(0, v3)])) : vc (zz sl si (7, 0)) (fun p => Nat.beq p 26 || Nat.beq p 45 || Nat.beq p 54 || Nat.beq p 85 || Nat.beq p 112) K Q mX12_land 12 0 mX12_land.2.2.2.2.2.2 h [(0, (2, 169)), (1, (0, a))] [] := H
set_option maxRecDepth 10000 in
theorem v_X12_land_26 {sl : Nat} {si : Nat → Int} {K : Nat → PH → ZL → List ZV → Prop} {Q : PH → List ZV → Prop} {h : PH} {a : Int}  {b : Int} (H : (b = 0 → K 45 h [(0, (2, 169)), (1, (0, a)), (2, (0, b))] []) ∧ (¬ (b = 0) → R32 (h 169 12) → ((h 169 12) = 0 → K 45 h [(0, (2, 169)), (1, (0, a)), (2, (0, b))] []) ∧ (¬ ((h 169 12) = 0) → ∀ h1 v1, CP (zz sl si (7, 0)) mX12_landPart h [(2, 169)] h1 [(0, v1)] → v1 = 0 ∨ v1 = 1 → K 26 h1 [(2, (0, v1)), (0, (2, 169)), (1, (0, a))] []))) : vc (zz sl si (7, 0)) (fun p => Nat.beq p 26 || Nat.beq p 45 || Nat.beq p 54 || Nat.beq p 85 || Nat.beq p 112) K Q mX12_land 11 26 (ax_jmp mX12_land.2.2.2.2.2.2 26) h [(0, (2, 169)), (1, (0, a)), (2, (0, b))] [] := H
set_option maxRecDepth 10000 in
theorem v_X12_land_45 {sl : Nat} {si : Nat → Int} {K : Nat → PH → ZL → List ZV → Prop} {Q : PH → List ZV → Prop} {h : PH} {a : Int}  (H : R32 (h 169 18) → ((h 169 18) ≠ 0 → K 112 h [(0, (2, 169)), (1, (0, a))] []) ∧ (¬ ((h 169 18) ≠ 0) → K 54 h [(3, (0, 0)), (0, (2, 169)), (1, (0, a))] [])) : vc (zz sl si (7, 0)) (fun p => Nat.beq p 26 || Nat.beq p 45 || Nat.beq p 54 || Nat.beq p 85 || Nat.beq p 112) K Q mX12_land 7 45 (ax_jmp mX12_land.2.2.2.2.2.2 45) h [(0, (2, 169)), (1, (0, a))] [] := H
set_option maxRecDepth 10000 in
theorem v_X12_land_54 {sl : Nat} {si : Nat → Int} {K : Nat → PH → ZL → List ZV → Prop} {Q : PH → List ZV → Prop} {h : PH} {a : Int}  {k : Int} (H : ((528 : Int) ≤ k → K 85 h [(3, (0, 0)), (0, (2, 169)), (1, (0, a))] []) ∧ (¬ ((528 : Int) ≤ k) → 0 ≤ w32 (2112 + k) ∧ w32 (2112 + k) < (3696 : Nat) → R32 (h 170 (w32 (2112 + k)).toNat) → 0 ≤ k ∧ k < (3696 : Nat) → K 54 (uph h 170 k.toNat (h 170 (w32 (2112 + k)).toNat)) [(3, (0, w32 (k + 1))), (0, (2, 169)), (1, (0, a))] [])) : vc (zz sl si (7, 0)) (fun p => Nat.beq p 26 || Nat.beq p 45 || Nat.beq p 54 || Nat.beq p 85 || Nat.beq p 112) K Q mX12_land 17 54 (ax_jmp mX12_land.2.2.2.2.2.2 54) h [(0, (2, 169)), (1, (0, a)), (3, (0, k))] [] := H
set_option maxRecDepth 10000 in
theorem v_X12_land_85 {sl : Nat} {si : Nat → Int} {K : Nat → PH → ZL → List ZV → Prop} {Q : PH → List ZV → Prop} {h : PH} {a : Int}  {k : Int} (H : ((15 : Int) ≤ k → K 112 h [(0, (2, 169)), (1, (0, a)), (3, (0, k))] []) ∧ (¬ ((15 : Int) ≤ k) → 0 ≤ w32 (60 + k) ∧ w32 (60 + k) < (90 : Nat) → R64 (h 171 (w32 (60 + k)).toNat) → 0 ≤ k ∧ k < (90 : Nat) → K 85 (uph h 171 k.toNat (h 171 (w32 (60 + k)).toNat)) [(3, (0, w32 (k + 1))), (0, (2, 169)), (1, (0, a))] [])) : vc (zz sl si (7, 0)) (fun p => Nat.beq p 26 || Nat.beq p 45 || Nat.beq p 54 || Nat.beq p 85 || Nat.beq p 112) K Q mX12_land 17 85 (ax_jmp mX12_land.2.2.2.2.2.2 85) h [(0, (2, 169)), (1, (0, a)), (3, (0, k))] [] := H
set_option maxRecDepth 10000 in
theorem v_X12_land_112 {sl : Nat} {si : Nat → Int} {K : Nat → PH → ZL → List ZV → Prop} {Q : PH → List ZV → Prop} {h : PH} {a : Int}  (H : 0 ≤ (1 : Int) ∧ (1 : Int) < (3696 : Nat) → R32 (h 170 1) → ∀ h1 v1, CP (zz sl si (7, 0)) mX12_taken h [(2, 169), (0, (h 170 1))] h1 [(0, v1)] → R32 v1 → Q h1 [(0, v1)]) : vc (zz sl si (7, 0)) (fun p => Nat.beq p 26 || Nat.beq p 45 || Nat.beq p 54 || Nat.beq p 85 || Nat.beq p 112) K Q mX12_land 9 112 (ax_jmp mX12_land.2.2.2.2.2.2 112) h [(0, (2, 169)), (1, (0, a))] [] := H
set_option maxHeartbeats 600000 in
theorem c_X12_land {sl : Nat} {si : Nat → Int} {h h' : PH} {a : Int} {L : PH} {v : Int} {B : Nat → Int} {n : Int} (hB : ∀ k : Nat, k < 900 → zand (h 175 k) 255 = B k ∧ 0 ≤ B k ∧ B k ≤ 255) (hl : h 169 10 = n) (hn : 0 ≤ n ∧ n ≤ 900) (hc : CP (zz sl si (7, 0)) mX12_land h [(2, 169), (0, a)] h' [(0, v)]) : ((0 ≤ a ∧ a ≤ n) → h' 169 10 = 0 ∧ ans v (pl (Tx B a) 900 (sk (Tx B a) 0) (clr L))) ∧ (¬ (0 ≤ a ∧ a ≤ n) → h' 169 10 = n ∧ v = -1) ∧ (∀ c k : Nat, c ≤ 168 ∨ c = 175 → h' c k = h c k) := by
  have q : (fun (xh : PH) (r : List ZV) => ∀ v : Int, r = [(0, v)] → (((0 ≤ a ∧ a ≤ n) → xh 169 10 = 0 ∧ ans v (pl (Tx B a) 900 (sk (Tx B a) 0) (clr L))) ∧ (¬ (0 ≤ a ∧ a ≤ n) → xh 169 10 = n ∧ v = -1) ∧ (∀ c k : Nat, c ≤ 168 ∨ c = 175 → xh c k = h c k))) h' [(0, v)] := by
    refine cp_vc (cut := (fun p => Nat.beq p 26 || Nat.beq p 45 || Nat.beq p 54 || Nat.beq p 85 || Nat.beq p 112)) (K := fun p hx lv st => (p = 26 ∧ lK (fun p : Nat × Int => [(0, (2, 169)), (1, (0, a)), (2, (0, p.2))]) (fun p hx => (0 ≤ a ∧ a ≤ n) ∧ (JQ (Tx B a) p.1 p.2 hx (pl (Tx B a) 900 (sk (Tx B a) 0) (clr L))) ∧ hx 169 10 = 0 ∧ (∀ c k : Nat, c ≤ 168 ∨ c = 175 → hx c k = h c k)) p hx lv st) ∨ (p = 45 ∧ lK (fun p : Unit => [(0, (2, 169)), (1, (0, a))]) (fun p hx => (0 ≤ a ∧ a ≤ n) ∧ (JE hx (pl (Tx B a) 900 (sk (Tx B a) 0) (clr L))) ∧ hx 169 10 = 0 ∧ (∀ c k : Nat, c ≤ 168 ∨ c = 175 → hx c k = h c k)) p hx lv st) ∨ (p = 54 ∧ lK (fun u : Nat => [(0, (2, 169)), (1, (0, a)), (3, (0, (u : Int)))]) (fun u hx => (0 ≤ a ∧ a ≤ n) ∧ ((∃ q, (pl (Tx B a) 900 (sk (Tx B a) 0) (clr L)) = .inr q ∧ hx 169 18 = 0 ∧ hx 170 2113 = q.2 0 4 ∧ (2 ≤ u → hx 170 1 = q.2 0 4)) ∧ u ≤ 528) ∧ hx 169 10 = 0 ∧ (∀ c k : Nat, c ≤ 168 ∨ c = 175 → hx c k = h c k)) p hx lv st) ∨ (p = 85 ∧ lK (fun u : Nat => [(0, (2, 169)), (1, (0, a)), (3, (0, (u : Int)))]) (fun u hx => (0 ≤ a ∧ a ≤ n) ∧ ((∃ q, (pl (Tx B a) 900 (sk (Tx B a) 0) (clr L)) = .inr q ∧ hx 169 18 = 0 ∧ hx 170 1 = q.2 0 4) ∧ u ≤ 15) ∧ hx 169 10 = 0 ∧ (∀ c k : Nat, c ≤ 168 ∨ c = 175 → hx c k = h c k)) p hx lv st) ∨ (p = 112 ∧ lK (fun p : Unit => [(0, (2, 169)), (1, (0, a))]) (fun p hx => (0 ≤ a ∧ a ≤ n) ∧ (((∃ q, (pl (Tx B a) 900 (sk (Tx B a) 0) (clr L)) = .inr q ∧ hx 169 18 = 0 ∧ hx 170 1 = q.2 0 4) ∨ ∃ q, (pl (Tx B a) 900 (sk (Tx B a) 0) (clr L)) = .inl q ∧ RF hx q.1 q.2)) ∧ hx 169 10 = 0 ∧ (∀ c k : Nat, c ≤ 168 ∨ c = 175 → hx c k = h c k)) p hx lv st)) (Q := fun (xh : PH) (r : List ZV) => ∀ v : Int, r = [(0, v)] → (((0 ≤ a ∧ a ≤ n) → xh 169 10 = 0 ∧ ans v (pl (Tx B a) 900 (sk (Tx B a) 0) (clr L))) ∧ (¬ (0 ≤ a ∧ a ≤ n) → xh 169 10 = n ∧ v = -1) ∧ (∀ c k : Nat, c ≤ 168 ∨ c = 175 → xh c k = h c k))) (v_X12_land ?_) (fun pc hx lv st hcut hK => ?_) hc
    · exact (fun h1 v1 p1 q1 => ⟨fun c1 => (fun h2 p2 => (by obtain ⟨y1, n1⟩ := c_X12_begins hB hl hn p1; have ok : 0 ≤ a ∧ a ≤ n ∧ a ≤ 900 := (by by_cases z : 0 ≤ a ∧ a ≤ n ∧ a ≤ 900; exact z; exact absurd (n1 z).1 (by omega)); obtain ⟨g1, g2, g3, g4⟩ := y1 ok; obtain ⟨f1, f2⟩ := c_X12_plain rfl p2; exact Or.inl ⟨rfl, rfl, (0, 1), ⟨⟨ok.1, ok.2.1⟩, Or.inl ⟨rfl, _, _, g2.kp (fun c k q => f2 c k (by omega)), RLd.nil f1, WL.clr0 L, by omega, rfl⟩, by rw [f2 169 10 (by omega)]; exact g3, fun c k q => by rw [f2 c k (by omega)]; exact g4 c k (by omega) (by omega)⟩, rfl, rfl, rfl, trivial⟩)), fun c1 => (fun h3 v3 p3 q3 => by obtain ⟨t3, e3⟩ := c_X12_refuse p3; have t3 := t3.symm; subst t3; exact (by intro v e; cases e; obtain ⟨y1, n1⟩ := c_X12_begins hB hl hn p1; have nok : ¬ (0 ≤ a ∧ a ≤ n ∧ a ≤ 900) := (fun z => by have := (y1 z).1; omega); obtain ⟨g1, g2⟩ := n1 nok; subst g2; exact ⟨fun z => by omega, fun _ => ⟨by rw [up_ne (by omega)]; exact hl, e3⟩, fun c k q => by rw [up_ne (by omega)]⟩))⟩)
    · rcases hK with ⟨rfl, rfl, p, hJ, hs⟩ | ⟨rfl, rfl, p, hJ, hs⟩ | ⟨rfl, rfl, u, hJ, hs⟩ | ⟨rfl, rfl, u, hJ, hs⟩ | ⟨rfl, rfl, p, hJ, hs⟩
      · obtain ⟨j0, j1, j2, j3⟩ := hJ
        exact ⟨_, _, hs, v_X12_land_26 ⟨fun c1 => (by exact Or.inr (Or.inl ⟨rfl, rfl, (), ⟨j0, j1.fin (Or.inl c1), j2, j3⟩, rfl, rfl, trivial⟩)), fun c1 => (fun r2 => ⟨fun c3 => (by exact Or.inr (Or.inl ⟨rfl, rfl, (), ⟨j0, j1.fin (Or.inr c3), j2, j3⟩, rfl, rfl, trivial⟩)), fun c3 => (fun h1 v1 p1 q1 => (by rcases j1 with ⟨hb, s, L1, hN, hL1, hW1, hu, hp⟩ | ⟨hb, -⟩; (obtain ⟨d1, d2⟩ := c_X12_landPart hN hL1 hW1 p1; exact Or.inl ⟨rfl, rfl, (p.1 + 1, v1), ⟨j0, JQ.step hN.1.2.1 hN.1.1.1.1 hu (by rw [← hN.ek]; exact c3) hp d1, by rw [d2 169 10 (by omega) (by omega) (by omega)]; exact j2, fun c k q => by rw [d2 c k (by omega) (by omega) (by omega)]; exact j3 c k q⟩, rfl, rfl, rfl, trivial⟩); exact absurd hb c1))⟩)⟩⟩
      · obtain ⟨j0, j1, j2, j3⟩ := hJ
        exact ⟨_, _, hs, v_X12_land_45 (fun r1 => ⟨fun c2 => (by rcases j1 with ⟨z, -⟩ | z; exact absurd z c2; exact Or.inr (Or.inr (Or.inr (Or.inr ⟨rfl, rfl, (), ⟨j0, Or.inr z, j2, j3⟩, rfl, rfl, trivial⟩)))), fun c2 => (by rcases j1 with ⟨z, q, z1, z2, z3⟩ | ⟨q, z1, z2⟩; exact Or.inr (Or.inr (Or.inl ⟨rfl, rfl, 0, ⟨j0, ⟨⟨q, z1, z, z2.1.2.1, fun y => absurd y (by omega)⟩, by omega⟩, j2, j3⟩, rfl, rfl, rfl, trivial⟩)); exact absurd (by have := z2.1; have := z2.2.2; omega) c2)⟩)⟩
      · obtain ⟨j0, ⟨⟨q, z1, z2, z3, z4⟩, ju⟩, j2, j3⟩ := hJ
        have ix : u < 528 → (w32 (2112 + (u : Int))).toNat = 2112 + u := fun z => by rw [w32_id (by omega) (by omega)]; omega
        exact ⟨_, _, hs, v_X12_land_54 ⟨fun c1 => (by exact Or.inr (Or.inr (Or.inr (Or.inl ⟨rfl, rfl, 0, ⟨j0, ⟨⟨q, z1, z2, z4 (by omega)⟩, by omega⟩, j2, j3⟩, rfl, rfl, rfl, trivial⟩)))), fun c1 => (fun b2 r3 => (fun b4 => (by rw [ix (by omega), Int.toNat_natCast]; refine Or.inr (Or.inr (Or.inl ⟨rfl, rfl, u + 1, ⟨j0, ⟨⟨q, z1, by rw [up_ne (by omega)]; exact z2, by rw [up_ne (by omega)]; exact z3, fun y => ?_⟩, by omega⟩, by rw [up_ne (by omega)]; exact j2, fun c k y => by rw [up_ne (by omega)]; exact j3 c k y⟩, rfl, rfl, wv (by omega) (by omega) (by omega), trivial⟩)); by_cases t : u = 1; (subst t; rw [up_sm]; exact z3); (rw [up_ne (by omega)]; exact z4 (by omega)))))⟩⟩
      · obtain ⟨j0, ⟨⟨q, z1, z2, z3⟩, ju⟩, j2, j3⟩ := hJ
        exact ⟨_, _, hs, v_X12_land_85 ⟨fun c1 => (by exact Or.inr (Or.inr (Or.inr (Or.inr ⟨rfl, rfl, (), ⟨j0, Or.inl ⟨q, z1, z2, z3⟩, j2, j3⟩, rfl, rfl, trivial⟩)))), fun c1 => (fun b2 r3 => (fun b4 => (by refine Or.inr (Or.inr (Or.inr (Or.inl ⟨rfl, rfl, u + 1, ⟨j0, ⟨⟨q, z1, by rw [up_ne (by omega)]; exact z2, by rw [up_ne (by omega)]; exact z3⟩, by omega⟩, by rw [up_ne (by omega)]; exact j2, fun c k y => by rw [up_ne (by omega)]; exact j3 c k y⟩, rfl, rfl, wv (by omega) (by omega) (by omega), trivial⟩))))))⟩⟩
      · obtain ⟨j0, j1, j2, j3⟩ := hJ
        exact ⟨_, _, hs, v_X12_land_112 (fun b1 r2 => (fun h1 v1 p1 q1 => (by intro v e; cases e; obtain ⟨⟨d1, d2⟩, d3⟩ := c_X12_taken p1; refine ⟨fun _ => ⟨by rw [d3 169 10 (by omega)]; exact j2, ?_⟩, fun z => absurd j0 z, fun c k q => by rw [d3 c k (by omega)]; exact j3 c k q⟩; rcases j1 with ⟨q, z1, z2, z3⟩ | ⟨q, z1, z2⟩; (rw [z1]; exact (d1 (by omega)).trans z3); (rw [z1]; exact d2 (by have := z2.1; have := z2.2.2; omega)))))⟩
  exact q v rfl
section PR
variable {sl : Nat} {si : Nat → Int} {h h1 h2 : PH} {a v w : Int}
theorem pr_land (hJ : J10 h) (p1 : CP (zz sl si (7, 0)) mX11_land h [(2, 0), (0, a)] h1 [(0, v)]) (p2 : CP (zz sl si (7, 0)) mX12_land h1 [(2, 169), (0, a)] h2 [(0, w)]) : J10 h2 ∧ v = w := by
  obtain ⟨y1, n1, k1⟩ := c_X11_land hJ p1
  obtain ⟨ja, jb, jc, jd⟩ := hJ
  obtain ⟨y2, n2, k2⟩ := c_X12_land (B := fun k => h 3 k) (n := h 2 1) (L := fun j k => h (27 + j) k) (fun k hk => by rw [k1 175 k (by omega)]; exact jc k hk) (by rw [k1 169 10 (by omega)]; exact ja.symm) jb p2
  have kc : ∀ k : Nat, k < 900 → zand (h2 175 k) 255 = h2 3 k ∧ 0 ≤ h2 3 k ∧ h2 3 k ≤ 255 := fun k hk => by
    rw [k2 175 k (by omega), k1 175 k (by omega), k2 3 k (by omega), k1 3 k (by omega)]
    exact jc k hk
  have kd : ∀ k : Nat, k < 24 → h2 4 k = kwt.getD k 0 := fun k hk => by
    rw [k2 4 k (by omega), k1 4 k (by omega)]
    exact jd k hk
  by_cases ok : 0 ≤ a ∧ a ≤ h 2 1
  · obtain ⟨a1, a2⟩ := y1 ok
    obtain ⟨b1, b2⟩ := y2 ok
    exact ⟨⟨by rw [k2 2 1 (by omega), a1, b1], by rw [k2 2 1 (by omega), a1]; omega, kc, kd⟩, ans_un a2 b2⟩
  · obtain ⟨a1, a2⟩ := n1 ok
    obtain ⟨b1, b2⟩ := n2 ok
    exact ⟨⟨by rw [k2 2 1 (by omega), a1, b1], by rw [k2 2 1 (by omega), a1]; exact jb, kc, kd⟩, by rw [a2, b2]⟩
end PR
end
section
/-! 45z.58j.tale -/
/-! TALES: the lengths of the tapes -/
def sTale : List (Nat × Nat) := [(12, 10), (13, 15), (12, 12), (12, 7), (12, 4), (12, 6), (12, 5), (12, 8), (13, 14), (13, 13), (12, 14), (13, 11), (13, 2), (12, 17), (12, 16), (12, 15), (12, 9), (19, 17), (20, 4), (20, 2), (20, 3), (20, 5), (20, 0), (20, 8), (20, 1), (19, 19), (19, 16), (19, 18), (12, 13), (13, 12)]
set_option maxRecDepth 100000 in
theorem np_tale : npc 12 10 sTale = true := by decide +kernel
theorem in_tale : inS sTale mX12_taleStep := ⟨(13, 15), by decide, rfl⟩
theorem in_fails : inS sTale mX12_fails := ⟨(12, 10), by decide, rfl⟩
theorem np_t {sl : Nat} {si : Nat → Int} {C : MR} {h h' : PH} {as r : List ZV} (hC : inS sTale C) (hc : CP (zz sl si (7, 0)) C h as h' r) : h' 169 10 = h 169 10 := np_cp (Z := zz sl si (7, 0)) (ci := 12) (k0 := 10) (c0 := 169) (S := sTale) (show shq[169]? = some _ from rfl) rfl (by decide) np_tale hC hc
set_option maxRecDepth 10000 in
theorem v_X7_copyFrom {sl : Nat} {si : Nat → Int} {K : Nat → PH → ZL → List ZV → Prop} {Q : PH → List ZV → Prop} {h : PH} (H : R32 (h 43 0) → R32 (h 43 1) → R32 (h 43 2) → 0 ≤ (0 : Int) ∧ 0 ≤ (0 : Int) ∧ 0 ≤ (60 : Int) → 0 ≤ (0 : Int) ∧ 0 ≤ (0 : Int) ∧ 0 ≤ (60 : Int) → 0 ≤ (0 : Int) ∧ 0 ≤ (0 : Int) ∧ 0 ≤ (60 : Int) → 0 ≤ (0 : Int) ∧ 0 ≤ (0 : Int) ∧ 0 ≤ (60 : Int) → 0 ≤ (0 : Int) ∧ 0 ≤ (0 : Int) ∧ 0 ≤ (60 : Int) → Q (cph (cph (cph (cph (cph (uph (uph (uph h 21 0 (h 43 0)) 21 1 (h 43 1)) 21 2 (h 43 2)) 44 22 0 0 60) 45 23 0 0 60) 46 24 0 0 60) 47 25 0 0 60) 48 26 0 0 60) []) : vc (zz sl si (7, 0)) (fun _ => false) K Q mX7_copyFrom 65 0 mX7_copyFrom.2.2.2.2.2.2 h [(0, (2, 21)), (1, (2, 43))] [] := H
theorem c_X7_copyFrom {sl : Nat} {si : Nat → Int} {h h' : PH} (hc : CP (zz sl si (7, 0)) mX7_copyFrom h [(2, 21), (2, 43)] h' []) : h' = cph (cph (cph (cph (cph (uph (uph (uph h 21 0 (h 43 0)) 21 1 (h 43 1)) 21 2 (h 43 2)) 44 22 0 0 60) 45 23 0 0 60) 46 24 0 0 60) 47 25 0 0 60) 48 26 0 0 60 ∧ True := by
  exact ⟨cp_vc (K := fun _ _ _ _ => True) (Q := fun xh r => xh = cph (cph (cph (cph (cph (uph (uph (uph h 21 0 (h 43 0)) 21 1 (h 43 1)) 21 2 (h 43 2)) 44 22 0 0 60) 45 23 0 0 60) 46 24 0 0 60) 47 25 0 0 60) 48 26 0 0 60) (v_X7_copyFrom (fun r1 => (fun r2 => (fun r3 => (fun b4 => (fun b5 => (fun b6 => (fun b7 => (fun b8 => (by exact rfl)))))))))) (fun _ _ _ _ z _ => Bool.noConfusion z) hc, trivial⟩
set_option maxRecDepth 10000 in
theorem v_X11_tales {sl : Nat} {si : Nat → Int} {K : Nat → PH → ZL → List ZV → Prop} {Q : PH → List ZV → Prop} {h : PH} {a : Int} (H : R32 (h 2 1) → ∀ h1 v1, CP (zz sl si (7, 0)) mX11_isWithin h [(0, a), (0, (h 2 1))] h1 [(0, v1)] → v1 = 0 ∨ v1 = 1 → (v1 = 0 → ∀ h2 v2, CP (zz sl si (7, 0)) mX11_refuse h1 [(2, 0), (0, 1)] h2 [(0, v2)] → R32 v2 → Q h2 [(0, v2)]) ∧ (¬ (v1 = 0) → (a ≤ 300 → ∀ h3, CP (zz sl si (7, 0)) mX8_readAll h1 [(2, 50), (0, a)] h3 [] → R32 (h3 2 10) → ((h3 2 10) = 0 → ∀ h4, CP (zz sl si (7, 0)) mX7_copyFrom (uph h3 2 1 0) [(2, 21), (2, 43)] h4 [] → R32 (h4 21 1) → ∀ h5 v5, CP (zz sl si (7, 0)) mX11_answer h4 [(2, 0), (0, (h4 21 1))] h5 [(0, v5)] → R32 v5 → Q h5 [(0, v5)]) ∧ (¬ ((h3 2 10) = 0) → ∀ h6 v6, CP (zz sl si (7, 0)) mX11_refuse (uph h3 2 1 0) [(2, 0), (0, 9)] h6 [(0, v6)] → R32 v6 → Q h6 [(0, v6)])) ∧ (¬ (a ≤ 300) → ∀ h7 v7, CP (zz sl si (7, 0)) mX11_refuse h1 [(2, 0), (0, 1)] h7 [(0, v7)] → R32 v7 → Q h7 [(0, v7)]))) : vc (zz sl si (7, 0)) (fun _ => false) K Q mX11_tales 34 0 mX11_tales.2.2.2.2.2.2 h [(0, (2, 0)), (1, (0, a))] [] := H
set_option maxHeartbeats 600000 in
theorem c_X11_tales {sl : Nat} {si : Nat → Int} {h h' : PH} {a : Int} {v : Int} (hc : CP (zz sl si (7, 0)) mX11_tales h [(2, 0), (0, a)] h' [(0, v)]) : ((0 ≤ a ∧ a ≤ h 2 1 ∧ a ≤ 300) → h' 2 1 = 0) ∧ (¬ (0 ≤ a ∧ a ≤ h 2 1 ∧ a ≤ 300) → h' 2 1 = h 2 1) := by
  have q : (fun (xh : PH) (r : List ZV) => ∀ v : Int, r = [(0, v)] → (((0 ≤ a ∧ a ≤ h 2 1 ∧ a ≤ 300) → xh 2 1 = 0) ∧ (¬ (0 ≤ a ∧ a ≤ h 2 1 ∧ a ≤ 300) → xh 2 1 = h 2 1))) h' [(0, v)] := by
    refine cp_vc (cut := (fun _ => false)) (K := fun p hx lv st => False) (Q := fun (xh : PH) (r : List ZV) => ∀ v : Int, r = [(0, v)] → (((0 ≤ a ∧ a ≤ h 2 1 ∧ a ≤ 300) → xh 2 1 = 0) ∧ (¬ (0 ≤ a ∧ a ≤ h 2 1 ∧ a ≤ 300) → xh 2 1 = h 2 1))) (v_X11_tales ?_) (fun pc hx lv st hcut hK => ?_) hc
    · exact (fun r1 => (fun h1 v1 p1 q1 => by obtain ⟨t1, e1⟩ := c_X11_isWithin p1; have t1 := t1.symm; subst t1; exact ⟨fun c2 => (fun h2 v2 p2 q2 => by obtain ⟨t2, e2⟩ := c_X11_refuse p2; have t2 := t2.symm; subst t2; exact (by intro v e; cases e; exact ⟨fun z => by omega, fun _ => up_ne (by omega)⟩)), fun c2 => ⟨fun c3 => (fun h3 p3 => (fun r4 => ⟨fun c5 => (fun h4 p4 => by obtain ⟨t4, e4⟩ := c_X7_copyFrom p4; have t4 := t4.symm; subst t4; exact (fun r6 => (fun h5 v5 p5 q5 => by obtain ⟨t5, e5⟩ := c_X11_answer p5; have t5 := t5.symm; subst t5; exact (by intro v e; cases e; refine ⟨fun _ => ?_, fun z => by omega⟩; rw [up_ne (by omega), cp_rd, if_neg (by omega), cp_rd, if_neg (by omega), cp_rd, if_neg (by omega), cp_rd, if_neg (by omega), cp_rd, if_neg (by omega), up_ne (by omega), up_ne (by omega), up_ne (by omega), up_sm])))), fun c5 => (fun h6 v6 p6 q6 => by obtain ⟨t6, e6⟩ := c_X11_refuse p6; have t6 := t6.symm; subst t6; exact (by intro v e; cases e; exact ⟨fun _ => by rw [up_ne (by omega), up_sm], fun z => by omega⟩))⟩)), fun c3 => (fun h7 v7 p7 q7 => by obtain ⟨t7, e7⟩ := c_X11_refuse p7; have t7 := t7.symm; subst t7; exact (by intro v e; cases e; exact ⟨fun z => by omega, fun _ => up_ne (by omega)⟩))⟩⟩))
    · exact hK.elim
  exact q v rfl
set_option maxRecDepth 10000 in
theorem v_X12_tales {sl : Nat} {si : Nat → Int} {K : Nat → PH → ZL → List ZV → Prop} {Q : PH → List ZV → Prop} {h : PH} {a : Int} (H : ∀ h1 v1, CP (zz sl si (7, 0)) mX12_begins h [(2, 169), (0, a), (0, 300)] h1 [(0, v1)] → v1 = 0 ∨ v1 = 1 → (v1 ≠ 0 → 0 ≤ (2116 : Int) ∧ (2116 : Int) < (3696 : Nat) → K 38 (uph (uph (uph h1 170 2116 0) 169 21 0) 169 22 0) [(2, (0, 1)), (0, (2, 169)), (1, (0, a))] []) ∧ (¬ (v1 ≠ 0) → ∀ h2 v2, CP (zz sl si (7, 0)) mX12_refuse h1 [(2, 169), (0, 1)] h2 [(0, v2)] → R32 v2 → Q h2 [(0, v2)])) : vc (zz sl si (7, 0)) (fun p => Nat.beq p 38 || Nat.beq p 57 || Nat.beq p 102 || Nat.beq p 131) K Q mX12_tales 20 0 mX12_tales.2.2.2.2.2.2 h [(0, (2, 169)), (1, (0, a))] [] := H
set_option maxRecDepth 10000 in
theorem v_X12_tales_38 {sl : Nat} {si : Nat → Int} {K : Nat → PH → ZL → List ZV → Prop} {Q : PH → List ZV → Prop} {h : PH} {a : Int} {b : Int} (H : (b = 0 → K 57 h [(0, (2, 169)), (1, (0, a)), (2, (0, b))] []) ∧ (¬ (b = 0) → R32 (h 169 12) → ((h 169 12) = 0 → K 57 h [(0, (2, 169)), (1, (0, a)), (2, (0, b))] []) ∧ (¬ ((h 169 12) = 0) → ∀ h1 v1, CP (zz sl si (7, 0)) mX12_taleStep h [(2, 169)] h1 [(0, v1)] → v1 = 0 ∨ v1 = 1 → K 38 h1 [(2, (0, v1)), (0, (2, 169)), (1, (0, a))] []))) : vc (zz sl si (7, 0)) (fun p => Nat.beq p 38 || Nat.beq p 57 || Nat.beq p 102 || Nat.beq p 131) K Q mX12_tales 11 38 (ax_jmp mX12_tales.2.2.2.2.2.2 38) h [(0, (2, 169)), (1, (0, a)), (2, (0, b))] [] := H
set_option maxRecDepth 10000 in
theorem v_X12_tales_57 {sl : Nat} {si : Nat → Int} {K : Nat → PH → ZL → List ZV → Prop} {Q : PH → List ZV → Prop} {h : PH} {a : Int} (H : R32 (h 169 18) → ((h 169 18) ≠ 0 → R32 (h 169 18) → ((h 169 18) ≠ 0 → K 131 h [(0, (2, 169)), (1, (0, a))] []) ∧ (¬ ((h 169 18) ≠ 0) → 0 ≤ (2116 : Int) ∧ (2116 : Int) < (3696 : Nat) → R32 (h 170 2116) → 0 ≤ (4 : Int) ∧ (4 : Int) < (3696 : Nat) → K 102 (uph h 170 4 (h 170 2116)) [(3, (0, 164)), (0, (2, 169)), (1, (0, a))] [])) ∧ (¬ ((h 169 18) ≠ 0) → R32 (h 169 21) → ((h 169 21) ≤ 0 → R32 (h 169 18) → ((h 169 18) ≠ 0 → K 131 h [(0, (2, 169)), (1, (0, a))] []) ∧ (¬ ((h 169 18) ≠ 0) → 0 ≤ (2116 : Int) ∧ (2116 : Int) < (3696 : Nat) → R32 (h 170 2116) → 0 ≤ (4 : Int) ∧ (4 : Int) < (3696 : Nat) → K 102 (uph h 170 4 (h 170 2116)) [(3, (0, 164)), (0, (2, 169)), (1, (0, a))] [])) ∧ (¬ ((h 169 21) ≤ 0) → ∀ h1 v1, CP (zz sl si (7, 0)) mX12_fails h [(2, 169), (0, 2)] h1 [(0, v1)] → v1 = 0 ∨ v1 = 1 → R32 (h1 169 18) → ((h1 169 18) ≠ 0 → K 131 h1 [(0, (2, 169)), (1, (0, a))] []) ∧ (¬ ((h1 169 18) ≠ 0) → 0 ≤ (2116 : Int) ∧ (2116 : Int) < (3696 : Nat) → R32 (h1 170 2116) → 0 ≤ (4 : Int) ∧ (4 : Int) < (3696 : Nat) → K 102 (uph h1 170 4 (h1 170 2116)) [(3, (0, 164)), (0, (2, 169)), (1, (0, a))] [])))) : vc (zz sl si (7, 0)) (fun p => Nat.beq p 38 || Nat.beq p 57 || Nat.beq p 102 || Nat.beq p 131) K Q mX12_tales 25 57 (ax_jmp mX12_tales.2.2.2.2.2.2 57) h [(0, (2, 169)), (1, (0, a))] [] := H
set_option maxRecDepth 10000 in
theorem v_X12_tales_102 {sl : Nat} {si : Nat → Int} {K : Nat → PH → ZL → List ZV → Prop} {Q : PH → List ZV → Prop} {h : PH} {a : Int} {k : Int} (H : ((524 : Int) ≤ k → K 131 h [(0, (2, 169)), (1, (0, a)), (3, (0, k))] []) ∧ (¬ ((524 : Int) ≤ k) → 0 ≤ w32 (2112 + k) ∧ w32 (2112 + k) < (3696 : Nat) → R32 (h 170 (w32 (2112 + k)).toNat) → 0 ≤ k ∧ k < (3696 : Nat) → K 102 (uph h 170 k.toNat (h 170 (w32 (2112 + k)).toNat)) [(3, (0, w32 (k + 1))), (0, (2, 169)), (1, (0, a))] [])) : vc (zz sl si (7, 0)) (fun p => Nat.beq p 38 || Nat.beq p 57 || Nat.beq p 102 || Nat.beq p 131) K Q mX12_tales 17 102 (ax_jmp mX12_tales.2.2.2.2.2.2 102) h [(0, (2, 169)), (1, (0, a)), (3, (0, k))] [] := H
set_option maxRecDepth 10000 in
theorem v_X12_tales_131 {sl : Nat} {si : Nat → Int} {K : Nat → PH → ZL → List ZV → Prop} {Q : PH → List ZV → Prop} {h : PH} {a : Int} (H : R32 (h 169 22) → ∀ h1 v1, CP (zz sl si (7, 0)) mX12_taken h [(2, 169), (0, (h 169 22))] h1 [(0, v1)] → R32 v1 → Q h1 [(0, v1)]) : vc (zz sl si (7, 0)) (fun p => Nat.beq p 38 || Nat.beq p 57 || Nat.beq p 102 || Nat.beq p 131) K Q mX12_tales 7 131 (ax_jmp mX12_tales.2.2.2.2.2.2 131) h [(0, (2, 169)), (1, (0, a))] [] := H
set_option maxHeartbeats 600000 in
theorem c_X12_tales {sl : Nat} {si : Nat → Int} {h h' : PH} {a : Int} {v : Int} {B : Nat → Int} {n : Int} (hB : ∀ k : Nat, k < 900 → zand (h 175 k) 255 = B k ∧ 0 ≤ B k ∧ B k ≤ 255) (hl : h 169 10 = n) (hn : 0 ≤ n ∧ n ≤ 900) (hc : CP (zz sl si (7, 0)) mX12_tales h [(2, 169), (0, a)] h' [(0, v)]) : ((0 ≤ a ∧ a ≤ n ∧ a ≤ 300) → h' 169 10 = 0) ∧ (¬ (0 ≤ a ∧ a ≤ n ∧ a ≤ 300) → h' 169 10 = n) := by
  have q : (fun (xh : PH) (r : List ZV) => ∀ v : Int, r = [(0, v)] → (((0 ≤ a ∧ a ≤ n ∧ a ≤ 300) → xh 169 10 = 0) ∧ (¬ (0 ≤ a ∧ a ≤ n ∧ a ≤ 300) → xh 169 10 = n))) h' [(0, v)] := by
    refine cp_vc (cut := (fun p => Nat.beq p 38 || Nat.beq p 57 || Nat.beq p 102 || Nat.beq p 131)) (K := fun p hx lv st => (p = 38 ∧ lK (fun p : Int => [(0, (2, 169)), (1, (0, a)), (2, (0, p))]) (fun p hx => (0 ≤ a ∧ a ≤ n ∧ a ≤ 300) ∧ hx 169 10 = 0) p hx lv st) ∨ (p = 57 ∧ lK (fun p : Unit => [(0, (2, 169)), (1, (0, a))]) (fun p hx => (0 ≤ a ∧ a ≤ n ∧ a ≤ 300) ∧ hx 169 10 = 0) p hx lv st) ∨ (p = 102 ∧ lK (fun p : Int => [(0, (2, 169)), (1, (0, a)), (3, (0, p))]) (fun p hx => (0 ≤ a ∧ a ≤ n ∧ a ≤ 300) ∧ hx 169 10 = 0) p hx lv st) ∨ (p = 131 ∧ lK (fun p : Unit => [(0, (2, 169)), (1, (0, a))]) (fun p hx => (0 ≤ a ∧ a ≤ n ∧ a ≤ 300) ∧ hx 169 10 = 0) p hx lv st)) (Q := fun (xh : PH) (r : List ZV) => ∀ v : Int, r = [(0, v)] → (((0 ≤ a ∧ a ≤ n ∧ a ≤ 300) → xh 169 10 = 0) ∧ (¬ (0 ≤ a ∧ a ≤ n ∧ a ≤ 300) → xh 169 10 = n))) (v_X12_tales ?_) (fun pc hx lv st hcut hK => ?_) hc
    · exact (fun h1 v1 p1 q1 => ⟨fun c1 => (fun b2 => (by obtain ⟨y1, n1⟩ := c_X12_begins hB hl hn p1; have ok : (0 ≤ a ∧ a ≤ n ∧ a ≤ 300) := (by by_cases z : (0 ≤ a ∧ a ≤ n ∧ a ≤ 300); exact z; exact absurd (n1 z).1 (by omega)); obtain ⟨g1, g2, g3, g4⟩ := y1 ok; exact Or.inl ⟨rfl, rfl, 1, ⟨ok, by rw [up_ne (by omega), up_ne (by omega), up_ne (by omega)]; exact g3⟩, rfl, rfl, rfl, trivial⟩)), fun c1 => (fun h2 v2 p2 q2 => by obtain ⟨t2, e2⟩ := c_X12_refuse p2; have t2 := t2.symm; subst t2; exact (by intro v e; cases e; obtain ⟨y1, n1⟩ := c_X12_begins hB hl hn p1; have nok : ¬ (0 ≤ a ∧ a ≤ n ∧ a ≤ 300) := (fun z => by have := (y1 z).1; omega); obtain ⟨g1, g2⟩ := n1 nok; subst g2; exact ⟨fun z => absurd z nok, fun _ => by rw [up_ne (by omega)]; exact hl⟩))⟩)
    · rcases hK with ⟨rfl, rfl, p, hJ, hs⟩ | ⟨rfl, rfl, p, hJ, hs⟩ | ⟨rfl, rfl, p, hJ, hs⟩ | ⟨rfl, rfl, p, hJ, hs⟩
      · obtain ⟨j1, j2⟩ := hJ
        exact ⟨_, _, hs, v_X12_tales_38 ⟨fun c1 => (by exact Or.inr (Or.inl ⟨rfl, rfl, (), ⟨j1, j2⟩, rfl, rfl, trivial⟩)), fun c1 => (fun r2 => ⟨fun c3 => (by exact Or.inr (Or.inl ⟨rfl, rfl, (), ⟨j1, j2⟩, rfl, rfl, trivial⟩)), fun c3 => (fun h1 v1 p1 q1 => (by exact Or.inl ⟨rfl, rfl, v1, ⟨j1, by rw [np_t in_tale p1]; exact j2⟩, rfl, rfl, rfl, trivial⟩))⟩)⟩⟩
      · obtain ⟨j1, j2⟩ := hJ
        exact ⟨_, _, hs, v_X12_tales_57 (fun r1 => ⟨fun c2 => (fun r3 => ⟨fun c4 => (by exact Or.inr (Or.inr (Or.inr ⟨rfl, rfl, (), ⟨j1, j2⟩, rfl, rfl, trivial⟩))), fun c4 => (fun b5 r6 => (fun b7 => (by exact Or.inr (Or.inr (Or.inl ⟨rfl, rfl, 164, ⟨j1, by rw [up_ne (by omega)]; exact j2⟩, rfl, rfl, rfl, trivial⟩)))))⟩), fun c2 => (fun r8 => ⟨fun c9 => (fun r10 => ⟨fun c11 => (by exact Or.inr (Or.inr (Or.inr ⟨rfl, rfl, (), ⟨j1, j2⟩, rfl, rfl, trivial⟩))), fun c11 => (fun b12 r13 => (fun b14 => (by exact Or.inr (Or.inr (Or.inl ⟨rfl, rfl, 164, ⟨j1, by rw [up_ne (by omega)]; exact j2⟩, rfl, rfl, rfl, trivial⟩)))))⟩), fun c9 => (fun h1 v1 p1 q1 => (fun r15 => ⟨fun c16 => (by exact Or.inr (Or.inr (Or.inr ⟨rfl, rfl, (), ⟨j1, by rw [np_t in_fails p1]; exact j2⟩, rfl, rfl, trivial⟩))), fun c16 => (fun b17 r18 => (fun b19 => (by exact Or.inr (Or.inr (Or.inl ⟨rfl, rfl, 164, ⟨j1, by rw [up_ne (by omega), np_t in_fails p1]; exact j2⟩, rfl, rfl, rfl, trivial⟩)))))⟩))⟩)⟩)⟩
      · obtain ⟨j1, j2⟩ := hJ
        exact ⟨_, _, hs, v_X12_tales_102 ⟨fun c1 => (by exact Or.inr (Or.inr (Or.inr ⟨rfl, rfl, (), ⟨j1, j2⟩, rfl, rfl, trivial⟩))), fun c1 => (fun b2 r3 => (fun b4 => (by exact Or.inr (Or.inr (Or.inl ⟨rfl, rfl, _, ⟨j1, by rw [up_ne (by omega)]; exact j2⟩, rfl, rfl, rfl, trivial⟩)))))⟩⟩
      · obtain ⟨j1, j2⟩ := hJ
        exact ⟨_, _, hs, v_X12_tales_131 (fun r1 => (fun h1 v1 p1 q1 => (by intro v e; cases e; obtain ⟨-, d3⟩ := c_X12_taken p1; exact ⟨fun _ => by rw [d3 169 10 (by omega)]; exact j2, fun z => absurd j1 z⟩)))⟩
  exact q v rfl
def FA10 : List (Nat × Int × Int) := [(3, 0, 899), (4, 0, 23), (169, 10, 10), (175, 0, 899)]
def FB10 : List (Nat × Int × Int) := [(2, 1, 1), (3, 0, 899), (4, 0, 23), (175, 0, 899)]
section PR
variable {sl : Nat} {si : Nat → Int} {h h1 h2 : PH} {a v w : Int}
theorem pr_tales (hJ : J10 h) (f1 : Frm FA10 h h1) (f2 : Frm FB10 h1 h2) (p1 : CP (zz sl si (7, 0)) mX11_tales h [(2, 0), (0, a)] h1 [(0, v)]) (p2 : CP (zz sl si (7, 0)) mX12_tales h1 [(2, 169), (0, a)] h2 [(0, w)]) : J10 h2 := by
  obtain ⟨ja, jb, jc, jd⟩ := hJ
  have a3 : ∀ k : Nat, k < 900 → h1 3 k = h 3 k := fun k hk => f1 (3, 0, 899) (by decide) k (by show (0 : Int) ≤ _; omega) (by show _ ≤ (899 : Int); omega)
  have a4 : ∀ k : Nat, k < 24 → h1 4 k = h 4 k := fun k hk => f1 (4, 0, 23) (by decide) k (by show (0 : Int) ≤ _; omega) (by show _ ≤ (23 : Int); omega)
  have a5 : ∀ k : Nat, k < 900 → h1 175 k = h 175 k := fun k hk => f1 (175, 0, 899) (by decide) k (by show (0 : Int) ≤ _; omega) (by show _ ≤ (899 : Int); omega)
  have a6 : h1 169 10 = h 169 10 := f1 (169, 10, 10) (by decide) 10 (by decide) (by decide)
  have b3 : ∀ k : Nat, k < 900 → h2 3 k = h1 3 k := fun k hk => f2 (3, 0, 899) (by decide) k (by show (0 : Int) ≤ _; omega) (by show _ ≤ (899 : Int); omega)
  have b4 : ∀ k : Nat, k < 24 → h2 4 k = h1 4 k := fun k hk => f2 (4, 0, 23) (by decide) k (by show (0 : Int) ≤ _; omega) (by show _ ≤ (23 : Int); omega)
  have b5 : ∀ k : Nat, k < 900 → h2 175 k = h1 175 k := fun k hk => f2 (175, 0, 899) (by decide) k (by show (0 : Int) ≤ _; omega) (by show _ ≤ (899 : Int); omega)
  have b6 : h2 2 1 = h1 2 1 := f2 (2, 1, 1) (by decide) 1 (by decide) (by decide)
  obtain ⟨y1, n1⟩ := c_X11_tales p1
  obtain ⟨y2, n2⟩ := c_X12_tales (B := fun k => h 3 k) (n := h 2 1) (fun k hk => by rw [a5 k hk]; exact jc k hk) (by rw [a6]; exact ja.symm) jb p2
  have L : h2 2 1 = h2 169 10 ∧ (0 ≤ h2 2 1 ∧ h2 2 1 ≤ 900) := by
    by_cases ok : 0 ≤ a ∧ a ≤ h 2 1 ∧ a ≤ 300
    · have := y1 ok; have := y2 ok; omega
    · have := n1 ok; have := n2 ok; omega
  exact ⟨L.1, L.2, fun k hk => by rw [b5 k hk, a5 k hk, b3 k hk, a3 k hk]; exact jc k hk, fun k hk => by rw [b4 k hk, a4 k hk]; exact jd k hk⟩
end PR
end
section
/-! 45z.58k.landc -/
/-! LAND: all that a call leaves -/
theorem inL_b {j k : Nat} (h : inL j k) : j ≤ 15 := by
  unfold inL at h
  omega
/-- what land() of the class leaves -/
def LAC (h h' : PH) (v : Int) (r : PR) : Prop := match r with
  | .inl q => v = -1 ∧ CF h' q.1 q.2 ∧ h' 0 0 = 9 ∧ ∀ c k : Nat, 5 ≤ c → c ≤ 26 → h' c k = h c k
  | .inr q => v = q.2 0 4 ∧ (h' 2 10 = 0 ∧ h' 2 11 = -1) ∧ CLx 5 h' q.2 ∧ WL q.2 ∧ (h' 21 0 = 0 ∧ h' 21 1 = 0 ∧ h' 21 2 = 0) ∧ h' 0 0 = 0 ∧ ∀ j k : Nat, inL j k → h' (5 + j) k = h' (27 + j) k
def FLC (h h' : PH) : Prop := ∀ c k : Nat, ¬ (c = 0 ∧ k = 0) → ¬ (c = 2 ∧ k = 1) → ¬ (c = 2 ∧ 3 ≤ k ∧ k ≤ 11) → ¬ (5 ≤ c ∧ c ≤ 20) → ¬ (c = 21 ∧ k ≤ 2) → ¬ (27 ≤ c ∧ c ≤ 42) → h' c k = h c k
set_option maxRecDepth 10000 in
theorem v_X11_landF {sl : Nat} {si : Nat → Int} {K : Nat → PH → ZL → List ZV → Prop} {Q : PH → List ZV → Prop} {h : PH} {a : Int} (H : R32 (h 2 1) → ∀ h1 v1, CP (zz sl si (7, 0)) mX11_isWithin h [(0, a), (0, (h 2 1))] h1 [(0, v1)] → v1 = 0 ∨ v1 = 1 → (v1 ≠ 0 → ∀ h2, CP (zz sl si (7, 0)) mX2_readAll h1 [(2, 49), (0, a)] h2 [] → R32 (h2 2 10) → ((h2 2 10) = 0 → ∀ h3, CP (zz sl si (7, 0)) mX1_copyFrom (uph h2 2 1 0) [(2, 5), (2, 27)] h3 [] → ∀ h4, CP (zz sl si (7, 0)) mX7_clear h3 [(2, 21)] h4 [] → R32 (h4 5 4) → ∀ h5 v5, CP (zz sl si (7, 0)) mX11_answer h4 [(2, 0), (0, (h4 5 4))] h5 [(0, v5)] → R32 v5 → Q h5 [(0, v5)]) ∧ (¬ ((h2 2 10) = 0) → ∀ h6 v6, CP (zz sl si (7, 0)) mX11_refuse (uph h2 2 1 0) [(2, 0), (0, 9)] h6 [(0, v6)] → R32 v6 → Q h6 [(0, v6)])) ∧ (¬ (v1 ≠ 0) → ∀ h7 v7, CP (zz sl si (7, 0)) mX11_refuse h1 [(2, 0), (0, 1)] h7 [(0, v7)] → R32 v7 → Q h7 [(0, v7)])) : vc (zz sl si (7, 0)) (fun _ => false) K Q mX11_land 34 0 mX11_land.2.2.2.2.2.2 h [(0, (2, 0)), (1, (0, a))] [] := H
set_option maxHeartbeats 600000 in
theorem c_X11_landF {sl : Nat} {si : Nat → Int} {h h' : PH} {a : Int} {v : Int} (hJ : J10 h) (hc : CP (zz sl si (7, 0)) mX11_land h [(2, 0), (0, a)] h' [(0, v)]) : (0 ≤ a ∧ a ≤ h 2 1 → h' 2 1 = 0 ∧ LAC h h' v (pl (Tx (fun k => h 3 k) a) 900 (sk (Tx (fun k => h 3 k) a) 0) (clr (fun j k => h (27 + j) k)))) ∧ (¬ (0 ≤ a ∧ a ≤ h 2 1) → h' = uph h 0 0 1 ∧ v = -1) ∧ FLC h h' := by
  have RA : ∀ {h2 : PH}, 0 ≤ a ∧ a ≤ h 2 1 → CP (zz sl si (7, 0)) mX2_readAll h [(2, 49), (0, a)] h2 [] → RES (Tx (fun k => h 3 k) a) h2 (pl (Tx (fun k => h 3 k) a) 900 (sk (Tx (fun k => h 3 k) a) 0) (clr (fun j k => h (27 + j) k))) ∧ ∀ c k : Nat, ¬ ((c = 2 ∧ 3 ≤ k ∧ k ≤ 11) ∨ (27 ≤ c ∧ c ≤ 42)) → h2 c k = h c k := fun {h2} ok p => by
    obtain ⟨ja, jb, jc, jd⟩ := hJ
    exact c_X2_readAll (T := (Tx (fun k => h 3 k) a)) (L := fun j k => h (27 + j) k) (fun j k _ => rfl) (Tx_ok (by omega) (fun k hk => (jc k hk).2)) (by show a = ((a.toNat : Nat) : Int); omega) (fun k hk => (Tx_at hk).symm) jd p
  have q : (fun (xh : PH) (r : List ZV) => ∀ v : Int, r = [(0, v)] → ((0 ≤ a ∧ a ≤ h 2 1 → xh 2 1 = 0 ∧ LAC h xh v (pl (Tx (fun k => h 3 k) a) 900 (sk (Tx (fun k => h 3 k) a) 0) (clr (fun j k => h (27 + j) k)))) ∧ (¬ (0 ≤ a ∧ a ≤ h 2 1) → xh = uph h 0 0 1 ∧ v = -1) ∧ FLC h xh)) h' [(0, v)] := by
    refine cp_vc (cut := (fun _ => false)) (K := fun p hx lv st => False) (Q := fun (xh : PH) (r : List ZV) => ∀ v : Int, r = [(0, v)] → ((0 ≤ a ∧ a ≤ h 2 1 → xh 2 1 = 0 ∧ LAC h xh v (pl (Tx (fun k => h 3 k) a) 900 (sk (Tx (fun k => h 3 k) a) 0) (clr (fun j k => h (27 + j) k)))) ∧ (¬ (0 ≤ a ∧ a ≤ h 2 1) → xh = uph h 0 0 1 ∧ v = -1) ∧ FLC h xh)) (v_X11_landF ?_) (fun pc hx lv st hcut hK => ?_) hc
    · exact (fun r1 => (fun h1 v1 p1 q1 => by obtain ⟨t1, e1⟩ := c_X11_isWithin p1; have t1 := t1.symm; subst t1; exact ⟨fun c2 => (fun h2 p2 => (fun r3 => ⟨fun c4 => (fun h3 p3 => (fun h4 p4 => by obtain ⟨t4, e4⟩ := c_X7_clear p4; have t4 := t4.symm; subst t4; exact (fun r5 => (fun h5 v5 p5 q5 => by obtain ⟨t5, e5⟩ := c_X11_answer p5; have t5 := t5.symm; subst t5; exact (by intro v e; cases e; have ok := e1.mp (by omega); obtain ⟨d1, d2⟩ := RA ok p2; obtain ⟨f1, f2⟩ := c_X1_copyFrom p3; refine ⟨fun _ => ⟨by rw [up_ne (by omega), up_ne (by omega), up_ne (by omega), up_ne (by omega), f2 2 1 (by omega), up_sm], ?_⟩, fun z => absurd ok z, fun c k q1 q2 q3 q4 q5 q6 => by rw [up_ne (by omega), up_ne (by omega), up_ne (by omega), up_ne (by omega), f2 c k (by omega), up_ne (by omega)]; exact d2 c k (by omega)⟩; generalize (pl (Tx (fun k => h 3 k) a) 900 (sk (Tx (fun k => h 3 k) a) 0) (clr (fun j k => h (27 + j) k))) = r at d1; cases r with | inl q => exact absurd c4 (by have := d1.1; have := d1.2.2; omega) | inr q => (have G : ∀ j k : Nat, inL j k → h3 (5 + j) k = h2 (27 + j) k := (fun j k hi => by have := inL_b hi; have := f1 j k hi; rw [up_ne (by omega)] at this; exact this); exact ⟨by rw [e5, up_ne (by omega), up_ne (by omega), up_ne (by omega), G 0 4 (Or.inl ⟨rfl, Or.inl rfl⟩)]; exact d1.2.2.1 0 4 (by unfold inL; omega) (by omega) (by omega), ⟨by rw [up_ne (by omega), up_ne (by omega), up_ne (by omega), up_ne (by omega), f2 2 10 (by omega), up_ne (by omega)]; exact d1.1, by rw [up_ne (by omega), up_ne (by omega), up_ne (by omega), up_ne (by omega), f2 2 11 (by omega), up_ne (by omega)]; exact d1.2.1⟩, fun j k hi z1 z2 => (by have := inL_b hi; rw [up_ne (by omega), up_ne (by omega), up_ne (by omega), up_ne (by omega), G j k hi]; exact d1.2.2.1 j k hi z1 z2), d1.2.2.2, ⟨by rw [up_ne (by omega), up_ne (by omega), up_ne (by omega), up_sm], by rw [up_ne (by omega), up_ne (by omega), up_sm], by rw [up_ne (by omega), up_sm]⟩, up_sm, fun j k hi => (by have := inL_b hi; rw [up_ne (by omega), up_ne (by omega), up_ne (by omega), up_ne (by omega), G j k hi, up_ne (by omega), up_ne (by omega), up_ne (by omega), up_ne (by omega), f2 (27 + j) k (by omega), up_ne (by omega)])⟩)))))), fun c4 => (fun h6 v6 p6 q6 => by obtain ⟨t6, e6⟩ := c_X11_refuse p6; have t6 := t6.symm; subst t6; exact (by intro v e; cases e; have ok := e1.mp (by omega); obtain ⟨d1, d2⟩ := RA ok p2; refine ⟨fun _ => ⟨by rw [up_ne (by omega), up_sm], ?_⟩, fun z => absurd ok z, fun c k q1 q2 q3 q4 q5 q6 => by rw [up_ne (by omega), up_ne (by omega)]; exact d2 c k (by omega)⟩; generalize (pl (Tx (fun k => h 3 k) a) 900 (sk (Tx (fun k => h 3 k) a) 0) (clr (fun j k => h (27 + j) k))) = r at d1; cases r with | inl q => exact ⟨e6, ⟨by rw [up_ne (by omega), up_ne (by omega)]; exact d1.1, by rw [up_ne (by omega), up_ne (by omega)]; exact d1.2.1, d1.2.2⟩, up_sm, fun c k z1 z2 => by rw [up_ne (by omega), up_ne (by omega)]; exact d2 c k (by omega)⟩ | inr q => exact absurd d1.1 c4))⟩)), fun c2 => (fun h7 v7 p7 q7 => by obtain ⟨t7, e7⟩ := c_X11_refuse p7; have t7 := t7.symm; subst t7; exact (by intro v e; cases e; exact ⟨fun z => by have := e1.mpr z; omega, fun _ => ⟨rfl, e7⟩, fun c k q1 q2 q3 q4 q5 q6 => by rw [up_ne (by omega)]⟩))⟩))
    · exact hK.elim
  exact q v rfl
end
section
/-! 45z.58l.landr -/
theorem RLd.sh {h h' L : PH} (hL : RLd 2112 60 h L) (hW : WL L) (hF : ∀ k : Nat, k < 163 → h' 170 k = h 170 (2112 + k)) (hG : ∀ k : Nat, k < 15 → h' 171 k = h 171 (60 + k)) : RLd 0 0 h' L := by
  obtain ⟨⟨a1, a2, a3, a4⟩, b, c, d, e, f, g⟩ := hL
  have w1 := hW.1
  have w2 := hW.2.1
  have F : ∀ k : Nat, k < 163 → h' 170 (0 + k) = h 170 (2112 + k) := fun k hk => by rw [Nat.zero_add]; exact hF k hk
  refine ⟨⟨(F 0 (by omega)).trans a1, (F 1 (by omega)).trans a2, (F 2 (by omega)).trans a3, (F 3 (by omega)).trans a4⟩, fun i hi => ?_, fun p hp => ?_, fun q hq => ?_, fun p hp => ?_, fun i hi => ?_, fun p hp => ?_⟩
  · obtain ⟨y1, y2, y3⟩ := b i hi
    refine ⟨?_, ?_, ?_⟩
    · rw [show 0 + 6 + 3 * i = 6 + 3 * i by omega, hF _ (by omega), show 2112 + (6 + 3 * i) = 2112 + 6 + 3 * i by omega]; exact y1
    · rw [show 0 + 7 + 3 * i = 7 + 3 * i by omega, hF _ (by omega), show 2112 + (7 + 3 * i) = 2112 + 7 + 3 * i by omega]; exact y2
    · rw [show 0 + 8 + 3 * i = 8 + 3 * i by omega, hF _ (by omega), show 2112 + (8 + 3 * i) = 2112 + 8 + 3 * i by omega]; exact y3
  · obtain ⟨y1, y2, y3, y4⟩ := c p hp
    refine ⟨fun z => ⟨?_, ?_⟩, ?_, ?_, ?_⟩
    · rw [show 0 + 27 + 5 * p = 27 + 5 * p by omega, hF _ (by omega), show 2112 + (27 + 5 * p) = 2112 + 27 + 5 * p by omega]; exact (y1 z).1
    · rw [show 0 + 28 + 5 * p = 28 + 5 * p by omega, hF _ (by omega), show 2112 + (28 + 5 * p) = 2112 + 28 + 5 * p by omega]; exact (y1 z).2
    · rw [show 0 + 29 + 5 * p = 29 + 5 * p by omega, hF _ (by omega), show 2112 + (29 + 5 * p) = 2112 + 29 + 5 * p by omega]; exact y2
    · rw [show 0 + 30 + 5 * p = 30 + 5 * p by omega, hF _ (by omega), show 2112 + (30 + 5 * p) = 2112 + 30 + 5 * p by omega]; exact y3
    · rw [show 0 + 31 + 5 * p = 31 + 5 * p by omega, hF _ (by omega), show 2112 + (31 + 5 * p) = 2112 + 31 + 5 * p by omega]; exact y4
  · rw [show 0 + 67 + q = 67 + q by omega, hF _ (by omega), show 2112 + (67 + q) = 2112 + 67 + q by omega]; exact d q hq
  · obtain ⟨y1, y2⟩ := e p hp
    refine ⟨?_, fun k hk z => ?_⟩
    · rw [show 0 + 131 + 4 * p = 131 + 4 * p by omega, hF _ (by omega), show 2112 + (131 + 4 * p) = 2112 + 131 + 4 * p by omega]; exact y1
    · rw [show 0 + 132 + 4 * p + k = 132 + 4 * p + k by omega, hF _ (by omega), show 2112 + (132 + 4 * p + k) = 2112 + 132 + 4 * p + k by omega]; exact y2 k hk z
  · rw [Nat.zero_add, hG i (by omega)]; exact f i hi
  · rw [show 0 + 7 + p = 7 + p by omega, hG _ (by omega), show 60 + (7 + p) = 60 + 7 + p by omega]; exact g p hp
/-- the land that is there, as it was -/
def KS (h h' : PH) : Prop := (∀ k : Nat, k < 528 → h' 170 k = h 170 k) ∧ ∀ k : Nat, k < 15 → h' 171 k = h 171 k
/-- what land() of the reference leaves -/
def LAR (h h' : PH) (v : Int) (r : PR) : Prop := match r with
  | .inl q => v = -1 ∧ h' 169 16 = q.1 ∧ h' 169 17 = (q.2 : Int) ∧ 0 < q.1 ∧ KS h h'
  | .inr q => v = q.2 0 4 ∧ h' 169 16 = 0 ∧ h' 169 17 = -1 ∧ RLd 0 0 h' q.2 ∧ WL q.2 ∧ h' 170 4 = -1
def FLR (h h' : PH) : Prop := ∀ c k : Nat, ¬ (c = 169 ∧ (k = 2 ∨ (10 ≤ k ∧ k ≤ 19))) → c ≠ 176 → ¬ (c = 170 ∧ k < 528) → ¬ (c = 170 ∧ 2112 ≤ k ∧ k < 2640) → ¬ (c = 171 ∧ k < 15) → ¬ (c = 171 ∧ 60 ≤ k ∧ k < 75) → h' c k = h c k
def JE2 (h : PH) (r : PR) : Prop := (h 169 18 = 0 ∧ h 169 17 = -1 ∧ ∃ q, r = .inr q ∧ RLd 2112 60 h q.2 ∧ WL q.2) ∨ ∃ q, r = .inl q ∧ RF h q.1 q.2
theorem JQ.fin2 {T : TX} {u : Nat} {b : Int} {h : PH} {r : PR} (hJ : JQ T u b h r) (hd : b = 0 ∨ h 169 12 = 0) : JE2 h r := by
  rcases hJ with ⟨hb, s, L, hN, hL, hW, hu, hp⟩ | ⟨hb, q, e, hq⟩
  · rcases JQ.fin (u := u) (Or.inl ⟨hb, s, L, hN, hL, hW, hu, hp⟩) hd with ⟨z, q, w⟩ | ⟨q, z1, z2⟩
    · exact Or.inl ⟨z, hN.2.2, q, w⟩
    · exact absurd z2.1 (by have := hN.2.1; have := z2.2.2; omega)
  · exact Or.inr ⟨q, e, hq⟩
set_option maxRecDepth 10000 in
theorem v_X12_takenF {sl : Nat} {si : Nat → Int} {K : Nat → PH → ZL → List ZV → Prop} {Q : PH → List ZV → Prop} {h : PH} {a : Int} (H : R32 (h 169 18) → R32 (h 169 18) → ((h 169 18) ≤ 0 → ∀ h1 v1, CP (zz sl si (7, 0)) mX12_gives (uph h 169 16 (h 169 18)) [(2, 169), (0, a)] h1 [(0, v1)] → R32 v1 → Q h1 [(0, v1)]) ∧ (¬ ((h 169 18) ≤ 0) → ∀ h2 v2, CP (zz sl si (7, 0)) mX12_refuse (uph h 169 16 (h 169 18)) [(2, 169), (0, 9)] h2 [(0, v2)] → R32 v2 → Q h2 [(0, v2)])) : vc (zz sl si (7, 0)) (fun _ => false) K Q mX12_taken 14 0 mX12_taken.2.2.2.2.2.2 h [(0, (2, 169)), (1, (0, a))] [] := H
set_option maxHeartbeats 600000 in
theorem c_X12_takenF {sl : Nat} {si : Nat → Int} {h h' : PH} {a : Int} {v : Int} (hc : CP (zz sl si (7, 0)) mX12_taken h [(2, 169), (0, a)] h' [(0, v)]) : ((h 169 18 ≤ 0 → v = a ∧ h' 169 2 = 0) ∧ (0 < h 169 18 → v = -1 ∧ h' 169 2 = 9)) ∧ h' 169 16 = h 169 18 ∧ ∀ c k : Nat, ¬ (c = 169 ∧ (k = 2 ∨ k = 16)) → h' c k = h c k := by
  have q : (fun (xh : PH) (r : List ZV) => ∀ v : Int, r = [(0, v)] → (((h 169 18 ≤ 0 → v = a ∧ xh 169 2 = 0) ∧ (0 < h 169 18 → v = -1 ∧ xh 169 2 = 9)) ∧ xh 169 16 = h 169 18 ∧ ∀ c k : Nat, ¬ (c = 169 ∧ (k = 2 ∨ k = 16)) → xh c k = h c k)) h' [(0, v)] := by
    refine cp_vc (cut := (fun _ => false)) (K := fun p hx lv st => False) (Q := fun (xh : PH) (r : List ZV) => ∀ v : Int, r = [(0, v)] → (((h 169 18 ≤ 0 → v = a ∧ xh 169 2 = 0) ∧ (0 < h 169 18 → v = -1 ∧ xh 169 2 = 9)) ∧ xh 169 16 = h 169 18 ∧ ∀ c k : Nat, ¬ (c = 169 ∧ (k = 2 ∨ k = 16)) → xh c k = h c k)) (v_X12_takenF ?_) (fun pc hx lv st hcut hK => ?_) hc
    · exact (fun r1 => (fun r2 => ⟨fun c3 => (fun h1 v1 p1 q1 => by obtain ⟨t1, e1⟩ := c_X12_gives p1; have t1 := t1.symm; subst t1; exact (by intro v e; cases e; exact ⟨⟨fun _ => ⟨e1, up_sm⟩, fun z => by omega⟩, by rw [up_ne (by omega), up_sm], fun c k q => by rw [up_ne (by omega), up_ne (by omega)]⟩)), fun c3 => (fun h2 v2 p2 q2 => by obtain ⟨t2, e2⟩ := c_X12_refuse p2; have t2 := t2.symm; subst t2; exact (by intro v e; cases e; exact ⟨⟨fun z => by omega, fun _ => ⟨e2, up_sm⟩⟩, by rw [up_ne (by omega), up_sm], fun c k q => by rw [up_ne (by omega), up_ne (by omega)]⟩))⟩))
    · exact hK.elim
  exact q v rfl
set_option maxRecDepth 10000 in
theorem v_X12_plainF {sl : Nat} {si : Nat → Int} {K : Nat → PH → ZL → List ZV → Prop} {Q : PH → List ZV → Prop} {h : PH} {a : Int} (H : K 2 h [(2, (0, 0)), (0, (2, 169)), (1, (0, a))] []) : vc (zz sl si (7, 0)) (fun p => Nat.beq p 2) K Q mX12_plain 4 0 mX12_plain.2.2.2.2.2.2 h [(0, (2, 169)), (1, (0, a))] [] := H
set_option maxRecDepth 10000 in
theorem v_X12_plainF_2 {sl : Nat} {si : Nat → Int} {K : Nat → PH → ZL → List ZV → Prop} {Q : PH → List ZV → Prop} {h : PH} {a : Int} {k : Int} (H : ((528 : Int) ≤ k → 0 ≤ w32 (a + 4) ∧ w32 (a + 4) < (3696 : Nat) → Q (uph h 170 (w32 (a + 4)).toNat (-1)) []) ∧ (¬ ((528 : Int) ≤ k) → 0 ≤ w32 (a + k) ∧ w32 (a + k) < (3696 : Nat) → K 2 (uph h 170 (w32 (a + k)).toNat 0) [(2, (0, w32 (k + 1))), (0, (2, 169)), (1, (0, a))] [])) : vc (zz sl si (7, 0)) (fun p => Nat.beq p 2) K Q mX12_plain 14 2 (ax_jmp mX12_plain.2.2.2.2.2.2 2) h [(0, (2, 169)), (1, (0, a)), (2, (0, k))] [] := H
set_option maxHeartbeats 600000 in
theorem c_X12_plainF {sl : Nat} {si : Nat → Int} {h h' : PH} {a : Int} (ha : a = 2112) (hc : CP (zz sl si (7, 0)) mX12_plain h [(2, 169), (0, a)] h' []) : (∀ k : Nat, 2112 ≤ k → k < 2640 → k ≠ 2116 → h' 170 k = 0) ∧ (∀ c k : Nat, ¬ (c = 170 ∧ 2112 ≤ k ∧ k < 2640) → h' c k = h c k) ∧ h' 170 2116 = -1 := by
  have q : (fun (xh : PH) (r : List ZV) => (∀ k : Nat, 2112 ≤ k → k < 2640 → k ≠ 2116 → xh 170 k = 0) ∧ (∀ c k : Nat, ¬ (c = 170 ∧ 2112 ≤ k ∧ k < 2640) → xh c k = h c k) ∧ xh 170 2116 = -1) h' [] := by
    refine cp_vc (cut := (fun p => Nat.beq p 2)) (K := fun p hx lv st => (p = 2 ∧ lK (fun u : Nat => [(0, (2, 169)), (1, (0, a)), (2, (0, (u : Int)))]) (fun u hx => u ≤ 528 ∧ (∀ k : Nat, 2112 ≤ k → k < 2112 + u → hx 170 k = 0) ∧ ∀ c k : Nat, ¬ (c = 170 ∧ 2112 ≤ k ∧ k < 2640) → hx c k = h c k) p hx lv st)) (Q := fun (xh : PH) (r : List ZV) => (∀ k : Nat, 2112 ≤ k → k < 2640 → k ≠ 2116 → xh 170 k = 0) ∧ (∀ c k : Nat, ¬ (c = 170 ∧ 2112 ≤ k ∧ k < 2640) → xh c k = h c k) ∧ xh 170 2116 = -1) (v_X12_plainF ?_) (fun pc hx lv st hcut hK => ?_) hc
    · exact (by exact ⟨rfl, rfl, 0, ⟨by omega, fun k q1 q2 => by omega, fun c k q => rfl⟩, rfl, rfl, rfl, trivial⟩)
    · rcases hK with ⟨rfl, rfl, u, hJ, hs⟩
      · obtain ⟨j1, j2, j3⟩ := hJ
        have ix : ∀ t : Int, 0 ≤ t → t ≤ 528 → (w32 (a + t)).toNat = 2112 + t.toNat := fun t z1 z2 => by rw [w32_id (by omega) (by omega)]; omega
        exact ⟨_, _, hs, v_X12_plainF_2 ⟨fun c1 => (fun b2 => (by have e : u = 528 := (by omega); subst e; rw [ix 4 (by omega) (by omega)]; exact ⟨fun k q1 q2 q3 => by rw [up_ne (by omega)]; exact j2 k q1 (by omega), fun c k q => by rw [up_ne (by omega)]; exact j3 c k q, up_sm⟩)), fun c1 => (fun b3 => (by rw [ix _ (by omega) (by omega), Int.toNat_natCast]; refine ⟨rfl, rfl, u + 1, ⟨by omega, fun k q1 q2 => ?_, fun c k q => by rw [up_ne (by omega)]; exact j3 c k q⟩, rfl, rfl, wv (by omega) (by omega) (by omega), trivial⟩; by_cases z : k = 2112 + u; (rw [z, up_sm]); (rw [up_ne (by omega)]; exact j2 k q1 (by omega))))⟩⟩
  exact q
set_option maxRecDepth 10000 in
theorem v_X12_landF {sl : Nat} {si : Nat → Int} {K : Nat → PH → ZL → List ZV → Prop} {Q : PH → List ZV → Prop} {h : PH} {a : Int}  (H : ∀ h1 v1, CP (zz sl si (7, 0)) mX12_begins h [(2, 169), (0, a), (0, 900)] h1 [(0, v1)] → v1 = 0 ∨ v1 = 1 → (v1 ≠ 0 → ∀ h2, CP (zz sl si (7, 0)) mX12_plain h1 [(2, 169), (0, 2112)] h2 [] → K 26 h2 [(2, (0, 1)), (0, (2, 169)), (1, (0, a))] []) ∧ (¬ (v1 ≠ 0) → ∀ h3 v3, CP (zz sl si (7, 0)) mX12_refuse h1 [(2, 169), (0, 1)] h3 [(0, v3)] → R32 v3 → Q h3 [(0, v3)])) : vc (zz sl si (7, 0)) (fun p => Nat.beq p 26 || Nat.beq p 45 || Nat.beq p 54 || Nat.beq p 85 || Nat.beq p 112) K Q mX12_land 12 0 mX12_land.2.2.2.2.2.2 h [(0, (2, 169)), (1, (0, a))] [] := H
set_option maxRecDepth 10000 in
theorem v_X12_landF_26 {sl : Nat} {si : Nat → Int} {K : Nat → PH → ZL → List ZV → Prop} {Q : PH → List ZV → Prop} {h : PH} {a : Int}  {b : Int} (H : (b = 0 → K 45 h [(0, (2, 169)), (1, (0, a)), (2, (0, b))] []) ∧ (¬ (b = 0) → R32 (h 169 12) → ((h 169 12) = 0 → K 45 h [(0, (2, 169)), (1, (0, a)), (2, (0, b))] []) ∧ (¬ ((h 169 12) = 0) → ∀ h1 v1, CP (zz sl si (7, 0)) mX12_landPart h [(2, 169)] h1 [(0, v1)] → v1 = 0 ∨ v1 = 1 → K 26 h1 [(2, (0, v1)), (0, (2, 169)), (1, (0, a))] []))) : vc (zz sl si (7, 0)) (fun p => Nat.beq p 26 || Nat.beq p 45 || Nat.beq p 54 || Nat.beq p 85 || Nat.beq p 112) K Q mX12_land 11 26 (ax_jmp mX12_land.2.2.2.2.2.2 26) h [(0, (2, 169)), (1, (0, a)), (2, (0, b))] [] := H
set_option maxRecDepth 10000 in
theorem v_X12_landF_45 {sl : Nat} {si : Nat → Int} {K : Nat → PH → ZL → List ZV → Prop} {Q : PH → List ZV → Prop} {h : PH} {a : Int}  (H : R32 (h 169 18) → ((h 169 18) ≠ 0 → K 112 h [(0, (2, 169)), (1, (0, a))] []) ∧ (¬ ((h 169 18) ≠ 0) → K 54 h [(3, (0, 0)), (0, (2, 169)), (1, (0, a))] [])) : vc (zz sl si (7, 0)) (fun p => Nat.beq p 26 || Nat.beq p 45 || Nat.beq p 54 || Nat.beq p 85 || Nat.beq p 112) K Q mX12_land 7 45 (ax_jmp mX12_land.2.2.2.2.2.2 45) h [(0, (2, 169)), (1, (0, a))] [] := H
set_option maxRecDepth 10000 in
theorem v_X12_landF_54 {sl : Nat} {si : Nat → Int} {K : Nat → PH → ZL → List ZV → Prop} {Q : PH → List ZV → Prop} {h : PH} {a : Int}  {k : Int} (H : ((528 : Int) ≤ k → K 85 h [(3, (0, 0)), (0, (2, 169)), (1, (0, a))] []) ∧ (¬ ((528 : Int) ≤ k) → 0 ≤ w32 (2112 + k) ∧ w32 (2112 + k) < (3696 : Nat) → R32 (h 170 (w32 (2112 + k)).toNat) → 0 ≤ k ∧ k < (3696 : Nat) → K 54 (uph h 170 k.toNat (h 170 (w32 (2112 + k)).toNat)) [(3, (0, w32 (k + 1))), (0, (2, 169)), (1, (0, a))] [])) : vc (zz sl si (7, 0)) (fun p => Nat.beq p 26 || Nat.beq p 45 || Nat.beq p 54 || Nat.beq p 85 || Nat.beq p 112) K Q mX12_land 17 54 (ax_jmp mX12_land.2.2.2.2.2.2 54) h [(0, (2, 169)), (1, (0, a)), (3, (0, k))] [] := H
set_option maxRecDepth 10000 in
theorem v_X12_landF_85 {sl : Nat} {si : Nat → Int} {K : Nat → PH → ZL → List ZV → Prop} {Q : PH → List ZV → Prop} {h : PH} {a : Int}  {k : Int} (H : ((15 : Int) ≤ k → K 112 h [(0, (2, 169)), (1, (0, a)), (3, (0, k))] []) ∧ (¬ ((15 : Int) ≤ k) → 0 ≤ w32 (60 + k) ∧ w32 (60 + k) < (90 : Nat) → R64 (h 171 (w32 (60 + k)).toNat) → 0 ≤ k ∧ k < (90 : Nat) → K 85 (uph h 171 k.toNat (h 171 (w32 (60 + k)).toNat)) [(3, (0, w32 (k + 1))), (0, (2, 169)), (1, (0, a))] [])) : vc (zz sl si (7, 0)) (fun p => Nat.beq p 26 || Nat.beq p 45 || Nat.beq p 54 || Nat.beq p 85 || Nat.beq p 112) K Q mX12_land 17 85 (ax_jmp mX12_land.2.2.2.2.2.2 85) h [(0, (2, 169)), (1, (0, a)), (3, (0, k))] [] := H
set_option maxRecDepth 10000 in
theorem v_X12_landF_112 {sl : Nat} {si : Nat → Int} {K : Nat → PH → ZL → List ZV → Prop} {Q : PH → List ZV → Prop} {h : PH} {a : Int}  (H : 0 ≤ (1 : Int) ∧ (1 : Int) < (3696 : Nat) → R32 (h 170 1) → ∀ h1 v1, CP (zz sl si (7, 0)) mX12_taken h [(2, 169), (0, (h 170 1))] h1 [(0, v1)] → R32 v1 → Q h1 [(0, v1)]) : vc (zz sl si (7, 0)) (fun p => Nat.beq p 26 || Nat.beq p 45 || Nat.beq p 54 || Nat.beq p 85 || Nat.beq p 112) K Q mX12_land 9 112 (ax_jmp mX12_land.2.2.2.2.2.2 112) h [(0, (2, 169)), (1, (0, a))] [] := H
set_option maxHeartbeats 600000 in
theorem c_X12_landF {sl : Nat} {si : Nat → Int} {h h' : PH} {a : Int} {L : PH} {v : Int} {B : Nat → Int} {n : Int} (hB : ∀ k : Nat, k < 900 → zand (h 175 k) 255 = B k ∧ 0 ≤ B k ∧ B k ≤ 255) (hl : h 169 10 = n) (hn : 0 ≤ n ∧ n ≤ 900) (hc : CP (zz sl si (7, 0)) mX12_land h [(2, 169), (0, a)] h' [(0, v)]) : ((0 ≤ a ∧ a ≤ n) → h' 169 10 = 0 ∧ LAR h h' v (pl (Tx B a) 900 (sk (Tx B a) 0) (clr L))) ∧ (¬ (0 ≤ a ∧ a ≤ n) → h' = uph h 169 2 1 ∧ v = -1) ∧ FLR h h' := by
  have q : (fun (xh : PH) (r : List ZV) => ∀ v : Int, r = [(0, v)] → (((0 ≤ a ∧ a ≤ n) → xh 169 10 = 0 ∧ LAR h xh v (pl (Tx B a) 900 (sk (Tx B a) 0) (clr L))) ∧ (¬ (0 ≤ a ∧ a ≤ n) → xh = uph h 169 2 1 ∧ v = -1) ∧ FLR h xh)) h' [(0, v)] := by
    refine cp_vc (cut := (fun p => Nat.beq p 26 || Nat.beq p 45 || Nat.beq p 54 || Nat.beq p 85 || Nat.beq p 112)) (K := fun p hx lv st => (p = 26 ∧ lK (fun p : Nat × Int => [(0, (2, 169)), (1, (0, a)), (2, (0, p.2))]) (fun p hx => (0 ≤ a ∧ a ≤ n) ∧ (JQ (Tx B a) p.1 p.2 hx (pl (Tx B a) 900 (sk (Tx B a) 0) (clr L)) ∧ hx 170 2116 = -1 ∧ KS h hx) ∧ hx 169 10 = 0 ∧ FLR h hx) p hx lv st) ∨ (p = 45 ∧ lK (fun p : Unit => [(0, (2, 169)), (1, (0, a))]) (fun p hx => (0 ≤ a ∧ a ≤ n) ∧ (JE2 hx (pl (Tx B a) 900 (sk (Tx B a) 0) (clr L)) ∧ hx 170 2116 = -1 ∧ KS h hx) ∧ hx 169 10 = 0 ∧ FLR h hx) p hx lv st) ∨ (p = 54 ∧ lK (fun u : Nat => [(0, (2, 169)), (1, (0, a)), (3, (0, (u : Int)))]) (fun u hx => (0 ≤ a ∧ a ≤ n) ∧ ((∃ q, (pl (Tx B a) 900 (sk (Tx B a) 0) (clr L)) = .inr q ∧ hx 169 18 = 0 ∧ hx 169 17 = -1 ∧ RLd 2112 60 hx q.2 ∧ WL q.2) ∧ hx 170 2116 = -1 ∧ u ≤ 528 ∧ (∀ k : Nat, k < u → hx 170 k = hx 170 (2112 + k)) ∧ ∀ k : Nat, k < 15 → hx 171 k = h 171 k) ∧ hx 169 10 = 0 ∧ FLR h hx) p hx lv st) ∨ (p = 85 ∧ lK (fun u : Nat => [(0, (2, 169)), (1, (0, a)), (3, (0, (u : Int)))]) (fun u hx => (0 ≤ a ∧ a ≤ n) ∧ ((∃ q, (pl (Tx B a) 900 (sk (Tx B a) 0) (clr L)) = .inr q ∧ hx 169 18 = 0 ∧ hx 169 17 = -1 ∧ RLd 2112 60 hx q.2 ∧ WL q.2) ∧ hx 170 2116 = -1 ∧ u ≤ 15 ∧ (∀ k : Nat, k < 528 → hx 170 k = hx 170 (2112 + k)) ∧ ∀ k : Nat, k < u → hx 171 k = hx 171 (60 + k)) ∧ hx 169 10 = 0 ∧ FLR h hx) p hx lv st) ∨ (p = 112 ∧ lK (fun p : Unit => [(0, (2, 169)), (1, (0, a))]) (fun p hx => (0 ≤ a ∧ a ≤ n) ∧ ((∃ q, (pl (Tx B a) 900 (sk (Tx B a) 0) (clr L)) = .inr q ∧ hx 169 18 = 0 ∧ hx 169 17 = -1 ∧ RLd 0 0 hx q.2 ∧ WL q.2 ∧ hx 170 4 = -1) ∨ ∃ q, (pl (Tx B a) 900 (sk (Tx B a) 0) (clr L)) = .inl q ∧ RF hx q.1 q.2 ∧ KS h hx) ∧ hx 169 10 = 0 ∧ FLR h hx) p hx lv st)) (Q := fun (xh : PH) (r : List ZV) => ∀ v : Int, r = [(0, v)] → (((0 ≤ a ∧ a ≤ n) → xh 169 10 = 0 ∧ LAR h xh v (pl (Tx B a) 900 (sk (Tx B a) 0) (clr L))) ∧ (¬ (0 ≤ a ∧ a ≤ n) → xh = uph h 169 2 1 ∧ v = -1) ∧ FLR h xh)) (v_X12_landF ?_) (fun pc hx lv st hcut hK => ?_) hc
    · exact (fun h1 v1 p1 q1 => ⟨fun c1 => (fun h2 p2 => (by obtain ⟨y1, n1⟩ := c_X12_begins hB hl hn p1; have ok : 0 ≤ a ∧ a ≤ n ∧ a ≤ 900 := (by by_cases z : 0 ≤ a ∧ a ≤ n ∧ a ≤ 900; exact z; exact absurd (n1 z).1 (by omega)); obtain ⟨g1, g2, g3, g4⟩ := y1 ok; obtain ⟨f1, f2, f3⟩ := c_X12_plainF rfl p2; exact Or.inl ⟨rfl, rfl, (0, 1), ⟨⟨ok.1, ok.2.1⟩, ⟨Or.inl ⟨rfl, _, _, g2.kp (fun c k q => f2 c k (by omega)), RLd.nil f1, WL.clr0 L, by omega, rfl⟩, f3, fun k hk => by rw [f2 170 k (by omega)]; exact g4 170 k (by omega) (by omega), fun k hk => by rw [f2 171 k (by omega)]; exact g4 171 k (by omega) (by omega)⟩, by rw [f2 169 10 (by omega)]; exact g3, fun c k y1 y2 y3 y4 y5 y6 => by rw [f2 c k (by omega)]; exact g4 c k (by omega) (by omega)⟩, rfl, rfl, rfl, trivial⟩)), fun c1 => (fun h3 v3 p3 q3 => by obtain ⟨t3, e3⟩ := c_X12_refuse p3; have t3 := t3.symm; subst t3; exact (by intro v e; cases e; obtain ⟨y1, n1⟩ := c_X12_begins hB hl hn p1; have nok : ¬ (0 ≤ a ∧ a ≤ n ∧ a ≤ 900) := (fun z => by have := (y1 z).1; omega); obtain ⟨g1, g2⟩ := n1 nok; subst g2; exact ⟨fun z => by omega, fun _ => ⟨rfl, e3⟩, fun c k y1 y2 y3 y4 y5 y6 => by rw [up_ne (by omega)]⟩))⟩)
    · rcases hK with ⟨rfl, rfl, p, hJ, hs⟩ | ⟨rfl, rfl, p, hJ, hs⟩ | ⟨rfl, rfl, u, hJ, hs⟩ | ⟨rfl, rfl, u, hJ, hs⟩ | ⟨rfl, rfl, p, hJ, hs⟩
      · obtain ⟨j0, ⟨j1, jm, js⟩, j2, j3⟩ := hJ
        exact ⟨_, _, hs, v_X12_landF_26 ⟨fun c1 => (by exact Or.inr (Or.inl ⟨rfl, rfl, (), ⟨j0, ⟨j1.fin2 (Or.inl c1), jm, js⟩, j2, j3⟩, rfl, rfl, trivial⟩)), fun c1 => (fun r2 => ⟨fun c3 => (by exact Or.inr (Or.inl ⟨rfl, rfl, (), ⟨j0, ⟨j1.fin2 (Or.inr c3), jm, js⟩, j2, j3⟩, rfl, rfl, trivial⟩)), fun c3 => (fun h1 v1 p1 q1 => (by rcases j1 with ⟨hb, s, L1, hN, hL1, hW1, hu, hp⟩ | ⟨hb, -⟩; (obtain ⟨d1, d2⟩ := c_X12_landPart hN hL1 hW1 p1; exact Or.inl ⟨rfl, rfl, (p.1 + 1, v1), ⟨j0, ⟨JQ.step hN.1.2.1 hN.1.1.1.1 hu (by rw [← hN.ek]; exact c3) hp d1, by rw [d2 170 2116 (by omega) (by omega) (by omega)]; exact jm, fun k hk => by rw [d2 170 k (by omega) (by omega) (by omega)]; exact js.1 k hk, fun k hk => by rw [d2 171 k (by omega) (by omega) (by omega)]; exact js.2 k hk⟩, by rw [d2 169 10 (by omega) (by omega) (by omega)]; exact j2, fun c k y1 y2 y3 y4 y5 y6 => by rw [d2 c k (by omega) (by omega) (by omega)]; exact j3 c k y1 y2 y3 y4 y5 y6⟩, rfl, rfl, rfl, trivial⟩); exact absurd hb c1))⟩)⟩⟩
      · obtain ⟨j0, ⟨j1, jm, js⟩, j2, j3⟩ := hJ
        exact ⟨_, _, hs, v_X12_landF_45 (fun r1 => ⟨fun c2 => (by rcases j1 with ⟨z, -⟩ | ⟨q, z1, z2⟩; exact absurd z c2; exact Or.inr (Or.inr (Or.inr (Or.inr ⟨rfl, rfl, (), ⟨j0, Or.inr ⟨q, z1, z2, js⟩, j2, j3⟩, rfl, rfl, trivial⟩)))), fun c2 => (by rcases j1 with ⟨z, z9, q, z1, z2, z3⟩ | ⟨q, z1, z2⟩; exact Or.inr (Or.inr (Or.inl ⟨rfl, rfl, 0, ⟨j0, ⟨⟨q, z1, z, z9, z2, z3⟩, jm, by omega, fun k hk => by omega, js.2⟩, j2, j3⟩, rfl, rfl, rfl, trivial⟩)); exact absurd (by have := z2.1; have := z2.2.2; omega) c2)⟩)⟩
      · obtain ⟨j0, ⟨⟨q, z1, z2, z3, z4, z5⟩, jm, ju, jc, jn⟩, j2, j3⟩ := hJ
        have ix : u < 528 → (w32 (2112 + (u : Int))).toNat = 2112 + u := fun z => by rw [w32_id (by omega) (by omega)]; omega
        exact ⟨_, _, hs, v_X12_landF_54 ⟨fun c1 => (by have eu : u = 528 := (by omega); subst eu; exact Or.inr (Or.inr (Or.inr (Or.inl ⟨rfl, rfl, 0, ⟨j0, ⟨⟨q, z1, z2, z3, z4, z5⟩, jm, by omega, jc, fun k hk => by omega⟩, j2, j3⟩, rfl, rfl, rfl, trivial⟩)))), fun c1 => (fun b2 r3 => (fun b4 => (by rw [ix (by omega), Int.toNat_natCast]; refine Or.inr (Or.inr (Or.inl ⟨rfl, rfl, u + 1, ⟨j0, ⟨⟨q, z1, by rw [up_ne (by omega)]; exact z2, by rw [up_ne (by omega)]; exact z3, z4.fr z5 (fun k y1 y2 => by rw [up_ne (by omega)]) (fun k y1 y2 => by rw [up_ne (by omega)]), z5⟩, by rw [up_ne (by omega)]; exact jm, by omega, fun k hk => ?_, fun k hk => by rw [up_ne (by omega)]; exact jn k hk⟩, by rw [up_ne (by omega)]; exact j2, (fun c k y1 y2 y3 y4 y5 y6 => by rw [up_ne (by omega)]; exact j3 c k y1 y2 y3 y4 y5 y6)⟩, rfl, rfl, wv (by omega) (by omega) (by omega), trivial⟩)); by_cases t : k = u; (rw [t, up_sm, up_ne (by omega)]); (rw [up_ne (by omega), up_ne (by omega)]; exact jc k (by omega)))))⟩⟩
      · obtain ⟨j0, ⟨⟨q, z1, z2, z3, z4, z5⟩, jm, ju, jc, jn⟩, j2, j3⟩ := hJ
        have ix : u < 15 → (w32 (60 + (u : Int))).toNat = 60 + u := fun z => by rw [w32_id (by omega) (by omega)]; omega
        exact ⟨_, _, hs, v_X12_landF_85 ⟨fun c1 => (by have eu : u = 15 := (by omega); subst eu; exact Or.inr (Or.inr (Or.inr (Or.inr ⟨rfl, rfl, (), ⟨j0, Or.inl ⟨q, z1, z2, z3, z4.sh z5 (fun k hk => jc k (by omega)) jn, z5, (jc 4 (by omega)).trans jm⟩, j2, j3⟩, rfl, rfl, trivial⟩)))), fun c1 => (fun b2 r3 => (fun b4 => (by rw [ix (by omega), Int.toNat_natCast]; refine Or.inr (Or.inr (Or.inr (Or.inl ⟨rfl, rfl, u + 1, ⟨j0, ⟨⟨q, z1, by rw [up_ne (by omega)]; exact z2, by rw [up_ne (by omega)]; exact z3, z4.fr z5 (fun k y1 y2 => by rw [up_ne (by omega)]) (fun k y1 y2 => by rw [up_ne (by omega)]), z5⟩, by rw [up_ne (by omega)]; exact jm, by omega, fun k hk => by rw [up_ne (by omega), up_ne (by omega)]; exact jc k hk, fun k hk => ?_⟩, by rw [up_ne (by omega)]; exact j2, (fun c k y1 y2 y3 y4 y5 y6 => by rw [up_ne (by omega)]; exact j3 c k y1 y2 y3 y4 y5 y6)⟩, rfl, rfl, wv (by omega) (by omega) (by omega), trivial⟩))); by_cases t : k = u; (rw [t, up_sm, up_ne (by omega)]); (rw [up_ne (by omega), up_ne (by omega)]; exact jn k (by omega)))))⟩⟩
      · obtain ⟨j0, j1, j2, j3⟩ := hJ
        exact ⟨_, _, hs, v_X12_landF_112 (fun b1 r2 => (fun h1 v1 p1 q1 => (by intro v e; cases e; obtain ⟨⟨d1, d2⟩, d4, d3⟩ := c_X12_takenF p1; refine ⟨fun _ => ⟨by rw [d3 169 10 (by omega)]; exact j2, ?_⟩, fun z => absurd j0 z, fun c k y1 y2 y3 y4 y5 y6 => by rw [d3 c k (by omega)]; exact j3 c k y1 y2 y3 y4 y5 y6⟩; rcases j1 with ⟨q, z1, z2, z3, z4, z5, z6⟩ | ⟨q, z1, z2, z3⟩; (rw [z1]; exact ⟨((d1 (by omega)).1).trans z4.1.2.1, d4.trans z2, by rw [d3 169 17 (by omega)]; exact z3, z4.fr z5 (fun k y1 y2 => d3 170 k (by omega)) (fun k y1 y2 => d3 171 k (by omega)), z5, by rw [d3 170 4 (by omega)]; exact z6⟩); (rw [z1]; exact ⟨(d2 (by have := z2.1; have := z2.2.2; omega)).1, d4.trans z2.1, by rw [d3 169 17 (by omega)]; exact z2.2.1, z2.2.2, fun k hk => by rw [d3 170 k (by omega)]; exact z3.1 k hk, fun k hk => by rw [d3 171 k (by omega)]; exact z3.2 k hk⟩))))⟩
  exact q v rfl
end
