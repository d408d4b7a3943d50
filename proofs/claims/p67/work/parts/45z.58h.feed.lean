/-! THE TAPE: bytes of both sides; land of both sides -/
theorem bp_b (x : Int32) : x.toInt8.toInt32 &&& 255 = x &&& 255 := by
  apply Int32.toBitVec_inj.mp
  rw [Int32.toBitVec_and, Int32.toBitVec_and, Int8.toBitVec_toInt32, Int32.toBitVec_toInt8]
  apply BitVec.eq_of_getLsbD_eq
  intro i hi
  rw [BitVec.getLsbD_and, BitVec.getLsbD_and]
  have hm : ∀ i < 32, 8 ≤ i → (255 : Int32).toBitVec.getLsbD i = false := by decide
  rcases Nat.lt_or_ge i 8 with z | z
  · rw [BitVec.getLsbD_signExtend, BitVec.getLsbD_signExtend, if_pos z, if_pos hi]
    simp only [z, hi, decide_true, Bool.true_and]
  · rw [hm i hi z]; simp
theorem zb_255 (a : Int) : zand (zi2b a) 255 = zand a 255 := by
  unfold zand zi2b
  rw [Int32.ofInt_toInt]
  exact congrArg Int32.toInt (bp_b (Int32.ofInt a))
theorem za_255 (a : Int) : 0 ≤ zand a 255 ∧ zand a 255 ≤ 255 := by
  unfold zand
  have e := Kit.i32_mask (Int32.ofInt a) (Int32.ofInt 255) (k := 8) (by omega) (by decide +kernel)
  rw [e]
  omega
theorem zb_0 : zand 0 255 = 0 := by decide +kernel
/-- between calls: the tapes of both sides -/
def J10 (h : PH) : Prop := h 2 1 = h 169 10 ∧ (0 ≤ h 2 1 ∧ h 2 1 ≤ 900) ∧ (∀ k : Nat, k < 900 → zand (h 175 k) 255 = h 3 k ∧ 0 ≤ h 3 k ∧ h 3 k ≤ 255) ∧ ∀ k : Nat, k < 24 → h 4 k = kwt.getD k 0
def F10 : List (Nat × Int × Int) := [(2, 1, 1), (3, 0, 899), (4, 0, 23), (169, 10, 10), (175, 0, 899)]
theorem J10_frm {h h' : PH} (hJ : J10 h) (hF : Frm F10 h h') : J10 h' := by
  obtain ⟨a, b, c, d⟩ := hJ
  have f1 : h' 2 1 = h 2 1 := hF (2, 1, 1) (by decide) 1 (by decide) (by decide)
  have f2 : h' 169 10 = h 169 10 := hF (169, 10, 10) (by decide) 10 (by decide) (by decide)
  have f3 : ∀ k : Nat, k < 900 → h' 3 k = h 3 k := fun k hk => hF (3, 0, 899) (by decide) k (by show (0 : Int) ≤ _; omega) (by show _ ≤ (899 : Int); omega)
  have f4 : ∀ k : Nat, k < 24 → h' 4 k = h 4 k := fun k hk => hF (4, 0, 23) (by decide) k (by show (0 : Int) ≤ _; omega) (by show _ ≤ (23 : Int); omega)
  have f5 : ∀ k : Nat, k < 900 → h' 175 k = h 175 k := fun k hk => hF (175, 0, 899) (by decide) k (by show (0 : Int) ≤ _; omega) (by show _ ≤ (899 : Int); omega)
  exact ⟨by rw [f1, f2]; exact a, by rw [f1]; exact b, fun k hk => by rw [f5 k hk, f3 k hk]; exact c k hk, fun k hk => by rw [f4 k hk]; exact d k hk⟩
set_option maxRecDepth 10000 in
theorem v_X9_put {sl : Nat} {si : Nat → Int} {K : Nat → PH → ZL → List ZV → Prop} {Q : PH → List ZV → Prop} {h : PH} {a : Int}  (H : K 3 h [(2, (0, 24)), (0, (2, 2)), (1, (0, a))] []) : vc (zz sl si (7, 0)) (fun p => Nat.beq p 3) K Q mX9_put 4 0 mX9_put.2.2.2.2.2.2 h [(0, (2, 2)), (1, (0, a))] [] := H
set_option maxRecDepth 10000 in
theorem v_X9_put_3 {sl : Nat} {si : Nat → Int} {K : Nat → PH → ZL → List ZV → Prop} {Q : PH → List ZV → Prop} {h : PH} {a : Int}  {k : Int} (H : (k < 0 → Q h []) ∧ (¬ (k < 0) → R32 (h 2 1) → ((900 : Int) ≤ (h 2 1) → Q h []) ∧ (¬ ((900 : Int) ≤ (h 2 1)) → R32 (h 2 1) → 0 ≤ (h 2 1) ∧ (h 2 1) < (900 : Nat) → R32 (h 2 1) → K 3 (uph (uph h 3 (h 2 1).toNat (zand (zshr a k) 255)) 2 1 (w32 ((h 2 1) + 1))) [(2, (0, w32 (k + (-8)))), (0, (2, 2)), (1, (0, a))] []))) : vc (zz sl si (7, 0)) (fun p => Nat.beq p 3) K Q mX9_put 26 3 (ax_jmp mX9_put.2.2.2.2.2.2 3) h [(0, (2, 2)), (1, (0, a)), (2, (0, k))] [] := H
set_option maxHeartbeats 600000 in
theorem c_X9_put {sl : Nat} {si : Nat → Int} {h h' : PH} {a : Int} {l : Nat} (hl : h 2 1 = (l : Int)) (h8 : l ≤ 896) (hc : CP (zz sl si (7, 0)) mX9_put h [(2, 2), (0, a)] h' []) : h' 2 1 = (l : Int) + 4 ∧ (∀ i : Nat, i < 4 → h' 3 (l + i) = (zand (zshr a ((24 : Int) - 8 * i)) 255)) ∧ ∀ c k : Nat, ¬ (c = 2 ∧ k = 1) → ¬ (c = 3 ∧ l ≤ k ∧ k < l + 4) → h' c k = h c k := by
  have q : (fun (xh : PH) (r : List ZV) => xh 2 1 = (l : Int) + 4 ∧ (∀ i : Nat, i < 4 → xh 3 (l + i) = (zand (zshr a ((24 : Int) - 8 * i)) 255)) ∧ ∀ c k : Nat, ¬ (c = 2 ∧ k = 1) → ¬ (c = 3 ∧ l ≤ k ∧ k < l + 4) → xh c k = h c k) h' [] := by
    refine cp_vc (cut := (fun p => Nat.beq p 3)) (K := fun p hx lv st => (p = 3 ∧ lK (fun u : Nat => [(0, (2, 2)), (1, (0, a)), (2, (0, 24 - 8 * (u : Int)))]) (fun u hx => u ≤ 4 ∧ hx 2 1 = (l : Int) + u ∧ (∀ i : Nat, i < u → hx 3 (l + i) = (zand (zshr a ((24 : Int) - 8 * i)) 255)) ∧ ∀ c k : Nat, ¬ (c = 2 ∧ k = 1) → ¬ (c = 3 ∧ l ≤ k ∧ k < l + 4) → hx c k = h c k) p hx lv st)) (Q := fun (xh : PH) (r : List ZV) => xh 2 1 = (l : Int) + 4 ∧ (∀ i : Nat, i < 4 → xh 3 (l + i) = (zand (zshr a ((24 : Int) - 8 * i)) 255)) ∧ ∀ c k : Nat, ¬ (c = 2 ∧ k = 1) → ¬ (c = 3 ∧ l ≤ k ∧ k < l + 4) → xh c k = h c k) (v_X9_put ?_) (fun pc hx lv st hcut hK => ?_) hc
    · exact (by exact ⟨rfl, rfl, 0, ⟨by omega, by rw [hl]; rfl, fun i q => by omega, fun c k q1 q2 => rfl⟩, rfl, rfl, rfl, trivial⟩)
    · rcases hK with ⟨rfl, rfl, u, hJ, hs⟩
      · obtain ⟨j1, j2, j3, j4⟩ := hJ
        exact ⟨_, _, hs, v_X9_put_3 ⟨fun c1 => (by have e : u = 4 := (by omega); subst e; exact ⟨j2, j3, j4⟩), fun c1 => (fun r2 => ⟨fun c3 => (by exfalso; omega), fun c3 => (fun r4 => (fun b5 => (fun r6 => (by have i1 : (hx 2 1).toNat = l + u := (by omega); rw [i1, j2]; refine ⟨rfl, rfl, u + 1, ⟨by omega, ?_, fun i hi => ?_, fun c k q1 q2 => by rw [up_ne (by omega), up_ne (by omega)]; exact j4 c k q1 q2⟩, rfl, rfl, wv (by omega) (by omega) (by omega), trivial⟩; (rw [up_sm, w32_id (by omega) (by omega)]; omega); by_cases z : i = u; (rw [z, up_ne (by omega), up_sm]); (rw [up_ne (by omega), up_ne (by omega)]; exact j3 i (by omega))))))⟩)⟩⟩
  exact q
set_option maxRecDepth 10000 in
theorem v_X12_four {sl : Nat} {si : Nat → Int} {K : Nat → PH → ZL → List ZV → Prop} {Q : PH → List ZV → Prop} {h : PH} {a : Int}  (H : K 3 h [(2, (0, 24)), (0, (2, 169)), (1, (0, a))] []) : vc (zz sl si (7, 0)) (fun p => Nat.beq p 3) K Q mX12_four 4 0 mX12_four.2.2.2.2.2.2 h [(0, (2, 169)), (1, (0, a))] [] := H
set_option maxRecDepth 10000 in
theorem v_X12_four_3 {sl : Nat} {si : Nat → Int} {K : Nat → PH → ZL → List ZV → Prop} {Q : PH → List ZV → Prop} {h : PH} {a : Int}  {k : Int} (H : (k < 0 → Q h []) ∧ (¬ (k < 0) → R32 (h 169 10) → 0 ≤ (h 169 10) ∧ (h 169 10) < (900 : Nat) → R32 (h 169 10) → K 3 (uph (uph h 175 (h 169 10).toNat (zi2b (zshr a k))) 169 10 (w32 ((h 169 10) + 1))) [(2, (0, w32 (k + (-8)))), (0, (2, 169)), (1, (0, a))] [])) : vc (zz sl si (7, 0)) (fun p => Nat.beq p 3) K Q mX12_four 21 3 (ax_jmp mX12_four.2.2.2.2.2.2 3) h [(0, (2, 169)), (1, (0, a)), (2, (0, k))] [] := H
set_option maxHeartbeats 600000 in
theorem c_X12_four {sl : Nat} {si : Nat → Int} {h h' : PH} {a : Int} {l : Nat} (hl : h 169 10 = (l : Int)) (h8 : l ≤ 896) (hc : CP (zz sl si (7, 0)) mX12_four h [(2, 169), (0, a)] h' []) : h' 169 10 = (l : Int) + 4 ∧ (∀ i : Nat, i < 4 → h' 175 (l + i) = (zi2b (zshr a ((24 : Int) - 8 * i)))) ∧ ∀ c k : Nat, ¬ (c = 169 ∧ k = 10) → ¬ (c = 175 ∧ l ≤ k ∧ k < l + 4) → h' c k = h c k := by
  have q : (fun (xh : PH) (r : List ZV) => xh 169 10 = (l : Int) + 4 ∧ (∀ i : Nat, i < 4 → xh 175 (l + i) = (zi2b (zshr a ((24 : Int) - 8 * i)))) ∧ ∀ c k : Nat, ¬ (c = 169 ∧ k = 10) → ¬ (c = 175 ∧ l ≤ k ∧ k < l + 4) → xh c k = h c k) h' [] := by
    refine cp_vc (cut := (fun p => Nat.beq p 3)) (K := fun p hx lv st => (p = 3 ∧ lK (fun u : Nat => [(0, (2, 169)), (1, (0, a)), (2, (0, 24 - 8 * (u : Int)))]) (fun u hx => u ≤ 4 ∧ hx 169 10 = (l : Int) + u ∧ (∀ i : Nat, i < u → hx 175 (l + i) = (zi2b (zshr a ((24 : Int) - 8 * i)))) ∧ ∀ c k : Nat, ¬ (c = 169 ∧ k = 10) → ¬ (c = 175 ∧ l ≤ k ∧ k < l + 4) → hx c k = h c k) p hx lv st)) (Q := fun (xh : PH) (r : List ZV) => xh 169 10 = (l : Int) + 4 ∧ (∀ i : Nat, i < 4 → xh 175 (l + i) = (zi2b (zshr a ((24 : Int) - 8 * i)))) ∧ ∀ c k : Nat, ¬ (c = 169 ∧ k = 10) → ¬ (c = 175 ∧ l ≤ k ∧ k < l + 4) → xh c k = h c k) (v_X12_four ?_) (fun pc hx lv st hcut hK => ?_) hc
    · exact (by exact ⟨rfl, rfl, 0, ⟨by omega, by rw [hl]; rfl, fun i q => by omega, fun c k q1 q2 => rfl⟩, rfl, rfl, rfl, trivial⟩)
    · rcases hK with ⟨rfl, rfl, u, hJ, hs⟩
      · obtain ⟨j1, j2, j3, j4⟩ := hJ
        exact ⟨_, _, hs, v_X12_four_3 ⟨fun c1 => (by have e : u = 4 := (by omega); subst e; exact ⟨j2, j3, j4⟩), fun c1 => (fun r2 => (fun b3 => (fun r4 => (by have i1 : (hx 169 10).toNat = l + u := (by omega); rw [i1, j2]; refine ⟨rfl, rfl, u + 1, ⟨by omega, ?_, fun i hi => ?_, fun c k q1 q2 => by rw [up_ne (by omega), up_ne (by omega)]; exact j4 c k q1 q2⟩, rfl, rfl, wv (by omega) (by omega) (by omega), trivial⟩; (rw [up_sm, w32_id (by omega) (by omega)]; omega); by_cases z : i = u; (rw [z, up_ne (by omega), up_sm]); (rw [up_ne (by omega), up_ne (by omega)]; exact j3 i (by omega))))))⟩⟩
  exact q
set_option maxRecDepth 10000 in
theorem v_X11_feed {sl : Nat} {si : Nat → Int} {K : Nat → PH → ZL → List ZV → Prop} {Q : PH → List ZV → Prop} {h : PH} {a b c d e : Int}  (H : R32 (h 2 1) → ((w32 ((h 2 1) + 20)) ≤ 900 → ∀ h1, CP (zz sl si (7, 0)) mX9_put h [(2, 2), (0, a)] h1 [] → ∀ h2, CP (zz sl si (7, 0)) mX9_put h1 [(2, 2), (0, b)] h2 [] → ∀ h3, CP (zz sl si (7, 0)) mX9_put h2 [(2, 2), (0, c)] h3 [] → ∀ h4, CP (zz sl si (7, 0)) mX9_put h3 [(2, 2), (0, d)] h4 [] → ∀ h5, CP (zz sl si (7, 0)) mX9_put h4 [(2, 2), (0, e)] h5 [] → R32 (h5 2 1) → Q h5 [(0, (h5 2 1))]) ∧ (¬ ((w32 ((h 2 1) + 20)) ≤ 900) → Q h [(0, (-1))])) : vc (zz sl si (7, 0)) (fun _ => false) K Q mX11_feed 33 0 mX11_feed.2.2.2.2.2.2 h [(0, (2, 0)), (1, (0, a)), (2, (0, b)), (3, (0, c)), (4, (0, d)), (5, (0, e))] [] := H
set_option maxHeartbeats 600000 in
theorem c_X11_feed {sl : Nat} {si : Nat → Int} {h h' : PH} {a b c d e : Int} {l : Nat} {v : Int} (hl : h 2 1 = (l : Int)) (h9 : l ≤ 900) (hc : CP (zz sl si (7, 0)) mX11_feed h [(2, 0), (0, a), (0, b), (0, c), (0, d), (0, e)] h' [(0, v)]) : (l ≤ 880 → v = (l : Int) + 20 ∧ h' 2 1 = (l : Int) + 20 ∧ (∀ i : Nat, i < 4 → h' 3 (l + i) = (zand (zshr a ((24 : Int) - 8 * i)) 255) ∧ h' 3 (l + 4 + i) = (zand (zshr b ((24 : Int) - 8 * i)) 255) ∧ h' 3 (l + 8 + i) = (zand (zshr c ((24 : Int) - 8 * i)) 255) ∧ h' 3 (l + 12 + i) = (zand (zshr d ((24 : Int) - 8 * i)) 255) ∧ h' 3 (l + 16 + i) = (zand (zshr e ((24 : Int) - 8 * i)) 255)) ∧ ∀ c k : Nat, ¬ (c = 2 ∧ k = 1) → ¬ (c = 3 ∧ l ≤ k ∧ k < l + 20) → h' c k = h c k) ∧ (880 < l → v = -1 ∧ h' = h) := by
  have q : (fun (xh : PH) (r : List ZV) => ∀ v : Int, r = [(0, v)] → ((l ≤ 880 → v = (l : Int) + 20 ∧ xh 2 1 = (l : Int) + 20 ∧ (∀ i : Nat, i < 4 → xh 3 (l + i) = (zand (zshr a ((24 : Int) - 8 * i)) 255) ∧ xh 3 (l + 4 + i) = (zand (zshr b ((24 : Int) - 8 * i)) 255) ∧ xh 3 (l + 8 + i) = (zand (zshr c ((24 : Int) - 8 * i)) 255) ∧ xh 3 (l + 12 + i) = (zand (zshr d ((24 : Int) - 8 * i)) 255) ∧ xh 3 (l + 16 + i) = (zand (zshr e ((24 : Int) - 8 * i)) 255)) ∧ ∀ c k : Nat, ¬ (c = 2 ∧ k = 1) → ¬ (c = 3 ∧ l ≤ k ∧ k < l + 20) → xh c k = h c k) ∧ (880 < l → v = -1 ∧ xh = h))) h' [(0, v)] := by
    refine cp_vc (cut := (fun _ => false)) (K := fun p hx lv st => False) (Q := fun (xh : PH) (r : List ZV) => ∀ v : Int, r = [(0, v)] → ((l ≤ 880 → v = (l : Int) + 20 ∧ xh 2 1 = (l : Int) + 20 ∧ (∀ i : Nat, i < 4 → xh 3 (l + i) = (zand (zshr a ((24 : Int) - 8 * i)) 255) ∧ xh 3 (l + 4 + i) = (zand (zshr b ((24 : Int) - 8 * i)) 255) ∧ xh 3 (l + 8 + i) = (zand (zshr c ((24 : Int) - 8 * i)) 255) ∧ xh 3 (l + 12 + i) = (zand (zshr d ((24 : Int) - 8 * i)) 255) ∧ xh 3 (l + 16 + i) = (zand (zshr e ((24 : Int) - 8 * i)) 255)) ∧ ∀ c k : Nat, ¬ (c = 2 ∧ k = 1) → ¬ (c = 3 ∧ l ≤ k ∧ k < l + 20) → xh c k = h c k) ∧ (880 < l → v = -1 ∧ xh = h))) (v_X11_feed ?_) (fun pc hx lv st hcut hK => ?_) hc
    · exact (fun r1 => ⟨fun c2 => (fun h1 p1 => (fun h2 p2 => (fun h3 p3 => (fun h4 p4 => (fun h5 p5 => (fun r3 => (by intro v e; cases e; rw [hl, w32_id (by omega) (by omega)] at c2; obtain ⟨a1, a2, a3⟩ := c_X9_put (l := l) hl (by omega) p1; obtain ⟨b1, b2, b3⟩ := c_X9_put (l := l + 4) (by omega) (by omega) p2; obtain ⟨d1, d2, d3⟩ := c_X9_put (l := l + 8) (by omega) (by omega) p3; obtain ⟨g1, g2, g3⟩ := c_X9_put (l := l + 12) (by omega) (by omega) p4; obtain ⟨k1, k2, k3⟩ := c_X9_put (l := l + 16) (by omega) (by omega) p5; refine ⟨fun _ => ⟨by omega, by omega, fun i hi => ⟨?_, ?_, ?_, ?_, k2 i hi⟩, fun c k q1 q2 => by rw [k3 c k q1 (by omega), g3 c k q1 (by omega), d3 c k q1 (by omega), b3 c k q1 (by omega), a3 c k q1 (by omega)]⟩, fun z => by omega⟩; (rw [k3 _ _ (by omega) (by omega), g3 _ _ (by omega) (by omega), d3 _ _ (by omega) (by omega), b3 _ _ (by omega) (by omega)]; exact a2 i hi); (rw [k3 _ _ (by omega) (by omega), g3 _ _ (by omega) (by omega), d3 _ _ (by omega) (by omega)]; exact b2 i hi); (rw [k3 _ _ (by omega) (by omega), g3 _ _ (by omega) (by omega)]; exact d2 i hi); (rw [k3 _ _ (by omega) (by omega)]; exact g2 i hi)))))))), fun c2 => (by intro v e; cases e; rw [hl, w32_id (by omega) (by omega)] at c2; exact ⟨fun z => by omega, fun _ => ⟨rfl, rfl⟩⟩)⟩)
    · exact hK.elim
  exact q v rfl
set_option maxRecDepth 10000 in
theorem v_X12_feed {sl : Nat} {si : Nat → Int} {K : Nat → PH → ZL → List ZV → Prop} {Q : PH → List ZV → Prop} {h : PH} {a b c d e : Int}  (H : R32 (h 169 10) → ((w32 ((h 169 10) + 20)) ≤ 900 → ∀ h1, CP (zz sl si (7, 0)) mX12_four h [(2, 169), (0, a)] h1 [] → ∀ h2, CP (zz sl si (7, 0)) mX12_four h1 [(2, 169), (0, b)] h2 [] → ∀ h3, CP (zz sl si (7, 0)) mX12_four h2 [(2, 169), (0, c)] h3 [] → ∀ h4, CP (zz sl si (7, 0)) mX12_four h3 [(2, 169), (0, d)] h4 [] → ∀ h5, CP (zz sl si (7, 0)) mX12_four h4 [(2, 169), (0, e)] h5 [] → R32 (h5 169 10) → Q h5 [(0, (h5 169 10))]) ∧ (¬ ((w32 ((h 169 10) + 20)) ≤ 900) → Q h [(0, (-1))])) : vc (zz sl si (7, 0)) (fun _ => false) K Q mX12_feed 26 0 mX12_feed.2.2.2.2.2.2 h [(0, (2, 169)), (1, (0, a)), (2, (0, b)), (3, (0, c)), (4, (0, d)), (5, (0, e))] [] := H
set_option maxHeartbeats 600000 in
theorem c_X12_feed {sl : Nat} {si : Nat → Int} {h h' : PH} {a b c d e : Int} {l : Nat} {v : Int} (hl : h 169 10 = (l : Int)) (h9 : l ≤ 900) (hc : CP (zz sl si (7, 0)) mX12_feed h [(2, 169), (0, a), (0, b), (0, c), (0, d), (0, e)] h' [(0, v)]) : (l ≤ 880 → v = (l : Int) + 20 ∧ h' 169 10 = (l : Int) + 20 ∧ (∀ i : Nat, i < 4 → h' 175 (l + i) = (zi2b (zshr a ((24 : Int) - 8 * i))) ∧ h' 175 (l + 4 + i) = (zi2b (zshr b ((24 : Int) - 8 * i))) ∧ h' 175 (l + 8 + i) = (zi2b (zshr c ((24 : Int) - 8 * i))) ∧ h' 175 (l + 12 + i) = (zi2b (zshr d ((24 : Int) - 8 * i))) ∧ h' 175 (l + 16 + i) = (zi2b (zshr e ((24 : Int) - 8 * i)))) ∧ ∀ c k : Nat, ¬ (c = 169 ∧ k = 10) → ¬ (c = 175 ∧ l ≤ k ∧ k < l + 20) → h' c k = h c k) ∧ (880 < l → v = -1 ∧ h' = h) := by
  have q : (fun (xh : PH) (r : List ZV) => ∀ v : Int, r = [(0, v)] → ((l ≤ 880 → v = (l : Int) + 20 ∧ xh 169 10 = (l : Int) + 20 ∧ (∀ i : Nat, i < 4 → xh 175 (l + i) = (zi2b (zshr a ((24 : Int) - 8 * i))) ∧ xh 175 (l + 4 + i) = (zi2b (zshr b ((24 : Int) - 8 * i))) ∧ xh 175 (l + 8 + i) = (zi2b (zshr c ((24 : Int) - 8 * i))) ∧ xh 175 (l + 12 + i) = (zi2b (zshr d ((24 : Int) - 8 * i))) ∧ xh 175 (l + 16 + i) = (zi2b (zshr e ((24 : Int) - 8 * i)))) ∧ ∀ c k : Nat, ¬ (c = 169 ∧ k = 10) → ¬ (c = 175 ∧ l ≤ k ∧ k < l + 20) → xh c k = h c k) ∧ (880 < l → v = -1 ∧ xh = h))) h' [(0, v)] := by
    refine cp_vc (cut := (fun _ => false)) (K := fun p hx lv st => False) (Q := fun (xh : PH) (r : List ZV) => ∀ v : Int, r = [(0, v)] → ((l ≤ 880 → v = (l : Int) + 20 ∧ xh 169 10 = (l : Int) + 20 ∧ (∀ i : Nat, i < 4 → xh 175 (l + i) = (zi2b (zshr a ((24 : Int) - 8 * i))) ∧ xh 175 (l + 4 + i) = (zi2b (zshr b ((24 : Int) - 8 * i))) ∧ xh 175 (l + 8 + i) = (zi2b (zshr c ((24 : Int) - 8 * i))) ∧ xh 175 (l + 12 + i) = (zi2b (zshr d ((24 : Int) - 8 * i))) ∧ xh 175 (l + 16 + i) = (zi2b (zshr e ((24 : Int) - 8 * i)))) ∧ ∀ c k : Nat, ¬ (c = 169 ∧ k = 10) → ¬ (c = 175 ∧ l ≤ k ∧ k < l + 20) → xh c k = h c k) ∧ (880 < l → v = -1 ∧ xh = h))) (v_X12_feed ?_) (fun pc hx lv st hcut hK => ?_) hc
    · exact (fun r1 => ⟨fun c2 => (fun h1 p1 => (fun h2 p2 => (fun h3 p3 => (fun h4 p4 => (fun h5 p5 => (fun r3 => (by intro v e; cases e; rw [hl, w32_id (by omega) (by omega)] at c2; obtain ⟨a1, a2, a3⟩ := c_X12_four (l := l) hl (by omega) p1; obtain ⟨b1, b2, b3⟩ := c_X12_four (l := l + 4) (by omega) (by omega) p2; obtain ⟨d1, d2, d3⟩ := c_X12_four (l := l + 8) (by omega) (by omega) p3; obtain ⟨g1, g2, g3⟩ := c_X12_four (l := l + 12) (by omega) (by omega) p4; obtain ⟨k1, k2, k3⟩ := c_X12_four (l := l + 16) (by omega) (by omega) p5; refine ⟨fun _ => ⟨by omega, by omega, fun i hi => ⟨?_, ?_, ?_, ?_, k2 i hi⟩, fun c k q1 q2 => by rw [k3 c k q1 (by omega), g3 c k q1 (by omega), d3 c k q1 (by omega), b3 c k q1 (by omega), a3 c k q1 (by omega)]⟩, fun z => by omega⟩; (rw [k3 _ _ (by omega) (by omega), g3 _ _ (by omega) (by omega), d3 _ _ (by omega) (by omega), b3 _ _ (by omega) (by omega)]; exact a2 i hi); (rw [k3 _ _ (by omega) (by omega), g3 _ _ (by omega) (by omega), d3 _ _ (by omega) (by omega)]; exact b2 i hi); (rw [k3 _ _ (by omega) (by omega), g3 _ _ (by omega) (by omega)]; exact d2 i hi); (rw [k3 _ _ (by omega) (by omega)]; exact g2 i hi)))))))), fun c2 => (by intro v e; cases e; rw [hl, w32_id (by omega) (by omega)] at c2; exact ⟨fun z => by omega, fun _ => ⟨rfl, rfl⟩⟩)⟩)
    · exact hK.elim
  exact q v rfl
section PR
variable {sl : Nat} {si : Nat → Int} {h h1 h2 : PH} {a b c d e x v w : Int}
theorem pr_feed (hJ : J10 h) (p1 : CP (zz sl si (7, 0)) mX11_feed h [(2, 0), (0, a), (0, b), (0, c), (0, d), (0, e)] h1 [(0, v)]) (p2 : CP (zz sl si (7, 0)) mX12_feed h1 [(2, 169), (0, a), (0, b), (0, c), (0, d), (0, e)] h2 [(0, w)]) : J10 h2 ∧ v = w := by
  obtain ⟨ja, jb, jc, jd⟩ := hJ
  obtain ⟨l, hl⟩ : ∃ l : Nat, h 2 1 = (l : Int) := ⟨(h 2 1).toNat, by omega⟩
  obtain ⟨y1, n1⟩ := c_X11_feed (l := l) hl (by omega) p1
  rcases Nat.lt_or_ge 880 l with z | z
  · obtain ⟨e1, e2⟩ := n1 z
    subst e2
    obtain ⟨-, n2⟩ := c_X12_feed (l := l) (by omega) (by omega) p2
    obtain ⟨e3, e4⟩ := n2 z
    subst e4
    exact ⟨⟨ja, jb, jc, jd⟩, by omega⟩
  · obtain ⟨e1, e2, e3, e4⟩ := y1 z
    obtain ⟨y2, -⟩ := c_X12_feed (l := l) (by rw [e4 169 10 (by omega) (by omega)]; omega) (by omega) p2
    obtain ⟨g1, g2, g3, g4⟩ := y2 z
    refine ⟨⟨by rw [g4 2 1 (by omega) (by omega)]; omega, by rw [g4 2 1 (by omega) (by omega)]; omega, fun k hk => ?_, fun k hk => by rw [g4 4 k (by omega) (by omega), e4 4 k (by omega) (by omega)]; exact jd k hk⟩, by omega⟩
    rw [g4 3 k (by omega) (by omega)]
    by_cases q : l ≤ k ∧ k < l + 20
    · have B : ∀ i : Nat, i < 4 → ∀ t : Int, zand (zi2b (zshr t ((24 : Int) - 8 * i))) 255 = zand (zshr t ((24 : Int) - 8 * i)) 255 ∧ 0 ≤ zand (zshr t ((24 : Int) - 8 * i)) 255 ∧ zand (zshr t ((24 : Int) - 8 * i)) 255 ≤ 255 := fun i _ t => ⟨zb_255 _, (za_255 _).1, (za_255 _).2⟩
      have D : ∃ j i : Nat, j < 5 ∧ i < 4 ∧ k = l + 4 * j + i := ⟨(k - l) / 4, (k - l) % 4, by omega, by omega, by omega⟩
      obtain ⟨j, i, hj, hi, rfl⟩ := D
      obtain ⟨u1, u2, u3, u4, u5⟩ := e3 i hi
      obtain ⟨t1, t2, t3, t4, t5⟩ := g3 i hi
      rcases (show j = 0 ∨ j = 1 ∨ j = 2 ∨ j = 3 ∨ j = 4 by omega) with rfl | rfl | rfl | rfl | rfl
      · rw [show l + 4 * 0 + i = l + i by omega, u1, t1]; exact B i hi _
      · rw [show l + 4 * 1 + i = l + 4 + i by omega, u2, t2]; exact B i hi _
      · rw [show l + 4 * 2 + i = l + 8 + i by omega, u3, t3]; exact B i hi _
      · rw [show l + 4 * 3 + i = l + 12 + i by omega, u4, t4]; exact B i hi _
      · rw [show l + 4 * 4 + i = l + 16 + i by omega, u5, t5]; exact B i hi _
    · rw [g4 175 k (by omega) (by omega), e4 175 k (by omega) (by omega), e4 3 k (by omega) (by omega)]
      exact jc k hk
end PR
