/-! what holds between calls: LAND and TALES, MARKS too -/
def LTS (b s : Nat) (h L : PH) : Prop := CL b h L ∧ W10 L ∧ RLd (528 * s) (15 * s) h L ∧ TLS (b + 16) s h L
def J8 (h : PH) : Prop := J10 h ∧ (h 0 17 = h 169 33 ∧ 0 ≤ h 0 17 ∧ h 0 17 ≤ 3) ∧ (∃ L, LTS 5 0 h L) ∧ ∀ m : Nat, (m : Int) < h 0 17 → ∃ L, LTS (103 + 22 * m) (m + 1) h L
theorem RLd.cp {bs nb bs' nb' : Nat} {h h' L : PH} (hL : RLd bs nb h L) (hW : WL L) (hF : ∀ k : Nat, k < 163 → h' 170 (bs' + k) = h 170 (bs + k)) (hG : ∀ k : Nat, k < 15 → h' 171 (nb' + k) = h 171 (nb + k)) : RLd bs' nb' h' L := by
  obtain ⟨⟨a1, a2, a3, a4⟩, b, c, d, e, f, g⟩ := hL
  have w1 := hW.1
  have w2 := hW.2.1
  have z0 := hF 0 (by omega)
  rw [Nat.add_zero, Nat.add_zero] at z0
  refine ⟨⟨z0.trans a1, (hF 1 (by omega)).trans a2, (hF 2 (by omega)).trans a3, (hF 3 (by omega)).trans a4⟩, fun i hi => ?_, fun p hp => ?_, fun q hq => ?_, fun p hp => ⟨?_, fun k hk z => ?_⟩, fun i hi => ?_, fun p hp => ?_⟩
  · have x := b i hi
    rw [show bs + 6 + 3 * i = bs + (6 + 3 * i) by omega, show bs + 7 + 3 * i = bs + (7 + 3 * i) by omega, show bs + 8 + 3 * i = bs + (8 + 3 * i) by omega] at x
    rw [show bs' + 6 + 3 * i = bs' + (6 + 3 * i) by omega, show bs' + 7 + 3 * i = bs' + (7 + 3 * i) by omega, show bs' + 8 + 3 * i = bs' + (8 + 3 * i) by omega, hF _ (by omega), hF _ (by omega), hF _ (by omega)]
    exact x
  · have x := c p hp
    rw [show bs + 27 + 5 * p = bs + (27 + 5 * p) by omega, show bs + 28 + 5 * p = bs + (28 + 5 * p) by omega, show bs + 29 + 5 * p = bs + (29 + 5 * p) by omega, show bs + 30 + 5 * p = bs + (30 + 5 * p) by omega, show bs + 31 + 5 * p = bs + (31 + 5 * p) by omega] at x
    rw [show bs' + 27 + 5 * p = bs' + (27 + 5 * p) by omega, show bs' + 28 + 5 * p = bs' + (28 + 5 * p) by omega, show bs' + 29 + 5 * p = bs' + (29 + 5 * p) by omega, show bs' + 30 + 5 * p = bs' + (30 + 5 * p) by omega, show bs' + 31 + 5 * p = bs' + (31 + 5 * p) by omega, hF (27 + 5 * p) (by omega), hF (28 + 5 * p) (by omega), hF (29 + 5 * p) (by omega), hF (30 + 5 * p) (by omega), hF (31 + 5 * p) (by omega)]
    exact x
  · have x := d q hq
    rw [show bs + 67 + q = bs + (67 + q) by omega] at x
    rw [show bs' + 67 + q = bs' + (67 + q) by omega, hF _ (by omega)]
    exact x
  · have x := (e p hp).1
    rw [show bs + 131 + 4 * p = bs + (131 + 4 * p) by omega] at x
    rw [show bs' + 131 + 4 * p = bs' + (131 + 4 * p) by omega, hF _ (by omega)]
    exact x
  · have x := (e p hp).2 k hk z
    rw [show bs + 132 + 4 * p + k = bs + (132 + 4 * p + k) by omega] at x
    rw [show bs' + 132 + 4 * p + k = bs' + (132 + 4 * p + k) by omega, hF _ (by omega)]
    exact x
  · rw [hG _ (by omega)]; exact f i hi
  · have x := g p hp
    rw [show nb + 7 + p = nb + (7 + p) by omega] at x
    rw [show nb' + 7 + p = nb' + (7 + p) by omega, hG _ (by omega)]; exact x
theorem TLS.cp {b s b' s' : Nat} {h h' L : PH} (t : TLS b s h L) (e : ∀ j k : Nat, inT j k → h' (b' + j) k = h (b + j) k) (r : ∀ k : Nat, k < 528 → h' 170 (528 * s' + k) = h 170 (528 * s + k)) : TLS b' s' h' L := by
  have e0 : ∀ k : Nat, k < 3 → h' b' k = h b k := fun k hk => e 0 k (Or.inl ⟨rfl, hk⟩)
  rcases t with ⟨t1, t2⟩ | ⟨Y, ⟨c0, c1, c2, c3⟩, ⟨r1, r2, r3⟩, w, wt, y⟩
  · exact Or.inl ⟨by rw [e0 0 (by omega)]; exact t1, by rw [r 4 (by omega)]; exact t2⟩
  · have w1 := w.1
    have n : Y 43 2 ≤ 60 := by obtain ⟨x1, x2, x3, x4, x5⟩ := wt; omega
    refine Or.inr ⟨Y, ⟨by rw [e0 0 (by omega)]; exact c0, by rw [e0 1 (by omega)]; exact c1, by rw [e0 2 (by omega)]; exact c2, fun i k hi hk => ?_⟩, ⟨by rw [r 4 (by omega)]; exact r1, fun k hk i h6 h4 => ?_, fun k hk p => ?_⟩, w, wt, y⟩
    · have z := e (1 + i) k (Or.inr ⟨by omega, by omega, hk⟩)
      have x := c3 i k hi hk
      rw [show b + 1 + i = b + (1 + i) by omega] at x
      rw [show b' + 1 + i = b' + (1 + i) by omega, z]; exact x
    · have z := r2 k hk i h6 h4
      rw [show 528 * s + 164 + 6 * k + i = 528 * s + (164 + 6 * k + i) by omega] at z
      rw [show 528 * s' + 164 + 6 * k + i = 528 * s' + (164 + 6 * k + i) by omega, r _ (by omega)]; exact z
    · have z := r3 k hk p
      rw [show 528 * s + 168 + 6 * k = 528 * s + (168 + 6 * k) by omega] at z
      rw [show 528 * s' + 168 + 6 * k = 528 * s' + (168 + 6 * k) by omega, r _ (by omega)]; exact z
theorem LTS.cp {b s b' s' : Nat} {h h' L : PH} (l : LTS b s h L) (c : ∀ j k : Nat, inL j k → h' (b' + j) k = h (b + j) k) (e : ∀ j k : Nat, inT j k → h' (b' + 16 + j) k = h (b + 16 + j) k) (r : ∀ k : Nat, k < 528 → h' 170 (528 * s' + k) = h 170 (528 * s + k)) (n : ∀ k : Nat, k < 15 → h' 171 (15 * s' + k) = h 171 (15 * s + k)) : LTS b' s' h' L :=
  ⟨fun j k i => (c j k i).trans (l.1 j k i), l.2.1, l.2.2.1.cp l.2.1.1.1 (fun k hk => r k (by omega)) n, l.2.2.2.cp e r⟩
/-- the MARKS' LANDS stay -/
def SM (h h' : PH) : Prop := ∀ c k : Nat, (103 ≤ c ∧ c ≤ 168) ∨ (c = 170 ∧ 528 ≤ k ∧ k < 2112) ∨ (c = 171 ∧ 15 ≤ k ∧ k < 60) → h' c k = h c k
theorem mk8 {h h' : PH} (hM : ∀ m : Nat, (m : Int) < h 0 17 → ∃ L, LTS (103 + 22 * m) (m + 1) h L) (h3 : h 0 17 ≤ 3) (s : SM h h') (e0 : h' 0 17 = h 0 17) : ∀ m : Nat, (m : Int) < h' 0 17 → ∃ L, LTS (103 + 22 * m) (m + 1) h' L := fun m hm => by
  rw [e0] at hm
  obtain ⟨L, l⟩ := hM m hm
  exact ⟨L, l.cp (fun j k i => s _ _ (by have := inL_b i; omega)) (fun j k i => s _ _ (by have := inT_b i; omega)) (fun k hk => s _ _ (by omega)) (fun k hk => s _ _ (by omega))⟩
section PR8
variable {sl : Nat} {si : Nat → Int} {h h1 h2 : PH} {a b c d e v w : Int}
/-- what is done on the LAND -/
theorem op8 {L L' : PH} (hJ : J8 h) (l : LTS 5 0 h L) (g : GL h h1) (g' : GR h1 h2) (c5 : CL 5 h1 L') (w : W10 L') (r : RN9 h2 L') (e0 : L' 1 0 = L 1 0) (e4 : L' 0 4 = L 0 4) (e9 : ∀ k, L' 9 k = L 9 k) (e10 : ∀ k, L' 10 k = L 10 k) : J8 h2 := by
  obtain ⟨j, ⟨b1, b2, b3⟩, -, cm⟩ := hJ
  have F : ∀ c k : Nat, ¬ (c = 0 ∧ k = 0) → ¬ (5 ≤ c ∧ c ≤ 20) → ¬ (c = 169 ∧ k = 2) → ¬ (c = 170 ∧ k < 131 ∧ k ≠ 4) → ¬ (c = 178 ∧ k < 7) → h2 c k = h c k := fun c k q1 q2 q3 q4 q5 => (g' c k q3 q4 q5).trans (g c k q1 q2)
  have x0 : h2 0 17 = h 0 17 := F 0 17 (by omega) (by omega) (by omega) (by omega) (by omega)
  have x1 : h2 169 33 = h 169 33 := F 169 33 (by omega) (by omega) (by omega) (by omega) (by omega)
  obtain ⟨-, -, -, -, -, n1, n2⟩ := l.2.2.1
  refine ⟨J10_eq j (fun c k q => F c k (by omega) (by omega) (by omega) (by omega) (by omega)), ⟨by rw [x0, x1]; exact b1, by rw [x0]; exact b2, by rw [x0]; exact b3⟩, ⟨L', c5.fr (fun c k q1 q2 => g' c k (by omega) (by omega) (by omega)), w, r.ld (fun i hi => ?_) (fun p hp => ?_), l.2.2.2.kp e0 e4 (fun c k q1 q2 => F c k (by omega) (by omega) (by omega) (by omega) (by omega)) (fun k hk => F _ _ (by omega) (by omega) (by omega) (by omega) (by omega))⟩, mk8 cm b3 (fun c k q => F c k (by omega) (by omega) (by omega) (by omega) (by omega)) x0⟩
  · rw [e0] at hi
    rw [e9, F _ _ (by omega) (by omega) (by omega) (by omega) (by omega)]; exact n1 i hi
  · rw [e4] at hp
    rw [e10, F _ _ (by omega) (by omega) (by omega) (by omega) (by omega)]; exact n2 p hp
theorem LTS.n9 {L : PH} (l : LTS 5 0 h L) (g : GL h h1) : RN9 h1 L := (RLd.n9 l.2.2.1).e (funext (fun k => g 170 k (by omega) (by omega)))
theorem pr_land8 (hJ : J8 h) (p1 : CP (zz sl si (7, 0)) mX11_land h [(2, 0), (0, a)] h1 [(0, v)]) (p2 : CP (zz sl si (7, 0)) mX12_land h1 [(2, 169), (0, a)] h2 [(0, w)]) : J8 h2 ∧ v = w := by
  obtain ⟨j, ⟨b1, b2, b3⟩, ⟨L, l1, l2, l3, l4⟩, cm⟩ := hJ
  have j2 := (pr_land j p1 p2).1
  obtain ⟨e, o, f1, f2⟩ := land_8 j l1 l2 l3 p1 p2
  have F : ∀ c k : Nat, (c = 0 ∧ k = 17) ∨ (103 ≤ c ∧ c ≤ 168) ∨ (c = 169 ∧ k = 33) ∨ (c = 170 ∧ 528 ≤ k ∧ k < 2112) ∨ (c = 171 ∧ 15 ≤ k ∧ k < 60) → h2 c k = h c k := fun c k q => (f2 c k (by omega) (by omega) (by omega) (by omega) (by omega) (by omega)).trans (f1 c k (by omega) (by omega) (by omega) (by omega) (by omega) (by omega))
  have x0 := F 0 17 (by omega)
  have x1 := F 169 33 (by omega)
  refine ⟨⟨j2, ⟨by rw [x0, x1]; exact b1, by rw [x0]; exact b2, by rw [x0]; exact b3⟩, ?_, mk8 cm b3 (fun c k q => F c k (by omega)) x0⟩, e⟩
  rcases o with ⟨M, m1, m2, m3, m4, m5⟩ | ⟨m1, m2, m3, m4⟩
  · exact ⟨M, m1, m2, m3, Or.inl ⟨m4.1, m5⟩⟩
  · exact ⟨L, m1, l2, m2, l4.kp rfl rfl (fun c k q1 q2 => m3 c k (by omega) (by omega)) (fun k hk => m4 _ (by omega))⟩
theorem pr_mark8 (hJ : J8 h) (p1 : CP (zz sl si (7, 0)) mX11_mark h [(2, 0)] h1 [(0, v)]) (p2 : CP (zz sl si (7, 0)) mX12_mark h1 [(2, 169)] h2 [(0, w)]) : J8 h2 := by
  obtain ⟨j, ⟨b1, b2, b3⟩, ⟨L, l⟩, cm⟩ := hJ
  obtain ⟨y1, n1, f1⟩ := c_X11_mark ⟨b2, b3⟩ p1
  have F1 : ∀ c k : Nat, (1 ≤ c ∧ c ≤ 102 + 22 * (h 0 17).toNat) ∨ 169 ≤ c → h1 c k = h c k := fun c k q => f1 c k (by omega) (by omega)
  have em : h1 169 33 = h 0 17 := by rw [F1 169 33 (by omega)]; exact b1.symm
  obtain ⟨y2, n2, f2⟩ := c_X12_mark (by rw [em]; exact ⟨b2, b3⟩) p2
  rw [em] at y2 n2 f2
  have F2 : ∀ c k : Nat, c ≤ 168 ∨ (c = 169 ∧ k = 10) ∨ (c = 170 ∧ k < 528 * ((h 0 17).toNat + 1)) ∨ (c = 171 ∧ k < 15 * ((h 0 17).toNat + 1)) ∨ c = 175 → h2 c k = h1 c k := fun c k q => f2 c k (by omega) (by omega)
  have j2 : J10 h2 := J10_eq j (fun c k q => (F2 c k (by omega)).trans (F1 c k (by omega)))
  have c5 : ∃ L, LTS 5 0 h2 L := ⟨L, l.cp (fun j k i => by have := inL_b i; exact (F2 _ _ (by omega)).trans (F1 _ _ (by omega))) (fun j k i => by have := inT_b i; exact (F2 _ _ (by omega)).trans (F1 _ _ (by omega))) (fun k hk => (F2 170 _ (by omega)).trans (F1 170 _ (by omega))) (fun k hk => (F2 171 _ (by omega)).trans (F1 171 _ (by omega)))⟩
  have old : ∀ m : Nat, (m : Int) < h 0 17 → ∃ L, LTS (103 + 22 * m) (m + 1) h2 L := fun m hm => by
    obtain ⟨M, q⟩ := cm m hm
    exact ⟨M, q.cp (fun j k i => by have := inL_b i; exact (F2 _ _ (by omega)).trans (F1 _ _ (by omega))) (fun j k i => by have := inT_b i; exact (F2 _ _ (by omega)).trans (F1 _ _ (by omega))) (fun k hk => (F2 170 _ (by omega)).trans (F1 170 _ (by omega))) (fun k hk => (F2 171 _ (by omega)).trans (F1 171 _ (by omega)))⟩
  by_cases z : h 0 17 < 3
  · obtain ⟨u1, u2, u3, u4⟩ := y1 z
    obtain ⟨t1, t2, t3, t4⟩ := y2 z
    have e0 : h2 0 17 = h 0 17 + 1 := (F2 0 17 (by omega)).trans u1
    refine ⟨j2, ⟨by rw [e0, t1], by rw [e0]; omega, by rw [e0]; omega⟩, c5, fun m hm => ?_⟩
    rw [e0] at hm
    by_cases q : (m : Int) < h 0 17
    · exact old m q
    · have me : (h 0 17).toNat = m := by omega
      rw [me] at u3 u4 t3 t4 F1
      refine ⟨L, l.cp (fun j k i => (F2 _ _ (by have := inL_b i; omega)).trans (u3 j k i)) (fun j k i => ?_) (fun k hk => ?_) (fun k hk => ?_)⟩
      · rw [show 103 + 22 * m + 16 + j = 119 + 22 * m + j by omega, show 5 + 16 + j = 21 + j by omega]
        exact (F2 _ _ (by have := inT_b i; omega)).trans (u4 j k i)
      · rw [show 528 * 0 + k = k by omega]; exact (t3 k hk).trans (F1 170 _ (by omega))
      · rw [show 15 * 0 + k = k by omega]; exact (t4 k hk).trans (F1 171 _ (by omega))
  · have u := (n1 z).2
    have t := (n2 z).2
    have e0 : h2 0 17 = h 0 17 := (F2 0 17 (by omega)).trans u
    exact ⟨j2, ⟨by rw [e0, t], by rw [e0]; exact b2, by rw [e0]; exact b3⟩, c5, fun m hm => old m (by rw [e0] at hm; exact hm)⟩
theorem pr_undo8 (hJ : J8 h) (p1 : CP (zz sl si (7, 0)) mX11_undo h [(2, 0)] h1 [(0, v)]) (p2 : CP (zz sl si (7, 0)) mX12_undo h1 [(2, 169)] h2 [(0, w)]) : J8 h2 := by
  obtain ⟨j, ⟨b1, b2, b3⟩, ⟨L, l⟩, cm⟩ := hJ
  obtain ⟨y1, n1, f1⟩ := c_X11_undo ⟨b2, b3⟩ p1
  have F1 : ∀ c k : Nat, (1 ≤ c ∧ c ≤ 4) ∨ 27 ≤ c → h1 c k = h c k := fun c k q => f1 c k (by omega) (by omega)
  have em : h1 169 33 = h 0 17 := by rw [F1 169 33 (by omega)]; exact b1.symm
  obtain ⟨y2, n2, f2⟩ := c_X12_undo (by rw [em]; exact ⟨b2, b3⟩) p2
  rw [em] at y2 n2 f2
  have F2 : ∀ c k : Nat, c ≤ 168 ∨ (c = 169 ∧ k = 10) ∨ (c = 170 ∧ 528 ≤ k) ∨ (c = 171 ∧ 15 ≤ k) ∨ c = 175 → h2 c k = h1 c k := fun c k q => f2 c k (by omega) (by omega)
  have j2 : J10 h2 := J10_eq j (fun c k q => (F2 c k (by omega)).trans (F1 c k (by omega)))
  have old : ∀ m : Nat, (m : Int) < h 0 17 → ∃ L, LTS (103 + 22 * m) (m + 1) h2 L := fun m hm => by
    obtain ⟨M, q⟩ := cm m hm
    exact ⟨M, q.cp (fun j k i => by have := inL_b i; exact (F2 _ _ (by omega)).trans (F1 _ _ (by omega))) (fun j k i => by have := inT_b i; exact (F2 _ _ (by omega)).trans (F1 _ _ (by omega))) (fun k hk => (F2 170 _ (by omega)).trans (F1 170 _ (by omega))) (fun k hk => (F2 171 _ (by omega)).trans (F1 171 _ (by omega)))⟩
  by_cases z : 1 ≤ h 0 17
  · obtain ⟨u1, u2, u3, u4⟩ := y1 z
    obtain ⟨t1, t2, t3, t4⟩ := y2 z
    have e0 : h2 0 17 = h 0 17 - 1 := (F2 0 17 (by omega)).trans u1
    obtain ⟨m, hm⟩ : ∃ m : Nat, h 0 17 = (m : Int) + 1 := ⟨(h 0 17 - 1).toNat, by omega⟩
    obtain ⟨M, q⟩ := cm m (by omega)
    have mt : (h 0 17).toNat = m + 1 := by omega
    rw [mt] at u3 u4 t3 t4
    refine ⟨j2, ⟨by rw [e0, t1], by rw [e0]; omega, by rw [e0]; omega⟩, ⟨M, q.cp (fun j k i => ?_) (fun j k i => ?_) (fun k hk => ?_) (fun k hk => ?_)⟩, fun q hq => old q (by rw [e0] at hq; omega)⟩
    · have x := u3 j k i
      rw [show 81 + 22 * (m + 1) + j = 103 + 22 * m + j by omega] at x
      exact (F2 _ _ (by have := inL_b i; omega)).trans x
    · have x := u4 j k i
      rw [show 97 + 22 * (m + 1) + j = 103 + 22 * m + 16 + j by omega] at x
      rw [show 5 + 16 + j = 21 + j by omega]
      exact (F2 _ _ (by have := inT_b i; omega)).trans x
    · rw [show 528 * 0 + k = k by omega]; exact (t3 k hk).trans (F1 170 _ (by omega))
    · rw [show 15 * 0 + k = k by omega]; exact (t4 k hk).trans (F1 171 _ (by omega))
  · have u := (n1 z).2
    have t := (n2 z).2
    have e0 : h2 0 17 = h 0 17 := (F2 0 17 (by omega)).trans u
    have G1 : ∀ c k : Nat, 1 ≤ c → h1 c k = h c k := fun c k q => f1 c k (by omega) (by omega)
    have G2 : ∀ c k : Nat, c ≤ 168 ∨ c = 170 ∨ c = 171 → h2 c k = h1 c k := fun c k q => f2 c k (by omega) (by omega)
    exact ⟨j2, ⟨by rw [e0, t], by rw [e0]; exact b2, by rw [e0]; exact b3⟩, ⟨L, l.cp (fun j k i => by have := inL_b i; exact (G2 _ _ (by omega)).trans (G1 _ _ (by omega))) (fun j k i => by have := inT_b i; exact (G2 _ _ (by omega)).trans (G1 _ _ (by omega))) (fun k hk => (G2 170 _ (by omega)).trans (G1 170 _ (by omega))) (fun k hk => (G2 171 _ (by omega)).trans (G1 171 _ (by omega)))⟩, fun m hm => old m (by rw [e0] at hm; exact hm)⟩
end PR8
