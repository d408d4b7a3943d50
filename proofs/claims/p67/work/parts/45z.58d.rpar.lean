/-! what the reference's parts do to its LAND -/
theorem RLd.house {h h' L L' : PH} {n : Nat} {fl cd d : Int} (hL : RLd 2112 60 h L) (hW : WL L) (hn : L 1 0 = (n : Int)) (h7 : n < 7) (hF : ∀ k : Nat, k ≠ 2112 → k ≠ 2118 + 3 * n → h' 170 k = h 170 k) (h0 : h' 170 2112 = L 1 0 + 1) (h1 : h' 170 (2118 + 3 * n) = fl) (hG : ∀ k : Nat, h' 171 k = if k = 60 + n then d else h 171 k) (hd : Nm cd d) (e0 : L' 1 0 = L 1 0 + 1) (e1 : ∀ i : Nat, i < 7 → bt (L' 1 1) i = if i = n then fl else bt (L 1 1) i) (e9 : ∀ k : Nat, L' 9 k = if k = n then cd else L 9 k) (eo : ∀ j k : Nat, j ≠ 9 → j ≠ 1 → L' j k = L j k) : RLd 2112 60 h' L' := by
  obtain ⟨⟨a1, a2, a3, a4⟩, b, c, d', e, f, g⟩ := hL
  have w2 := hW.2.1
  refine ⟨⟨by rw [h0, e0], by rw [hF _ (by omega) (by omega), a2, eo 0 4 (by omega) (by omega)], by rw [hF _ (by omega) (by omega), a3, eo 0 12 (by omega) (by omega)], by rw [hF _ (by omega) (by omega), a4, eo 0 13 (by omega) (by omega)]⟩, fun i hi => ?_, fun p hp => ?_, fun q hq => by rw [hF _ (by omega) (by omega), eo 7 q (by omega) (by omega)]; exact d' q hq, fun p hp => ⟨by rw [hF _ (by omega) (by omega), eo 14 p (by omega) (by omega)]; exact (e p hp).1, fun k hk z => by rw [hF _ (by omega) (by omega), eo 13 _ (by omega) (by omega)]; rw [eo 14 p (by omega) (by omega)] at z; exact (e p hp).2 k hk z⟩, fun i hi => ?_, fun p hp => ?_⟩
  · rw [e1 i hi, eo 2 i (by omega) (by omega), eo 15 i (by omega) (by omega), hF (2112 + 7 + 3 * i) (by omega) (by omega), hF (2112 + 8 + 3 * i) (by omega) (by omega)]
    refine ⟨?_, (b i hi).2⟩
    by_cases q : i = n
    · subst q
      rw [if_pos rfl]
      exact h1
    · rw [if_neg q, hF _ (by omega) (by omega)]
      exact (b i hi).1
  · rw [hF (2112 + 27 + 5 * p) (by omega) (by omega), hF (2112 + 28 + 5 * p) (by omega) (by omega), hF (2112 + 29 + 5 * p) (by omega) (by omega), hF (2112 + 30 + 5 * p) (by omega) (by omega), hF (2112 + 31 + 5 * p) (by omega) (by omega), eo 11 p (by omega) (by omega), eo 12 p (by omega) (by omega), eo 0 4 (by omega) (by omega), eo 0 7 (by omega) (by omega), eo 0 8 (by omega) (by omega), eo 0 9 (by omega) (by omega)]
    exact c p hp
  · rw [e0] at hi
    rw [e9, hG]
    by_cases q : i = n
    · rw [if_pos q, if_pos (by omega)]
      exact hd
    · rw [if_neg q, if_neg (by omega)]
      exact f i (by omega)
  · rw [eo 0 4 (by omega) (by omega)] at hp
    rw [eo 10 p (by omega) (by omega), hG, if_neg (by omega)]
    exact g p hp
theorem RLd.door {h h' L : PH} {x y : Int} (hL : RLd 2112 60 h L) (hW : WL L) (hx : 0 ≤ x ∧ x < 7) (hy : 0 ≤ y ∧ y < 7) (hxy : x ≠ y) (hF : ∀ k : Nat, k ≠ 2119 + 3 * x.toNat → k ≠ 2119 + 3 * y.toNat → k < 2275 → h' 170 k = h 170 k) (h1 : h' 170 (2119 + 3 * x.toNat) = zor (h 170 (2119 + 3 * x.toNat)) (zshl 1 y)) (h2 : h' 170 (2119 + 3 * y.toNat) = zor (h 170 (2119 + 3 * y.toNat)) (zshl 1 x)) (hG : ∀ k : Nat, h' 171 k = h 171 k) : RLd 2112 60 h' (hang L x y) := by
  obtain ⟨⟨a1, a2, a3, a4⟩, b, c, d', e, f, g⟩ := hL
  have w1 := hW.1
  have w2 := hW.2.1
  have eo : ∀ j k : Nat, j ≠ 2 → hang L x y j k = L j k := fun j k q => by unfold hang; rw [up_ne (by omega), up_ne (by omega)]
  refine ⟨⟨by rw [hF _ (by omega) (by omega) (by omega), a1, eo 1 0 (by omega)], by rw [hF _ (by omega) (by omega) (by omega), a2, eo 0 4 (by omega)], by rw [hF _ (by omega) (by omega) (by omega), a3, eo 0 12 (by omega)], by rw [hF _ (by omega) (by omega) (by omega), a4, eo 0 13 (by omega)]⟩, fun i hi => ?_, fun p hp => ?_, fun q hq => by rw [hF _ (by omega) (by omega) (by omega), eo 7 q (by omega)]; exact d' q hq, fun p hp => ⟨by rw [hF _ (by omega) (by omega) (by omega), eo 14 p (by omega)]; exact (e p hp).1, fun k hk z => by rw [hF _ (by omega) (by omega) (by omega), eo 13 _ (by omega)]; rw [eo 14 p (by omega)] at z; exact (e p hp).2 k hk z⟩, fun i hi => by rw [eo 1 0 (by omega)] at hi; rw [eo 9 i (by omega), hG]; exact f i hi, fun p hp => by rw [eo 0 4 (by omega)] at hp; rw [eo 10 p (by omega), hG]; exact g p hp⟩
  · rw [eo 1 1 (by omega), eo 15 i (by omega), hF (2112 + 6 + 3 * i) (by omega) (by omega) (by omega), hF (2112 + 8 + 3 * i) (by omega) (by omega) (by omega)]
    refine ⟨(b i hi).1, ?_, (b i hi).2.2⟩
    unfold hang
    by_cases q : i = y.toNat
    · have bi := (b i hi).2.1
      rw [← q, up_sm, up_ne (by omega), ← bi]
      rw [← q] at h2
      exact h2
    · rw [up_ne (by omega)]
      by_cases q2 : i = x.toNat
      · have bi := (b i hi).2.1
        rw [← q2, up_sm, ← bi]
        rw [← q2] at h1
        exact h1
      · rw [up_ne (by omega), hF _ (by omega) (by omega) (by omega)]
        exact (b i hi).2.1
  · rw [hF (2112 + 27 + 5 * p) (by omega) (by omega) (by omega), hF (2112 + 28 + 5 * p) (by omega) (by omega) (by omega), hF (2112 + 29 + 5 * p) (by omega) (by omega) (by omega), hF (2112 + 30 + 5 * p) (by omega) (by omega) (by omega), hF (2112 + 31 + 5 * p) (by omega) (by omega) (by omega), eo 11 p (by omega), eo 12 p (by omega), eo 0 4 (by omega), eo 0 7 (by omega), eo 0 8 (by omega), eo 0 9 (by omega)]
    exact c p hp
theorem RLd.person {h h' L L' : PH} {n : Nat} {x f1 f2 f3 cd d : Int} (hL : RLd 2112 60 h L) (hW : WL L) (hn : L 0 4 = (n : Int)) (h8 : n < 8) (hF : ∀ k : Nat, k ≠ 2113 → ¬ (2139 + 5 * n ≤ k ∧ k < 2144 + 5 * n) → h' 170 k = h 170 k) (h0 : h' 170 2113 = L 0 4 + 1) (h1 : h' 170 (2139 + 5 * n) = x ∧ h' 170 (2140 + 5 * n) = x ∧ h' 170 (2141 + 5 * n) = f1 ∧ h' 170 (2142 + 5 * n) = f2 ∧ h' 170 (2143 + 5 * n) = f3) (hG : ∀ k : Nat, h' 171 k = if k = 67 + n then d else h 171 k) (hd : Nm cd d) (e0 : L' 0 4 = L 0 4 + 1) (eb : ∀ i : Nat, i < 8 → bt (L' 0 7) i = (if i = n then f1 else bt (L 0 7) i) ∧ bt (L' 0 8) i = (if i = n then f2 else bt (L 0 8) i) ∧ bt (L' 0 9) i = (if i = n then f3 else bt (L 0 9) i)) (e10 : ∀ k : Nat, L' 10 k = if k = n then cd else L 10 k) (e11 : ∀ k : Nat, (L' 11 k = if k = n then x else L 11 k) ∧ (L' 12 k = if k = n then x else L 12 k)) (en : L' 0 12 = L 0 12 ∧ L' 0 13 = L 0 13) (eo : ∀ j k : Nat, j ≠ 10 → j ≠ 11 → j ≠ 12 → j ≠ 0 → L' j k = L j k) : RLd 2112 60 h' L' := by
  obtain ⟨⟨a1, a2, a3, a4⟩, b, c, d', e, f, g⟩ := hL
  have w1 := hW.1
  refine ⟨⟨by rw [hF _ (by omega) (by omega), a1, eo 1 0 (by omega) (by omega) (by omega) (by omega)], by rw [h0, e0], by rw [hF _ (by omega) (by omega), a3, en.1], by rw [hF _ (by omega) (by omega), a4, en.2]⟩, fun i hi => ?_, fun p hp => ?_, fun q hq => by rw [hF _ (by omega) (by omega), eo 7 q (by omega) (by omega) (by omega) (by omega)]; exact d' q hq, fun p hp => ⟨by rw [hF _ (by omega) (by omega), eo 14 p (by omega) (by omega) (by omega) (by omega)]; exact (e p hp).1, fun k hk z => by rw [hF _ (by omega) (by omega), eo 13 _ (by omega) (by omega) (by omega) (by omega)]; rw [eo 14 p (by omega) (by omega) (by omega) (by omega)] at z; exact (e p hp).2 k hk z⟩, fun i hi => ?_, fun p hp => ?_⟩
  · rw [eo 1 1 (by omega) (by omega) (by omega) (by omega), eo 2 i (by omega) (by omega) (by omega) (by omega), eo 15 i (by omega) (by omega) (by omega) (by omega), hF (2112 + 6 + 3 * i) (by omega) (by omega), hF (2112 + 7 + 3 * i) (by omega) (by omega), hF (2112 + 8 + 3 * i) (by omega) (by omega)]
    exact b i hi
  · rw [(eb p hp).1, (eb p hp).2.1, (eb p hp).2.2, (e11 p).1, (e11 p).2, e0]
    by_cases q : p = n
    · subst q
      rw [if_pos rfl, if_pos rfl, if_pos rfl, if_pos rfl, if_pos rfl]
      exact ⟨fun _ => ⟨h1.1, h1.2.1⟩, h1.2.2.1, h1.2.2.2.1, h1.2.2.2.2⟩
    · rw [if_neg q, if_neg q, if_neg q, if_neg q, if_neg q, hF (2112 + 27 + 5 * p) (by omega) (by omega), hF (2112 + 28 + 5 * p) (by omega) (by omega), hF (2112 + 29 + 5 * p) (by omega) (by omega), hF (2112 + 30 + 5 * p) (by omega) (by omega), hF (2112 + 31 + 5 * p) (by omega) (by omega)]
      exact ⟨fun z => (c p hp).1 (by omega), (c p hp).2⟩
  · rw [eo 1 0 (by omega) (by omega) (by omega) (by omega)] at hi
    rw [eo 9 i (by omega) (by omega) (by omega) (by omega), hG, if_neg (by omega)]
    exact f i hi
  · rw [e0] at hp
    rw [e10, hG]
    by_cases q : p = n
    · rw [if_pos q, if_pos (by omega)]
      exact hd
    · rw [if_neg q, if_neg (by omega)]
      exact g p (by omega)
theorem RLd.debt {h h' L : PH} {x y v : Int} (hL : RLd 2112 60 h L) (hW : WL L) (hx : 0 ≤ x ∧ x < 8) (hy : 0 ≤ y ∧ y < 8) (hF : ∀ k : Nat, k ≠ 2179 + 8 * x.toNat + y.toNat → k < 2275 → h' 170 k = h 170 k) (h1 : h' 170 (2179 + 8 * x.toNat + y.toNat) = v) (hG : ∀ k : Nat, h' 171 k = h 171 k) : RLd 2112 60 h' (owe L x y v) := by
  obtain ⟨⟨a1, a2, a3, a4⟩, b, c, d', e, f, g⟩ := hL
  have w1 := hW.1
  have w2 := hW.2.1
  have eo : ∀ j k : Nat, j ≠ 7 → j ≠ 8 → owe L x y v j k = L j k := fun j k q q2 => by unfold owe; rw [up_ne (by omega), up_ne (by omega)]
  refine ⟨⟨by rw [hF _ (by omega) (by omega), a1, eo 1 0 (by omega) (by omega)], by rw [hF _ (by omega) (by omega), a2, eo 0 4 (by omega) (by omega)], by rw [hF _ (by omega) (by omega), a3, eo 0 12 (by omega) (by omega)], by rw [hF _ (by omega) (by omega), a4, eo 0 13 (by omega) (by omega)]⟩, fun i hi => ?_, fun p hp => ?_, fun q hq => ?_, fun p hp => ⟨by rw [hF _ (by omega) (by omega), eo 14 p (by omega) (by omega)]; exact (e p hp).1, fun k hk z => by rw [hF _ (by omega) (by omega), eo 13 _ (by omega) (by omega)]; rw [eo 14 p (by omega) (by omega)] at z; exact (e p hp).2 k hk z⟩, fun i hi => by rw [eo 1 0 (by omega) (by omega)] at hi; rw [eo 9 i (by omega) (by omega), hG]; exact f i hi, fun p hp => by rw [eo 0 4 (by omega) (by omega)] at hp; rw [eo 10 p (by omega) (by omega), hG]; exact g p hp⟩
  · rw [eo 1 1 (by omega) (by omega), eo 2 i (by omega) (by omega), eo 15 i (by omega) (by omega), hF (2112 + 6 + 3 * i) (by omega) (by omega), hF (2112 + 7 + 3 * i) (by omega) (by omega), hF (2112 + 8 + 3 * i) (by omega) (by omega)]
    exact b i hi
  · rw [hF (2112 + 27 + 5 * p) (by omega) (by omega), hF (2112 + 28 + 5 * p) (by omega) (by omega), hF (2112 + 29 + 5 * p) (by omega) (by omega), hF (2112 + 30 + 5 * p) (by omega) (by omega), hF (2112 + 31 + 5 * p) (by omega) (by omega), eo 11 p (by omega) (by omega), eo 12 p (by omega) (by omega), eo 0 4 (by omega) (by omega), eo 0 7 (by omega) (by omega), eo 0 8 (by omega) (by omega), eo 0 9 (by omega) (by omega)]
    exact c p hp
  · unfold owe
    by_cases z : q = 8 * x.toNat + y.toNat
    · rw [z, up_sm, ← h1]
      congr 1
      omega
    · rw [up_ne (by omega), up_ne (by omega), hF _ (by omega) (by omega)]
      exact d' q hq
theorem RLd.heir {h h' L : PH} {x n : Nat} {y : Int} (hL : RLd 2112 60 h L) (hW : WL L) (hx : x < 8) (hn : L 14 x = (n : Int)) (h3 : n < 3) (hF : ∀ k : Nat, k ≠ 2243 + 4 * x → k ≠ 2244 + 4 * x + n → k < 2275 → h' 170 k = h 170 k) (h1 : h' 170 (2243 + 4 * x) = (n : Int) + 1) (h2 : h' 170 (2244 + 4 * x + n) = y) (hG : ∀ k : Nat, h' 171 k = h 171 k) : RLd 2112 60 h' (uph (uph L 13 (3 * x + n) y) 14 x (L 14 x + 1)) := by
  obtain ⟨⟨a1, a2, a3, a4⟩, b, c, d', e, f, g⟩ := hL
  have w1 := hW.1
  have w2 := hW.2.1
  have eo : ∀ j k : Nat, j ≠ 13 → j ≠ 14 → (uph (uph L 13 (3 * x + n) y) 14 x (L 14 x + 1)) j k = L j k := fun j k q q2 => by rw [up_ne (by omega), up_ne (by omega)]
  refine ⟨⟨by rw [hF _ (by omega) (by omega) (by omega), a1, eo 1 0 (by omega) (by omega)], by rw [hF _ (by omega) (by omega) (by omega), a2, eo 0 4 (by omega) (by omega)], by rw [hF _ (by omega) (by omega) (by omega), a3, eo 0 12 (by omega) (by omega)], by rw [hF _ (by omega) (by omega) (by omega), a4, eo 0 13 (by omega) (by omega)]⟩, fun i hi => ?_, fun p hp => ?_, fun q hq => by rw [hF _ (by omega) (by omega) (by omega), eo 7 q (by omega) (by omega)]; exact d' q hq, fun p hp => ?_, fun i hi => by rw [eo 1 0 (by omega) (by omega)] at hi; rw [eo 9 i (by omega) (by omega), hG]; exact f i hi, fun p hp => by rw [eo 0 4 (by omega) (by omega)] at hp; rw [eo 10 p (by omega) (by omega), hG]; exact g p hp⟩
  · rw [eo 1 1 (by omega) (by omega), eo 2 i (by omega) (by omega), eo 15 i (by omega) (by omega), hF (2112 + 6 + 3 * i) (by omega) (by omega) (by omega), hF (2112 + 7 + 3 * i) (by omega) (by omega) (by omega), hF (2112 + 8 + 3 * i) (by omega) (by omega) (by omega)]
    exact b i hi
  · rw [hF (2112 + 27 + 5 * p) (by omega) (by omega) (by omega), hF (2112 + 28 + 5 * p) (by omega) (by omega) (by omega), hF (2112 + 29 + 5 * p) (by omega) (by omega) (by omega), hF (2112 + 30 + 5 * p) (by omega) (by omega) (by omega), hF (2112 + 31 + 5 * p) (by omega) (by omega) (by omega), eo 11 p (by omega) (by omega), eo 12 p (by omega) (by omega), eo 0 4 (by omega) (by omega), eo 0 7 (by omega) (by omega), eo 0 8 (by omega) (by omega), eo 0 9 (by omega) (by omega)]
    exact c p hp
  · by_cases q : p = x
    · subst q
      rw [up_sm]
      refine ⟨by rw [hn]; exact h1, fun k hk z => ?_⟩
      rw [up_ne (by omega)]
      by_cases z2 : k = n
      · rw [z2, up_sm]
        exact h2
      · rw [up_ne (by omega), hF _ (by omega) (by omega) (by omega)]
        exact (e p hp).2 k hk (by omega)
    · rw [up_ne (by omega), up_ne (by omega)]
      refine ⟨by rw [hF _ (by omega) (by omega) (by omega)]; exact (e p hp).1, fun k hk z => ?_⟩
      rw [up_ne (by omega), up_ne (by omega), hF _ (by omega) (by omega) (by omega)]
      exact (e p hp).2 k hk z
def RQ (T : TX) (v : Int) (h : PH) (r : PR) : Prop := (v = 1 → ∃ s L, r = semi T s L ∧ RN T h s ∧ RLd 2112 60 h L ∧ WL L) ∧ (v = 0 → ∃ f, r = .inl f ∧ RF h f.1 f.2)
theorem RQ.b {T : TX} {h : PH} {r : PR} {q : Int × Nat} (e : r = .inl q) (h1 : RF h q.1 q.2) : RQ T 0 h r := ⟨fun z => absurd z (by decide), fun _ => ⟨q, e, h1⟩⟩
theorem RQ.g {T : TX} {h : PH} {r : PR} {s : Nat} {L : PH} (e : r = semi T s L) (h1 : RN T h s) (h2 : RLd 2112 60 h L) (h3 : WL L) : RQ T 1 h r := ⟨fun _ => ⟨s, L, e, h1, h2, h3⟩, fun z => absurd z (by decide)⟩
theorem r_tk {T : TX} {s i : Nat} {w k : Int} (hi : i < 24) (hk : k = (i : Int)) (hw : ((kpm.getD i 0 : Nat) : Int) = w) : (if rk T s = k then nt T s else s) = tk T s w := by
  unfold tk
  have := rk_is (T := T) (s := s) hi
  rw [hw, ← hk] at this
  by_cases e : rk T s = k
  · rw [if_pos e, if_pos (this.mp e)]
  · rw [if_neg e, if_neg (fun z => e (this.mpr z))]
theorem r_iw {T : TX} {s i : Nat} {w k : Int} (hi : i < 24) (hk : k = (i : Int)) (hw : ((kpm.getD i 0 : Nat) : Int) = w) : rk T s = k ↔ isW T s w := by
  have := rk_is (T := T) (s := s) hi
  rw [hw, ← hk] at this
  exact this
/-- a semicolon -/
theorem r_sm {sl : Nat} {si : Nat → Int} {h h' : PH} {T : TX} {s : Nat} {L : PH} {v : Int} (hN : RN T h s) (hL : RLd 2112 60 h L) (hW : WL L) (hv : v = 0 ∨ v = 1) (hc : CP (zz sl si (7, 0)) mX12_wantSign h [(2, 169), (0, 59)] h' [(0, v)]) : ROp T v h' (semi T s L) ∧ GTk h h' := by
  obtain ⟨a1, a2, a3⟩ := c_X12_wantSign hN hc
  refine ⟨?_, a3⟩
  unfold semi
  rcases hv with e | e
  · obtain ⟨b1, b2⟩ := a2 e
    rw [if_neg b1]
    exact ⟨e, b2⟩
  · obtain ⟨b1, b2⟩ := a1 e
    rw [if_pos b1]
    exact ⟨e, b2, a3.L hL hW, hW⟩
