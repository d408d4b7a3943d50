/-! NIGHTS: the reference does what the class does -/
theorem bt_B {x : Int} {i : Nat} (h : i < 8) : bt x i = 1 ↔ bB x i = true := bt_1 h
/-- the numbers of a LAND in the reference's row, but for the names -/
def RN9 (h L : PH) : Prop :=
  (h 170 0 = L 1 0 ∧ h 170 1 = L 0 4 ∧ h 170 2 = L 0 12 ∧ h 170 3 = L 0 13) ∧
  (∀ i : Nat, i < 7 → h 170 (6 + 3 * i) = bt (L 1 1) i ∧ h 170 (7 + 3 * i) = L 2 i ∧ h 170 (8 + 3 * i) = L 15 i) ∧
  (∀ p : Nat, p < 8 → ((p : Int) < L 0 4 → h 170 (27 + 5 * p) = L 11 p ∧ h 170 (28 + 5 * p) = L 12 p) ∧ h 170 (29 + 5 * p) = bt (L 0 7) p ∧ h 170 (30 + 5 * p) = bt (L 0 8) p ∧ h 170 (31 + 5 * p) = bt (L 0 9) p) ∧
  (∀ q : Nat, q < 64 → h 170 (67 + q) = L 7 q) ∧
  (∀ p : Nat, p < 8 → h 170 (131 + 4 * p) = L 14 p ∧ ∀ k : Nat, k < 3 → (k : Int) < L 14 p → h 170 (132 + 4 * p + k) = L 13 (3 * p + k))
theorem RLd.n9 {nb : Nat} {h L : PH} (r : RLd 0 nb h L) : RN9 h L := by
  obtain ⟨a, b, c, d, e, -, -⟩ := r
  refine ⟨a, fun i hi => ?_, fun p hp => ?_, fun q hq => ?_, fun p hp => ?_⟩
  · have z := b i hi; rw [show 0 + 6 + 3 * i = 6 + 3 * i by omega, show 0 + 7 + 3 * i = 7 + 3 * i by omega, show 0 + 8 + 3 * i = 8 + 3 * i by omega] at z; exact z
  · have z := c p hp; rw [show 0 + 27 + 5 * p = 27 + 5 * p by omega, show 0 + 28 + 5 * p = 28 + 5 * p by omega, show 0 + 29 + 5 * p = 29 + 5 * p by omega, show 0 + 30 + 5 * p = 30 + 5 * p by omega, show 0 + 31 + 5 * p = 31 + 5 * p by omega] at z; exact z
  · have z := d q hq; rw [show 0 + 67 + q = 67 + q by omega] at z; exact z
  · obtain ⟨z1, z2⟩ := e p hp
    rw [show 0 + 131 + 4 * p = 131 + 4 * p by omega] at z1
    exact ⟨z1, fun k hk q => by have z := z2 k hk q; rw [show 0 + 132 + 4 * p + k = 132 + 4 * p + k by omega] at z; exact z⟩
theorem RN9.ld {nb : Nat} {h L : PH} (r : RN9 h L) (n1 : ∀ i : Nat, (i : Int) < L 1 0 → Nm (L 9 i) (h 171 (nb + i))) (n2 : ∀ p : Nat, (p : Int) < L 0 4 → Nm (L 10 p) (h 171 (nb + 7 + p))) : RLd 0 nb h L := by
  obtain ⟨a, b, c, d, e⟩ := r
  refine ⟨a, fun i hi => ?_, fun p hp => ?_, fun q hq => ?_, fun p hp => ?_, n1, n2⟩
  · rw [show 0 + 6 + 3 * i = 6 + 3 * i by omega, show 0 + 7 + 3 * i = 7 + 3 * i by omega, show 0 + 8 + 3 * i = 8 + 3 * i by omega]; exact b i hi
  · rw [show 0 + 27 + 5 * p = 27 + 5 * p by omega, show 0 + 28 + 5 * p = 28 + 5 * p by omega, show 0 + 29 + 5 * p = 29 + 5 * p by omega, show 0 + 30 + 5 * p = 30 + 5 * p by omega, show 0 + 31 + 5 * p = 31 + 5 * p by omega]; exact c p hp
  · rw [show 0 + 67 + q = 67 + q by omega]; exact d q hq
  · rw [show 0 + 131 + 4 * p = 131 + 4 * p by omega]
    exact ⟨(e p hp).1, fun k hk q => by rw [show 0 + 132 + 4 * p + k = 132 + 4 * p + k by omega]; exact (e p hp).2 k hk q⟩
theorem RN9.e {h h' L : PH} (r : RN9 h L) (e : h' 170 = h 170) : RN9 h' L := by
  unfold RN9
  rw [e]
  exact r
theorem rs_sh {g g' : Nat → Int} {i j : Nat} : ∀ n : Nat, (∀ k : Nat, k < n → g (i + k) = g' (j + k)) → rs g i n = rs g' j n
  | 0, _ => rfl
  | n + 1, e => by
    show rs g i n + g (i + n) = rs g' j n + g' (j + n)
    rw [rs_sh n (fun k hk => e k (by omega)), e n (by omega)]
theorem RN9.u2 {h L : PH} (r : RN9 h L) {v : Int} : RN9 (uph h 170 (2) v) (uph L 0 (12) v) := by
  obtain ⟨⟨a1, a2, a3, a4⟩, b, c, d, e⟩ := r
  refine ⟨⟨?_, ?_, ?_, ?_⟩, fun i hi => ⟨?_, ?_, ?_⟩, fun p hp => ⟨fun z => ⟨?_, ?_⟩, ?_, ?_, ?_⟩, fun q hq => ?_, fun p hp => ⟨?_, fun k hk z => ?_⟩⟩
  · rw [up_ne (by omega), up_ne (by omega)]; exact a1
  · rw [up_ne (by omega), up_ne (by omega)]; exact a2
  · rw [up_sm, up_sm]
  · rw [up_ne (by omega), up_ne (by omega)]; exact a4
  · rw [up_ne (by omega), up_ne (by omega)]; exact (b i hi).1
  · rw [up_ne (by omega), up_ne (by omega)]; exact (b i hi).2.1
  · rw [up_ne (by omega), up_ne (by omega)]; exact (b i hi).2.2
  · rw [up_ne (by omega)] at z; rw [up_ne (by omega), up_ne (by omega)]; exact ((c p hp).1 z).1
  · rw [up_ne (by omega)] at z; rw [up_ne (by omega), up_ne (by omega)]; exact ((c p hp).1 z).2
  · rw [up_ne (by omega), up_ne (by omega)]; exact (c p hp).2.1
  · rw [up_ne (by omega), up_ne (by omega)]; exact (c p hp).2.2.1
  · rw [up_ne (by omega), up_ne (by omega)]; exact (c p hp).2.2.2
  · rw [up_ne (by omega), up_ne (by omega)]; exact d q hq
  · rw [up_ne (by omega), up_ne (by omega)]; exact (e p hp).1
  · rw [up_ne (by omega)] at z; rw [up_ne (by omega), up_ne (by omega)]; exact (e p hp).2 k hk z
theorem RN9.u3 {h L : PH} (r : RN9 h L) {v : Int} : RN9 (uph h 170 (3) v) (uph L 0 (13) v) := by
  obtain ⟨⟨a1, a2, a3, a4⟩, b, c, d, e⟩ := r
  refine ⟨⟨?_, ?_, ?_, ?_⟩, fun i hi => ⟨?_, ?_, ?_⟩, fun p hp => ⟨fun z => ⟨?_, ?_⟩, ?_, ?_, ?_⟩, fun q hq => ?_, fun p hp => ⟨?_, fun k hk z => ?_⟩⟩
  · rw [up_ne (by omega), up_ne (by omega)]; exact a1
  · rw [up_ne (by omega), up_ne (by omega)]; exact a2
  · rw [up_ne (by omega), up_ne (by omega)]; exact a3
  · rw [up_sm, up_sm]
  · rw [up_ne (by omega), up_ne (by omega)]; exact (b i hi).1
  · rw [up_ne (by omega), up_ne (by omega)]; exact (b i hi).2.1
  · rw [up_ne (by omega), up_ne (by omega)]; exact (b i hi).2.2
  · rw [up_ne (by omega)] at z; rw [up_ne (by omega), up_ne (by omega)]; exact ((c p hp).1 z).1
  · rw [up_ne (by omega)] at z; rw [up_ne (by omega), up_ne (by omega)]; exact ((c p hp).1 z).2
  · rw [up_ne (by omega), up_ne (by omega)]; exact (c p hp).2.1
  · rw [up_ne (by omega), up_ne (by omega)]; exact (c p hp).2.2.1
  · rw [up_ne (by omega), up_ne (by omega)]; exact (c p hp).2.2.2
  · rw [up_ne (by omega), up_ne (by omega)]; exact d q hq
  · rw [up_ne (by omega), up_ne (by omega)]; exact (e p hp).1
  · rw [up_ne (by omega)] at z; rw [up_ne (by omega), up_ne (by omega)]; exact (e p hp).2 k hk z
theorem RN9.ul {h L : PH} (r : RN9 h L) {n : Nat} {v : Int} (hn : n < 7) : RN9 (uph h 170 (8 + 3 * n) v) (uph L 15 (n) v) := by
  obtain ⟨⟨a1, a2, a3, a4⟩, b, c, d, e⟩ := r
  refine ⟨⟨?_, ?_, ?_, ?_⟩, fun i hi => ⟨?_, ?_, ?_⟩, fun p hp => ⟨fun z => ⟨?_, ?_⟩, ?_, ?_, ?_⟩, fun q hq => ?_, fun p hp => ⟨?_, fun k hk z => ?_⟩⟩
  · rw [up_ne (by omega), up_ne (by omega)]; exact a1
  · rw [up_ne (by omega), up_ne (by omega)]; exact a2
  · rw [up_ne (by omega), up_ne (by omega)]; exact a3
  · rw [up_ne (by omega), up_ne (by omega)]; exact a4
  · rw [up_ne (by omega), up_ne (by omega)]; exact (b i hi).1
  · rw [up_ne (by omega), up_ne (by omega)]; exact (b i hi).2.1
  · by_cases g : i = n
    · rw [g, up_sm, up_sm]
    · rw [up_ne (by omega), up_ne (by omega)]; exact (b i hi).2.2
  · rw [up_ne (by omega)] at z; rw [up_ne (by omega), up_ne (by omega)]; exact ((c p hp).1 z).1
  · rw [up_ne (by omega)] at z; rw [up_ne (by omega), up_ne (by omega)]; exact ((c p hp).1 z).2
  · rw [up_ne (by omega), up_ne (by omega)]; exact (c p hp).2.1
  · rw [up_ne (by omega), up_ne (by omega)]; exact (c p hp).2.2.1
  · rw [up_ne (by omega), up_ne (by omega)]; exact (c p hp).2.2.2
  · rw [up_ne (by omega), up_ne (by omega)]; exact d q hq
  · rw [up_ne (by omega), up_ne (by omega)]; exact (e p hp).1
  · rw [up_ne (by omega)] at z; rw [up_ne (by omega), up_ne (by omega)]; exact (e p hp).2 k hk z
theorem RN9.ua {h L : PH} (r : RN9 h L) {n : Nat} {v : Int} (hn : n < 8) : RN9 (uph h 170 (27 + 5 * n) v) (uph L 11 (n) v) := by
  obtain ⟨⟨a1, a2, a3, a4⟩, b, c, d, e⟩ := r
  refine ⟨⟨?_, ?_, ?_, ?_⟩, fun i hi => ⟨?_, ?_, ?_⟩, fun p hp => ⟨fun z => ⟨?_, ?_⟩, ?_, ?_, ?_⟩, fun q hq => ?_, fun p hp => ⟨?_, fun k hk z => ?_⟩⟩
  · rw [up_ne (by omega), up_ne (by omega)]; exact a1
  · rw [up_ne (by omega), up_ne (by omega)]; exact a2
  · rw [up_ne (by omega), up_ne (by omega)]; exact a3
  · rw [up_ne (by omega), up_ne (by omega)]; exact a4
  · rw [up_ne (by omega), up_ne (by omega)]; exact (b i hi).1
  · rw [up_ne (by omega), up_ne (by omega)]; exact (b i hi).2.1
  · rw [up_ne (by omega), up_ne (by omega)]; exact (b i hi).2.2
  · rw [up_ne (by omega)] at z; by_cases g : p = n
    · rw [g, up_sm, up_sm]
    · rw [up_ne (by omega), up_ne (by omega)]; exact ((c p hp).1 z).1
  · rw [up_ne (by omega)] at z; rw [up_ne (by omega), up_ne (by omega)]; exact ((c p hp).1 z).2
  · rw [up_ne (by omega), up_ne (by omega)]; exact (c p hp).2.1
  · rw [up_ne (by omega), up_ne (by omega)]; exact (c p hp).2.2.1
  · rw [up_ne (by omega), up_ne (by omega)]; exact (c p hp).2.2.2
  · rw [up_ne (by omega), up_ne (by omega)]; exact d q hq
  · rw [up_ne (by omega), up_ne (by omega)]; exact (e p hp).1
  · rw [up_ne (by omega)] at z; rw [up_ne (by omega), up_ne (by omega)]; exact (e p hp).2 k hk z
theorem RN9.uo {h L : PH} (r : RN9 h L) {n : Nat} {v : Int} (hn : n < 64) : RN9 (uph h 170 (67 + n) v) (uph L 7 (n) v) := by
  obtain ⟨⟨a1, a2, a3, a4⟩, b, c, d, e⟩ := r
  refine ⟨⟨?_, ?_, ?_, ?_⟩, fun i hi => ⟨?_, ?_, ?_⟩, fun p hp => ⟨fun z => ⟨?_, ?_⟩, ?_, ?_, ?_⟩, fun q hq => ?_, fun p hp => ⟨?_, fun k hk z => ?_⟩⟩
  · rw [up_ne (by omega), up_ne (by omega)]; exact a1
  · rw [up_ne (by omega), up_ne (by omega)]; exact a2
  · rw [up_ne (by omega), up_ne (by omega)]; exact a3
  · rw [up_ne (by omega), up_ne (by omega)]; exact a4
  · rw [up_ne (by omega), up_ne (by omega)]; exact (b i hi).1
  · rw [up_ne (by omega), up_ne (by omega)]; exact (b i hi).2.1
  · rw [up_ne (by omega), up_ne (by omega)]; exact (b i hi).2.2
  · rw [up_ne (by omega)] at z; rw [up_ne (by omega), up_ne (by omega)]; exact ((c p hp).1 z).1
  · rw [up_ne (by omega)] at z; rw [up_ne (by omega), up_ne (by omega)]; exact ((c p hp).1 z).2
  · rw [up_ne (by omega), up_ne (by omega)]; exact (c p hp).2.1
  · rw [up_ne (by omega), up_ne (by omega)]; exact (c p hp).2.2.1
  · rw [up_ne (by omega), up_ne (by omega)]; exact (c p hp).2.2.2
  · by_cases g : q = n
    · rw [g, up_sm, up_sm]
    · rw [up_ne (by omega), up_ne (by omega)]; exact d q hq
  · rw [up_ne (by omega), up_ne (by omega)]; exact (e p hp).1
  · rw [up_ne (by omega)] at z; rw [up_ne (by omega), up_ne (by omega)]; exact (e p hp).2 k hk z
theorem RN9.l8 {h L L' : PH} (r : RN9 h L) (e : ∀ j k : Nat, j ≠ 8 → L' j k = L j k) : RN9 h L' := by
  obtain ⟨⟨a1, a2, a3, a4⟩, b, c, d, e9⟩ := r
  refine ⟨⟨by rw [e _ _ (by omega)]; exact a1, by rw [e _ _ (by omega)]; exact a2, by rw [e _ _ (by omega)]; exact a3, by rw [e _ _ (by omega)]; exact a4⟩, fun i hi => ?_, fun p hp => ?_, fun q hq => by rw [e _ _ (by omega)]; exact d q hq, fun p hp => ?_⟩
  · rw [e 1 1 (by omega), e 2 i (by omega), e 15 i (by omega)]; exact b i hi
  · rw [e 0 4 (by omega), e 11 p (by omega), e 12 p (by omega), e 0 7 (by omega), e 0 8 (by omega), e 0 9 (by omega)]; exact c p hp
  · rw [e 14 p (by omega)]
    exact ⟨(e9 p hp).1, fun k hk z => by rw [e 13 _ (by omega)]; exact (e9 p hp).2 k hk z⟩
theorem RN9.ow {h L : PH} (r : RN9 h L) {x y v : Int} (hx : 0 ≤ x ∧ x < 8) (hy : 0 ≤ y ∧ y < 8) : RN9 (uph h 170 (67 + 8 * x.toNat + y.toNat) v) (owe L x y v) := by
  have a := r.uo (n := 8 * x.toNat + y.toNat) (v := v) (by omega)
  rw [show 67 + (8 * x.toNat + y.toNat) = 67 + 8 * x.toNat + y.toNat by omega] at a
  refine a.l8 (fun j k hj => ?_)
  unfold owe
  by_cases e : j = 7 ∧ k = 8 * x.toNat + y.toNat
  · rw [e.1, e.2, up_sm, up_sm]
  · rw [up_ne (by omega), up_ne (by omega), up_ne (by omega)]
section BR
variable {h L : PH}
theorem at_b (r : RN9 h L) {p : Nat} (h8 : L 0 4 ≤ 8) (hp : (p : Int) < L 0 4) : atR h p = atL L p := by
  unfold atR atL
  rw [((r.2.2.1 p (by omega)).1 hp).1]
theorem WY_l9 (r : RN9 h L) (w : W9 L) {f t : Nat} : WY h f t = WLn L f t := by
  have w1 := w.1.1
  unfold WY WLn
  rw [r.1.1]
  refine lvS_cg (fun a t ha ht => ?_) (fun t ht => ?_) 7 t
  · unfold drR
    rw [(r.2.1 a (by omega)).2.1]
    exact bt_1 (by omega)
  · unfold clR
    rw [(r.2.1 t (by omega)).1]
    exact ⟨fun z => z.elim (fun y => (bt_B (by omega)).mp y) (fun y => by omega), fun z => Or.inl ((bt_B (by omega)).mpr z)⟩
theorem am_b9 (r : RN9 h L) (w : W9 L) {p : Nat} (hp : (p : Int) < L 0 4) : ∀ q : Nat, (q : Int) ≤ L 0 4 → amR h p q = amL L p q
  | 0, _ => rfl
  | q + 1, hq => by
    have h8 := w.1.2.1
    have i := am_b9 r w hp q (by omega)
    have ab := amL_b (L := L) (p := p) q
    show cif _ _ _ = cif _ _ _
    rw [i, at_b r h8.2 hp, at_b r h8.2 (p := q) (by omega), WY_l9 r w, show 67 + 8 * p + q = 67 + (8 * p + q) by omega, r.2.2.2.1 (8 * p + q) (by omega)]
    refine cif_c ⟨?_, ?_⟩
    · rintro ⟨x, y, z⟩
      refine ⟨x, y, z.elim Or.inl (fun u => ?_)⟩
      by_cases c : amL L p q = -1
      · exact Or.inl c
      · rw [at_b r h8.2 (p := (amL L p q).toNat) (by omega), WY_l9 r w] at u; exact Or.inr u
    · rintro ⟨x, y, z⟩
      refine ⟨x, y, z.elim Or.inl (fun u => ?_)⟩
      by_cases c : amL L p q = -1
      · exact Or.inl c
      · rw [at_b r h8.2 (p := (amL L p q).toNat) (by omega), WY_l9 r w]; exact Or.inr u
theorem nx_b9 (r : RN9 h L) (w : W9 L) {f t : Nat} (hf : f < 7) : ∀ k : Nat, k ≤ 7 → nxR h f t k = nxS L f t k
  | 0, _ => rfl
  | k + 1, hk => by
    have i := nx_b9 r w (t := t) hf k (by omega)
    show cif _ _ _ = cif _ _ _
    rw [i, WY_l9 r w, WY_l9 r w]
    unfold drR
    rw [(r.2.1 f hf).2.1, (r.2.1 k (by omega)).1]
    exact cif_c ⟨fun ⟨x, y, z, u⟩ => ⟨x, (bt_1 (by omega)).mp y, fun q => z ((bt_B (by omega)).mpr q), u⟩, fun ⟨x, y, z, u⟩ => ⟨x, (bt_1 (by omega)).mpr y, fun q => z ((bt_B (by omega)).mp q), u⟩⟩
theorem wz_b9 (r : RN9 h L) (w : W9 L) {p m : Nat} (hp : (p : Int) < L 0 4) (hm : (m : Int) < L 0 4) : wzR h p m = nxT L (atL L p) (atL L m) := by
  have h8 := w.1.2.1
  have w1 := w.1.1
  have b := (w.2.2.1 p hp).1
  unfold wzR nxT
  rw [at_b r h8.2 hp, at_b r h8.2 hm, r.1.1, nx_b9 r w (by unfold atL; omega) _ (by omega), ((r.2.2.1 p (by omega)).1 hp).1]
  by_cases c : nxS L (atL L p) (atL L m) (L 1 0).toNat = -1
  · rw [if_pos c, if_pos c]; unfold atL; omega
  · rw [if_neg c, if_neg c]
theorem rs_z {g : Nat → Int} {i n : Nat} (hz : ∀ k : Nat, n ≤ k → k < 8 → g (i + k) = 0) : ∀ m : Nat, n + m ≤ 8 → rs g i (n + m) = rs g i n
  | 0, _ => rfl
  | m + 1, hm => by
    show rs g i (n + m) + g (i + (n + m)) = _
    rw [rs_z hz m (by omega), hz (n + m) (by omega) (by omega)]
    omega
theorem tot_b (r : RN9 h L) (w : W9 L) {p : Nat} (hp : p < 8) : rs (h 170) (67 + 8 * p) (h 170 1).toNat = L 8 p := by
  have h8 := w.1.2.1
  rw [r.1.2.1]
  have e : rs (h 170) (67 + 8 * p) (L 0 4).toNat = rs (L 7) (8 * p) (L 0 4).toNat := rs_sh (L 0 4).toNat (fun k hk => by rw [show 67 + 8 * p + k = 67 + (8 * p + k) by omega]; exact r.2.2.2.1 _ (by omega))
  rw [e, w.1.2.2.2.1 p hp]
  have z := rs_z (g := L 7) (i := 8 * p) (n := (L 0 4).toNat) (fun k h1 h2 => w.2.1 p k hp h2 (by omega)) (8 - (L 0 4).toNat) (by omega)
  rw [show (L 0 4).toNat + (8 - (L 0 4).toNat) = 8 by omega] at z
  exact z.symm
end BR
