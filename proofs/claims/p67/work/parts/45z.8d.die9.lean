/-! DIE: the reference does what the class does -/
theorem RN9.eq {h L L' : PH} (r : RN9 h L) (e7 : ∀ q : Nat, q < 64 → L' 7 q = L 7 q) (e : ∀ j k : Nat, j ≠ 7 → j ≠ 8 → L' j k = L j k) : RN9 h L' := by
  obtain ⟨a, b, c, d, f⟩ := r
  refine ⟨by rw [e 1 0 (by omega) (by omega), e 0 4 (by omega) (by omega), e 0 12 (by omega) (by omega), e 0 13 (by omega) (by omega)]; exact a, fun i hi => by rw [e 1 1 (by omega) (by omega), e 2 i (by omega) (by omega), e 15 i (by omega) (by omega)]; exact b i hi, fun p hp => by rw [e 0 4 (by omega) (by omega), e 11 p (by omega) (by omega), e 12 p (by omega) (by omega), e 0 7 (by omega) (by omega), e 0 8 (by omega) (by omega), e 0 9 (by omega) (by omega)]; exact c p hp, fun q hq => by rw [e7 q hq]; exact d q hq, fun p hp => ?_⟩
  rw [e 14 p (by omega) (by omega)]
  exact ⟨(f p hp).1, fun k hk q => by rw [e 13 _ (by omega) (by omega)]; exact (f p hp).2 k hk q⟩
theorem RN9.ud {h L : PH} (r : RN9 h L) (w : W9 L) {p : Nat} (hp : p < 8) : RN9 (uph h 170 (29 + 5 * p) 1) (ddL L p) := by
  obtain ⟨a, b, c, d, f⟩ := r
  have z : ∀ k : Nat, k ≠ 29 + 5 * p → uph h 170 (29 + 5 * p) 1 170 k = h 170 k := fun k hk => up_ne (by omega)
  have y : ∀ j k : Nat, ¬ (j = 0 ∧ k = 7) → ddL L p j k = L j k := fun j k q => up_ne (by omega)
  have y7 : ddL L p 0 7 = zor (L 0 7) (zshl 1 (p : Int)) := by rw [ddL, up_rd, if_pos ⟨rfl, rfl⟩]
  have s := w.1.s.2.1
  have bo := (bt_or (L 0 7).toNat (by have := s.1; have := s.2.1; omega) p hp).2
  rw [Int.toNat_of_nonneg s.1] at bo
  refine ⟨by rw [y 1 0 (by omega), y 0 4 (by omega), y 0 12 (by omega), y 0 13 (by omega), z _ (by omega), z _ (by omega), z _ (by omega), z _ (by omega)]; exact a, fun i hi => by rw [y 1 1 (by omega), y 2 i (by omega), y 15 i (by omega), z _ (by omega), z _ (by omega), z _ (by omega)]; exact b i hi, fun q hq => ?_, fun q hq => by rw [y 7 q (by omega), z _ (by omega)]; exact d q hq, fun q hq => ?_⟩
  · rw [y 0 4 (by omega), y 11 q (by omega), y 12 q (by omega), y 0 8 (by omega), y 0 9 (by omega), y7, bo q hq, z (27 + 5 * q) (by omega), z (28 + 5 * q) (by omega), z (30 + 5 * q) (by omega), z (31 + 5 * q) (by omega)]
    obtain ⟨c1, c2, c3, c4⟩ := c q hq
    refine ⟨c1, ?_, c3, c4⟩
    by_cases x : q = p
    · subst x; rw [if_pos rfl, up_rd, if_pos ⟨rfl, rfl⟩]
    · rw [if_neg x, z _ (by omega)]; exact c2
  · rw [y 14 q (by omega), z _ (by omega)]
    exact ⟨(f q hq).1, fun k hk x => by rw [y 13 _ (by omega), z _ (by omega)]; exact (f q hq).2 k hk x⟩
section RF
variable {g L : PH} {p d : Nat}
theorem he_b9 (r : RN9 g L) (hp : p < 8) {k : Nat} (hk : k < 3) (hn : (k : Int) < L 14 p) : heR g p (k + 1) = hrL L p k := by
  have z := (r.2.2.2.2 p hp).2 k hk hn
  unfold heR hrL
  rw [show 131 + 4 * p + (k + 1) = 132 + 4 * p + k by omega, z]
theorem ok_b9 (r : RN9 g L) (w : W9 L) (hp : p < 8) {k : Nat} (hk : k < 3) (hn : (k : Int) < L 14 p) : (g 170 (29 + 5 * heR g p (k + 1)) ≠ 1 ∧ heR g p (k + 1) ≠ d) ↔ okL L p d k := by
  have r13 := w.2.2.2.2.1 p k hp hk hn
  have h8 := w.1.2.1
  have x8 : hrL L p k < 8 := by unfold hrL; omega
  rw [he_b9 r hp hk hn, (r.2.2.1 _ x8).2.1]
  unfold okL
  rw [Ne, bt_B x8]
theorem hb_b9 (r : RN9 g L) (w : W9 L) (hp : p < 8) : ∀ k : Nat, (k : Int) ≤ L 14 p → hbR g p d k = cnL L p d k
  | 0, _ => rfl
  | k + 1, hk => by
    have h3 := w.1.2.2.1 p hp
    have o := ok_b9 (d := d) r w hp (k := k) (by omega) (by omega)
    show hbR g p d k + cif _ 1 0 = cnL L p d k + cif _ 1 0
    rw [hb_b9 r w hp k (by omega)]
    by_cases c : okL L p d k
    · rw [cif_p c, cif_p (o.mpr c)]
    · rw [cif_n c, cif_n (fun z => c (o.mp z))]
theorem hc_b9 (r : RN9 g L) (hp : p < 8) : hcR g p = hnL L p := by
  unfold hcR hnL
  rw [(r.2.2.2.2 p hp).1]
theorem pa_b9 (r : RN9 g L) (w : W9 L) (hp : p < 8) (hd : d < 8) {k : Nat} (hk : (k : Int) ≤ L 14 p) : paR g p d k = shL L p d k := by
  have h3 := w.1.2.2.1 p hp
  have e := r.2.2.2.1 (8 * d + p) (by omega)
  unfold paR shL
  rw [hb_b9 r w hp k hk, hc_b9 r hp, hb_b9 r w hp (hnL L p) (by unfold hnL; omega), show 67 + 8 * d + p = 67 + (8 * d + p) by omega, e]
  rfl
theorem zm_c {x : Int} : zmin 99 x = cap9 x := by
  unfold zmin cap9
  by_cases c : x ≤ 99
  · rw [if_pos c]
    by_cases q : x < 99
    · rw [if_pos q]
    · rw [if_neg q]; omega
  · rw [if_neg c, if_neg (by omega)]
/-- in the order of the heirs -/
def PKd (L : PH) (p d u : Nat) (M : PH) : Prop := W9 M ∧ (∀ j k : Nat, j ≠ 7 → j ≠ 8 → M j k = L j k) ∧ (∀ e x : Nat, e < 8 → x < 8 → e ≠ d → M 7 (8 * e + x) = L 7 (8 * e + x)) ∧ (∀ k : Nat, k < u → okL L p d k → M 7 (8 * d + hrL L p k) = cap9 (L 7 (8 * d + hrL L p k) + shL L p d k)) ∧ ∀ x : Nat, x < 8 → (∀ k : Nat, k < u → okL L p d k → hrL L p k ≠ x) → M 7 (8 * d + x) = L 7 (8 * d + x)
theorem diK_9 (r : RN9 g L) (w : W9 L) (hD : DsL L) (hp : p < 8) (hd : d < 8) (hpd : bB (L 0 7) p = true) : ∀ u : Nat, (u : Int) ≤ L 14 p → ∃ M, RN9 (diK g p d u) M ∧ PKd L p d u M
  | 0, _ => ⟨L, r, w, fun _ _ _ _ => rfl, fun _ _ _ _ _ => rfl, fun k hk => absurd hk (by omega), fun _ _ _ => rfl⟩
  | u + 1, hu => by
    obtain ⟨M, q, m⟩ := diK_9 r w hD hp hd hpd u (by omega)
    obtain ⟨m1, m2, m3, m4, m5⟩ := id m
    have h3 := w.1.2.2.1 p hp
    have h8 := w.1.2.1
    have r13 := w.2.2.2.2.1 p u hp (by omega) (by omega)
    have e14 : M 14 p = L 14 p := m2 14 p (by omega) (by omega)
    have e13 : ∀ k, M 13 k = L 13 k := fun k => m2 13 k (by omega) (by omega)
    have e07 : M 0 7 = L 0 7 := m2 0 7 (by omega) (by omega)
    have o := ok_b9 (d := d) q m1 hp (k := u) (by omega) (by rw [e14]; omega)
    rw [ok_cg e07 e13] at o
    have eh : heR (diK g p d u) p (u + 1) = hrL L p u := by
      rw [he_b9 q hp (by omega) (by rw [e14]; omega)]; unfold hrL; rw [e13]
    have nx : ∀ k : Nat, k < u → okL L p d k → hrL L p k ≠ hrL L p u := fun k hk _ => hD p k u hp hk (by omega)
    by_cases c : okL L p d u
    · have x8 : hrL L p u < 8 := by unfold hrL; omega
      have pd : M 7 (8 * d + p) = L 7 (8 * d + p) := m5 p hp (fun k _ ho z => ho.1 (by rw [z]; exact hpd))
      have xd : M 7 (8 * d + hrL L p u) = L 7 (8 * d + hrL L p u) := m5 _ x8 nx
      have sb := sh_b w hp hd (k := u)
      have ob := w.1.2.2.2.2.1 (8 * d + hrL L p u) (by omega)
      have cb := cap9_b (x := L 7 (8 * d + hrL L p u) + shL L p d u) (by omega)
      have e : diK g p d (u + 1) = uph (diK g p d u) 170 (67 + 8 * d + hrL L p u) (cap9 (L 7 (8 * d + hrL L p u) + shL L p d u)) := by
        show (if _ then _ else _) = _
        rw [if_pos (o.mpr c), eh, pa_b9 q m1 hp hd (by rw [e14]; omega), sh_cg e07 e13 e14 pd, show 67 + 8 * d + hrL L p u = 67 + (8 * d + hrL L p u) by omega, q.2.2.2.1 _ (by omega), xd, w32_id (by omega) (by omega), zm_c]
      have ow := q.ow (x := (d : Int)) (y := (hrL L p u : Int)) (v := cap9 (L 7 (8 * d + hrL L p u) + shL L p d u)) (by omega) (by omega)
      rw [Int.toNat_natCast, Int.toNat_natCast] at ow
      refine ⟨_, by rw [e]; exact ow, m1.ow (by omega) ⟨by omega, by rw [m2 0 4 (by omega) (by omega)]; unfold hrL; omega⟩ cb, fun j k j7 j8 => by rw [owe_o j7 j8]; exact m2 j k j7 j8, fun e x he hx hne => by rw [owe_7, if_neg (by omega)]; exact m3 e x he hx hne, fun k hk ho => ?_, fun x hx hxq => ?_⟩
      · by_cases z : k = u
        · subst z; rw [owe_7, if_pos (by omega)]
        · have := nx k (by omega) ho
          rw [owe_7, if_neg (by omega)]; exact m4 k (by omega) ho
      · have := hxq u (by omega) c
        rw [owe_7, if_neg (by omega)]; exact m5 x hx (fun k hk => hxq k (by omega))
    · have e : diK g p d (u + 1) = diK g p d u := by
        show (if _ then _ else _) = _
        rw [if_neg (fun z => c (o.mp z))]
      refine ⟨M, by rw [e]; exact q, m1, m2, m3, fun k hk ho => ?_, fun x hx hxq => m5 x hx (fun k hk => hxq k (by omega))⟩
      by_cases z : k = u
      · subst z; exact absurd ho c
      · exact m4 k (by omega) ho
theorem diA_9 (r : RN9 g L) (w : W9 L) (hD : DsL L) (hp : (p : Int) < L 0 4) (hz : L 7 (8 * p + p) = 0) : ∀ d : Nat, (d : Int) ≤ L 0 4 → ∃ M, RN9 (diA g p d) M ∧ DIn (ddL L p) p d M
  | 0, _ => by
    have h8 := w.1.2.1
    exact ⟨ddL L p, r.ud w (by omega), w.dd hp, fun _ _ _ _ => rfl, fun d hd => absurd hd (by omega), fun _ _ _ _ _ => rfl⟩
  | d + 1, hd => by
    have h8 := w.1.2.1
    have p8 : p < 8 := by omega
    obtain ⟨M, q, m⟩ := diA_9 r w hD hp hz d (by omega)
    obtain ⟨m1, m2, m3, m4⟩ := id m
    have y : ∀ j k : Nat, ¬ (j = 0 ∧ k = 7) → ddL L p j k = L j k := fun j k q => up_ne (by omega)
    have e14 : ∀ k, M 14 k = L 14 k := fun k => (m2 14 k (by omega) (by omega)).trans (y 14 k (by omega))
    have e13 : ∀ k, M 13 k = L 13 k := fun k => (m2 13 k (by omega) (by omega)).trans (y 13 k (by omega))
    have ev : diA g p d 170 (67 + 8 * d + p) = M 7 (8 * d + p) := by
      rw [show 67 + 8 * d + p = 67 + (8 * d + p) by omega]; exact q.2.2.2.1 _ (by omega)
    have ob := m1.1.2.2.2.2.1 (8 * d + p) (by omega)
    by_cases c : d = p ∨ diA g p d 170 (67 + 8 * d + p) = 0
    · have e : diA g p (d + 1) = diA g p d := if_pos c
      refine ⟨M, by rw [e]; exact q, m.no (by omega) p8 ?_⟩
      rcases c with c | c
      · subst c
        rw [m4 d d (by omega) (by omega) (by omega), y 7 _ (by omega), hz]
        exact Int.le_refl 0
      · rw [← ev, c]
        exact Int.le_refl 0
    · have e : diA g p (d + 1) = uph (diK (diA g p d) p d (hcR (diA g p d) p)) 170 (67 + 8 * d + p) (zmin 99 0) := if_neg c
      have bd : bB (M 0 7) p = true := by rw [m2 0 7 (by omega) (by omega)]; exact (dd_bit w p8 p8).mpr (Or.inr rfl)
      have h3 := m1.1.2.2.1 p p8
      obtain ⟨N, s, n1, n2, n3, n4, n5⟩ := diK_9 (d := d) q m1 (hD.cg e13 e14) p8 (by omega) bd (hnL M p) (by unfold hnL; omega)
      have ow := s.ow (x := (d : Int)) (y := (p : Int)) (v := 0) (by omega) (by omega)
      rw [Int.toNat_natCast, Int.toNat_natCast] at ow
      have e4 : M 0 4 = L 0 4 := (m2 0 4 (by omega) (by omega)).trans (y 0 4 (by omega))
      refine ⟨owe N (d : Int) (p : Int) 0, by rw [e, hc_b9 q p8, zm0]; exact ow, m.st (by omega) p8 (fun k hk => ?_) ⟨n1.ow (by omega) ⟨by omega, by rw [n2 0 4 (by omega) (by omega), e4]; exact hp⟩ (by omega), fun j k j7 j8 => by rw [owe_o j7 j8]; exact n2 j k j7 j8, fun e x he hx hne => by rw [owe_7, if_neg (by omega)]; exact n3 e x he hx hne, fun z => ?_, fun _ => ⟨by rw [owe_7, if_pos (by omega)], fun k hk ho => ?_, fun x hx hxp hxq => ?_⟩⟩⟩
      · unfold hnL at hk
        rw [y 14 p (by omega)] at hk
        have r13 := w.2.2.2.2.1 p k p8 (by rw [e14] at h3; omega) (by omega)
        unfold hrL
        rw [y 13 _ (by omega)]
        omega
      · exact absurd (show diA g p d 170 (67 + 8 * d + p) = 0 by rw [ev]; omega) (fun z => c (Or.inr z))
      · have ne : hrL M p k ≠ p := fun z => ho.1 (by rw [z]; exact bd)
        rw [owe_7, if_neg (by omega)]; exact n4 k hk ho
      · rw [owe_7, if_neg (by omega)]; exact n5 x hx hxq
theorem DIn.one {M M' : PH} {u : Nat} (m : DIn L p u M) (n : DIn L p u M') (hp : p < 8) (hR : ∀ k : Nat, k < hnL L p → hrL L p k < 8) : ∀ q : Nat, q < 64 → M' 7 q = M 7 q := fun q hq => by
  obtain ⟨-, -, m3, m4⟩ := m
  obtain ⟨-, -, n3, n4⟩ := n
  have e : q = 8 * (q / 8) + q % 8 := by omega
  generalize hx : q % 8 = x at e
  generalize hd : q / 8 = d at e
  have x8 : x < 8 := by omega
  have d8 : d < 8 := by omega
  rw [e]
  by_cases c : d < u
  · have a := m3 d c
    have b := n3 d c
    by_cases z : L 7 (8 * d + p) ≤ 0
    · rw [a.1 z x x8, b.1 z x x8]
    · obtain ⟨a1, a2, a3⟩ := a.2 (by omega)
      obtain ⟨b1, b2, b3⟩ := b.2 (by omega)
      by_cases y : x = p
      · subst y; rw [a1, b1]
      · by_cases w : ∃ k, k < hnL L p ∧ okL L p d k ∧ hrL L p k = x
        · obtain ⟨k, k1, k2, k3⟩ := w
          have a4 := a2 k k1 k2
          have b4 := b2 k k1 k2
          rw [k3] at a4 b4
          rw [a4, b4]
        · have no : ∀ k, k < hnL L p → okL L p d k → hrL L p k ≠ x := fun k k1 k2 k3 => w ⟨k, k1, k2, k3⟩
          rw [a3 x x8 y no, b3 x x8 y no]
  · rw [m4 d x (by omega) d8 x8, n4 d x (by omega) d8 x8]
/-- a DIE does the same -/
theorem di_b9 {M : PH} (r : RN9 g L) (w : W9 L) (hD : DsL L) (hp : (p : Int) < L 0 4) (hz : L 7 (8 * p + p) = 0) (m : DIn (ddL L p) p (L 0 4).toNat M) : RN9 (diR g p) M := by
  have h8 := w.1.2.1
  have h3 := w.1.2.2.1 p (by omega)
  obtain ⟨N, s, n⟩ := diA_9 r w hD hp hz (L 0 4).toNat (by omega)
  have y : ∀ j k : Nat, ¬ (j = 0 ∧ k = 7) → ddL L p j k = L j k := fun j k q => up_ne (by omega)
  have e : diR g p = diA g p (L 0 4).toNat := by unfold diR; rw [r.1.2.1]
  rw [e]
  refine s.eq (n.one m (by omega) (fun k hk => ?_)) (fun j k j7 j8 => by rw [m.2.1 j k j7 j8, n.2.1 j k j7 j8])
  unfold hnL at hk
  rw [y 14 p (by omega)] at hk
  have r13 := w.2.2.2.2.1 p k (by omega) (by omega) (by omega)
  unfold hrL
  rw [y 13 _ (by omega)]
  omega
end RF
