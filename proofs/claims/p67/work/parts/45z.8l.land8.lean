/-! land(): the same LAND in both -/
theorem RLd.t {bs nb : Nat} {h L M : PH} (r : RLd bs nb h L) (e : ∀ j k : Nat, j ≠ 3 → j ≠ 4 → M j k = L j k) : RLd bs nb h M := by
  obtain ⟨a, b, c, d, f, g, i⟩ := r
  refine ⟨by rw [e 1 0 (by omega) (by omega), e 0 4 (by omega) (by omega), e 0 12 (by omega) (by omega), e 0 13 (by omega) (by omega)]; exact a, fun i hi => by rw [e 1 1 (by omega) (by omega), e 2 i (by omega) (by omega), e 15 i (by omega) (by omega)]; exact b i hi, fun p hp => by rw [e 0 4 (by omega) (by omega), e 11 p (by omega) (by omega), e 12 p (by omega) (by omega), e 0 7 (by omega) (by omega), e 0 8 (by omega) (by omega), e 0 9 (by omega) (by omega)]; exact c p hp, fun q hq => by rw [e 7 q (by omega) (by omega)]; exact d q hq, fun p hp => ?_, fun i hi => ?_, fun p hp => ?_⟩
  · rw [e 14 p (by omega) (by omega)]
    exact ⟨(f p hp).1, fun k hk q => by rw [e 13 _ (by omega) (by omega)]; exact (f p hp).2 k hk q⟩
  · rw [e 1 0 (by omega) (by omega)] at hi
    rw [e 9 i (by omega) (by omega)]; exact g i hi
  · rw [e 0 4 (by omega) (by omega)] at hp
    rw [e 10 p (by omega) (by omega)]; exact i p hp
section LAND
variable {sl : Nat} {si : Nat → Int} {h h1 h2 : PH} {a v w : Int}
theorem land_8 {L : PH} (hJ : J10 h) (hL : CL 5 h L) (hw : W10 L) (hr : RLd 0 0 h L) (p1 : CP (zz sl si (7, 0)) mX11_land h [(2, 0), (0, a)] h1 [(0, v)]) (p2 : CP (zz sl si (7, 0)) mX12_land h1 [(2, 169), (0, a)] h2 [(0, w)]) : v = w ∧ ((∃ M : PH, CL 5 h2 M ∧ W10 M ∧ RLd 0 0 h2 M ∧ (h2 21 0 = 0 ∧ h2 21 1 = 0 ∧ h2 21 2 = 0) ∧ h2 170 4 = -1) ∨ (CL 5 h2 L ∧ RLd 0 0 h2 L ∧ (∀ c k : Nat, 21 ≤ c → c ≤ 26 → h2 c k = h c k) ∧ ∀ k : Nat, k < 528 → h2 170 k = h 170 k)) ∧ FLC h h1 ∧ FLR h1 h2 := by
  have lt := c_X11_landT hJ p1
  obtain ⟨y1, n1, f1⟩ := c_X11_landF hJ p1
  obtain ⟨ja, jb, jc, jd⟩ := hJ
  have F1 : ∀ c k : Nat, 103 ≤ c → h1 c k = h c k := fun c k q => f1 c k (by omega) (by omega) (by omega) (by omega) (by omega) (by omega)
  obtain ⟨y2, n2, f2⟩ := c_X12_landF (B := fun k => h 3 k) (n := h 2 1) (L := fun j k => h (27 + j) k) (fun k hk => by rw [F1 175 k (by omega)]; exact jc k hk) (by rw [F1 169 10 (by omega)]; exact ja.symm) jb p2
  have F2 : ∀ c k : Nat, c ≤ 168 → h2 c k = h1 c k := fun c k q => f2 c k (by omega) (by omega) (by omega) (by omega) (by omega) (by omega)
  refine ⟨?_, ?_, f1, f2⟩
  · by_cases z : 0 ≤ a ∧ a ≤ h 2 1
    · have z1 := (y1 z).2
      have z2 := (y2 z).2
      generalize pl (Tx (fun k => h 3 k) a) 900 (sk (Tx (fun k => h 3 k) a) 0) (clr (fun j k => h (27 + j) k)) = r at z1 z2
      match r, z1, z2 with
      | .inl q, z1, z2 => exact z1.1.trans z2.1.symm
      | .inr q, z1, z2 => exact z1.1.trans z2.1.symm
    · exact (n1 z).2.trans (n2 z).2.symm
  · by_cases z : 0 ≤ a ∧ a ≤ h 2 1
    · have z0 := lt z
      have z1 := (y1 z).2
      have z2 := (y2 z).2
      have zP := pl_P (T := Tx (fun k => h 3 k) a) 900 (sk (Tx (fun k => h 3 k) a) 0) (clr (fun j k => h (27 + j) k)) (WP.cl _)
      generalize pl (Tx (fun k => h 3 k) a) 900 (sk (Tx (fun k => h 3 k) a) 0) (clr (fun j k => h (27 + j) k)) = r at z0 z1 z2 zP
      match r, z0, z1, z2, zP with
      | .inl q, z0, z1, z2, zP =>
        have z1 : v = -1 ∧ CF h1 q.1 q.2 ∧ h1 0 0 = 9 ∧ ∀ c k : Nat, 5 ≤ c → c ≤ 26 → h1 c k = h c k := z1
        have z2 : w = -1 ∧ h2 169 16 = q.1 ∧ h2 169 17 = (q.2 : Int) ∧ 0 < q.1 ∧ KS h1 h2 := z2
        obtain ⟨s1, s2⟩ := z2.2.2.2.2
        refine Or.inr ⟨hL.fr (fun c k q1 q2 => (F2 c k (by omega)).trans (z1.2.2.2 c k (by omega) (by omega))), hr.fr hw.1.1 (fun k q1 q2 => (s1 k (by omega)).trans (F1 170 k (by omega))) (fun k q1 q2 => (s2 k (by omega)).trans (F1 171 k (by omega))), fun c k q1 q2 => (F2 c k (by omega)).trans (z1.2.2.2 c k (by omega) q2), fun k hk => (s1 k hk).trans (F1 170 k (by omega))⟩
      | .inr q, z0, z1, z2, zP =>
        have z1 : v = q.2 0 4 ∧ (h1 2 10 = 0 ∧ h1 2 11 = -1) ∧ CLx 5 h1 q.2 ∧ WL q.2 ∧ (h1 21 0 = 0 ∧ h1 21 1 = 0 ∧ h1 21 2 = 0) ∧ h1 0 0 = 0 ∧ ∀ j k : Nat, inL j k → h1 (5 + j) k = h1 (27 + j) k := z1
        have z2 : w = q.2 0 4 ∧ h2 169 16 = 0 ∧ h2 169 17 = -1 ∧ RLd 0 0 h2 q.2 ∧ WL q.2 ∧ h2 170 4 = -1 := z2
        obtain ⟨M, m1, m2, m3⟩ := z0
        exact Or.inl ⟨M, m1.fr (fun c k q1 q2 => F2 c k (by omega)), (zP q rfl).w10 z1.2.2.2.1 m2 m3, z2.2.2.2.1.t m3, by rw [F2 21 0 (by omega), F2 21 1 (by omega), F2 21 2 (by omega)]; exact z1.2.2.2.2.1, z2.2.2.2.2.2⟩
    · have z1 := (n1 z).1
      have z2 := (n2 z).1
      refine Or.inr ⟨hL.fr (fun c k q1 q2 => by rw [z2, z1, up_ne (by omega), up_ne (by omega)]), hr.fr hw.1.1 (fun k q1 q2 => by rw [z2, z1, up_ne (by omega), up_ne (by omega)]) (fun k q1 q2 => by rw [z2, z1, up_ne (by omega), up_ne (by omega)]), fun c k q1 q2 => by rw [z2, z1, up_ne (by omega), up_ne (by omega)], fun k hk => by rw [z2, z1, up_ne (by omega), up_ne (by omega)]⟩
end LAND
