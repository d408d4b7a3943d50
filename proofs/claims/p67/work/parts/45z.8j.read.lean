/-! what holds of a LAND that is read -/
def WP (L : PH) : Prop := (0 ≤ L 1 0 ∧ L 1 0 ≤ 7) ∧ (0 ≤ L 0 4 ∧ L 0 4 ≤ 8) ∧ (∀ p : Nat, p < 8 → 0 ≤ L 14 p ∧ L 14 p ≤ 3) ∧ (∀ p b : Nat, p < 8 → b < 8 → p = b ∨ L 0 4 ≤ (p : Int) ∨ L 0 4 ≤ (b : Int) → L 7 (8 * p + b) = 0) ∧ (∀ p : Nat, (p : Int) < L 0 4 → (0 ≤ L 11 p ∧ L 11 p < L 1 0) ∧ 0 ≤ L 12 p ∧ L 12 p < L 1 0) ∧ (∀ p k : Nat, p < 8 → k < 3 → (k : Int) < L 14 p → 0 ≤ L 13 (3 * p + k) ∧ L 13 (3 * p + k) < L 0 4) ∧ (∀ i : Nat, i < 7 → 0 ≤ L 15 i ∧ L 15 i ≤ 9999) ∧ DsL L ∧ (∀ i : Nat, i < 7 → SB (L 2 i) (L 1 0)) ∧ ∀ i j : Nat, i < 7 → j < 7 → bB (L 2 i) j = bB (L 2 j) i
def PP (r : PR) : Prop := ∀ q, r = .inr q → WP q.2
theorem PP.bd {T : TX} {a : Int} {s : Nat} : PP (bad T a s) := fun q h => by unfold bad at h; cases h
theorem PP.ite {c : Prop} {i : Decidable c} {a b : PR} (h1 : c → PP a) (h2 : ¬ c → PP b) : PP (@ite PR c i a b) := by
  by_cases z : c
  · rw [if_pos z]; exact h1 z
  · rw [if_neg z]; exact h2 z
theorem PP.sm {T : TX} {s : Nat} {L : PH} (w : WP L) : PP (semi T s L) := by
  unfold semi
  exact PP.ite (fun _ q h => by cases h; exact w) (fun _ => PP.bd)
theorem PP.nw {T : TX} {s : Nat} {L : PH} {k : PR} (h : PP k) : PP (pNew T s L k) := by
  unfold pNew
  exact PP.ite (fun _ => PP.ite (fun _ => PP.bd) (fun _ => h)) (fun _ => PP.bd)
theorem ho_p {T : TX} {L : PH} {s : Nat} (h0 : 0 ≤ L 1 0) (h : ho T L s ≠ -1) : 0 ≤ ho T L s ∧ ho T L s < L 1 0 := by
  unfold ho at h ⊢
  by_cases z : isN T s
  · rw [if_pos z] at h ⊢
    have := fd_b (g := L 9) (x := wc T s) (L 1 0).toNat
    unfold nmH at h ⊢
    omega
  · rw [if_neg z] at h
    exact absurd rfl h
theorem pe_p {T : TX} {L : PH} {s : Nat} (h0 : 0 ≤ L 0 4) (h : pe T L s ≠ -1) : 0 ≤ pe T L s ∧ pe T L s < L 0 4 := by
  unfold pe at h ⊢
  by_cases z : isN T s
  · rw [if_pos z] at h ⊢
    have := fd_b (g := L 10) (x := wc T s) (L 0 4).toNat
    unfold nmP at h ⊢
    omega
  · rw [if_neg z] at h
    exact absurd rfl h
theorem fd_m {g : Nat → Int} {x : Int} : ∀ n : Nat, fd g x n = -1 → ∀ i, i < n → g i ≠ x
  | 0, _, i, hi => absurd hi (by omega)
  | n + 1, h, i, hi => by
    have h : (if fd g x n = -1 then (if g n = x then (n : Int) else -1) else fd g x n) = -1 := h
    by_cases z : fd g x n = -1
    · rw [if_pos z] at h
      by_cases y : g n = x
      · rw [if_pos y] at h; omega
      · by_cases e : i = n
        · rw [e]; exact y
        · exact fd_m n z i (by omega)
    · rw [if_neg z] at h
      exact absurd h z
section OPS
variable {L M : PH}
theorem WP.house (w : WP L) (h : L 1 0 < 7) (e : ∀ j k : Nat, j ≠ 1 → j ≠ 9 → M j k = L j k) (e1 : M 1 0 = L 1 0 + 1) : WP M := by
  obtain ⟨w1, w2, w3, w4, w5, w6, w7, w8, w9, w10⟩ := w
  have e0 := e 0 4 (by omega) (by omega)
  refine ⟨by omega, by rw [e0]; exact w2, fun p hp => by rw [e 14 p (by omega) (by omega)]; exact w3 p hp, fun p b hp hb q => by rw [e0] at q; rw [e 7 _ (by omega) (by omega)]; exact w4 p b hp hb q, fun p q => ?_, fun p k hp hk q => by rw [e 14 p (by omega) (by omega)] at q; rw [e 13 _ (by omega) (by omega), e0]; exact w6 p k hp hk q, fun i hi => by rw [e 15 i (by omega) (by omega)]; exact w7 i hi, w8.cg (fun k => e 13 k (by omega) (by omega)) (fun k => e 14 k (by omega) (by omega)), fun i hi => by rw [e 2 i (by omega) (by omega), e1]; exact (w9 i hi).mo (by omega), fun i j hi hj => by rw [e 2 i (by omega) (by omega), e 2 j (by omega) (by omega)]; exact w10 i j hi hj⟩
  rw [e0] at q
  have := w5 p q
  rw [e 11 p (by omega) (by omega), e 12 p (by omega) (by omega), e1]
  omega
theorem WP.pers {x : Int} (w : WP L) (h : L 0 4 < 8) (hx : 0 ≤ x ∧ x < L 1 0) (e : ∀ j k : Nat, j ≠ 0 → j ≠ 10 → j ≠ 11 → j ≠ 12 → M j k = L j k) (e0 : M 0 4 = L 0 4 + 1) (e11 : ∀ k : Nat, M 11 k = if k = (L 0 4).toNat then x else L 11 k) (e12 : ∀ k : Nat, M 12 k = if k = (L 0 4).toNat then x else L 12 k) : WP M := by
  obtain ⟨w1, w2, w3, w4, w5, w6, w7, w8, w9, w10⟩ := w
  have e1 := e 1 0 (by omega) (by omega) (by omega) (by omega)
  refine ⟨by rw [e1]; exact w1, by omega, fun p hp => by rw [e 14 p (by omega) (by omega) (by omega) (by omega)]; exact w3 p hp, fun p b hp hb q => by rw [e0] at q; rw [e 7 _ (by omega) (by omega) (by omega) (by omega)]; exact w4 p b hp hb (by omega), fun p q => ?_, fun p k hp hk q => ?_, fun i hi => by rw [e 15 i (by omega) (by omega) (by omega) (by omega)]; exact w7 i hi, w8.cg (fun k => e 13 k (by omega) (by omega) (by omega) (by omega)) (fun k => e 14 k (by omega) (by omega) (by omega) (by omega)), fun i hi => by rw [e 2 i (by omega) (by omega) (by omega) (by omega), e1]; exact w9 i hi, fun i j hi hj => by rw [e 2 i (by omega) (by omega) (by omega) (by omega), e 2 j (by omega) (by omega) (by omega) (by omega)]; exact w10 i j hi hj⟩
  · rw [e11, e12, e1]
    by_cases z : p = (L 0 4).toNat
    · rw [if_pos z, if_pos z]; exact ⟨hx, hx⟩
    · rw [if_neg z, if_neg z]; exact w5 p (by omega)
  · rw [e 14 p (by omega) (by omega) (by omega) (by omega)] at q
    have := w6 p k hp hk q
    rw [e 13 _ (by omega) (by omega) (by omega) (by omega), e0]
    omega
theorem WP.hg {x y : Int} (w : WP L) (hx : 0 ≤ x ∧ x < L 1 0) (hy : 0 ≤ y ∧ y < L 1 0) (hxy : x ≠ y) : WP (hang L x y) := by
  obtain ⟨w1, w2, w3, w4, w5, w6, w7, w8, w9, w10⟩ := w
  have e : ∀ j k : Nat, j ≠ 2 → hang L x y j k = L j k := fun j k q => by unfold hang; rw [up_ne (by omega), up_ne (by omega)]
  have e2 : ∀ k : Nat, hang L x y 2 k = if k = x.toNat then zor (L 2 k) (zshl 1 y) else if k = y.toNat then zor (L 2 k) (zshl 1 x) else L 2 k := fun k => by
    unfold hang
    rw [up_rd]
    by_cases z : k = x.toNat
    · rw [if_neg (by omega), if_pos z, z, up_rd, if_pos ⟨rfl, rfl⟩]
    · rw [if_neg z]
      by_cases q : k = y.toNat
      · rw [if_pos ⟨rfl, q⟩, if_pos q, q, up_ne (by omega)]
      · rw [if_neg (by omega), if_neg q, up_ne (by omega)]
  have so : ∀ {v n : Int}, SB v (L 1 0) → 0 ≤ n → n < L 1 0 → SB (zor v (zshl 1 n)) (L 1 0) := fun {v n} s h0 h1 => by
    have := s.set (p := n.toNat) (by omega) (by omega)
    rw [show ((n.toNat : Nat) : Int) = n by omega] at this
    exact this
  have bo : ∀ {v n : Int} {j : Nat}, 0 ≤ n → n < 8 → j < 8 → bB (zor v (zshl 1 n)) j = (bB v j || decide (j = n.toNat)) := fun {v n j} h0 h1 hj => by
    have z := bB_one (a := n.toNat) (i := j) (by omega) hj
    rw [show ((n.toNat : Nat) : Int) = n by omega] at z
    rw [bB_or, z]
  refine ⟨by rw [e 1 0 (by omega)]; exact w1, by rw [e 0 4 (by omega)]; exact w2, fun p hp => by rw [e 14 p (by omega)]; exact w3 p hp, fun p b hp hb q => by rw [e 0 4 (by omega)] at q; rw [e 7 _ (by omega)]; exact w4 p b hp hb q, fun p q => by rw [e 0 4 (by omega)] at q; rw [e 11 p (by omega), e 12 p (by omega), e 1 0 (by omega)]; exact w5 p q, fun p k hp hk q => by rw [e 14 p (by omega)] at q; rw [e 13 _ (by omega), e 0 4 (by omega)]; exact w6 p k hp hk q, fun i hi => by rw [e 15 i (by omega)]; exact w7 i hi, w8.cg (fun k => e 13 k (by omega)) (fun k => e 14 k (by omega)), fun i hi => ?_, fun i j hi hj => ?_⟩
  · rw [e 1 0 (by omega), e2]
    have z := w9 i hi
    by_cases q : i = x.toNat
    · rw [if_pos q]; exact so z hy.1 hy.2
    · rw [if_neg q]
      by_cases q2 : i = y.toNat
      · rw [if_pos q2]; exact so z hx.1 hx.2
      · rw [if_neg q2]; exact z
  · have Q : ∀ i j : Nat, i < 7 → j < 7 → bB (hang L x y 2 i) j = (bB (L 2 i) j || decide ((i = x.toNat ∧ j = y.toNat) ∨ (i = y.toNat ∧ j = x.toNat))) := fun i j hi hj => by
      rw [e2]
      by_cases q : i = x.toNat
      · rw [if_pos q, bo hy.1 (by omega) (by omega), show decide (j = y.toNat) = decide ((i = x.toNat ∧ j = y.toNat) ∨ (i = y.toNat ∧ j = x.toNat)) from decide_eq_decide.mpr ⟨fun z => Or.inl ⟨q, z⟩, fun z => by omega⟩]
      · rw [if_neg q]
        by_cases q2 : i = y.toNat
        · rw [if_pos q2, bo hx.1 (by omega) (by omega), show decide (j = x.toNat) = decide ((i = x.toNat ∧ j = y.toNat) ∨ (i = y.toNat ∧ j = x.toNat)) from decide_eq_decide.mpr ⟨fun z => Or.inr ⟨q2, z⟩, fun z => by omega⟩]
        · rw [if_neg q2, decide_eq_false (by omega), Bool.or_false]
    rw [Q i j hi hj, Q j i hj hi, w10 i j hi hj, show decide ((i = x.toNat ∧ j = y.toNat) ∨ (i = y.toNat ∧ j = x.toNat)) = decide ((j = x.toNat ∧ i = y.toNat) ∨ (j = y.toNat ∧ i = x.toNat)) from decide_eq_decide.mpr ⟨fun q => by omega, fun q => by omega⟩]
theorem WP.ow {x y v : Int} (w : WP L) (hx : 0 ≤ x ∧ x < L 0 4) (hy : 0 ≤ y ∧ y < L 0 4) (hxy : x ≠ y) : WP (owe L x y v) := by
  obtain ⟨w1, w2, w3, w4, w5, w6, w7, w8, w9, w10⟩ := w
  have e : ∀ j k : Nat, j ≠ 7 → j ≠ 8 → owe L x y v j k = L j k := fun j k q7 q8 => owe_o q7 q8
  refine ⟨by rw [e 1 0 (by omega) (by omega)]; exact w1, by rw [e 0 4 (by omega) (by omega)]; exact w2, fun p hp => by rw [e 14 p (by omega) (by omega)]; exact w3 p hp, fun p b hp hb q => ?_, fun p q => by rw [e 0 4 (by omega) (by omega)] at q; rw [e 11 p (by omega) (by omega), e 12 p (by omega) (by omega), e 1 0 (by omega) (by omega)]; exact w5 p q, fun p k hp hk q => by rw [e 14 p (by omega) (by omega)] at q; rw [e 13 _ (by omega) (by omega), e 0 4 (by omega) (by omega)]; exact w6 p k hp hk q, fun i hi => by rw [e 15 i (by omega) (by omega)]; exact w7 i hi, w8.cg (fun k => e 13 k (by omega) (by omega)) (fun k => e 14 k (by omega) (by omega)), fun i hi => by rw [e 2 i (by omega) (by omega), e 1 0 (by omega) (by omega)]; exact w9 i hi, fun i j hi hj => by rw [e 2 i (by omega) (by omega), e 2 j (by omega) (by omega)]; exact w10 i j hi hj⟩
  rw [e 0 4 (by omega) (by omega)] at q
  rw [owe_7, if_neg (by omega)]
  exact w4 p b hp hb q
theorem WP.heir {x y : Int} (w : WP L) (hx : 0 ≤ x ∧ x < L 0 4) (hy : 0 ≤ y ∧ y < L 0 4) (hf : fd (fun k => L 13 (3 * x.toNat + k)) y (L 14 x.toNat).toNat = -1) (h3 : L 14 x.toNat < 3) : WP (uph (uph L 13 (3 * x.toNat + (L 14 x.toNat).toNat) y) 14 x.toNat (L 14 x.toNat + 1)) := by
  obtain ⟨w1, w2, w3, w4, w5, w6, w7, w8, w9, w10⟩ := w
  have x3 := w3 x.toNat (by omega)
  generalize hM : uph (uph L 13 (3 * x.toNat + (L 14 x.toNat).toNat) y) 14 x.toNat (L 14 x.toNat + 1) = M
  have e : ∀ j k : Nat, j ≠ 13 → j ≠ 14 → M j k = L j k := fun j k q7 q8 => by rw [← hM, up_ne (by omega), up_ne (by omega)]
  have e14 : ∀ k : Nat, M 14 k = if k = x.toNat then L 14 k + 1 else L 14 k := fun k => by
    rw [← hM, up_rd]
    by_cases z : k = x.toNat
    · rw [if_pos ⟨rfl, z⟩, if_pos z, z]
    · rw [if_neg (by omega), if_neg z, up_ne (by omega)]
  have e13 : ∀ k : Nat, M 13 k = if k = 3 * x.toNat + (L 14 x.toNat).toNat then y else L 13 k := fun k => by
    rw [← hM, up_ne (by omega), up_rd]
    by_cases z : k = 3 * x.toNat + (L 14 x.toNat).toNat
    · rw [if_pos ⟨rfl, z⟩, if_pos z]
    · rw [if_neg (by omega), if_neg z]
  have fm := fd_m _ hf
  refine ⟨by rw [e 1 0 (by omega) (by omega)]; exact w1, by rw [e 0 4 (by omega) (by omega)]; exact w2, fun p hp => ?_, fun p b hp hb q => by rw [e 0 4 (by omega) (by omega)] at q; rw [e 7 _ (by omega) (by omega)]; exact w4 p b hp hb q, fun p q => by rw [e 0 4 (by omega) (by omega)] at q; rw [e 11 p (by omega) (by omega), e 12 p (by omega) (by omega), e 1 0 (by omega) (by omega)]; exact w5 p q, fun p k hp hk q => ?_, fun i hi => by rw [e 15 i (by omega) (by omega)]; exact w7 i hi, fun p j k hp hj hk => ?_, fun i hi => by rw [e 2 i (by omega) (by omega), e 1 0 (by omega) (by omega)]; exact w9 i hi, fun i j hi hj => by rw [e 2 i (by omega) (by omega), e 2 j (by omega) (by omega)]; exact w10 i j hi hj⟩
  · rw [e14]
    have := w3 p hp
    by_cases z : p = x.toNat
    · rw [if_pos z, z]; omega
    · rw [if_neg z]; exact this
  · rw [e14] at q
    rw [e13, e 0 4 (by omega) (by omega)]
    by_cases z : 3 * p + k = 3 * x.toNat + (L 14 x.toNat).toNat
    · rw [if_pos z]; exact hy
    · rw [if_neg z]
      by_cases z2 : p = x.toNat
      · rw [if_pos z2] at q
        exact w6 p k hp hk (by rw [z2] at q ⊢; omega)
      · rw [if_neg z2] at q
        exact w6 p k hp hk q
  · rw [e14] at hk
    have p3 := w3 p hp
    unfold hrL
    rw [e13, e13]
    by_cases z2 : p = x.toNat
    · rw [if_pos z2] at hk
      rw [z2] at hk ⊢
      by_cases z : k = (L 14 x.toNat).toNat
      · rw [if_pos (show 3 * x.toNat + k = 3 * x.toNat + (L 14 x.toNat).toNat by omega), if_neg (by omega)]
        have a := fm j (by omega)
        have b := w6 x.toNat j (by omega) (by omega) (by omega)
        have a : L 13 (3 * x.toNat + j) ≠ y := a
        omega
      · rw [if_neg (by omega), if_neg (by omega)]
        exact w8 x.toNat j k (by omega) hj (by omega)
    · rw [if_neg z2] at hk
      rw [if_neg (by omega), if_neg (by omega)]
      exact w8 p j k hp hj hk
end OPS
theorem part_P {T : TX} {s : Nat} {L : PH} (w : WP L) : PP (pPart T s L) := by
  have w1 := w.1
  have w2 := w.2.1
  unfold pPart
  refine PP.ite (fun _ => ?_) (fun _ => PP.ite (fun _ => ?_) (fun _ => PP.ite (fun _ => ?_) (fun _ => PP.ite (fun _ => ?_) (fun _ => PP.ite (fun _ => ?_) (fun _ => PP.bd)))))
  · unfold pHouse
    refine PP.ite (fun _ => PP.bd) (fun h => PP.nw (PP.sm ?_))
    split
    · exact w.house (by omega) (fun j k q1 q2 => by rw [up_ne (by omega), up_ne (by omega), up_ne (by omega)]) (by rw [up_ne (by omega), up_rd, if_pos ⟨rfl, rfl⟩])
    · exact w.house (by omega) (fun j k q1 q2 => by rw [up_ne (by omega), up_ne (by omega)]) (by rw [up_rd, if_pos ⟨rfl, rfl⟩])
  · unfold pDoor
    refine PP.ite (fun _ => PP.bd) (fun h1 => PP.ite (fun _ => PP.bd) (fun h2 => PP.ite (fun _ => PP.bd) (fun h3 => PP.sm ?_)))
    exact w.hg (ho_p w1.1 h1) (ho_p w1.1 h2) h3
  · unfold pPerson
    refine PP.ite (fun _ => PP.bd) (fun h => PP.nw (PP.ite (fun _ => PP.ite (fun _ => PP.bd) (fun h2 => ?_)) (fun _ => PP.bd)))
    have hx := ho_p w1.1 h2
    unfold pPers2
    generalize ho T L (nt T (nt T (nt T s))) = x at hx
    generalize wc T (nt T s) = y
    refine PP.sm (w.pers (x := x) (by omega) hx (fun j k q0 q10 q11 q12 => by rw [up_ne (by omega), up_ne (by omega), up_ne (by omega), up_ne (by omega), up_ne (by omega), up_ne (by omega), up_ne (by omega)]) (by rw [up_rd, if_pos ⟨rfl, rfl⟩, up_ne (by omega)]) (fun k => ?_) (fun k => ?_))
    · rw [up_ne (by omega), up_ne (by omega), up_ne (by omega), up_ne (by omega), up_ne (by omega), up_rd, up_ne (show ¬ (0 = 10 ∧ _) by omega)]
      by_cases z : k = (L 0 4).toNat
      · rw [if_pos ⟨rfl, z⟩, if_pos z]
      · rw [if_neg (by omega), if_neg z, up_ne (by omega)]
    · rw [up_ne (by omega), up_ne (by omega), up_ne (by omega), up_ne (by omega), up_rd, up_ne (show ¬ (0 = 10 ∧ _) by omega)]
      by_cases z : k = (L 0 4).toNat
      · rw [if_pos ⟨rfl, z⟩, if_pos z]
      · rw [if_neg (by omega), if_neg z, up_ne (by omega), up_ne (by omega)]
  · unfold pOwes pTwo
    refine PP.ite (fun _ => PP.bd) (fun h1 => PP.ite (fun _ => PP.bd) (fun h2 => PP.ite (fun _ => PP.bd) (fun h3 => PP.ite (fun _ => PP.ite (fun _ => PP.sm ?_) (fun _ => PP.bd)) (fun _ => PP.bd))))
    exact w.ow (pe_p w2.1 h1) (pe_p w2.1 h2) (fun z => h3 z.symm)
  · unfold pHeir pTwo
    refine PP.ite (fun _ => PP.bd) (fun h1 => PP.ite (fun _ => PP.bd) (fun h2 => PP.ite (fun _ => PP.bd) (fun h3 => PP.ite (fun _ => PP.bd) (fun h4 => PP.ite (fun _ => PP.bd) (fun h5 => PP.sm ?_)))))
    exact w.heir (pe_p w2.1 h1) (pe_p w2.1 h2) (Classical.not_not.mp h4) (by omega)
theorem pl_P {T : TX} : ∀ (f s : Nat) (L : PH), WP L → PP (pl T f s L)
  | 0, s, L, w => fun q h => by cases h; exact w
  | f + 1, s, L, w => by
    show PP (if kd T s = 0 then Sum.inr (s, L) else (match pPart T s L with
      | .inl q => .inl q
      | .inr q => pl T f q.1 q.2))
    refine PP.ite (fun _ q h => by cases h; exact w) (fun _ => ?_)
    have pp := part_P (T := T) (s := s) w
    generalize pPart T s L = r at pp
    match r, pp with
    | .inl q, pp => exact fun q h => by cases h
    | .inr q, pp => exact pl_P f q.1 q.2 (pp q rfl)
theorem WP.cl (L : PH) : WP (clr L) := by
  have z : ∀ j k : Nat, j = 0 ∨ j = 1 ∨ j = 2 ∨ j = 7 ∨ j = 8 ∨ j = 14 ∨ j = 15 → clr L j k = 0 := fun j k q => if_pos q
  refine ⟨by rw [z _ _ (by omega)]; omega, by rw [z _ _ (by omega)]; omega, fun p hp => by rw [z _ _ (by omega)]; omega, fun p b hp hb q => z _ _ (by omega), fun p q => ?_, fun p k hp hk q => ?_, fun i hi => by rw [z _ _ (by omega)]; omega, fun p j k hp hj hk => ?_, fun i hi => by rw [z _ _ (by omega)]; exact SB.z _, fun i j hi hj => ?_⟩
  · rw [z _ _ (by omega)] at q; omega
  · rw [z _ _ (by omega)] at q; omega
  · rw [z _ _ (by omega)] at hk; omega
  · rw [z 2 i (by omega), z 2 j (by omega), bB_0 (by omega), bB_0 (by omega)]
/-- with the table it is all that holds -/
theorem WP.w10 {L M : PH} (w : WP L) (hW : WL L) (hT : TBL M) (e : ∀ j k : Nat, j ≠ 3 → j ≠ 4 → M j k = L j k) : W10 M := by
  obtain ⟨w1, w2, w3, w4, w5, w6, w7, w8, w9, w10⟩ := w
  have e04 := e 0 4 (by omega) (by omega)
  have e10 := e 1 0 (by omega) (by omega)
  refine ⟨⟨hW.kp (fun j k q => e j k (by omega) (by omega)) (by rw [e10]; exact w1) (by rw [e04]; exact w2) (hW.s.kp (fun j k q => e j k (by omega) (by omega))), fun p b hp hb q => ?_, fun p q => ?_, hT, fun p k hp hk q => ?_, fun i hi => by rw [e 15 i (by omega) (by omega)]; exact w7 i hi⟩, w8.cg (fun k => e 13 k (by omega) (by omega)) (fun k => e 14 k (by omega) (by omega)), fun p hp => ?_, fun i hi => by rw [e 2 i (by omega) (by omega), e10]; exact w9 i hi, fun i j hi hj => by rw [e 2 i (by omega) (by omega), e 2 j (by omega) (by omega)]; exact w10 i j hi hj, fun p b hp hb q => ?_⟩
  · rw [e04] at q
    rw [e 7 _ (by omega) (by omega)]; exact w4 p b hp hb (Or.inr (Or.inr q))
  · rw [e04] at q
    rw [e 11 p (by omega) (by omega), e 12 p (by omega) (by omega), e10]; exact w5 p q
  · rw [e 14 p (by omega) (by omega)] at q
    rw [e 13 _ (by omega) (by omega), e04]; exact w6 p k hp hk q
  · rw [e 7 _ (by omega) (by omega)]; exact w4 p p hp hp (Or.inl rfl)
  · rw [e04] at q
    rw [e 7 _ (by omega) (by omega)]; exact w4 p b hp hb (Or.inr (Or.inl q))
