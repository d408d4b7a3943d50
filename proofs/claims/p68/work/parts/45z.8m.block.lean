section
/-! 45z.8m.block -/
/-! TALES that are read: rows and blocks -/
def isO (K : Int) : Prop := K = 18 ∨ K = 19 ∨ K = 20 ∨ K = 21
def inK (Y : PH) (k : Int) : Prop := ∃ i : Nat, (i : Int) < Y 50 4 ∧ Y 51 i = k
def hL0 (L : PH) (a : Int) : Prop := 0 ≤ a ∧ a < L 1 0
def pL0 (L : PH) (a : Int) : Prop := 0 ≤ a ∧ a < L 0 4
/-- one row -/
def okw (L : PH) (K a b n : Int) : Prop := (K = 1 ∨ (10 ≤ K ∧ K ≤ 14) ∨ K = 16 ∨ (18 ≤ K ∧ K ≤ 23)) ∧ (K = 1 ∨ K = 13 ∨ K = 18 → hL0 L a) ∧ (K = 11 ∨ K = 12 ∨ K = 14 ∨ K = 19 ∨ K = 20 → pL0 L a) ∧ (K = 12 ∨ K = 14 → pL0 L b) ∧ (K = 20 → hL0 L b) ∧ (K = 10 → 1 ≤ n ∧ n ≤ 9) ∧ (K = 14 ∨ K = 21 → 1 ≤ n ∧ n ≤ 99) ∧ (K = 18 → 0 ≤ n ∧ n ≤ 9999)
/-- rows and blocks of what is read so far -/
def WY9 (L Y : PH) : Prop := (0 ≤ Y 43 2 ∧ 0 ≤ Y 50 4) ∧
  (∀ k : Nat, (k : Int) < Y 43 2 → okw L (Y 44 k) (Y 45 k) (Y 46 k) (Y 47 k)) ∧
  (∀ i : Nat, (i : Int) < Y 50 4 → (0 ≤ Y 51 i ∧ Y 51 i < Y 43 2) ∧ isO (Y 44 (Y 51 i).toNat) ∧ ∀ j : Nat, j < i → Y 51 j < Y 51 i) ∧
  (∀ k : Nat, (k : Int) < Y 43 2 → isO (Y 44 k) → ¬ inK Y k → ((k : Int) < Y 48 k ∧ Y 48 k < Y 43 2) ∧ Y 44 (Y 48 k).toNat = 22 ∧ Y 48 (Y 48 k).toNat = (k : Int)) ∧
  (∀ k : Nat, (k : Int) < Y 43 2 → Y 44 k = 22 → (0 ≤ Y 48 k ∧ Y 48 k < (k : Int)) ∧ isO (Y 44 (Y 48 k).toNat) ∧ Y 48 (Y 48 k).toNat = (k : Int) ∧ ¬ inK Y (Y 48 k)) ∧
  ∀ o p : Nat, (o : Int) < Y 43 2 → isO (Y 44 o) → ¬ inK Y o → isO (Y 44 p) → o < p → (p : Int) < Y 48 o → ¬ inK Y p ∧ Y 48 p < Y 48 o
theorem ad_kk {Y : PH} {a b c d : Int} (h0 : 0 ≤ Y 43 2) {k : Nat} (hk : (k : Int) < Y 43 2) {j : Nat} (hj : 44 ≤ j) : adY Y a b c d j k = Y j k := by
  unfold adY
  rw [up_ne (by omega), up_ne (by omega), up_ne (by omega), up_ne (by omega), up_ne (by omega), up_ne (by omega)]
theorem ad_nn {Y : PH} {a b c d : Int} : adY Y a b c d 44 (Y 43 2).toNat = a ∧ adY Y a b c d 45 (Y 43 2).toNat = b ∧ adY Y a b c d 46 (Y 43 2).toNat = c ∧ adY Y a b c d 47 (Y 43 2).toNat = d ∧ adY Y a b c d 48 (Y 43 2).toNat = Y 43 2 ∧ adY Y a b c d 43 2 = Y 43 2 + 1 := by
  unfold adY
  refine ⟨?_, ?_, ?_, ?_, ?_, ?_⟩
  · rw [up_ne (by omega), up_ne (by omega), up_ne (by omega), up_ne (by omega), up_ne (by omega), up_sm]
  · rw [up_ne (by omega), up_ne (by omega), up_ne (by omega), up_ne (by omega), up_sm]
  · rw [up_ne (by omega), up_ne (by omega), up_ne (by omega), up_sm]
  · rw [up_ne (by omega), up_ne (by omega), up_sm]
  · rw [up_ne (by omega), up_sm]
  · rw [up_sm]
section WY
variable {L Y Z : PH}
/-- a row that opens no block -/
theorem WY9.ad {K a b n : Int} (w : WY9 L Y) (ho : okw L K a b n) (h22 : K ≠ 22) (hno : ¬ isO K) : WY9 L (adY Y K a b n) := by
  obtain ⟨⟨z0, z1⟩, w1, w2, w3, w4, w5⟩ := w
  obtain ⟨n44, n45, n46, n47, n48, n43⟩ := ad_nn (Y := Y) (a := K) (b := a) (c := b) (d := n)
  have e50 : adY Y K a b n 50 4 = Y 50 4 := ad_2 (by omega) (by omega)
  have e51 : ∀ i, adY Y K a b n 51 i = Y 51 i := fun i => ad_2 (by omega) (by omega)
  have eK : ∀ x, inK (adY Y K a b n) x ↔ inK Y x := fun x => by unfold inK; rw [e50]; exact ⟨fun ⟨i, q1, q2⟩ => ⟨i, q1, by rw [← e51]; exact q2⟩, fun ⟨i, q1, q2⟩ => ⟨i, q1, by rw [e51]; exact q2⟩⟩
  have L8 : ∀ k : Nat, (k : Int) < Y 43 2 + 1 → (k : Int) < Y 43 2 ∨ k = (Y 43 2).toNat := fun k hk => by omega
  have ek : ∀ {j k : Nat}, 44 ≤ j → (k : Int) < Y 43 2 → adY Y K a b n j k = Y j k := fun {j k} hj hk => ad_kk z0 hk hj
  refine ⟨⟨by rw [n43]; omega, by rw [e50]; exact z1⟩, fun k hk => ?_, fun i hi => ?_, fun k hk hO hN => ?_, fun k hk hE => ?_, fun o p ho' hO hN hP h1 h2 => ?_⟩
  · rw [n43] at hk
    rcases L8 k hk with q | q
    · rw [ek (by omega) q, ek (by omega) q, ek (by omega) q, ek (by omega) q]; exact w1 k q
    · subst q; rw [n44, n45, n46, n47]; exact ho
  · rw [e50] at hi
    obtain ⟨a1, a2, a3⟩ := w2 i hi
    rw [e51, n43, ek (by omega) (by omega)]
    exact ⟨by omega, a2, fun j hj => by rw [e51]; exact a3 j hj⟩
  · rw [n43] at hk
    rw [eK] at hN
    rcases L8 k hk with q | q
    · rw [ek (by omega) q] at hO
      obtain ⟨a1, a2, a3⟩ := w3 k q hO hN
      rw [ek (by omega) q, n43, ek (by omega) (by omega), ek (by omega) (by omega)]
      exact ⟨by omega, a2, a3⟩
    · subst q; rw [n44] at hO; exact absurd hO hno
  · rw [n43] at hk
    rcases L8 k hk with q | q
    · rw [ek (by omega) q] at hE
      obtain ⟨a1, a2, a3, a4⟩ := w4 k q hE
      rw [ek (by omega) q, eK, ek (by omega) (by omega), ek (by omega) (by omega)]
      exact ⟨a1, a2, a3, a4⟩
    · subst q; rw [n44] at hE; exact absurd hE h22
  · rw [n43] at ho'
    rw [eK] at hN ⊢
    rcases L8 o ho' with q | q
    · rw [ek (by omega) q] at hO h2 ⊢
      have b := w3 o q hO hN
      rw [ek (by omega) (by omega)] at hP ⊢
      exact w5 o p q hO hN hP h1 h2
    · subst q; rw [n44] at hO; exact absurd hO hno
/-- a row that opens a block -/
theorem WY9.op {K a b n : Int} (w : WY9 L Y) (ho : okw L K a b n) (hO' : isO K) : WY9 L (opn (adY Y K a b n)) := by
  obtain ⟨⟨z0, z1⟩, w1, w2, w3, w4, w5⟩ := w
  obtain ⟨n44, n45, n46, n47, n48, n43⟩ := ad_nn (Y := Y) (a := K) (b := a) (c := b) (d := n)
  generalize hZ : adY Y K a b n = Z at *
  have e50 : Z 50 4 = Y 50 4 := by rw [← hZ]; exact ad_2 (by omega) (by omega)
  have e51 : ∀ i, Z 51 i = Y 51 i := fun i => by rw [← hZ]; exact ad_2 (by omega) (by omega)
  have ek : ∀ {j k : Nat}, 44 ≤ j → (k : Int) < Y 43 2 → Z j k = Y j k := fun {j k} hj hk => by rw [← hZ]; exact ad_kk z0 hk hj
  have o' : ∀ j k : Nat, 43 ≤ j → j ≤ 48 → opn Z j k = Z j k := fun j k q1 q2 => by unfold opn; rw [up_ne (by omega), up_ne (by omega)]
  have o50 : opn Z 50 4 = Y 50 4 + 1 := by unfold opn; rw [up_sm, e50]
  have o51 : ∀ i, opn Z 51 i = if i = (Y 50 4).toNat then Y 43 2 else Y 51 i := fun i => by
    unfold opn
    rw [up_ne (by omega), up_rd, e50]
    by_cases q : i = (Y 50 4).toNat
    · rw [if_pos ⟨rfl, q⟩, if_pos q, n43]; omega
    · rw [if_neg (by omega), if_neg q, e51]
  have eK : ∀ x : Int, inK (opn Z) x ↔ inK Y x ∨ x = Y 43 2 := fun x => by
    unfold inK
    rw [o50]
    constructor
    · rintro ⟨i, q1, q2⟩
      rw [o51] at q2
      by_cases q : i = (Y 50 4).toNat
      · rw [if_pos q] at q2; exact Or.inr q2.symm
      · rw [if_neg q] at q2; exact Or.inl ⟨i, by omega, q2⟩
    · rintro (⟨i, q1, q2⟩ | q)
      · exact ⟨i, by omega, by rw [o51, if_neg (by omega)]; exact q2⟩
      · exact ⟨(Y 50 4).toNat, by omega, by rw [o51, if_pos rfl]; exact q.symm⟩
  have L8 : ∀ k : Nat, (k : Int) < Y 43 2 + 1 → (k : Int) < Y 43 2 ∨ k = (Y 43 2).toNat := fun k hk => by omega
  have nO : ¬ (22 : Int) = K := fun q => by unfold isO at hO'; omega
  refine ⟨⟨by rw [o' 43 2 (by omega) (by omega), n43]; omega, by rw [o50]; omega⟩, fun k hk => ?_, fun i hi => ?_, fun k hk hO hN => ?_, fun k hk hE => ?_, fun o p ho' hO hN hP h1 h2 => ?_⟩
  · rw [o' 43 2 (by omega) (by omega), n43] at hk
    rw [o' _ _ (by omega) (by omega), o' _ _ (by omega) (by omega), o' _ _ (by omega) (by omega), o' _ _ (by omega) (by omega)]
    rcases L8 k hk with q | q
    · rw [ek (by omega) q, ek (by omega) q, ek (by omega) q, ek (by omega) q]; exact w1 k q
    · subst q; rw [n44, n45, n46, n47]; exact ho
  · rw [o50] at hi
    rw [o51, o' 43 2 (by omega) (by omega), n43, o' 44 _ (by omega) (by omega)]
    by_cases q : i = (Y 50 4).toNat
    · rw [if_pos q, n44]
      refine ⟨by omega, hO', fun j hj => ?_⟩
      rw [o51, if_neg (by omega)]
      exact (w2 j (by omega)).1.2
    · rw [if_neg q]
      obtain ⟨a1, a2, a3⟩ := w2 i (by omega)
      rw [ek (by omega) (by omega)]
      exact ⟨by omega, a2, fun j hj => by rw [o51, if_neg (by omega)]; exact a3 j hj⟩
  · rw [o' 43 2 (by omega) (by omega), n43] at hk
    rw [eK] at hN
    rw [o' _ _ (by omega) (by omega)] at hO
    have q : (k : Int) < Y 43 2 := by
      rcases L8 k hk with q | q
      · exact q
      · exact absurd (Or.inr (by omega)) hN
    rw [ek (by omega) q] at hO
    obtain ⟨a1, a2, a3⟩ := w3 k q hO (fun z => hN (Or.inl z))
    rw [o' _ _ (by omega) (by omega), ek (by omega) q, o' 43 2 (by omega) (by omega), n43, o' _ _ (by omega) (by omega), o' _ _ (by omega) (by omega), ek (by omega) (by omega), ek (by omega) (by omega)]
    exact ⟨by omega, a2, a3⟩
  · rw [o' 43 2 (by omega) (by omega), n43] at hk
    rw [o' _ _ (by omega) (by omega)] at hE
    rcases L8 k hk with q | q
    · rw [ek (by omega) q] at hE
      obtain ⟨a1, a2, a3, a4⟩ := w4 k q hE
      rw [o' _ _ (by omega) (by omega), ek (by omega) q, eK, o' _ _ (by omega) (by omega), o' _ _ (by omega) (by omega), ek (by omega) (by omega), ek (by omega) (by omega)]
      exact ⟨a1, a2, a3, fun z => z.elim a4 (fun y => by omega)⟩
    · subst q; rw [n44] at hE; exact absurd hE.symm nO
  · rw [o' 43 2 (by omega) (by omega), n43] at ho'
    rw [eK] at hN ⊢
    rw [o' _ _ (by omega) (by omega)] at hO hP h2
    rw [o' _ _ (by omega) (by omega), o' _ _ (by omega) (by omega)]
    have q : (o : Int) < Y 43 2 := by
      rcases L8 o ho' with q | q
      · exact q
      · exact absurd (Or.inr (by omega)) hN
    rw [ek (by omega) q] at hO h2 ⊢
    have nk : ¬ inK Y (o : Int) := fun z => hN (Or.inl z)
    have b := w3 o q hO nk
    rw [ek (by omega) (by omega)] at hP ⊢
    have c := w5 o p q hO nk hP h1 h2
    exact ⟨fun z => z.elim c.1 (fun y => by omega), c.2⟩
/-- the end of a block -/
theorem WY9.cl (w : WY9 L Y) (hd : 1 ≤ Y 50 4) : WY9 L (cls Y) := by
  obtain ⟨⟨z0, z1⟩, w1, w2, w3, w4, w5⟩ := w
  have t := w2 (Y 50 4 - 1).toNat (by omega)
  generalize hs : Y 51 (Y 50 4 - 1).toNat = s at t
  obtain ⟨⟨t1, t2⟩, t3, t4⟩ := t
  have sK : inK Y s := ⟨(Y 50 4 - 1).toNat, by omega, hs⟩
  have e48 : ∀ k : Nat, (k : Int) < Y 43 2 + 1 → cls Y 48 k = if k = (Y 43 2).toNat then s else if k = s.toNat then Y 43 2 else Y 48 k := fun k hk => by
    unfold cls
    rw [up_rd, hs]
    by_cases q : k = (Y 43 2).toNat
    · rw [if_pos ⟨rfl, q⟩, if_pos q]
    · rw [if_neg (by omega), if_neg q, up_rd]
      by_cases q2 : k = s.toNat
      · rw [if_pos ⟨rfl, q2⟩, if_pos q2]
      · rw [if_neg (by omega), if_neg q2, ad_kk (by rw [up_ne (by omega)]; exact z0) (by rw [up_ne (by omega)]; omega) (by omega), up_ne (by omega)]
  have n43 : cls Y 43 2 = Y 43 2 + 1 := by
    unfold cls
    rw [up_ne (by omega), up_ne (by omega), ad_nn.2.2.2.2.2, up_ne (by omega)]
  have e50 : cls Y 50 4 = Y 50 4 - 1 := by
    unfold cls
    rw [up_ne (by omega), up_ne (by omega), ad_2 (by omega) (by omega), up_sm]
  have e51 : ∀ i, cls Y 51 i = Y 51 i := fun i => by
    unfold cls
    rw [up_ne (by omega), up_ne (by omega), ad_2 (by omega) (by omega), up_ne (by omega)]
  have ek : ∀ {j k : Nat}, 44 ≤ j → j ≤ 47 → (k : Int) < Y 43 2 → cls Y j k = Y j k := fun {j k} h1 h2 hk => by
    unfold cls
    rw [up_ne (by omega), up_ne (by omega), ad_kk (by rw [up_ne (by omega)]; exact z0) (by rw [up_ne (by omega)]; exact hk) (by omega), up_ne (by omega)]
  have en : cls Y 44 (Y 43 2).toNat = 22 ∧ cls Y 45 (Y 43 2).toNat = 0 ∧ cls Y 46 (Y 43 2).toNat = 0 ∧ cls Y 47 (Y 43 2).toNat = 0 := by
    have a := ad_nn (Y := uph Y 50 4 (Y 50 4 - 1)) (a := 22) (b := 0) (c := 0) (d := 0)
    rw [up_ne (c := 50) (c' := 43) (by omega)] at a
    unfold cls
    refine ⟨?_, ?_, ?_, ?_⟩
    · rw [up_ne (by omega), up_ne (by omega)]; exact a.1
    · rw [up_ne (by omega), up_ne (by omega)]; exact a.2.1
    · rw [up_ne (by omega), up_ne (by omega)]; exact a.2.2.1
    · rw [up_ne (by omega), up_ne (by omega)]; exact a.2.2.2.1
  have eK : ∀ x : Int, inK (cls Y) x ↔ inK Y x ∧ x ≠ s := fun x => by
    unfold inK
    rw [e50]
    constructor
    · rintro ⟨i, q1, q2⟩
      rw [e51] at q2
      refine ⟨⟨i, by omega, q2⟩, fun z => ?_⟩
      have := t4 i (by omega)
      omega
    · rintro ⟨⟨i, q1, q2⟩, q3⟩
      refine ⟨i, ?_, by rw [e51]; exact q2⟩
      by_cases z : i = (Y 50 4 - 1).toNat
      · subst z; exact absurd (q2.symm.trans hs) q3
      · omega
  have L8 : ∀ k : Nat, (k : Int) < Y 43 2 + 1 → (k : Int) < Y 43 2 ∨ k = (Y 43 2).toNat := fun k hk => by omega
  have n22 : ¬ isO (22 : Int) := fun q => by unfold isO at q; omega
  have es : ((s.toNat : Nat) : Int) = s := by omega
  have kS : Y 44 s.toNat ≠ 22 := fun q => by rw [q] at t3; exact n22 t3
  -- a block that is closed already: its ends are neither of the two places
  have P3 : ∀ k : Nat, (k : Int) < Y 43 2 → isO (Y 44 k) → ¬ inK Y k → k ≠ s.toNat ∧ (Y 48 k).toNat ≠ s.toNat ∧ cls Y 48 k = Y 48 k ∧ cls Y 48 (Y 48 k).toNat = Y 48 (Y 48 k).toNat ∧ ((k : Int) < Y 48 k ∧ Y 48 k < Y 43 2) ∧ Y 44 (Y 48 k).toNat = 22 ∧ Y 48 (Y 48 k).toNat = (k : Int) := fun k q hO hN => by
    obtain ⟨a1, a2, a3⟩ := w3 k q hO hN
    have x1 : k ≠ s.toNat := fun z => hN (by rw [z, es]; exact sK)
    have x2 : (Y 48 k).toNat ≠ s.toNat := fun z => kS (by rw [← z]; exact a2)
    exact ⟨x1, x2, by rw [e48 k (by omega), if_neg (by omega), if_neg x1], by rw [e48 _ (by omega), if_neg (by omega), if_neg x2], a1, a2, a3⟩
  refine ⟨⟨by rw [n43]; omega, by rw [e50]; omega⟩, fun k hk => ?_, fun i hi => ?_, fun k hk hO hN => ?_, fun k hk hE => ?_, fun o p ho' hO hN hP h1 h2 => ?_⟩
  · rw [n43] at hk
    rcases L8 k hk with q | q
    · rw [ek (by omega) (by omega) q, ek (by omega) (by omega) q, ek (by omega) (by omega) q, ek (by omega) (by omega) q]; exact w1 k q
    · subst q
      rw [en.1, en.2.1, en.2.2.1, en.2.2.2]
      unfold okw
      omega
  · rw [e50] at hi
    obtain ⟨a1, a2, a3⟩ := w2 i (by omega)
    rw [e51, n43, ek (by omega) (by omega) (by omega)]
    exact ⟨by omega, a2, fun j hj => by rw [e51]; exact a3 j hj⟩
  · rw [n43] at hk ⊢
    rw [eK] at hN
    rcases L8 k hk with q | q
    · rw [ek (by omega) (by omega) q] at hO
      by_cases z : k = s.toNat
      · rw [e48 k (by omega), if_neg (by omega), if_pos z, en.1, e48 _ (by omega), if_pos rfl]
        exact ⟨by omega, rfl, by omega⟩
      · have nK : ¬ inK Y (k : Int) := fun y => hN ⟨y, by omega⟩
        obtain ⟨x1, x2, x3, x4, a1, a2, a3⟩ := P3 k q hO nK
        rw [x3, x4, ek (by omega) (by omega) (by omega)]
        exact ⟨by omega, a2, a3⟩
    · subst q; rw [en.1] at hO; exact absurd hO n22
  · rw [n43] at hk
    rcases L8 k hk with q | q
    · rw [ek (by omega) (by omega) q] at hE
      obtain ⟨a1, a2, a3, a4⟩ := w4 k q hE
      have x1 : k ≠ s.toNat := fun z => kS (by rw [← z]; exact hE)
      have x2 : (Y 48 k).toNat ≠ s.toNat := fun z => a4 (by rw [show Y 48 k = s by omega]; exact sK)
      rw [e48 k (by omega), if_neg (by omega), if_neg x1, ek (by omega) (by omega) (by omega), e48 _ (by omega), if_neg (by omega), if_neg x2, eK]
      exact ⟨a1, a2, a3, fun y => a4 y.1⟩
    · subst q
      rw [e48 _ (by omega), if_pos rfl, ek (by omega) (by omega) (by omega), e48 _ (by omega), if_neg (by omega), if_pos rfl, eK]
      exact ⟨by omega, t3, by omega, fun y => y.2 rfl⟩
  · rw [n43] at ho'
    rw [eK] at hN ⊢
    rcases L8 o ho' with q | q
    · rw [ek (by omega) (by omega) q] at hO
      by_cases z : o = s.toNat
      · -- the block closed now
        rw [e48 o (by omega), if_neg (by omega), if_pos z] at h2 ⊢
        rw [ek (by omega) (by omega) (by omega)] at hP
        have nK : ¬ inK Y (p : Int) := fun y => by
          obtain ⟨i, i1, i2⟩ := y
          by_cases e : i = (Y 50 4 - 1).toNat
          · rw [e, hs] at i2; omega
          · have := t4 i (by omega); omega
        obtain ⟨x1, x2, x3, x4, a1, a2, a3⟩ := P3 p (by omega) hP nK
        exact ⟨fun y => nK y.1, by rw [x3]; omega⟩
      · have nKo : ¬ inK Y (o : Int) := fun y => hN ⟨y, by omega⟩
        obtain ⟨x1, x2, x3, x4, a1, a2, a3⟩ := P3 o q hO nKo
        rw [x3] at h2 ⊢
        rw [ek (by omega) (by omega) (by omega)] at hP
        obtain ⟨b1, b2⟩ := w5 o p q hO nKo hP h1 h2
        obtain ⟨y1, y2, y3, y4, c1, c2, c3⟩ := P3 p (by omega) hP b1
        rw [y3]
        exact ⟨fun y => b1 y.1, b2⟩
    · subst q; rw [en.1] at hO; exact absurd hO n22
end WY
end
section
/-! 45z.8n.block2 -/
/-! TALES that are read, 2 -/
theorem WY9.st {L Y : PH} (w : WY9 L Y) : WY9 L (stp Y) := by
  have e : ∀ j k : Nat, ¬ (j = 43 ∧ k = 1) → stp Y j k = Y j k := fun j k q => up_ne q
  have eK : ∀ x, inK (stp Y) x ↔ inK Y x := fun x => by
    unfold inK
    rw [e 50 4 (by omega)]
    exact ⟨fun ⟨i, q1, q2⟩ => ⟨i, q1, by rw [← e 51 i (by omega)]; exact q2⟩, fun ⟨i, q1, q2⟩ => ⟨i, q1, by rw [e 51 i (by omega)]; exact q2⟩⟩
  obtain ⟨z, w1, w2, w3, w4, w5⟩ := w
  refine ⟨by rw [e 43 2 (by omega), e 50 4 (by omega)]; exact z, fun k hk => ?_, fun i hi => ?_, fun k hk hO hN => ?_, fun k hk hE => ?_, fun o p ho' hO hN hP h1 h2 => ?_⟩
  · rw [e 43 2 (by omega)] at hk
    rw [e 44 k (by omega), e 45 k (by omega), e 46 k (by omega), e 47 k (by omega)]; exact w1 k hk
  · rw [e 50 4 (by omega)] at hi
    rw [e 51 i (by omega), e 43 2 (by omega), e 44 _ (by omega)]
    obtain ⟨a1, a2, a3⟩ := w2 i hi
    exact ⟨a1, a2, fun j hj => by rw [e 51 j (by omega)]; exact a3 j hj⟩
  · rw [e 43 2 (by omega)] at hk
    rw [e 44 k (by omega)] at hO
    rw [eK] at hN
    rw [e 48 k (by omega), e 43 2 (by omega), e 44 _ (by omega), e 48 _ (by omega)]; exact w3 k hk hO hN
  · rw [e 43 2 (by omega)] at hk
    rw [e 44 k (by omega)] at hE
    rw [e 48 k (by omega), e 44 _ (by omega), e 48 _ (by omega), eK]; exact w4 k hk hE
  · rw [e 43 2 (by omega)] at ho'
    rw [e 44 _ (by omega)] at hO hP
    rw [eK] at hN ⊢
    rw [e 48 _ (by omega)] at h2
    rw [e 48 _ (by omega), e 48 _ (by omega)]; exact w5 o p ho' hO hN hP h1 h2
def PY (L : PH) (r : PR) : Prop := ∀ q, r = .inr q → WY9 L q.2
def PA (L Y : PH) (o : Prop) (r : PR) : Prop := ∀ q, r = .inr q → ∃ K a b n, q.2 = adY Y K a b n ∧ okw L K a b n ∧ K ≠ 22 ∧ (isO K ↔ o)
theorem PY.bd {L : PH} {T : TX} {a : Int} {s : Nat} : PY L (bad T a s) := fun q h => by unfold bad at h; cases h
theorem PY.nn {L : PH} {T : TX} {s : Nat} : PY L (noN T s) := PY.bd
theorem PY.sm {L : PH} {T : TX} {s : Nat} {Y : PH} (w : WY9 L Y) : PY L (semi T s Y) := fun q h => by
  unfold semi at h
  by_cases z : isG T s 59
  · rw [if_pos z] at h; cases h; exact w
  · rw [if_neg z] at h; exact PY.bd q h
theorem PA.bd {L Y : PH} {o : Prop} {T : TX} {a : Int} {s : Nat} : PA L Y o (bad T a s) := fun q h => by unfold bad at h; cases h
theorem PA.nn {L Y : PH} {o : Prop} {T : TX} {s : Nat} : PA L Y o (noN T s) := PA.bd
theorem PA.ite {L Y : PH} {o c : Prop} {i : Decidable c} {a b : PR} (h1 : c → PA L Y o a) (h2 : ¬ c → PA L Y o b) : PA L Y o (@ite PR c i a b) := by
  by_cases z : c
  · rw [if_pos z]; exact h1 z
  · rw [if_neg z]; exact h2 z
theorem PA.ok {L Y : PH} {o : Prop} {t : Nat} {K a b n : Int} (h1 : okw L K a b n) (h2 : K ≠ 22) (h3 : isO K ↔ o) : PA L Y o (.inr (t, adY Y K a b n)) := fun q h => by cases h; exact ⟨K, a, b, n, rfl, h1, h2, h3⟩
theorem PA.num {L Y : PH} {o : Prop} {T : TX} {t : Nat} {lo hi : Int} {K a b : Int} (h : ∀ v, lo ≤ v → v ≤ hi → okw L K a b v) (h2 : K ≠ 22) (h3 : isO K ↔ o) : PA L Y o (qNum T t lo hi (fun v => adY Y K a b v)) := by
  unfold qNum
  exact PA.ite (fun _ => PA.ite (fun z => PA.ok (h _ z.1 z.2) h2 h3) (fun _ => PA.bd)) (fun _ => PA.bd)
section Q
variable {T : TX} {L Y : PH} {t : Nat} {o : Prop}
theorem qPers_A {K : Int} (h4 : 0 ≤ L 0 4) (hK : K = 11 ∨ K = 19) (h3 : isO K ↔ o) : PA L Y o (qPers T L t K Y) := by
  unfold qPers
  refine PA.ite (fun _ => PA.nn) (fun z => PA.ok ?_ (by omega) h3)
  have := pe_p h4 z
  unfold okw hL0 pL0
  omega
theorem qHous_A {K : Int} (h0 : 0 ≤ L 1 0) (hK : K = 1 ∨ K = 13) (h3 : isO K ↔ o) : PA L Y o (qHous T L t K Y) := by
  unfold qHous
  refine PA.ite (fun _ => PA.nn) (fun z => PA.ok ?_ (by omega) h3)
  have := ho_p h0 z
  unfold okw hL0 pL0
  omega
theorem qTest_A (h0 : 0 ≤ L 1 0) (h4 : 0 ≤ L 0 4) (ho : o) : PA L Y o (qTest T L t Y) := by
  have i8 : isO 18 ↔ o := ⟨fun _ => ho, fun _ => Or.inl rfl⟩
  have i9 : isO 19 ↔ o := ⟨fun _ => ho, fun _ => Or.inr (Or.inl rfl)⟩
  have i0 : isO 20 ↔ o := ⟨fun _ => ho, fun _ => Or.inr (Or.inr (Or.inl rfl))⟩
  unfold qTest
  refine PA.ite (fun _ => ?_) (fun _ => PA.ite (fun _ => qPers_A h4 (Or.inr rfl) i9) (fun _ => PA.ite (fun _ => ?_) (fun _ => PA.bd)))
  · unfold qLab
    refine PA.ite (fun _ => PA.nn) (fun z => PA.ite (fun _ => PA.num (fun v q1 q2 => ?_) (by omega) i8) (fun _ => PA.bd))
    have := ho_p h0 z
    unfold okw hL0 pL0
    omega
  · unfold qAt
    refine PA.ite (fun _ => PA.nn) (fun z => PA.ite (fun _ => PA.ite (fun _ => PA.nn) (fun z2 => PA.ok ?_ (by omega) i0)) (fun _ => PA.bd))
    have := pe_p h4 z
    have := ho_p h0 z2
    unfold okw hL0 pL0
    omega
theorem qRest_A {K : Int} (h0 : 0 ≤ L 1 0) (h4 : 0 ≤ L 0 4) (hK : isSt K) (h17 : K ≠ 17) (ho : K = 21 ↔ o) : PA L Y o (qRest T L t K Y) := by
  have iO : ∀ k : Int, k ≠ 21 → (10 ≤ k ∧ k ≤ 16) ∨ k = 1 ∨ k = 23 → K = k → (isO k ↔ o) := fun k q1 q2 q3 => ⟨fun z => absurd z (by unfold isO; omega), fun z => absurd (ho.mpr z) (by omega)⟩
  unfold qRest
  refine PA.ite (fun e => PA.num (fun v q1 q2 => ?_) (by omega) (iO 10 (by omega) (by omega) e)) (fun _ => PA.ite (fun e => PA.num (fun v q1 q2 => ?_) (by omega) ⟨fun _ => ho.mp e, fun _ => Or.inr (Or.inr (Or.inr rfl))⟩) (fun e21 => PA.ite (fun e => qPers_A h4 (Or.inl rfl) (iO 11 (by omega) (by omega) e)) (fun _ => PA.ite (fun e => qHous_A h0 (Or.inl rfl) (iO 1 (by omega) (by omega) e)) (fun _ => PA.ite (fun e => qHous_A h0 (Or.inr rfl) (iO 13 (by omega) (by omega) e)) (fun _ => PA.ite (fun e => ?_) (fun _ => PA.ite (fun e => ?_) (fun _ => PA.ok ?_ ?_ ?_)))))))
  · unfold okw hL0 pL0; omega
  · unfold okw hL0 pL0; omega
  · unfold qFgv
    refine PA.ite (fun _ => PA.nn) (fun z => PA.ite (fun _ => PA.nn) (fun z2 => PA.ok ?_ (by omega) (iO 12 (by omega) (by omega) e)))
    have := pe_p h4 z
    have := pe_p h4 z2
    unfold okw hL0 pL0
    omega
  · unfold qFrg
    refine PA.ite (fun _ => PA.nn) (fun z => PA.ite (fun _ => PA.ite (fun _ => PA.nn) (fun z2 => PA.num (fun v q1 q2 => ?_) (by omega) (iO 14 (by omega) (by omega) e))) (fun _ => PA.bd))
    have := pe_p h4 z
    have := pe_p h4 z2
    unfold okw hL0 pL0
    omega
  · unfold isSt at hK; unfold okw hL0 pL0; omega
  · unfold isSt at hK; omega
  · unfold isSt at hK; unfold isO; exact ⟨fun z => by omega, fun z => absurd (ho.mpr z) e21⟩
end Q
theorem PY.c4 {L : PH} {c : Prop} {a b : PR} (h1 : c → PY L a) (h2 : ¬ c → PY L b) : PY L (cif4 c a b) := by
  by_cases z : c
  · rw [cif4_p z]; exact h1 z
  · rw [cif4_n z]; exact h2 z
theorem PY.ite {L : PH} {c : Prop} {i : Decidable c} {a b : PR} (h1 : c → PY L a) (h2 : ¬ c → PY L b) : PY L (@ite PR c i a b) := by
  by_cases z : c
  · rw [if_pos z]; exact h1 z
  · rw [if_neg z]; exact h2 z
theorem tale_Y {T : TX} {L Y : PH} {s : Nat} (h0 : 0 ≤ L 1 0) (h4 : 0 ≤ L 0 4) (w : WY9 L Y) : PY L (pTale T L s Y) := by
  unfold pTale
  refine PY.c4 (fun _ => PY.ite (fun z => PY.sm (w.cl z)) (fun _ => PY.bd)) (fun _ => PY.c4 (fun _ => PY.bd) (fun hK => PY.ite (fun _ => PY.bd) (fun _ => PY.c4 (fun _ => PY.bd) (fun _ => ?_))))
  have hK := (Classical.not_not.mp hK).2
  unfold qStep
  have pa : PA L (stp Y) (kw T s = 17 ∨ kw T s = 21) (if kw T s = 17 then qTest T L (nt T s) (stp Y) else qRest T L (nt T s) (kw T s) (stp Y)) :=
    PA.ite (fun z => qTest_A h0 h4 (Or.inl z)) (fun z => qRest_A h0 h4 hK z ⟨fun y => Or.inr y, fun y => y.elim (fun x => absurd x z) id⟩)
  generalize (if kw T s = 17 then qTest T L (nt T s) (stp Y) else qRest T L (nt T s) (kw T s) (stp Y)) = r at pa
  match r, pa with
  | .inl q, pa => exact fun q h => by cases h
  | .inr q, pa =>
    obtain ⟨K, a, b, n, e1, e2, e3, e4⟩ := pa q rfl
    show PY L (semi T q.1 (cif3 (kw T s = 17 ∨ kw T s = 21) (opn q.2) q.2))
    rw [e1]
    by_cases z : kw T s = 17 ∨ kw T s = 21
    · rw [cif3_p z]; exact PY.sm (w.st.op e2 (e4.mpr z))
    · rw [cif3_n z]; exact PY.sm (w.st.ad e2 e3 (fun y => z (e4.mp y)))
/-- TALES that stand -/
theorem ptl_Y {T : TX} {L : PH} (h0 : 0 ≤ L 1 0) (h4 : 0 ≤ L 0 4) : ∀ (f s : Nat) (Y : PH), WY9 L Y → ∀ q, ptl T L f s Y = .inr q → WY9 L q.2 ∧ q.2 50 4 ≤ 0
  | 0, s, Y, w => fun q h => by
    have h : (if 0 < Y 50 4 then bad T 2 s else .inr (s, Y)) = Sum.inr q := h
    by_cases z : 0 < Y 50 4
    · rw [if_pos z] at h; unfold bad at h; cases h
    · rw [if_neg z] at h; cases h; exact ⟨w, by show Y 50 4 ≤ 0; omega⟩
  | f + 1, s, Y, w => fun q h => by
    have h : (if kd T s = 0 then tEnd T s Y else sq (pTale T L s Y) (ptl T L f)) = Sum.inr q := h
    by_cases z : kd T s = 0
    · rw [if_pos z] at h
      have h : (if 0 < Y 50 4 then bad T 2 s else .inr (s, Y)) = Sum.inr q := h
      by_cases z : 0 < Y 50 4
      · rw [if_pos z] at h; unfold bad at h; cases h
      · rw [if_neg z] at h; cases h; exact ⟨w, by show Y 50 4 ≤ 0; omega⟩
    · rw [if_neg z] at h
      have py := tale_Y (T := T) (s := s) h0 h4 w
      generalize pTale T L s Y = r at py h
      match r, py, h with
      | .inl p, py, h => cases h
      | .inr p, py, h => exact ptl_Y h0 h4 f p.1 p.2 (py p rfl) q h
theorem WY9_y0 {L h : PH} : WY9 L (y0 h) := by
  have e1 : y0 h 43 2 = 0 := by unfold y0; rw [up_ne (by omega), up_sm]
  have e2 : y0 h 50 4 = 0 := by unfold y0; rw [up_sm]
  refine ⟨by rw [e1, e2]; omega, fun k hk => ?_, fun i hi => ?_, fun k hk => ?_, fun k hk => ?_, fun o p hk => ?_⟩
  · rw [e1] at hk; omega
  · rw [e2] at hi; omega
  · rw [e1] at hk; omega
  · rw [e1] at hk; omega
  · rw [e1] at hk; omega
end
section
/-! 45z.8o.rtale4 -/
/-! tales() of the reference: all that it leaves -/
/-- TALES' rows in slot s of the reference -/
def RTl (s : Nat) (h Y : PH) : Prop := h 170 (528 * s + 4) = Y 43 2 ∧ (∀ k : Nat, (k : Int) < Y 43 2 → ∀ i : Nat, i < 6 → i ≠ 4 → h 170 (528 * s + 164 + 6 * k + i) = erow (Y 44 k) (Y 45 k) (Y 46 k) (Y 47 k) i) ∧ ∀ k : Nat, (k : Int) < Y 43 2 → isP (Y 44 k) → h 170 (528 * s + 168 + 6 * k) = Y 48 k
def TAG (L h' : PH) (v : Int) (r : PR) : Prop := match r with
  | .inl q => v = -1 ∧ h' 169 16 = q.1 ∧ h' 169 17 = (q.2 : Int) ∧ NmL h' L
  | .inr q => v = q.2 43 1 ∧ h' 169 16 = 0 ∧ h' 169 17 = -1 ∧ RTl 0 h' q.2 ∧ (∀ k : Nat, k < 2112 → k ≠ 4 → ¬ (164 ≤ k ∧ k < 524) → h' 170 k = L 99 k) ∧ ∀ k : Nat, k < 15 → True
def JT8 (T : TX) (L : PH) (b : Int) (h : PH) (R : PR) : Prop := (b = 1 ∧ ∃ m s Y, RN T h s ∧ RTt h L Y ∧ WT Y ∧ m ≤ s ∧ m ≤ 300 ∧ ptl T L (300 - m) s Y = R) ∨ (b = 0 ∧ ∃ q, R = .inl q ∧ RF h q.1 q.2 ∧ NmL h L)
def JT7 (T : TX) (L : PH) (h : PH) (R : PR) : Prop := (∃ s Y, RN T h s ∧ RTt h L Y ∧ WT Y ∧ tEnd T s Y = R) ∨ ∃ q, R = .inl q ∧ RF h q.1 q.2 ∧ NmL h L
def JT6 (L h : PH) (R : PR) : Prop := (h 169 18 = 0 ∧ h 169 17 = -1 ∧ ∃ q, R = .inr q ∧ RTt h L q.2 ∧ WT q.2 ∧ q.2 50 4 = 0) ∨ ∃ q, R = .inl q ∧ RF h q.1 q.2 ∧ NmL h L
/-- copied as far as u -/
def JT5 (L hx : PH) (u : Nat) (R : PR) : Prop := ∃ G : PH, (G 169 18 = 0 ∧ G 169 17 = -1 ∧ ∃ q, R = .inr q ∧ RTt G L q.2 ∧ WT q.2 ∧ q.2 50 4 = 0) ∧ (164 ≤ u ∧ u ≤ 524) ∧ hx 170 4 = G 170 2116 ∧ (∀ k : Nat, 164 ≤ k → k < u → hx 170 k = G 170 (2112 + k)) ∧ ∀ c k : Nat, ¬ (c = 170 ∧ (k = 4 ∨ (164 ≤ k ∧ k < u))) → hx c k = G c k
theorem JT8.st {T : TX} {L Y : PH} {m s : Nat} {v : Int} {h' : PH} {R : PR} (hs : s ≤ T.2) (h3 : T.2 ≤ 300) (us : m ≤ s) (hk : kd T s ≠ 0) (e : ptl T L (300 - m) s Y = R) (t : T5 T s L v h' (pTale T L s Y)) : JT8 T L v h' R := by
  have lt : s < T.2 := by
    have := (nx_b hs).2.2 hk
    have := (nx_b hs).2.1
    omega
  obtain ⟨k, hk2⟩ : ∃ k, 300 - m = k + 1 := ⟨300 - m - 1, by omega⟩
  rw [hk2] at e
  have e : (if kd T s = 0 then tEnd T s Y else sq (pTale T L s Y) (ptl T L k)) = R := e
  rw [if_neg hk] at e
  generalize pTale T L s Y = P at t e
  match P, t, e with
  | .inl q, t, e => exact Or.inr ⟨t.1, q, e.symm, t.2⟩
  | .inr q, t, e => exact Or.inl ⟨t.1, m + 1, q.1, q.2, t.2.1, t.2.2.1, t.2.2.2.1, by have := t.2.2.2.2; omega, by omega, by rw [show 300 - (m + 1) = k by omega]; exact e⟩
theorem JT5.fin {L hx h' : PH} {R : PR} {v : Int} (j : JT5 L hx 524 R) (e : ∀ c k : Nat, ¬ (c = 169 ∧ (k = 2 ∨ k = 16)) → h' c k = hx c k) (e16 : h' 169 16 = hx 169 18) (hv : v = hx 169 22) : TAG L h' v R := by
  obtain ⟨G, ⟨g1, g2, q, g3, g4, g5, g6⟩, u, c4, cp, o⟩ := j
  obtain ⟨r1, r2, r3, r4, r5, r6, r7⟩ := id g4
  obtain ⟨w1, w2, w3, w4, w5⟩ := id g5
  rw [g3]
  have C : ∀ k : Nat, 164 ≤ k → k < 524 → h' 170 k = G 170 (2112 + k) := fun k h1 h2 => by rw [e 170 k (by omega)]; exact cp k h1 h2
  refine ⟨by rw [hv, o 169 22 (by omega)]; exact r3, by rw [e16, o 169 18 (by omega)]; exact g1, by rw [e 169 17 (by omega), o 169 17 (by omega)]; exact g2, ⟨by rw [show 528 * 0 + 4 = 4 by omega, e 170 4 (by omega), c4]; exact r2, fun k hk i h6 h4 => ?_, fun k hk p => ?_⟩, fun k h1 h2 h3 => by rw [e 170 k (by omega), o 170 k (by omega)]; exact r1.2.2.2 k h1, fun _ _ => True.intro⟩
  · rw [show 528 * 0 + 164 + 6 * k + i = 164 + 6 * k + i by omega, C _ (by omega) (by omega), show 2112 + (164 + 6 * k + i) = 2276 + 6 * k + i by omega]
    exact r6 k hk i h6 h4
  · rw [show 528 * 0 + 168 + 6 * k = 168 + 6 * k by omega, C _ (by omega) (by omega), show 2112 + (168 + 6 * k) = 2280 + 6 * k by omega]
    exact r7 k hk p (fun i hi => absurd hi (by omega))
set_option maxRecDepth 10000 in
theorem v_X12_talesG {sl : Nat} {si : Nat → Int} {K : Nat → PH → ZL → List ZV → Prop} {Q : PH → List ZV → Prop} {h : PH} {a : Int} (H : ∀ h1 v1, CP (zz sl si (7, 0)) mX12_begins h [(2, 169), (0, a), (0, 300)] h1 [(0, v1)] → v1 = 0 ∨ v1 = 1 → (v1 ≠ 0 → 0 ≤ (2116 : Int) ∧ (2116 : Int) < (3696 : Nat) → K 38 (uph (uph (uph h1 170 2116 0) 169 21 0) 169 22 0) [(2, (0, 1)), (0, (2, 169)), (1, (0, a))] []) ∧ (¬ (v1 ≠ 0) → ∀ h2 v2, CP (zz sl si (7, 0)) mX12_refuse h1 [(2, 169), (0, 1)] h2 [(0, v2)] → R32 v2 → Q h2 [(0, v2)])) : vc (zz sl si (7, 0)) (fun p => Nat.beq p 38 || Nat.beq p 57 || Nat.beq p 77 || Nat.beq p 102) K Q mX12_tales 20 0 mX12_tales.2.2.2.2.2.2 h [(0, (2, 169)), (1, (0, a))] [] := H
set_option maxRecDepth 10000 in
theorem v_X12_talesG_38 {sl : Nat} {si : Nat → Int} {K : Nat → PH → ZL → List ZV → Prop} {Q : PH → List ZV → Prop} {h : PH} {a : Int} {g : Int} (H : (g = 0 → K 57 h [(0, (2, 169)), (1, (0, a)), (2, (0, g))] []) ∧ (¬ (g = 0) → R32 (h 169 12) → ((h 169 12) = 0 → K 57 h [(0, (2, 169)), (1, (0, a)), (2, (0, g))] []) ∧ (¬ ((h 169 12) = 0) → ∀ h1 v1, CP (zz sl si (7, 0)) mX12_taleStep h [(2, 169)] h1 [(0, v1)] → v1 = 0 ∨ v1 = 1 → K 38 h1 [(2, (0, v1)), (0, (2, 169)), (1, (0, a))] []))) : vc (zz sl si (7, 0)) (fun p => Nat.beq p 38 || Nat.beq p 57 || Nat.beq p 77 || Nat.beq p 102) K Q mX12_tales 11 38 (ax_jmp mX12_tales.2.2.2.2.2.2 38) h [(0, (2, 169)), (1, (0, a)), (2, (0, g))] [] := H
set_option maxRecDepth 10000 in
theorem v_X12_talesG_57 {sl : Nat} {si : Nat → Int} {K : Nat → PH → ZL → List ZV → Prop} {Q : PH → List ZV → Prop} {h : PH} {a : Int} (H : R32 (h 169 18) → ((h 169 18) ≠ 0 → K 77 h [(0, (2, 169)), (1, (0, a))] []) ∧ (¬ ((h 169 18) ≠ 0) → R32 (h 169 21) → ((h 169 21) ≤ 0 → K 77 h [(0, (2, 169)), (1, (0, a))] []) ∧ (¬ ((h 169 21) ≤ 0) → ∀ h1 v1, CP (zz sl si (7, 0)) mX12_fails h [(2, 169), (0, 2)] h1 [(0, v1)] → v1 = 0 ∨ v1 = 1 → K 77 h1 [(0, (2, 169)), (1, (0, a))] []))) : vc (zz sl si (7, 0)) (fun p => Nat.beq p 38 || Nat.beq p 57 || Nat.beq p 77 || Nat.beq p 102) K Q mX12_tales 12 57 (ax_jmp mX12_tales.2.2.2.2.2.2 57) h [(0, (2, 169)), (1, (0, a))] [] := H
set_option maxRecDepth 10000 in
theorem v_X12_talesG_77 {sl : Nat} {si : Nat → Int} {K : Nat → PH → ZL → List ZV → Prop} {Q : PH → List ZV → Prop} {h : PH} {a : Int} (H : R32 (h 169 18) → ((h 169 18) ≠ 0 → R32 (h 169 22) → ∀ h1 v1, CP (zz sl si (7, 0)) mX12_taken h [(2, 169), (0, (h 169 22))] h1 [(0, v1)] → R32 v1 → Q h1 [(0, v1)]) ∧ (¬ ((h 169 18) ≠ 0) → 0 ≤ (2116 : Int) ∧ (2116 : Int) < (3696 : Nat) → R32 (h 170 2116) → 0 ≤ (4 : Int) ∧ (4 : Int) < (3696 : Nat) → K 102 (uph h 170 4 (h 170 2116)) [(3, (0, 164)), (0, (2, 169)), (1, (0, a))] [])) : vc (zz sl si (7, 0)) (fun p => Nat.beq p 38 || Nat.beq p 57 || Nat.beq p 77 || Nat.beq p 102) K Q mX12_tales 15 77 (ax_jmp mX12_tales.2.2.2.2.2.2 77) h [(0, (2, 169)), (1, (0, a))] [] := H
set_option maxRecDepth 10000 in
theorem v_X12_talesG_102 {sl : Nat} {si : Nat → Int} {K : Nat → PH → ZL → List ZV → Prop} {Q : PH → List ZV → Prop} {h : PH} {a : Int} {i : Int} (H : ((524 : Int) ≤ i → R32 (h 169 22) → ∀ h1 v1, CP (zz sl si (7, 0)) mX12_taken h [(2, 169), (0, (h 169 22))] h1 [(0, v1)] → R32 v1 → Q h1 [(0, v1)]) ∧ (¬ ((524 : Int) ≤ i) → 0 ≤ w32 (2112 + i) ∧ w32 (2112 + i) < (3696 : Nat) → R32 (h 170 (w32 (2112 + i)).toNat) → 0 ≤ i ∧ i < (3696 : Nat) → K 102 (uph h 170 i.toNat (h 170 (w32 (2112 + i)).toNat)) [(3, (0, w32 (i + 1))), (0, (2, 169)), (1, (0, a))] [])) : vc (zz sl si (7, 0)) (fun p => Nat.beq p 38 || Nat.beq p 57 || Nat.beq p 77 || Nat.beq p 102) K Q mX12_tales 17 102 (ax_jmp mX12_tales.2.2.2.2.2.2 102) h [(0, (2, 169)), (1, (0, a)), (3, (0, i))] [] := H
set_option maxHeartbeats 600000 in
theorem c_X12_talesG {sl : Nat} {si : Nat → Int} {h h' : PH} {a : Int} {v : Int} {B : Nat → Int} {n : Int} {L Y : PH} (hB : ∀ k : Nat, k < 900 → zand (h 175 k) 255 = B k ∧ 0 ≤ B k ∧ B k ≤ 255) (hl : h 169 10 = n) (hn : 0 ≤ n ∧ n ≤ 900) (hM : NmL h L) (hW : WN L) (hY : Y 43 2 = 0 ∧ Y 43 1 = 0 ∧ Y 50 4 = 0) (hc : CP (zz sl si (7, 0)) mX12_tales h [(2, 169), (0, a)] h' [(0, v)]) : ((0 ≤ a ∧ a ≤ n ∧ a ≤ 300) → TAG L h' v (ptl (Tx B a) L 300 (sk (Tx B a) 0) Y)) ∧ (¬ (0 ≤ a ∧ a ≤ n ∧ a ≤ 300) → v = -1 ∧ h' = uph h 169 2 1) := by
  have q : (fun (xh : PH) (r : List ZV) => ∀ v : Int, r = [(0, v)] → (((0 ≤ a ∧ a ≤ n ∧ a ≤ 300) → TAG L xh v (ptl (Tx B a) L 300 (sk (Tx B a) 0) Y)) ∧ (¬ (0 ≤ a ∧ a ≤ n ∧ a ≤ 300) → v = -1 ∧ xh = uph h 169 2 1))) h' [(0, v)] := by
    refine cp_vc (cut := (fun p => Nat.beq p 38 || Nat.beq p 57 || Nat.beq p 77 || Nat.beq p 102)) (K := fun p hx lv st => (p = 38 ∧ lK (fun u : Int => [(0, (2, 169)), (1, (0, a)), (2, (0, u))]) (fun u hx => (0 ≤ a ∧ a ≤ n ∧ a ≤ 300) ∧ JT8 (Tx B a) L u hx (ptl (Tx B a) L 300 (sk (Tx B a) 0) Y)) p hx lv st) ∨ (p = 57 ∧ lK (fun u : Nat => [(0, (2, 169)), (1, (0, a))]) (fun u hx => (0 ≤ a ∧ a ≤ n ∧ a ≤ 300) ∧ JT7 (Tx B a) L hx (ptl (Tx B a) L 300 (sk (Tx B a) 0) Y)) p hx lv st) ∨ (p = 77 ∧ lK (fun u : Nat => [(0, (2, 169)), (1, (0, a))]) (fun u hx => (0 ≤ a ∧ a ≤ n ∧ a ≤ 300) ∧ JT6 L hx (ptl (Tx B a) L 300 (sk (Tx B a) 0) Y)) p hx lv st) ∨ (p = 102 ∧ lK (fun u : Nat => [(0, (2, 169)), (1, (0, a)), (3, (0, (u : Int)))]) (fun u hx => (0 ≤ a ∧ a ≤ n ∧ a ≤ 300) ∧ JT5 L hx u (ptl (Tx B a) L 300 (sk (Tx B a) 0) Y)) p hx lv st)) (Q := fun (xh : PH) (r : List ZV) => ∀ v : Int, r = [(0, v)] → (((0 ≤ a ∧ a ≤ n ∧ a ≤ 300) → TAG L xh v (ptl (Tx B a) L 300 (sk (Tx B a) 0) Y)) ∧ (¬ (0 ≤ a ∧ a ≤ n ∧ a ≤ 300) → v = -1 ∧ xh = uph h 169 2 1))) (v_X12_talesG ?_) (fun pc hx lv st hcut hK => ?_) hc
    · exact (fun h1 v1 p1 q1 => ⟨fun c1 => (fun b2 => (by obtain ⟨b1, b2⟩ := c_X12_begins hB hl hn p1; have ok : (0 ≤ a ∧ a ≤ n ∧ a ≤ 300) := Classical.byContradiction (fun z => by have := (b2 z).1; omega); obtain ⟨d1, d2, d3, d4⟩ := b1 ok; have X0 : RN (Tx B a) (uph (uph (uph h1 170 2116 0) 169 21 0) 169 22 0) (sk (Tx B a) 0) := d2.k2 (fun c k q => by rw [up_ne (by omega), up_ne (by omega), up_ne (by omega)]); have M1 : NmL (uph (uph (uph h1 170 2116 0) 169 21 0) 169 22 0) L := hM.fr (fun c k q => by rw [up_ne (by omega), up_ne (by omega), up_ne (by omega)]; exact d4 c k (by omega) (by omega)); have R0 : RTt (uph (uph (uph h1 170 2116 0) 169 21 0) 169 22 0) L Y := ⟨M1, by rw [up_ne (by omega), up_ne (by omega), up_sm]; exact hY.1.symm, by rw [up_sm]; exact hY.2.1.symm, by rw [up_ne (by omega), up_sm]; exact hY.2.2.symm, fun i hi => absurd hi (by have := hY.2.2; omega), fun k hk => absurd hk (by have := hY.1; omega), fun k hk => absurd hk (by have := hY.1; omega)⟩; have W0 : WT Y := (by obtain ⟨y1, y2, y3⟩ := hY; exact ⟨by omega, by omega, by omega, by omega, fun i hi => by omega⟩); exact Or.inl (⟨rfl, rfl, _, ⟨ok, Or.inl ⟨rfl, 0, _, Y, X0, R0, W0, by omega, by omega, rfl⟩⟩, rfl, rfl, rfl, trivial⟩))), fun c1 => (fun h2 v2 p2 q2 => by obtain ⟨t2, e2⟩ := c_X12_refuse p2; have t2 := t2.symm; subst t2; exact (by obtain ⟨b1, b2⟩ := c_X12_begins hB hl hn p1; have nk : ¬ (0 ≤ a ∧ a ≤ n ∧ a ≤ 300) := fun z => (by have := (b1 z).1; omega); obtain ⟨d1, d2⟩ := b2 nk; subst d2; intro v e; cases e; exact ⟨fun z => absurd z nk, fun _ => ⟨e2, rfl⟩⟩))⟩)
    · rcases hK with ⟨rfl, rfl, u, hJ, hs⟩ | ⟨rfl, rfl, u, hJ, hs⟩ | ⟨rfl, rfl, u, hJ, hs⟩ | ⟨rfl, rfl, u, hJ, hs⟩
      · obtain ⟨ok, j1⟩ := hJ
        have tk : (Tx B a).2 ≤ 300 := by show a.toNat ≤ 300; omega
        exact ⟨_, _, hs, v_X12_talesG_38 ⟨fun c1 => (by rcases j1 with ⟨b1, m, s, Z, z1, z2, z3, z4, z5, z6⟩ | ⟨b1, q, z1, z2⟩; (exact absurd b1 (by omega)); exact Or.inr (Or.inl (⟨rfl, rfl, 0, ⟨ok, Or.inr ⟨q, z1, z2⟩⟩, rfl, rfl, trivial⟩))), fun c1 => (fun r2 => ⟨fun c3 => (by rcases j1.symm with ⟨b1, q, z1, z2⟩ | ⟨b1, m, s, Z, z1, z2, z3, z4, z5, z6⟩; (exact absurd b1 c1); have k0 : kd (Tx B a) s = 0 := (by rw [← z1.1.2.2.2.2.1]; exact c3); exact Or.inr (Or.inl (⟨rfl, rfl, 0, ⟨ok, Or.inl ⟨s, Z, z1, z2, z3, tEnd_ok z6 (Or.inr k0)⟩⟩, rfl, rfl, trivial⟩))), fun c3 => (fun h1 v1 p1 q1 => (by rcases j1.symm with ⟨b1, q, z1, z2⟩ | ⟨b1, m, s, Z, z1, z2, z3, z4, z5, z6⟩; (exact absurd b1 c1); have k0 : kd (Tx B a) s ≠ 0 := (by rw [← z1.1.2.2.2.2.1]; exact c3); have t := c_X12_taleStep z1 z2 z3 hW p1; exact Or.inl (⟨rfl, rfl, _, ⟨ok, JT8.st z1.le tk z4 k0 z6 t⟩, rfl, rfl, rfl, trivial⟩)))⟩)⟩⟩
      · obtain ⟨ok, j1⟩ := hJ
        exact ⟨_, _, hs, v_X12_talesG_57 (fun r1 => ⟨fun c2 => (by rcases j1 with ⟨s, Z, z1, z2, z3, z4⟩ | ⟨q, z1, z2⟩; (exact absurd z1.2.1 c2); exact Or.inr (Or.inr (Or.inl (⟨rfl, rfl, 0, ⟨ok, Or.inr ⟨q, z1, z2⟩⟩, rfl, rfl, trivial⟩)))), fun c2 => (fun r3 => ⟨fun c4 => (by rcases j1.symm with ⟨q, z1, z2⟩ | ⟨s, Z, z1, z2, z3, z4⟩; (exact absurd z2.1.1 (by have := z2.1.2.2; omega)); have d := z2.2.2.2.1; unfold tEnd at z4; rw [if_neg (by omega)] at z4; exact Or.inr (Or.inr (Or.inl (⟨rfl, rfl, 0, ⟨ok, Or.inl ⟨z1.2.1, z1.2.2, (s, Z), z4.symm, z2, z3, by have := z3.2.2.2.1.1; show Z 50 4 = 0; omega⟩⟩, rfl, rfl, trivial⟩)))), fun c4 => (fun h1 v1 p1 q1 => (by rcases j1.symm with ⟨q, z1, z2⟩ | ⟨s, Z, z1, z2, z3, z4⟩; (exact absurd z2.1.1 (by have := z2.1.2.2; omega)); have d := z2.2.2.2.1; unfold tEnd at z4; rw [if_pos (by omega)] at z4; obtain ⟨a1, a2, a3⟩ := r_fl z1 (by omega) p1; exact Or.inr (Or.inr (Or.inl (⟨rfl, rfl, 0, ⟨ok, Or.inr ⟨(fltk (Tx B a) 2 s, s), z4.symm, a2, NmL.f0 z2.1 a3⟩⟩, rfl, rfl, trivial⟩)))))⟩)⟩)⟩
      · obtain ⟨ok, j1⟩ := hJ
        exact ⟨_, _, hs, v_X12_talesG_77 (fun r1 => ⟨fun c2 => (fun r3 => (fun h1 v1 p1 q1 => (by rcases j1 with ⟨z1, z2⟩ | ⟨q, z1, z2, z3⟩; (exact absurd z1 c2); intro v e; cases e; obtain ⟨⟨d1, d2⟩, d4, d3⟩ := c_X12_takenF p1; refine ⟨fun _ => ?_, fun z => absurd ok z⟩; rw [z1]; exact ⟨(d2 (by rw [z2.1]; exact z2.2.2)).1, by rw [d4]; exact z2.1, by rw [d3 169 17 (by omega)]; exact z2.2.1, z3.fr (fun c k q => d3 c k (by omega))⟩))), fun c2 => (fun b4 r5 => (fun b6 => (by rcases j1.symm with ⟨q, z1, z2, zz⟩ | ⟨z1, z2, z3⟩; (exact absurd z2.1 (by have := z2.2.2; omega)); exact Or.inr (Or.inr (Or.inr (⟨rfl, rfl, 164, ⟨ok, hx, ⟨z1, z2, z3⟩, by omega, up_sm, fun k q1 q2 => absurd q2 (by omega), fun c k q => up_ne (by omega)⟩, rfl, rfl, rfl, trivial⟩))))))⟩)⟩
      · obtain ⟨ok, j1⟩ := hJ
        have ju := j1.choose_spec.2.1
        exact ⟨_, _, hs, v_X12_talesG_102 ⟨fun c1 => (fun r2 => (fun h1 v1 p1 q1 => (by have eu : u = 524 := (by omega); subst eu; intro v e; cases e; obtain ⟨⟨d1, d2⟩, d4, d3⟩ := c_X12_takenF p1; have l0 : hx 169 18 = 0 := (by obtain ⟨G, g, uu, c4, cp, o⟩ := j1; rw [o 169 18 (by omega)]; exact g.1); exact ⟨fun _ => j1.fin d3 d4 (d1 (by omega)).1, fun z => absurd ok z⟩))), fun c1 => (fun b3 r4 => (fun b5 => (by have ix : (w32 (2112 + (u : Int))).toNat = 2112 + u := (by rw [w32_id (by omega) (by omega)]; omega); rw [ix, Int.toNat_natCast]; obtain ⟨G, g, uu, c4, cp, o⟩ := j1; exact Or.inr (Or.inr (Or.inr (⟨rfl, rfl, u + 1, ⟨ok, G, g, by omega, by rw [up_ne (by omega)]; exact c4, fun k q1 q2 => (by (by_cases z : k = u; (rw [z, up_sm]; exact o 170 _ (by omega)); (rw [up_ne (by omega)]; exact cp k q1 (by omega)))), fun c k q => by rw [up_ne (by omega)]; exact o c k (by omega)⟩, rfl, rfl, wv (by omega) (by omega) (by omega), trivial⟩))))))⟩⟩
  exact q v rfl
end
section
/-! 45z.8p.tales8 -/
/-! tales(): the same TALES in both -/
/-- the TALES of a LAND L: at cell b of the class, in slot s of the reference -/
def TLS (b s : Nat) (h L : PH) : Prop := (h b 0 = 0 ∧ h 170 (528 * s + 4) = -1) ∨ (∃ Y : PH, CS b h Y ∧ RTl s h Y ∧ WY9 L Y ∧ WT Y ∧ Y 50 4 = 0)
theorem WY9.lc {L L' Y : PH} (w : WY9 L Y) (e0 : L' 1 0 = L 1 0) (e4 : L' 0 4 = L 0 4) : WY9 L' Y := by
  obtain ⟨a, b, c⟩ := w
  refine ⟨a, fun k hk => ?_, c⟩
  have z := b k hk
  unfold okw hL0 pL0 at z ⊢
  rw [e0, e4]
  exact z
/-- the TALES stay if the LAND's houses and persons do -/
theorem TLS.kp {b s : Nat} {h h' L L' : PH} (t : TLS b s h L) (e0 : L' 1 0 = L 1 0) (e4 : L' 0 4 = L 0 4) (e : ∀ c k : Nat, b ≤ c → c ≤ b + 5 → h' c k = h c k) (r : ∀ k : Nat, k = 4 ∨ (164 ≤ k ∧ k < 524) → h' 170 (528 * s + k) = h 170 (528 * s + k)) : TLS b s h' L' := by
  rcases t with ⟨t1, t2⟩ | ⟨Y, ⟨c0, c1, c2, c3⟩, ⟨r1, r2, r3⟩, w, wt, y⟩
  · exact Or.inl ⟨by rw [e b 0 (by omega) (by omega)]; exact t1, by rw [r 4 (by omega)]; exact t2⟩
  · have w1 := w.1
    have n : Y 43 2 ≤ 60 := by obtain ⟨x1, x2, x3, x4, x5⟩ := wt; omega
    refine Or.inr ⟨Y, ⟨by rw [e b 0 (by omega) (by omega)]; exact c0, by rw [e b 1 (by omega) (by omega)]; exact c1, by rw [e b 2 (by omega) (by omega)]; exact c2, fun i k hi hk => by rw [e _ k (by omega) (by omega)]; exact c3 i k hi hk⟩, ⟨by rw [r 4 (by omega)]; exact r1, fun k hk i h6 h4 => ?_, fun k hk p => ?_⟩, w.lc e0 e4, wt, y⟩
    · have z := r2 k hk i h6 h4
      rw [show 528 * s + 164 + 6 * k + i = 528 * s + (164 + 6 * k + i) by omega] at z ⊢
      rw [r _ (by omega)]; exact z
    · have z := r3 k hk p
      rw [show 528 * s + 168 + 6 * k = 528 * s + (168 + 6 * k) by omega] at z ⊢
      rw [r _ (by omega)]; exact z
theorem RLd.f4 {bs nb : Nat} {h h' L : PH} (hL : RLd bs nb h L) (hW : WL L) (hF : ∀ k : Nat, bs ≤ k → k < bs + 163 → k ≠ bs + 4 → h' 170 k = h 170 k) (hG : ∀ k : Nat, nb ≤ k → k < nb + 15 → h' 171 k = h 171 k) : RLd bs nb h' L := by
  obtain ⟨⟨a1, a2, a3, a4⟩, b, c, d, e, f, g⟩ := hL
  have w1 := hW.1
  have w2 := hW.2.1
  refine ⟨⟨by rw [hF _ (by omega) (by omega) (by omega)]; exact a1, by rw [hF _ (by omega) (by omega) (by omega)]; exact a2, by rw [hF _ (by omega) (by omega) (by omega)]; exact a3, by rw [hF _ (by omega) (by omega) (by omega)]; exact a4⟩, fun i hi => ?_, fun p hp => ?_, fun q hq => by rw [hF _ (by omega) (by omega) (by omega)]; exact d q hq, fun p hp => ⟨by rw [hF _ (by omega) (by omega) (by omega)]; exact (e p hp).1, fun k hk z => by rw [hF _ (by omega) (by omega) (by omega)]; exact (e p hp).2 k hk z⟩, fun i hi => by rw [hG _ (by omega) (by omega)]; exact f i hi, fun p hp => by rw [hG _ (by omega) (by omega)]; exact g p hp⟩
  · rw [hF _ (by omega) (by omega) (by omega), hF _ (by omega) (by omega) (by omega), hF _ (by omega) (by omega) (by omega)]
    exact b i hi
  · rw [hF (bs + 27 + 5 * p) (by omega) (by omega) (by omega), hF (bs + 28 + 5 * p) (by omega) (by omega) (by omega), hF (bs + 29 + 5 * p) (by omega) (by omega) (by omega), hF (bs + 30 + 5 * p) (by omega) (by omega) (by omega), hF (bs + 31 + 5 * p) (by omega) (by omega) (by omega)]
    exact c p hp
section TL
variable {sl : Nat} {si : Nat → Int} {h h1 h2 : PH} {a v w : Int}
end TL
end
section
/-! 45z.8q.j8 -/
/-! what holds between calls: LAND and TALES, MARKS too -/
def LTS (b s : Nat) (h L : PH) : Prop := CL b h L ∧ W10 L ∧ RLd (528 * s) (15 * s) h L ∧ TLS (b + 16) s h L
def J8 (h : PH) : Prop := J10 h ∧ (h 0 17 = h 169 33 ∧ 0 ≤ h 0 17 ∧ h 0 17 ≤ 3) ∧ (∃ L, LTS 5 0 h L) ∧ ∀ m : Nat, (m : Int) < h 0 17 → ∃ L, LTS (103 + 22 * m) (m + 1) h L
theorem RLd.cp {bs nb bs' nb' : Nat} {h h' L : PH} (hL : RLd bs nb h L) (hW : WL L) (hF : ∀ k : Nat, k < 163 → h' 170 (bs' + k) = h 170 (bs + k)) (hG : ∀ k : Nat, k < 15 → h' 171 (nb' + k) = h 171 (nb + k)) : RLd bs' nb' h' L := by
  obtain ⟨⟨a1, a2, a3, a4⟩, b, c, d, e, f, g⟩ := hL
  have w1 := hW.1
  have w2 := hW.2.1
  have z0 := hF 0 (by omega)
  rw [Nat.add_zero, Nat.add_zero] at z0
  refine ⟨⟨z0.trans a1, (hF 1 (by omega)).trans a2, (hF 2 (by omega)).trans a3, (hF 3 (by omega)).trans a4⟩, fun i hi => ?_, fun p hp => ?_, fun q hq => ?_, fun p hp => ⟨?_, fun k hk z => ?_⟩, fun i hi => ?_, fun p hp => ?_⟩
  · have x := b i hi
    rw [show bs + 6 + 3 * i = bs + (6 + 3 * i) by omega, show bs + 7 + 3 * i = bs + (7 + 3 * i) by omega, show bs + 8 + 3 * i = bs + (8 + 3 * i) by omega] at x
    rw [show bs' + 6 + 3 * i = bs' + (6 + 3 * i) by omega, show bs' + 7 + 3 * i = bs' + (7 + 3 * i) by omega, show bs' + 8 + 3 * i = bs' + (8 + 3 * i) by omega, hF _ (by omega), hF _ (by omega), hF _ (by omega)]
    exact x
  · have x := c p hp
    rw [show bs + 27 + 5 * p = bs + (27 + 5 * p) by omega, show bs + 28 + 5 * p = bs + (28 + 5 * p) by omega, show bs + 29 + 5 * p = bs + (29 + 5 * p) by omega, show bs + 30 + 5 * p = bs + (30 + 5 * p) by omega, show bs + 31 + 5 * p = bs + (31 + 5 * p) by omega] at x
    rw [show bs' + 27 + 5 * p = bs' + (27 + 5 * p) by omega, show bs' + 28 + 5 * p = bs' + (28 + 5 * p) by omega, show bs' + 29 + 5 * p = bs' + (29 + 5 * p) by omega, show bs' + 30 + 5 * p = bs' + (30 + 5 * p) by omega, show bs' + 31 + 5 * p = bs' + (31 + 5 * p) by omega, hF (27 + 5 * p) (by omega), hF (28 + 5 * p) (by omega), hF (29 + 5 * p) (by omega), hF (30 + 5 * p) (by omega), hF (31 + 5 * p) (by omega)]
    exact x
  · have x := d q hq
    rw [show bs + 67 + q = bs + (67 + q) by omega] at x
    rw [show bs' + 67 + q = bs' + (67 + q) by omega, hF _ (by omega)]
    exact x
  · have x := (e p hp).1
    rw [show bs + 131 + 4 * p = bs + (131 + 4 * p) by omega] at x
    rw [show bs' + 131 + 4 * p = bs' + (131 + 4 * p) by omega, hF _ (by omega)]
    exact x
  · have x := (e p hp).2 k hk z
    rw [show bs + 132 + 4 * p + k = bs + (132 + 4 * p + k) by omega] at x
    rw [show bs' + 132 + 4 * p + k = bs' + (132 + 4 * p + k) by omega, hF _ (by omega)]
    exact x
  · rw [hG _ (by omega)]; exact f i hi
  · have x := g p hp
    rw [show nb + 7 + p = nb + (7 + p) by omega] at x
    rw [show nb' + 7 + p = nb' + (7 + p) by omega, hG _ (by omega)]; exact x
theorem TLS.cp {b s b' s' : Nat} {h h' L : PH} (t : TLS b s h L) (e : ∀ j k : Nat, inT j k → h' (b' + j) k = h (b + j) k) (r : ∀ k : Nat, k < 528 → h' 170 (528 * s' + k) = h 170 (528 * s + k)) : TLS b' s' h' L := by
  have e0 : ∀ k : Nat, k < 3 → h' b' k = h b k := fun k hk => e 0 k (Or.inl ⟨rfl, hk⟩)
  rcases t with ⟨t1, t2⟩ | ⟨Y, ⟨c0, c1, c2, c3⟩, ⟨r1, r2, r3⟩, w, wt, y⟩
  · exact Or.inl ⟨by rw [e0 0 (by omega)]; exact t1, by rw [r 4 (by omega)]; exact t2⟩
  · have w1 := w.1
    have n : Y 43 2 ≤ 60 := by obtain ⟨x1, x2, x3, x4, x5⟩ := wt; omega
    refine Or.inr ⟨Y, ⟨by rw [e0 0 (by omega)]; exact c0, by rw [e0 1 (by omega)]; exact c1, by rw [e0 2 (by omega)]; exact c2, fun i k hi hk => ?_⟩, ⟨by rw [r 4 (by omega)]; exact r1, fun k hk i h6 h4 => ?_, fun k hk p => ?_⟩, w, wt, y⟩
    · have z := e (1 + i) k (Or.inr ⟨by omega, by omega, hk⟩)
      have x := c3 i k hi hk
      rw [show b + 1 + i = b + (1 + i) by omega] at x
      rw [show b' + 1 + i = b' + (1 + i) by omega, z]; exact x
    · have z := r2 k hk i h6 h4
      rw [show 528 * s + 164 + 6 * k + i = 528 * s + (164 + 6 * k + i) by omega] at z
      rw [show 528 * s' + 164 + 6 * k + i = 528 * s' + (164 + 6 * k + i) by omega, r _ (by omega)]; exact z
    · have z := r3 k hk p
      rw [show 528 * s + 168 + 6 * k = 528 * s + (168 + 6 * k) by omega] at z
      rw [show 528 * s' + 168 + 6 * k = 528 * s' + (168 + 6 * k) by omega, r _ (by omega)]; exact z
theorem LTS.cp {b s b' s' : Nat} {h h' L : PH} (l : LTS b s h L) (c : ∀ j k : Nat, inL j k → h' (b' + j) k = h (b + j) k) (e : ∀ j k : Nat, inT j k → h' (b' + 16 + j) k = h (b + 16 + j) k) (r : ∀ k : Nat, k < 528 → h' 170 (528 * s' + k) = h 170 (528 * s + k)) (n : ∀ k : Nat, k < 15 → h' 171 (15 * s' + k) = h 171 (15 * s + k)) : LTS b' s' h' L :=
  ⟨fun j k i => (c j k i).trans (l.1 j k i), l.2.1, l.2.2.1.cp l.2.1.1.1 (fun k hk => r k (by omega)) n, l.2.2.2.cp e r⟩
/-- the MARKS' LANDS stay -/
def SM (h h' : PH) : Prop := ∀ c k : Nat, (103 ≤ c ∧ c ≤ 168) ∨ (c = 170 ∧ 528 ≤ k ∧ k < 2112) ∨ (c = 171 ∧ 15 ≤ k ∧ k < 60) → h' c k = h c k
theorem mk8 {h h' : PH} (hM : ∀ m : Nat, (m : Int) < h 0 17 → ∃ L, LTS (103 + 22 * m) (m + 1) h L) (h3 : h 0 17 ≤ 3) (s : SM h h') (e0 : h' 0 17 = h 0 17) : ∀ m : Nat, (m : Int) < h' 0 17 → ∃ L, LTS (103 + 22 * m) (m + 1) h' L := fun m hm => by
  rw [e0] at hm
  obtain ⟨L, l⟩ := hM m hm
  exact ⟨L, l.cp (fun j k i => s _ _ (by have := inL_b i; omega)) (fun j k i => s _ _ (by have := inT_b i; omega)) (fun k hk => s _ _ (by omega)) (fun k hk => s _ _ (by omega))⟩
section PR8
variable {sl : Nat} {si : Nat → Int} {h h1 h2 : PH} {a b c d e v w : Int}
/-- what is done on the LAND -/
theorem op8 {L L' : PH} (hJ : J8 h) (l : LTS 5 0 h L) (g : GL h h1) (g' : GR h1 h2) (c5 : CL 5 h1 L') (w : W10 L') (r : RN9 h2 L') (e0 : L' 1 0 = L 1 0) (e4 : L' 0 4 = L 0 4) (e9 : ∀ k, L' 9 k = L 9 k) (e10 : ∀ k, L' 10 k = L 10 k) : J8 h2 := by
  obtain ⟨j, ⟨b1, b2, b3⟩, -, cm⟩ := hJ
  have F : ∀ c k : Nat, ¬ (c = 0 ∧ k = 0) → ¬ (5 ≤ c ∧ c ≤ 20) → ¬ (c = 169 ∧ k = 2) → ¬ (c = 170 ∧ k < 131 ∧ k ≠ 4) → ¬ (c = 178 ∧ k < 7) → h2 c k = h c k := fun c k q1 q2 q3 q4 q5 => (g' c k q3 q4 q5).trans (g c k q1 q2)
  have x0 : h2 0 17 = h 0 17 := F 0 17 (by omega) (by omega) (by omega) (by omega) (by omega)
  have x1 : h2 169 33 = h 169 33 := F 169 33 (by omega) (by omega) (by omega) (by omega) (by omega)
  obtain ⟨-, -, -, -, -, n1, n2⟩ := l.2.2.1
  refine ⟨J10_eq j (fun c k q => F c k (by omega) (by omega) (by omega) (by omega) (by omega)), ⟨by rw [x0, x1]; exact b1, by rw [x0]; exact b2, by rw [x0]; exact b3⟩, ⟨L', c5.fr (fun c k q1 q2 => g' c k (by omega) (by omega) (by omega)), w, r.ld (fun i hi => ?_) (fun p hp => ?_), l.2.2.2.kp e0 e4 (fun c k q1 q2 => F c k (by omega) (by omega) (by omega) (by omega) (by omega)) (fun k hk => F _ _ (by omega) (by omega) (by omega) (by omega) (by omega))⟩, mk8 cm b3 (fun c k q => F c k (by omega) (by omega) (by omega) (by omega) (by omega)) x0⟩
  · rw [e0] at hi
    rw [e9, F _ _ (by omega) (by omega) (by omega) (by omega) (by omega)]; exact n1 i hi
  · rw [e4] at hp
    rw [e10, F _ _ (by omega) (by omega) (by omega) (by omega) (by omega)]; exact n2 p hp
theorem LTS.n9 {L : PH} (l : LTS 5 0 h L) (g : GL h h1) : RN9 h1 L := (RLd.n9 l.2.2.1).e (funext (fun k => g 170 k (by omega) (by omega)))
theorem pr_land8 (hJ : J8 h) (p1 : CP (zz sl si (7, 0)) mX11_land h [(2, 0), (0, a)] h1 [(0, v)]) (p2 : CP (zz sl si (7, 0)) mX12_land h1 [(2, 169), (0, a)] h2 [(0, w)]) : J8 h2 ∧ v = w := by
  obtain ⟨j, ⟨b1, b2, b3⟩, ⟨L, l1, l2, l3, l4⟩, cm⟩ := hJ
  have j2 := (pr_land j p1 p2).1
  obtain ⟨e, o, f1, f2⟩ := land_8 j l1 l2 l3 p1 p2
  have F : ∀ c k : Nat, (c = 0 ∧ k = 17) ∨ (103 ≤ c ∧ c ≤ 168) ∨ (c = 169 ∧ k = 33) ∨ (c = 170 ∧ 528 ≤ k ∧ k < 2112) ∨ (c = 171 ∧ 15 ≤ k ∧ k < 60) → h2 c k = h c k := fun c k q => (f2 c k (by omega) (by omega) (by omega) (by omega) (by omega) (by omega)).trans (f1 c k (by omega) (by omega) (by omega) (by omega) (by omega) (by omega))
  have x0 := F 0 17 (by omega)
  have x1 := F 169 33 (by omega)
  refine ⟨⟨j2, ⟨by rw [x0, x1]; exact b1, by rw [x0]; exact b2, by rw [x0]; exact b3⟩, ?_, mk8 cm b3 (fun c k q => F c k (by omega)) x0⟩, e⟩
  rcases o with ⟨M, m1, m2, m3, m4, m5⟩ | ⟨m1, m2, m3, m4⟩
  · exact ⟨M, m1, m2, m3, Or.inl ⟨m4.1, m5⟩⟩
  · exact ⟨L, m1, l2, m2, l4.kp rfl rfl (fun c k q1 q2 => m3 c k (by omega) (by omega)) (fun k hk => m4 _ (by omega))⟩
theorem pr_mark8 (hJ : J8 h) (p1 : CP (zz sl si (7, 0)) mX11_mark h [(2, 0)] h1 [(0, v)]) (p2 : CP (zz sl si (7, 0)) mX12_mark h1 [(2, 169)] h2 [(0, w)]) : J8 h2 := by
  obtain ⟨j, ⟨b1, b2, b3⟩, ⟨L, l⟩, cm⟩ := hJ
  obtain ⟨y1, n1, f1⟩ := c_X11_mark ⟨b2, b3⟩ p1
  have F1 : ∀ c k : Nat, (1 ≤ c ∧ c ≤ 102 + 22 * (h 0 17).toNat) ∨ 169 ≤ c → h1 c k = h c k := fun c k q => f1 c k (by omega) (by omega)
  have em : h1 169 33 = h 0 17 := by rw [F1 169 33 (by omega)]; exact b1.symm
  obtain ⟨y2, n2, f2⟩ := c_X12_mark (by rw [em]; exact ⟨b2, b3⟩) p2
  rw [em] at y2 n2 f2
  have F2 : ∀ c k : Nat, c ≤ 168 ∨ (c = 169 ∧ k = 10) ∨ (c = 170 ∧ k < 528 * ((h 0 17).toNat + 1)) ∨ (c = 171 ∧ k < 15 * ((h 0 17).toNat + 1)) ∨ c = 175 → h2 c k = h1 c k := fun c k q => f2 c k (by omega) (by omega)
  have j2 : J10 h2 := J10_eq j (fun c k q => (F2 c k (by omega)).trans (F1 c k (by omega)))
  have c5 : ∃ L, LTS 5 0 h2 L := ⟨L, l.cp (fun j k i => by have := inL_b i; exact (F2 _ _ (by omega)).trans (F1 _ _ (by omega))) (fun j k i => by have := inT_b i; exact (F2 _ _ (by omega)).trans (F1 _ _ (by omega))) (fun k hk => (F2 170 _ (by omega)).trans (F1 170 _ (by omega))) (fun k hk => (F2 171 _ (by omega)).trans (F1 171 _ (by omega)))⟩
  have old : ∀ m : Nat, (m : Int) < h 0 17 → ∃ L, LTS (103 + 22 * m) (m + 1) h2 L := fun m hm => by
    obtain ⟨M, q⟩ := cm m hm
    exact ⟨M, q.cp (fun j k i => by have := inL_b i; exact (F2 _ _ (by omega)).trans (F1 _ _ (by omega))) (fun j k i => by have := inT_b i; exact (F2 _ _ (by omega)).trans (F1 _ _ (by omega))) (fun k hk => (F2 170 _ (by omega)).trans (F1 170 _ (by omega))) (fun k hk => (F2 171 _ (by omega)).trans (F1 171 _ (by omega)))⟩
  by_cases z : h 0 17 < 3
  · obtain ⟨u1, u2, u3, u4⟩ := y1 z
    obtain ⟨t1, t2, t3, t4⟩ := y2 z
    have e0 : h2 0 17 = h 0 17 + 1 := (F2 0 17 (by omega)).trans u1
    refine ⟨j2, ⟨by rw [e0, t1], by rw [e0]; omega, by rw [e0]; omega⟩, c5, fun m hm => ?_⟩
    rw [e0] at hm
    by_cases q : (m : Int) < h 0 17
    · exact old m q
    · have me : (h 0 17).toNat = m := by omega
      rw [me] at u3 u4 t3 t4 F1
      refine ⟨L, l.cp (fun j k i => (F2 _ _ (by have := inL_b i; omega)).trans (u3 j k i)) (fun j k i => ?_) (fun k hk => ?_) (fun k hk => ?_)⟩
      · rw [show 103 + 22 * m + 16 + j = 119 + 22 * m + j by omega, show 5 + 16 + j = 21 + j by omega]
        exact (F2 _ _ (by have := inT_b i; omega)).trans (u4 j k i)
      · rw [show 528 * 0 + k = k by omega]; exact (t3 k hk).trans (F1 170 _ (by omega))
      · rw [show 15 * 0 + k = k by omega]; exact (t4 k hk).trans (F1 171 _ (by omega))
  · have u := (n1 z).2
    have t := (n2 z).2
    have e0 : h2 0 17 = h 0 17 := (F2 0 17 (by omega)).trans u
    exact ⟨j2, ⟨by rw [e0, t], by rw [e0]; exact b2, by rw [e0]; exact b3⟩, c5, fun m hm => old m (by rw [e0] at hm; exact hm)⟩
theorem pr_undo8 (hJ : J8 h) (p1 : CP (zz sl si (7, 0)) mX11_undo h [(2, 0)] h1 [(0, v)]) (p2 : CP (zz sl si (7, 0)) mX12_undo h1 [(2, 169)] h2 [(0, w)]) : J8 h2 := by
  obtain ⟨j, ⟨b1, b2, b3⟩, ⟨L, l⟩, cm⟩ := hJ
  obtain ⟨y1, n1, f1⟩ := c_X11_undo ⟨b2, b3⟩ p1
  have F1 : ∀ c k : Nat, (1 ≤ c ∧ c ≤ 4) ∨ 27 ≤ c → h1 c k = h c k := fun c k q => f1 c k (by omega) (by omega)
  have em : h1 169 33 = h 0 17 := by rw [F1 169 33 (by omega)]; exact b1.symm
  obtain ⟨y2, n2, f2⟩ := c_X12_undo (by rw [em]; exact ⟨b2, b3⟩) p2
  rw [em] at y2 n2 f2
  have F2 : ∀ c k : Nat, c ≤ 168 ∨ (c = 169 ∧ k = 10) ∨ (c = 170 ∧ 528 ≤ k) ∨ (c = 171 ∧ 15 ≤ k) ∨ c = 175 → h2 c k = h1 c k := fun c k q => f2 c k (by omega) (by omega)
  have j2 : J10 h2 := J10_eq j (fun c k q => (F2 c k (by omega)).trans (F1 c k (by omega)))
  have old : ∀ m : Nat, (m : Int) < h 0 17 → ∃ L, LTS (103 + 22 * m) (m + 1) h2 L := fun m hm => by
    obtain ⟨M, q⟩ := cm m hm
    exact ⟨M, q.cp (fun j k i => by have := inL_b i; exact (F2 _ _ (by omega)).trans (F1 _ _ (by omega))) (fun j k i => by have := inT_b i; exact (F2 _ _ (by omega)).trans (F1 _ _ (by omega))) (fun k hk => (F2 170 _ (by omega)).trans (F1 170 _ (by omega))) (fun k hk => (F2 171 _ (by omega)).trans (F1 171 _ (by omega)))⟩
  by_cases z : 1 ≤ h 0 17
  · obtain ⟨u1, u2, u3, u4⟩ := y1 z
    obtain ⟨t1, t2, t3, t4⟩ := y2 z
    have e0 : h2 0 17 = h 0 17 - 1 := (F2 0 17 (by omega)).trans u1
    obtain ⟨m, hm⟩ : ∃ m : Nat, h 0 17 = (m : Int) + 1 := ⟨(h 0 17 - 1).toNat, by omega⟩
    obtain ⟨M, q⟩ := cm m (by omega)
    have mt : (h 0 17).toNat = m + 1 := by omega
    rw [mt] at u3 u4 t3 t4
    refine ⟨j2, ⟨by rw [e0, t1], by rw [e0]; omega, by rw [e0]; omega⟩, ⟨M, q.cp (fun j k i => ?_) (fun j k i => ?_) (fun k hk => ?_) (fun k hk => ?_)⟩, fun q hq => old q (by rw [e0] at hq; omega)⟩
    · have x := u3 j k i
      rw [show 81 + 22 * (m + 1) + j = 103 + 22 * m + j by omega] at x
      exact (F2 _ _ (by have := inL_b i; omega)).trans x
    · have x := u4 j k i
      rw [show 97 + 22 * (m + 1) + j = 103 + 22 * m + 16 + j by omega] at x
      rw [show 5 + 16 + j = 21 + j by omega]
      exact (F2 _ _ (by have := inT_b i; omega)).trans x
    · rw [show 528 * 0 + k = k by omega]; exact (t3 k hk).trans (F1 170 _ (by omega))
    · rw [show 15 * 0 + k = k by omega]; exact (t4 k hk).trans (F1 171 _ (by omega))
  · have u := (n1 z).2
    have t := (n2 z).2
    have e0 : h2 0 17 = h 0 17 := (F2 0 17 (by omega)).trans u
    have G1 : ∀ c k : Nat, 1 ≤ c → h1 c k = h c k := fun c k q => f1 c k (by omega) (by omega)
    have G2 : ∀ c k : Nat, c ≤ 168 ∨ c = 170 ∨ c = 171 → h2 c k = h1 c k := fun c k q => f2 c k (by omega) (by omega)
    exact ⟨j2, ⟨by rw [e0, t], by rw [e0]; exact b2, by rw [e0]; exact b3⟩, ⟨L, l.cp (fun j k i => by have := inL_b i; exact (G2 _ _ (by omega)).trans (G1 _ _ (by omega))) (fun j k i => by have := inT_b i; exact (G2 _ _ (by omega)).trans (G1 _ _ (by omega))) (fun k hk => (G2 170 _ (by omega)).trans (G1 170 _ (by omega))) (fun k hk => (G2 171 _ (by omega)).trans (G1 171 _ (by omega)))⟩, fun m hm => old m (by rw [e0] at hm; exact hm)⟩
end PR8
end
section
/-! 45z.8r.done -/
/-! what is done: the same in both -/
section NS
variable {L : PH}
theorem soM_o {p b j k : Nat} (hj : j = 9 ∨ j = 10) : soM L p b j k = L j k := by
  unfold soM
  split
  · split
    · rw [owe_o (by omega) (by omega), owe_o (by omega) (by omega)]
    · rw [owe_o (by omega) (by omega)]
  · split
    · split
      · rfl
      · rw [up_ne (by omega)]
    · split
      · rw [owe_o (by omega) (by omega)]
      · rfl
theorem haL_o {p j k : Nat} (hj : j = 9 ∨ j = 10) : haL L p j k = L j k := by
  unfold haL
  by_cases c1 : bB (L 0 7) p = true ∧ 0 < L 8 p
  · rw [if_pos c1]
    by_cases c2 : amL L p (L 0 4).toNat = -1
    · rw [if_pos c2]
    · rw [if_neg c2]
      by_cases c3 : L 11 (amL L p (L 0 4).toNat).toNat = L 11 p
      · rw [if_pos c3]; unfold soL; rw [soM_o hj, up_ne (by omega)]
      · rw [if_neg c3, up_ne (by omega)]
  · rw [if_neg c1]
theorem niL_o {j k : Nat} (hj : j = 9 ∨ j = 10) : ∀ p : Nat, niL L p j k = L j k
  | 0 => up_ne (by omega)
  | p + 1 => (haL_o hj).trans (niL_o hj p)
theorem nsL_o {j k : Nat} (hj : j = 9 ∨ j = 10) : ∀ n : Nat, nsL L n j k = L j k
  | 0 => rfl
  | n + 1 => (niL_o hj _).trans (nsL_o hj n)
end NS
section PR8
variable {sl : Nat} {si : Nat → Int} {h h1 h2 : PH} {a b c d e v w : Int}

theorem pr_salt8 (hJ : J8 h) (hb : b = 0 ∨ b = 1) (p1 : CP (zz sl si (7, 0)) mX11_salt h [(2, 0), (0, a), (0, b)] h1 [(0, v)]) (p2 : CP (zz sl si (7, 0)) mX12_salt h1 [(2, 169), (0, a), (0, b)] h2 [(0, w)]) : J8 h2 ∧ v = w := by
  obtain ⟨L, l⟩ := hJ.2.2.1
  obtain ⟨n, y, g⟩ := c_X11_saltL l.1 l.2.1 hb p1
  obtain ⟨n', y', g'⟩ := c_X12_saltL (l.n9 g) l.2.1 hb p2
  by_cases r : (0 ≤ a ∧ a < L 1 0)
  · obtain ⟨ya, yb⟩ := y r
    obtain ⟨za, zb⟩ := y' r
    by_cases q : (bB (L 1 1) a.toNat = true ↔ b = 1)
    · exact ⟨op8 hJ l g g' (ya q).2 l.2.1 (za q).2 rfl rfl (fun _ => rfl) (fun _ => rfl), (ya q).1.trans (za q).1.symm⟩
    · obtain ⟨q1, M, m1, m2, m3⟩ := yb q
      exact ⟨op8 hJ l g g' m1 m2 ((zb q).2.t m3) ((m3 1 0 (by omega) (by omega)).trans (fl_o (by omega))) ((m3 0 4 (by omega) (by omega)).trans (fl_o (by omega))) (fun k => (m3 9 k (by omega) (by omega)).trans (fl_o (by omega))) (fun k => (m3 10 k (by omega) (by omega)).trans (fl_o (by omega))), q1.trans (zb q).1.symm⟩
  · exact ⟨op8 hJ l g g' (n r).2 l.2.1 (n' r).2 rfl rfl (fun _ => rfl) (fun _ => rfl), (n r).1.trans (n' r).1.symm⟩
theorem pr_keep8 (hJ : J8 h) (hb : b = 0 ∨ b = 1) (p1 : CP (zz sl si (7, 0)) mX11_keep h [(2, 0), (0, a), (0, b)] h1 [(0, v)]) (p2 : CP (zz sl si (7, 0)) mX12_keep h1 [(2, 169), (0, a), (0, b)] h2 [(0, w)]) : J8 h2 ∧ v = w := by
  obtain ⟨L, l⟩ := hJ.2.2.1
  obtain ⟨n, y, g⟩ := c_X11_keepL l.1 l.2.1 hb p1
  obtain ⟨n', y', g'⟩ := c_X12_keepL (l.n9 g) l.2.1 hb p2
  by_cases r : (0 ≤ a ∧ a < L 0 4)
  · obtain ⟨ya, yb⟩ := y r
    obtain ⟨za, zb⟩ := y' r
    by_cases q : (bB (L 0 9) a.toNat = true ↔ b = 1)
    · exact ⟨op8 hJ l g g' (ya q).2 l.2.1 (za q).2 rfl rfl (fun _ => rfl) (fun _ => rfl), (ya q).1.trans (za q).1.symm⟩
    · exact ⟨op8 hJ l g g' (yb q).2 (l.2.1.fk r.1 r.2) (zb q).2 (fl_o (by omega)) (fl_o (by omega)) (fun k => fl_o (by omega)) (fun k => fl_o (by omega)), (yb q).1.trans (zb q).1.symm⟩
  · exact ⟨op8 hJ l g g' (n r).2 l.2.1 (n' r).2 rfl rfl (fun _ => rfl) (fun _ => rfl), (n r).1.trans (n' r).1.symm⟩
theorem pr_wall8 (hJ : J8 h) (hb : c = 0 ∨ c = 1) (p1 : CP (zz sl si (7, 0)) mX11_wall h [(2, 0), (0, a), (0, b), (0, c)] h1 [(0, v)]) (p2 : CP (zz sl si (7, 0)) mX12_wall h1 [(2, 169), (0, a), (0, b), (0, c)] h2 [(0, w)]) : J8 h2 ∧ v = w := by
  obtain ⟨L, l⟩ := hJ.2.2.1
  obtain ⟨n, y, g⟩ := c_X11_wallL l.1 l.2.1 hb p1
  obtain ⟨n', y', g'⟩ := c_X12_wallL (l.n9 g) l.2.1 hb p2
  by_cases r : (0 ≤ a ∧ a < L 1 0 ∧ 0 ≤ b ∧ b < L 1 0 ∧ a ≠ b)
  · obtain ⟨ya, yb⟩ := y r
    obtain ⟨za, zb⟩ := y' r
    by_cases q : (bB (L 2 a.toNat) b.toNat = true ↔ c = 1)
    · exact ⟨op8 hJ l g g' (ya q).2 l.2.1 (za q).2 rfl rfl (fun _ => rfl) (fun _ => rfl), (ya q).1.trans (za q).1.symm⟩
    · obtain ⟨q1, M, m1, m2, m3⟩ := yb q
      exact ⟨op8 hJ l g g' m1 m2 ((zb q).2.t m3) ((m3 1 0 (by omega) (by omega)).trans (wa_o (by omega))) ((m3 0 4 (by omega) (by omega)).trans (wa_o (by omega))) (fun k => (m3 9 k (by omega) (by omega)).trans (wa_o (by omega))) (fun k => (m3 10 k (by omega) (by omega)).trans (wa_o (by omega))), q1.trans (zb q).1.symm⟩
  · exact ⟨op8 hJ l g g' (n r).2 l.2.1 (n' r).2 rfl rfl (fun _ => rfl) (fun _ => rfl), (n r).1.trans (n' r).1.symm⟩
theorem pr_move8 (hJ : J8 h) (p1 : CP (zz sl si (7, 0)) mX11_move h [(2, 0), (0, a), (0, b)] h1 [(0, v)]) (p2 : CP (zz sl si (7, 0)) mX12_move h1 [(2, 169), (0, a), (0, b)] h2 [(0, w)]) : J8 h2 ∧ v = w := by
  obtain ⟨L, l⟩ := hJ.2.2.1
  obtain ⟨n, y, g⟩ := c_X11_moveL l.1 l.2.1 p1
  obtain ⟨n', y', g'⟩ := c_X12_moveL (l.n9 g) l.2.1 p2
  by_cases r : ((0 ≤ a ∧ a < L 0 4) ∧ 0 ≤ b ∧ b < L 1 0)
  · obtain ⟨ya, yb⟩ := y r
    obtain ⟨za, zb⟩ := y' r
    by_cases q : (bB (L 0 7) a.toNat = true ∨ L 11 a.toNat = b)
    · exact ⟨op8 hJ l g g' (ya q).2 l.2.1 (za q).2 rfl rfl (fun _ => rfl) (fun _ => rfl), (ya q).1.trans (za q).1.symm⟩
    · exact ⟨op8 hJ l g g' (yb q).2 (l.2.1.mv r.2) (zb q).2 (mv_o (by omega)) (mv_o (by omega)) (fun k => mv_o (by omega)) (fun k => mv_o (by omega)), (yb q).1.trans (zb q).1.symm⟩
  · exact ⟨op8 hJ l g g' (n r).2 l.2.1 (n' r).2 rfl rfl (fun _ => rfl) (fun _ => rfl), (n r).1.trans (n' r).1.symm⟩
theorem pr_night8 (hJ : J8 h) (hB : BdR h1) (hD : BdD h1) (p1 : CP (zz sl si (7, 0)) mX11_night h [(2, 0), (0, a)] h1 [(0, v)]) (p2 : CP (zz sl si (7, 0)) mX12_night h1 [(2, 169), (0, a)] h2 [(0, w)]) : J8 h2 ∧ v = w := by
  obtain ⟨L, l⟩ := hJ.2.2.1
  obtain ⟨n, y, g⟩ := c_X11_nightL l.1 l.2.1 p1
  obtain ⟨n', y', g'⟩ := c_X12_nightL (l.n9 g) l.2.1 hB hD p2
  by_cases r : (1 ≤ a ∧ a ≤ 99)
  · obtain ⟨ya, yb⟩ := y r
    obtain ⟨za, zb⟩ := y' r
    by_cases q : (9999 < w32 (L 0 12 + a))
    · exact ⟨op8 hJ l g g' (ya q).2 l.2.1 (za q).2 rfl rfl (fun _ => rfl) (fun _ => rfl), (ya q).1.trans (za q).1.symm⟩
    · have nw := nsL_w l.2.1.1 a.toNat
      exact ⟨op8 hJ l g g' (yb q).2 (nsL_w10 l.2.1 a.toNat) (zb q).2 nw.2.2 nw.2.1 (fun k => nsL_o (by omega) _) (fun k => nsL_o (by omega) _), (yb q).1.trans (zb q).1.symm⟩
  · exact ⟨op8 hJ l g g' (n r).2 l.2.1 (n' r).2 rfl rfl (fun _ => rfl) (fun _ => rfl), (n r).1.trans (n' r).1.symm⟩
theorem pr_die8 (hJ : J8 h) (hB : BdR h1) (hD : BdD h1) (hH : BdH h1) (p1 : CP (zz sl si (7, 0)) mX11_die h [(2, 0), (0, a)] h1 [(0, v)]) (p2 : CP (zz sl si (7, 0)) mX12_die h1 [(2, 169), (0, a)] h2 [(0, w)]) : J8 h2 ∧ v = w := by
  obtain ⟨L, l⟩ := hJ.2.2.1
  obtain ⟨n, y, g⟩ := c_X11_dieL l.1 l.2.1 p1
  obtain ⟨n', y', g'⟩ := c_X12_dieL (l.n9 g) l.2.1 hB hD hH p2
  by_cases r : (0 ≤ a ∧ a < L 0 4)
  · obtain ⟨ya, yb⟩ := y r
    obtain ⟨za, zb⟩ := y' r
    by_cases q : (bB (L 0 7) a.toNat = true)
    · exact ⟨op8 hJ l g g' (ya q).2 l.2.1 (za q).2 rfl rfl (fun _ => rfl) (fun _ => rfl), (ya q).1.trans (za q).1.symm⟩
    · obtain ⟨M, m1, m2, m3, m4⟩ := yb q
      obtain ⟨z1, z2⟩ := zb q M m2 m3
      have o : ∀ j k : Nat, ¬ (j = 0 ∧ k = 7) → j ≠ 7 → j ≠ 8 → M j k = L j k := fun j k q q7 q8 => (m3.2.1 j k q7 q8).trans (up_ne (by omega))
      exact ⟨op8 hJ l g g' m1 m2 z1 (o 1 0 (by omega) (by omega) (by omega)) (o 0 4 (by omega) (by omega) (by omega)) (fun k => o 9 k (by omega) (by omega) (by omega)) (fun k => o 10 k (by omega) (by omega) (by omega)), m4.trans z2.symm⟩
  · exact ⟨op8 hJ l g g' (n r).2 l.2.1 (n' r).2 rfl rfl (fun _ => rfl) (fun _ => rfl), (n r).1.trans (n' r).1.symm⟩
theorem pr_forgive8 (hJ : J8 h) (p1 : CP (zz sl si (7, 0)) mX11_forgive h [(2, 0), (0, a), (0, b)] h1 [(0, v)]) (p2 : CP (zz sl si (7, 0)) mX12_forgive h1 [(2, 169), (0, a), (0, b)] h2 [(0, w)]) : J8 h2 ∧ v = w := by
  obtain ⟨L, l⟩ := hJ.2.2.1
  obtain ⟨n, y, g⟩ := c_X11_forgiveL l.1 l.2.1 p1
  obtain ⟨n', y', g'⟩ := c_X12_forgiveL (l.n9 g) l.2.1 p2
  by_cases r : ((0 ≤ a ∧ a < L 0 4) ∧ (0 ≤ b ∧ b < L 0 4) ∧ a ≠ b)
  · obtain ⟨ya, yb⟩ := y r
    obtain ⟨za, zb⟩ := y' r
    by_cases q : (bB (L 0 7) a.toNat = true ∨ L 7 (8 * b.toNat + a.toNat) = 0)
    · exact ⟨op8 hJ l g g' (ya q).2 l.2.1 (za q).2 rfl rfl (fun _ => rfl) (fun _ => rfl), (ya q).1.trans (za q).1.symm⟩
    · exact ⟨op8 hJ l g g' (yb q).2 (l.2.1.ow r.2.1 r.1 (Or.inr rfl) (by omega)) (zb q).2 (owe_o (by omega) (by omega)) (owe_o (by omega) (by omega)) (fun k => owe_o (by omega) (by omega)) (fun k => owe_o (by omega) (by omega)), (yb q).1.trans (zb q).1.symm⟩
  · exact ⟨op8 hJ l g g' (n r).2 l.2.1 (n' r).2 rfl rfl (fun _ => rfl) (fun _ => rfl), (n r).1.trans (n' r).1.symm⟩
theorem pr_forge8 (hJ : J8 h) (p1 : CP (zz sl si (7, 0)) mX11_forge h [(2, 0), (0, a), (0, b), (0, c)] h1 [(0, v)]) (p2 : CP (zz sl si (7, 0)) mX12_forge h1 [(2, 169), (0, a), (0, b), (0, c)] h2 [(0, w)]) : J8 h2 ∧ v = w := by
  obtain ⟨L, l⟩ := hJ.2.2.1
  obtain ⟨n, y, g⟩ := c_X11_forgeL l.1 l.2.1 p1
  obtain ⟨n', y', g'⟩ := c_X12_forgeL (l.n9 g) l.2.1 p2
  by_cases r : (((0 ≤ a ∧ a < L 0 4) ∧ (0 ≤ b ∧ b < L 0 4) ∧ a ≠ b) ∧ 1 ≤ c ∧ c ≤ 99)
  · obtain ⟨ya, yb⟩ := y r
    obtain ⟨za, zb⟩ := y' r
    by_cases q : (¬ bB (L 0 7) a.toNat = true ∨ bB (L 0 7) b.toNat = true)
    · exact ⟨op8 hJ l g g' (ya q).2 l.2.1 (za q).2 rfl rfl (fun _ => rfl) (fun _ => rfl), (ya q).1.trans (za q).1.symm⟩
    · have h8 := l.2.1.1.1.2.1
      have o7 := l.2.1.1.1.2.2.2.2.1 (8 * a.toNat + b.toNat) (by omega)
      exact ⟨op8 hJ l g g' (yb q).2 (l.2.1.ow r.1.1 r.1.2.1 (Or.inl r.1.2.2) (cap9_b (by omega))) (zb q).2 (owe_o (by omega) (by omega)) (owe_o (by omega) (by omega)) (fun k => owe_o (by omega) (by omega)) (fun k => owe_o (by omega) (by omega)), (yb q).1.trans (zb q).1.symm⟩
  · exact ⟨op8 hJ l g g' (n r).2 l.2.1 (n' r).2 rfl rfl (fun _ => rfl) (fun _ => rfl), (n r).1.trans (n' r).1.symm⟩
end PR8
end
section
/-! 45z.8s.draw -/
/-! live(): one of the living -/
noncomputable def clv (L : PH) : Nat → Int
  | 0 => 0
  | k + 1 => clv L k + cif (¬ bB (L 0 7) k = true) 1 0
def bkS (v : Int) : Nat → Int
  | 0 => 0
  | k + 1 => bkS v k + bt v k
theorem bk8 (v : Int) : bkS v 8 = bnS v := by
  show 0 + bt v 0 + bt v 1 + bt v 2 + bt v 3 + bt v 4 + bt v 5 + bt v 6 + bt v 7 = _
  unfold bnS
  omega
theorem bk_z {v n : Int} (h : SB v n) (h0 : 0 ≤ n) : ∀ j : Nat, n.toNat + j ≤ 8 → bkS v (n.toNat + j) = bkS v n.toNat
  | 0, _ => rfl
  | j + 1, hj => by
    show bkS v (n.toNat + j) + bt v (n.toNat + j) = _
    rw [bk_z h h0 j (by omega), h.2.2 _ (by omega) (by omega)]
    omega
theorem clv_bk {L : PH} : ∀ k : Nat, k ≤ 8 → clv L k = (k : Int) - bkS (L 0 7) k
  | 0, _ => rfl
  | k + 1, h => by
    show clv L k + cif (¬ bB (L 0 7) k = true) 1 0 = _ - (bkS (L 0 7) k + bt (L 0 7) k)
    rw [clv_bk k (by omega), bt_e (by omega)]
    by_cases c : bB (L 0 7) k = true
    · rw [cif_n (fun z => z c), if_pos c]; omega
    · rw [cif_p c, if_neg c]; omega
theorem clv_n {L : PH} (w : W10 L) : clv L (L 0 4).toNat = L 0 4 - bnS (L 0 7) := by
  have h8 := w.1.1.2.1
  have s := w.1.1.s.2.1
  have z := bk_z s h8.1 (8 - (L 0 4).toNat) (by omega)
  rw [show (L 0 4).toNat + (8 - (L 0 4).toNat) = 8 by omega, bk8] at z
  rw [clv_bk _ (by omega), ← z]
  omega
theorem clv_b {L : PH} : ∀ k : Nat, 0 ≤ clv L k ∧ clv L k ≤ k
  | 0 => ⟨Int.le_refl 0, Int.le_refl 0⟩
  | k + 1 => by
    have i := clv_b (L := L) k
    show 0 ≤ clv L k + cif _ 1 0 ∧ clv L k + cif _ 1 0 ≤ _
    by_cases c : bB (L 0 7) k = true
    · rw [cif_n (fun z => z c)]; omega
    · rw [cif_p c]; omega
/-- the numbers drawn -/
def dwN (x : Int) : Int := zrem (w32 (w32 (x * 2969) + 11171)) 65536
def dwI (x n : Int) : Int := zrem (zdiv (dwN x) 8) n
theorem t32 {a : Int} (h1 : -2147483648 ≤ a) (h2 : a ≤ 2147483647) : (Int32.ofInt a).toInt = a := by
  exact Int32.toInt_ofInt_of_le h1 (by omega)
theorem zdiv_e {a b : Int} (h0 : 0 ≤ a) (h1 : a ≤ 2147483647) (b0 : 0 < b) (b1 : b ≤ 2147483647) : zdiv a b = a / b := by
  unfold zdiv
  rw [Int32.toInt_div, t32 (by omega) h1, t32 (by omega) b1]
  have : a.tdiv b = a / b := Int.tdiv_eq_ediv_of_nonneg h0
  rw [this]
  have x1 := Int.ediv_nonneg h0 (by omega : (0:Int) ≤ b)
  have x2 := Int.ediv_le_self b h0
  rw [Int.bmod_eq_of_le (by omega) (by omega)]
theorem zrem_e {a b : Int} (h0 : 0 ≤ a) (h1 : a ≤ 2147483647) (b0 : 0 < b) (b1 : b ≤ 2147483647) : zrem a b = a % b := by
  have d := zdiv_e h0 h1 b0 b1
  unfold zdiv at d
  unfold zrem
  rw [Int32.toInt_sub, Int32.toInt_mul, d, t32 (by omega) h1, t32 (by omega) b1]
  have m1 : a / b * b ≤ a := Int.ediv_mul_le a (by omega)
  have x1 := Int.ediv_nonneg h0 (by omega : (0:Int) ≤ b)
  have m0 : 0 ≤ a / b * b := Int.mul_nonneg x1 (by omega)
  have x := Int.emod_def a b
  rw [Int.mul_comm b (a / b)] at x
  rw [Int.bmod_eq_of_le (n := a / b * b) (by omega) (by omega), Int.bmod_eq_of_le (by omega) (by omega), x]
theorem dwN_b {x : Int} (h0 : 0 ≤ x) (h1 : x ≤ 65535) : 0 ≤ dwN x ∧ dwN x ≤ 65535 := by
  unfold dwN
  rw [w32_id (z := x * 2969) (by omega) (by omega), w32_id (by omega) (by omega), zrem_e (by omega) (by omega) (by omega) (by omega)]
  omega
theorem dwI_b {x n : Int} (h0 : 0 ≤ x) (h1 : x ≤ 65535) (n0 : 1 ≤ n) (n1 : n ≤ 8) : 0 ≤ dwI x n ∧ dwI x n < n := by
  have d := dwN_b h0 h1
  unfold dwI
  rw [zdiv_e d.1 (by omega) (by omega) (by omega), zrem_e (by omega) (by omega) (by omega) (by omega)]
  exact ⟨Int.emod_nonneg _ (by omega), Int.emod_lt_of_pos _ (by omega)⟩
set_option maxRecDepth 10000 in
theorem v_X3_drawLiving5 {sl : Nat} {si : Nat → Int} {K : Nat → PH → ZL → List ZV → Prop} {Q : PH → List ZV → Prop} {h : PH}  (H : R32 (h 5 4) → R32 (h 5 7) → ∀ h1 v1, CP (zz sl si (7, 0)) mJ6_bitCount_0f7a4 h [(0, (h 5 7))] h1 [(0, v1)] → R32 v1 → ((1 : Int) ≤ (w32 ((h 5 4) - v1)) → R32 (h1 89 7) → (65536 : Int) ≠ 0 → R32 (zrem (w32 ((w32 ((h1 89 7) * 2969)) + 11171)) 65536) → (8 : Int) ≠ 0 → (w32 ((h 5 4) - v1)) ≠ 0 → K 52 (uph h1 89 7 (zrem (w32 ((w32 ((h1 89 7) * 2969)) + 11171)) 65536)) [(4, (0, 0)), (3, (0, zrem (zdiv (zrem (w32 ((w32 ((h1 89 7) * 2969)) + 11171)) 65536) 8) (w32 ((h 5 4) - v1)))), (2, (0, w32 ((h 5 4) - v1))), (0, (2, 89)), (1, (2, 5))] []) ∧ (¬ ((1 : Int) ≤ (w32 ((h 5 4) - v1))) → Q h1 [(0, (-1))])) : vc (zz sl si (7, 0)) (fun p => Nat.beq p 52) K Q mX3_drawLiving 31 0 mX3_drawLiving.2.2.2.2.2.2 h [(0, (2, 89)), (1, (2, 5))] [] := H
set_option maxRecDepth 10000 in
theorem v_X3_drawLiving5_52 {sl : Nat} {si : Nat → Int} {K : Nat → PH → ZL → List ZV → Prop} {Q : PH → List ZV → Prop} {h : PH}  {l x k : Int} (H : R32 (h 5 4) → ((h 5 4) ≤ k → Q h [(0, (-1))]) ∧ (¬ ((h 5 4) ≤ k) → ∀ h1 v1, CP (zz sl si (7, 0)) mX1_isDead h [(2, 5), (0, k)] h1 [(0, v1)] → v1 = 0 ∨ v1 = 1 → (v1 ≠ 0 → K 52 h1 [(4, (0, w32 (k + 1))), (0, (2, 89)), (1, (2, 5)), (2, (0, l)), (3, (0, x))] []) ∧ (¬ (v1 ≠ 0) → (x ≠ 0 → K 52 h1 [(4, (0, w32 (k + 1))), (3, (0, w32 (x + (-1)))), (0, (2, 89)), (1, (2, 5)), (2, (0, l))] []) ∧ (¬ (x ≠ 0) → Q h1 [(0, k)])))) : vc (zz sl si (7, 0)) (fun p => Nat.beq p 52) K Q mX3_drawLiving 15 52 (ax_jmp mX3_drawLiving.2.2.2.2.2.2 52) h [(0, (2, 89)), (1, (2, 5)), (2, (0, l)), (3, (0, x)), (4, (0, k))] [] := H
set_option maxHeartbeats 600000 in
theorem c_X3_drawLiving5 {sl : Nat} {si : Nat → Int} {h h' : PH} {L : PH} {v : Int} (hL : CL 5 h L) (hw : W10 L) (hx0 : 0 ≤ h 89 7 ∧ h 89 7 ≤ 65535) (hc : CP (zz sl si (7, 0)) mX3_drawLiving h [(2, 89), (2, 5)] h' [(0, v)]) : (clv L (L 0 4).toNat < 1 → v = -1 ∧ h' = h) ∧ (1 ≤ clv L (L 0 4).toNat → ∃ p : Nat, (p : Int) < L 0 4 ∧ ¬ bB (L 0 7) p = true ∧ clv L p = dwI (h 89 7) (clv L (L 0 4).toNat) ∧ v = p ∧ h' = uph h 89 7 (dwN (h 89 7))) := by
  have q : (fun (xh : PH) (r : List ZV) => ∀ v : Int, r = [(0, v)] → ((clv L (L 0 4).toNat < 1 → v = -1 ∧ xh = h) ∧ (1 ≤ clv L (L 0 4).toNat → ∃ p : Nat, (p : Int) < L 0 4 ∧ ¬ bB (L 0 7) p = true ∧ clv L p = dwI (h 89 7) (clv L (L 0 4).toNat) ∧ v = p ∧ xh = uph h 89 7 (dwN (h 89 7))))) h' [(0, v)] := by
    refine cp_vc (cut := (fun p => Nat.beq p 52)) (K := fun p hx lv st => (p = 52 ∧ lK (fun u : Nat => [(0, (2, 89)), (1, (2, 5)), (2, (0, clv L (L 0 4).toNat)), (3, (0, dwI (h 89 7) (clv L (L 0 4).toNat) - clv L u)), (4, (0, (u : Int)))]) (fun u hx => (u : Int) ≤ L 0 4 ∧ 1 ≤ clv L (L 0 4).toNat ∧ clv L u ≤ dwI (h 89 7) (clv L (L 0 4).toNat) ∧ hx = uph h 89 7 (dwN (h 89 7))) p hx lv st)) (Q := fun (xh : PH) (r : List ZV) => ∀ v : Int, r = [(0, v)] → ((clv L (L 0 4).toNat < 1 → v = -1 ∧ xh = h) ∧ (1 ≤ clv L (L 0 4).toNat → ∃ p : Nat, (p : Int) < L 0 4 ∧ ¬ bB (L 0 7) p = true ∧ clv L p = dwI (h 89 7) (clv L (L 0 4).toNat) ∧ v = p ∧ xh = uph h 89 7 (dwN (h 89 7))))) (v_X3_drawLiving5 ?_) (fun pc hx lv st hcut hK => ?_) hc
    · exact (fun r1 => (fun r2 => (fun h1 v1 p1 q1 => ⟨fun c3 => (fun r4 => (fun d5 => (fun r6 => (fun d7 => (fun d8 => (by have k4 : h 5 4 = L 0 4 := hL 0 4 (Or.inl ⟨rfl, Or.inl rfl⟩); have k7 : h 5 7 = L 0 7 := hL 0 7 (Or.inl ⟨rfl, Or.inr (Or.inl rfl)⟩); have s7 := hw.1.1.s.2.1; rw [k7] at p1; obtain ⟨t1, w1⟩ := c_J6_bitCountS s7.1 s7.2.1 p1; have t1 := t1.symm; subst t1; have cn := clv_n hw; have cb := clv_b (L := L) (L 0 4).toNat; have h8 := hw.1.1.2.1; have wl : w32 (h 5 4 - v1) = clv L (L 0 4).toNat := (by rw [k4, w1, cn, w32_id (by omega) (by omega)]); rw [wl] at c3 ⊢; have db := dwI_b hx0.1 hx0.2 c3 (by omega); exact ⟨rfl, rfl, 0, ⟨by omega, c3, by show (0 : Int) ≤ _; exact db.1, rfl⟩, rfl, rfl, rfl, (by show some ((0, dwI (h 89 7) (clv L (L 0 4).toNat)) : ZV) = some (0, dwI (h 89 7) (clv L (L 0 4).toNat) - 0); rw [Int.sub_zero]), rfl, trivial⟩)))))), fun c3 => (by have k4 : h 5 4 = L 0 4 := hL 0 4 (Or.inl ⟨rfl, Or.inl rfl⟩); have k7 : h 5 7 = L 0 7 := hL 0 7 (Or.inl ⟨rfl, Or.inr (Or.inl rfl)⟩); have s7 := hw.1.1.s.2.1; rw [k7] at p1; obtain ⟨t1, w1⟩ := c_J6_bitCountS s7.1 s7.2.1 p1; have t1 := t1.symm; subst t1; have cn := clv_n hw; have cb := clv_b (L := L) (L 0 4).toNat; have h8 := hw.1.1.2.1; have wl : w32 (h 5 4 - v1) = clv L (L 0 4).toNat := (by rw [k4, w1, cn, w32_id (by omega) (by omega)]); rw [wl] at c3; intro v e; cases e; exact ⟨fun _ => ⟨rfl, rfl⟩, fun z => absurd z c3⟩)⟩)))
    · rcases hK with ⟨rfl, rfl, u, hJ, hs⟩
      · obtain ⟨j1, j2, j3, j4⟩ := hJ
        have h8 := hw.1.1.2.1
        have cb := clv_b (L := L) (L 0 4).toNat
        have db := dwI_b hx0.1 hx0.2 j2 (by omega)
        have hL2 : CL 5 hx L := hL.fr (fun c k q1 q2 => by rw [j4, up_ne (by omega)])
        have k4 : hx 5 4 = L 0 4 := hL2 0 4 (Or.inl ⟨rfl, Or.inl rfl⟩)
        have cu := clv_b (L := L) u
        exact ⟨_, _, hs, v_X3_drawLiving5_52 (fun r1 => ⟨fun c2 => (by rw [k4] at c2; have eu : (L 0 4).toNat = u := (by omega); rw [eu] at j2 db j3; exfalso; omega), fun c2 => (fun h1 v1 p1 q1 => ⟨fun c3 => (by rw [k4] at c2; obtain ⟨t1, w1⟩ := c_X1_isDead5 hL2 (by omega) p1; have t1 := t1.symm; subst t1; rw [Int.toNat_natCast] at w1; have st : clv L (u + 1) = clv L u := (by show clv L u + cif _ 1 0 = _; rw [cif_n (fun z => z (w1.mp (by omega)))]; omega); exact ⟨rfl, rfl, u + 1, ⟨by omega, j2, by rw [st]; exact j3, j4⟩, rfl, rfl, rfl, (by rw [st]; rfl), wv (by omega) (by omega) (by omega), trivial⟩), fun c3 => ⟨fun c4 => (by rw [k4] at c2; obtain ⟨t1, w1⟩ := c_X1_isDead5 hL2 (by omega) p1; have t1 := t1.symm; subst t1; rw [Int.toNat_natCast] at w1; have st : clv L (u + 1) = clv L u + 1 := (by show clv L u + cif _ 1 0 = _; rw [cif_p (fun z => by have := w1.mpr z; omega)]); exact ⟨rfl, rfl, u + 1, ⟨by omega, j2, by rw [st]; omega, j4⟩, rfl, rfl, rfl, (by rw [st]; exact wv (by omega) (by omega) (by omega)), wv (by omega) (by omega) (by omega), trivial⟩), fun c4 => (by rw [k4] at c2; obtain ⟨t1, w1⟩ := c_X1_isDead5 hL2 (by omega) p1; have t1 := t1.symm; subst t1; rw [Int.toNat_natCast] at w1; intro v e; cases e; exact ⟨fun z => absurd j2 (by omega), fun _ => ⟨u, by omega, fun z => (by have := w1.mpr z; omega), by omega, rfl, j4⟩⟩)⟩⟩)⟩)⟩
  exact q v rfl
end
section
/-! 45z.8t.drawr -/
/-! live(): one of the living, in the reference -/
noncomputable def liS (L : PH) : Nat → Int
  | 0 => 0
  | k + 1 => cif (¬ bB (L 0 7) k = true) (zor (liS L k) (zshl 1 (k : Int))) (liS L k)
theorem li_b {L : PH} : ∀ k : Nat, k ≤ 8 → SB (liS L k) (k : Int) ∧ (∀ x : Nat, x < 8 → (bB (liS L k) x = true ↔ x < k ∧ ¬ bB (L 0 7) x = true)) ∧ bnS (liS L k) = clv L k
  | 0, _ => ⟨SB.z _, fun x hx => by
      show bB 0 x = true ↔ _
      rw [bB_0 (by omega)]
      exact ⟨fun q => Bool.noConfusion q, fun q => absurd q.1 (by omega)⟩, by show bnS 0 = 0; decide⟩
  | k + 1, h => by
    obtain ⟨i1, i2, i3⟩ := li_b (L := L) k (by omega)
    by_cases c : bB (L 0 7) k = true
    · have e : liS L (k + 1) = liS L k := cif_n (fun z => z c)
      have ec : clv L (k + 1) = clv L k := by
        show clv L k + cif _ 1 0 = _
        rw [cif_n (fun z => z c)]; omega
      rw [e, ec]
      refine ⟨i1.mo (by omega), fun x hx => ?_, i3⟩
      rw [i2 x hx]
      constructor
      · rintro ⟨q1, q2⟩; exact ⟨by omega, q2⟩
      · rintro ⟨q1, q2⟩
        by_cases z : x = k
        · subst z; exact absurd c q2
        · exact ⟨by omega, q2⟩
    · have e : liS L (k + 1) = zor (liS L k) (zshl 1 (k : Int)) := cif_p c
      have ec : clv L (k + 1) = clv L k + 1 := by
        show clv L k + cif _ 1 0 = _
        rw [cif_p c]
      have nb : ¬ bB (liS L k) ((k : Int)).toNat = true := fun q => by
        rw [Int.toNat_natCast, i2 k (by omega)] at q
        omega
      obtain ⟨b1, b2, b3⟩ := bn_or i1.1 i1.2.1 (by omega) (by omega) nb
      have sa := (i1.add (by omega) (by omega)).1
      rw [e, ec]
      refine ⟨sa, fun x hx => ?_, by rw [b3, i3]⟩
      rw [b2 x hx, i2 x hx, Int.toNat_natCast]
      constructor
      · rintro (⟨q1, q2⟩ | q)
        · exact ⟨by omega, q2⟩
        · subst q; exact ⟨by omega, c⟩
      · rintro ⟨q1, q2⟩
        by_cases z : x = k
        · exact Or.inr z
        · exact Or.inl ⟨by omega, q2⟩
/-- the least of a set taken away -/
theorem lo_d : ∀ s : Fin 256, (s.val ≠ 0 → bnS (zand (s.val : Int) ((s.val : Int) - 1)) = bnS (s.val : Int) - 1 ∧ 0 ≤ zand (s.val : Int) ((s.val : Int) - 1) ∧ zand (s.val : Int) ((s.val : Int) - 1) < 256) := by decide +kernel
theorem lo_e : ∀ s : Fin 256, ∀ y : Fin 8, (bB (zand (s.val : Int) ((s.val : Int) - 1)) y.val = true ↔ bB (s.val : Int) y.val = true ∧ ∃ x : Fin 8, x.val < y.val ∧ bB (s.val : Int) x.val = true) := by decide +kernel
theorem lo_b {s : Int} (h0 : 0 ≤ s) (h1 : s < 256) (hs : s ≠ 0) : bnS (zand s (s - 1)) = bnS s - 1 ∧ 0 ≤ zand s (s - 1) ∧ zand s (s - 1) < 256 := by
  have z := lo_d ⟨s.toNat, by omega⟩
  dsimp only at z
  rw [Int.toNat_of_nonneg h0] at z
  exact z (by omega)
theorem lo_y {s : Int} (h0 : 0 ≤ s) (h1 : s < 256) {y : Nat} (hy : y < 8) : bB (zand s (s - 1)) y = true ↔ bB s y = true ∧ ∃ x : Nat, x < y ∧ bB s x = true := by
  have z := lo_e ⟨s.toNat, by omega⟩ ⟨y, hy⟩
  dsimp only at z
  rw [Int.toNat_of_nonneg h0] at z
  rw [z]
  exact ⟨fun ⟨q1, x, q2, q3⟩ => ⟨q1, x.val, q2, q3⟩, fun ⟨q1, x, q2, q3⟩ => ⟨q1, ⟨x, by omega⟩, q2, q3⟩⟩
theorem bn_0 : ∀ s : Fin 256, bnS (s.val : Int) = 0 → s.val = 0 := by decide +kernel
/-- one of the living for each number -/
theorem clv_i {L : PH} {j : Int} (hj : 0 ≤ j) : ∀ y : Nat, j < clv L y → ∃ x : Nat, x < y ∧ ¬ bB (L 0 7) x = true ∧ clv L x = j
  | 0, h => absurd h (by show ¬ j < 0; omega)
  | y + 1, h => by
    by_cases c : j < clv L y
    · obtain ⟨x, x1, x2⟩ := clv_i hj y c
      exact ⟨x, by omega, x2⟩
    · have h : j < clv L y + cif (¬ bB (L 0 7) y = true) 1 0 := h
      by_cases d : bB (L 0 7) y = true
      · rw [cif_n (fun z => z d)] at h; omega
      · rw [cif_p d] at h
        exact ⟨y, by omega, d, by omega⟩
theorem clv_mo {L : PH} {x : Nat} : ∀ k : Nat, clv L x ≤ clv L (x + k)
  | 0 => Int.le_refl _
  | k + 1 => by
    have i := clv_mo (L := L) (x := x) k
    show _ ≤ clv L (x + k) + cif (¬ bB (L 0 7) (x + k) = true) 1 0
    by_cases c : bB (L 0 7) (x + k) = true
    · rw [cif_n (fun z => z c)]; omega
    · rw [cif_p c]; omega
theorem clv_lt {L : PH} {x y : Nat} (hx : ¬ bB (L 0 7) x = true) (h : x < y) : clv L x + 1 ≤ clv L y := by
  have m := clv_mo (L := L) (x := x + 1) (y - (x + 1))
  rw [show x + 1 + (y - (x + 1)) = y by omega] at m
  have e : clv L (x + 1) = clv L x + 1 := by
    show clv L x + cif _ 1 0 = _
    rw [cif_p hx]
  omega
/-- those that are left when j are taken away -/
def lfS (L : PH) (s : Int) (j : Int) : Prop := (0 ≤ s ∧ s < 256) ∧ ∀ x : Nat, x < 8 → (bB s x = true ↔ (x : Int) < L 0 4 ∧ ¬ bB (L 0 7) x = true ∧ j ≤ clv L x)
theorem lfS.st {L : PH} {s j : Int} (l : lfS L s j) (hj : 0 ≤ j) (hs : s ≠ 0) : lfS L (zand s (s - 1)) (j + 1) := by
  obtain ⟨⟨s0, s1⟩, l⟩ := l
  obtain ⟨-, b0, b1⟩ := lo_b s0 s1 hs
  refine ⟨⟨b0, b1⟩, fun y hy => ?_⟩
  rw [lo_y s0 s1 hy, l y hy]
  constructor
  · rintro ⟨⟨q1, q2, q3⟩, x, x1, x2⟩
    have z := (l x (by omega)).mp x2
    have := clv_lt z.2.1 x1
    exact ⟨q1, q2, by omega⟩
  · rintro ⟨q1, q2, q3⟩
    obtain ⟨x, x1, x2, x3⟩ := clv_i (L := L) hj y (by omega)
    exact ⟨⟨q1, q2, by omega⟩, x, x1, (l x (by omega)).mpr ⟨by omega, x2, by omega⟩⟩
theorem lfS.p {L : PH} {s j : Int} (l : lfS L s j) (hj : 0 ≤ j) {p : Nat} (hp : p < 8) (h1 : bB s p = true) (h2 : ∀ x, x < p → ¬ bB s x = true) : (p : Int) < L 0 4 ∧ ¬ bB (L 0 7) p = true ∧ clv L p = j := by
  have z := (l.2 p hp).mp h1
  refine ⟨z.1, z.2.1, ?_⟩
  by_cases c : clv L p = j
  · exact c
  · obtain ⟨x, x1, x2, x3⟩ := clv_i (L := L) hj p (by omega)
    exact absurd ((l.2 x (by omega)).mpr ⟨by omega, x2, by omega⟩) (h2 x x1)
theorem clv_u {L : PH} {p q : Nat} (hp : ¬ bB (L 0 7) p = true) (hq : ¬ bB (L 0 7) q = true) (e : clv L p = clv L q) : p = q := by
  by_cases c : p < q
  · have := clv_lt hp c; omega
  · by_cases d : q < p
    · have := clv_lt hq d; omega
    · omega
set_option maxRecDepth 10000 in
theorem v_X12_drawL {sl : Nat} {si : Nat → Int} {K : Nat → PH → ZL → List ZV → Prop} {Q : PH → List ZV → Prop} {h : PH} {a : Int} (H : R32 (h 169 27) → (65536 : Int) ≠ 0 → R32 (zrem (w32 ((w32 ((h 169 27) * 2969)) + 11171)) 65536) → (8 : Int) ≠ 0 → a ≠ 0 → Q (uph h 169 27 (zrem (w32 ((w32 ((h 169 27) * 2969)) + 11171)) 65536)) [(0, zrem (zdiv (zrem (w32 ((w32 ((h 169 27) * 2969)) + 11171)) 65536) 8) a)]) : vc (zz sl si (7, 0)) (fun _ => false) K Q mX12_draw 19 0 mX12_draw.2.2.2.2.2.2 h [(0, (2, 169)), (1, (0, a))] [] := H
set_option maxHeartbeats 600000 in
theorem c_X12_drawL {sl : Nat} {si : Nat → Int} {h h' : PH} {a : Int} {v : Int} (hc : CP (zz sl si (7, 0)) mX12_draw h [(2, 169), (0, a)] h' [(0, v)]) : h' = uph h 169 27 (dwN (h 169 27)) ∧ v = dwI (h 169 27) a := by
  have q : (fun (xh : PH) (r : List ZV) => ∀ v : Int, r = [(0, v)] → (xh = uph h 169 27 (dwN (h 169 27)) ∧ v = dwI (h 169 27) a)) h' [(0, v)] := by
    refine cp_vc (cut := (fun _ => false)) (K := fun p hx lv st => False) (Q := fun (xh : PH) (r : List ZV) => ∀ v : Int, r = [(0, v)] → (xh = uph h 169 27 (dwN (h 169 27)) ∧ v = dwI (h 169 27) a)) (v_X12_drawL ?_) (fun pc hx lv st hcut hK => ?_) hc
    · exact (fun r1 => (fun d2 => (fun r3 => (fun d4 => (fun d5 => (by intro v e; cases e; exact ⟨rfl, rfl⟩))))))
    · exact hK.elim
  exact q v rfl
set_option maxRecDepth 10000 in
theorem v_X12_setOf3 {sl : Nat} {si : Nat → Int} {K : Nat → PH → ZL → List ZV → Prop} {Q : PH → List ZV → Prop} {h : PH}  (H : K 4 h [(3, (0, 0)), (2, (0, 0)), (0, (2, 169)), (1, (0, 3))] []) : vc (zz sl si (7, 0)) (fun p => Nat.beq p 4) K Q mX12_setOf 6 0 mX12_setOf.2.2.2.2.2.2 h [(0, (2, 169)), (1, (0, 3))] [] := H
set_option maxRecDepth 10000 in
theorem v_X12_setOf3_4 {sl : Nat} {si : Nat → Int} {K : Nat → PH → ZL → List ZV → Prop} {Q : PH → List ZV → Prop} {h : PH}  {s k : Int} (H : 0 ≤ (1 : Int) ∧ (1 : Int) < (3696 : Nat) → R32 (h 170 1) → ((h 170 1) ≤ k → Q h [(0, s)]) ∧ (¬ ((h 170 1) ≤ k) → ((3 : Int) ≠ 0 → ((3 : Int) ≠ 1 → ((3 : Int) ≠ 2 → ∀ h1 v1, CP (zz sl si (7, 0)) mX12_isDead h [(2, 169), (0, k)] h1 [(0, v1)] → v1 = 0 ∨ v1 = 1 → (v1 ≠ 0 → K 4 h1 [(3, (0, w32 (k + 1))), (2, (0, zor s 0)), (0, (2, 169)), (1, (0, 3))] []) ∧ (¬ (v1 ≠ 0) → K 4 h1 [(3, (0, w32 (k + 1))), (2, (0, zor s (zshl 1 k))), (0, (2, 169)), (1, (0, 3))] [])) ∧ (¬ ((3 : Int) ≠ 2) → ∀ h2 v2, CP (zz sl si (7, 0)) mX12_personRow h [(0, k)] h2 [(0, v2)] → R32 v2 → 0 ≤ w32 (v2 + 4) ∧ w32 (v2 + 4) < (3696 : Nat) → R32 (h2 170 (w32 (v2 + 4)).toNat) → ((h2 170 (w32 (v2 + 4)).toNat) ≠ 1 → K 4 h2 [(3, (0, w32 (k + 1))), (2, (0, zor s 0)), (0, (2, 169)), (1, (0, 3))] []) ∧ (¬ ((h2 170 (w32 (v2 + 4)).toNat) ≠ 1) → K 4 h2 [(3, (0, w32 (k + 1))), (2, (0, zor s (zshl 1 k))), (0, (2, 169)), (1, (0, 3))] []))) ∧ (¬ ((3 : Int) ≠ 1) → ∀ h3 v3, CP (zz sl si (7, 0)) mX12_isGhost h [(2, 169), (0, k)] h3 [(0, v3)] → v3 = 0 ∨ v3 = 1 → (v3 = 0 → K 4 h3 [(3, (0, w32 (k + 1))), (2, (0, zor s 0)), (0, (2, 169)), (1, (0, 3))] []) ∧ (¬ (v3 = 0) → K 4 h3 [(3, (0, w32 (k + 1))), (2, (0, zor s (zshl 1 k))), (0, (2, 169)), (1, (0, 3))] []))) ∧ (¬ ((3 : Int) ≠ 0) → ∀ h4 v4, CP (zz sl si (7, 0)) mX12_isDead h [(2, 169), (0, k)] h4 [(0, v4)] → v4 = 0 ∨ v4 = 1 → (v4 = 0 → K 4 h4 [(3, (0, w32 (k + 1))), (2, (0, zor s 0)), (0, (2, 169)), (1, (0, 3))] []) ∧ (¬ (v4 = 0) → K 4 h4 [(3, (0, w32 (k + 1))), (2, (0, zor s (zshl 1 k))), (0, (2, 169)), (1, (0, 3))] [])))) : vc (zz sl si (7, 0)) (fun p => Nat.beq p 4) K Q mX12_setOf 35 4 (ax_jmp mX12_setOf.2.2.2.2.2.2 4) h [(0, (2, 169)), (1, (0, 3)), (2, (0, s)), (3, (0, k))] [] := H
set_option maxHeartbeats 600000 in
theorem c_X12_setOf3 {sl : Nat} {si : Nat → Int} {h h' : PH} {L : PH} {v : Int} (r : RN9 h L) (hw : W10 L) (hc : CP (zz sl si (7, 0)) mX12_setOf h [(2, 169), (0, 3)] h' [(0, v)]) : h' = h ∧ v = liS L (L 0 4).toNat := by
  have q : (fun (xh : PH) (r : List ZV) => ∀ v : Int, r = [(0, v)] → (xh = h ∧ v = liS L (L 0 4).toNat)) h' [(0, v)] := by
    refine cp_vc (cut := (fun p => Nat.beq p 4)) (K := fun p hx lv st => (p = 4 ∧ lK (fun u : Nat => [(0, (2, 169)), (1, (0, 3)), (2, (0, liS L u)), (3, (0, (u : Int)))]) (fun u hx => (u : Int) ≤ L 0 4 ∧ hx = h) p hx lv st)) (Q := fun (xh : PH) (r : List ZV) => ∀ v : Int, r = [(0, v)] → (xh = h ∧ v = liS L (L 0 4).toNat)) (v_X12_setOf3 ?_) (fun pc hx lv st hcut hK => ?_) hc
    · exact (by have h8 := hw.1.1.2.1; exact ⟨rfl, rfl, 0, ⟨by omega, rfl⟩, rfl, rfl, rfl, rfl, trivial⟩)
    · rcases hK with ⟨rfl, rfl, u, hJ, hs⟩
      · obtain ⟨j1, j2⟩ := hJ
        subst j2
        have h8 := hw.1.1.2.1
        have n1 : hx 170 1 = L 0 4 := r.1.2.1
        exact ⟨_, _, hs, v_X12_setOf3_4 (fun b1 r2 => ⟨fun c3 => (by rw [n1] at c3; intro v e; cases e; have eu : (L 0 4).toNat = u := (by omega); rw [eu]; exact ⟨rfl, rfl⟩), fun c3 => ⟨fun c4 => ⟨fun c5 => ⟨fun c6 => (fun h1 v1 p1 q1 => by obtain ⟨t1, e1⟩ := c_X12_isDead p1; have t1 := t1.symm; subst t1; exact ⟨fun c7 => (by rw [n1] at c3; have dd := e1 (by omega) (by omega); rw [Int.toNat_natCast, (r.2.2.1 u (by omega)).2.1, bt_B (by omega)] at dd; obtain ⟨z1, z2, z3⟩ := li_b (L := L) u (by omega); have no : liS L (u + 1) = liS L u := cif_n (fun z => z (dd.mp (by omega))); exact ⟨rfl, rfl, u + 1, ⟨by omega, rfl⟩, rfl, rfl, (by rw [no, z1.or0]; rfl), wv (by omega) (by omega) (by omega), trivial⟩), fun c7 => (by rw [n1] at c3; have dd := e1 (by omega) (by omega); rw [Int.toNat_natCast, (r.2.2.1 u (by omega)).2.1, bt_B (by omega)] at dd; obtain ⟨z1, z2, z3⟩ := li_b (L := L) u (by omega); have ye : liS L (u + 1) = zor (liS L u) (zshl 1 (u : Int)) := cif_p (fun z => by have := dd.mpr z; omega); exact ⟨rfl, rfl, u + 1, ⟨by omega, rfl⟩, rfl, rfl, (by rw [ye]; rfl), wv (by omega) (by omega) (by omega), trivial⟩)⟩), fun c6 => (fun h2 v2 p2 q2 => (fun b8 r9 => ⟨fun c10 => (by omega), fun c10 => (by omega)⟩))⟩, fun c5 => (fun h3 v3 p3 q3 => ⟨fun c11 => (by omega), fun c11 => (by omega)⟩)⟩, fun c4 => (fun h4 v4 p4 q4 => by obtain ⟨t4, e4⟩ := c_X12_isDead p4; have t4 := t4.symm; subst t4; exact ⟨fun c12 => (by omega), fun c12 => (by omega)⟩)⟩⟩)⟩
  exact q v rfl
theorem bn_rd : ∀ s : Fin 256, 0 ≤ bnS (s.val : Int) ∧ bnS (s.val : Int) ≤ 8 := by decide +kernel
theorem bn_r {s : Int} (h0 : 0 ≤ s) (h1 : s < 256) : 0 ≤ bnS s ∧ bnS s ≤ 8 := by
  have z := bn_rd ⟨s.toNat, by omega⟩
  dsimp only at z
  rw [Int.toNat_of_nonneg h0] at z
  exact z
theorem bn_z : bnS 0 = 0 := by decide +kernel
set_option maxRecDepth 10000 in
theorem v_X12_bitsL {sl : Nat} {si : Nat → Int} {K : Nat → PH → ZL → List ZV → Prop} {Q : PH → List ZV → Prop} {h : PH} {a : Int} (H : K 4 h [(2, (0, a)), (1, (0, 0)), (0, (0, a))] []) : vc (zz sl si (7, 0)) (fun p => Nat.beq p 4) K Q mX12_bits 6 0 mX12_bits.2.2.2.2.2.2 h [(0, (0, a))] [] := H
set_option maxRecDepth 10000 in
theorem v_X12_bitsL_4 {sl : Nat} {si : Nat → Int} {K : Nat → PH → ZL → List ZV → Prop} {Q : PH → List ZV → Prop} {h : PH} {a : Int} {n k : Int} (H : (k = 0 → Q h [(0, n)]) ∧ (¬ (k = 0) → K 4 h [(2, (0, zand k (w32 (k - 1)))), (1, (0, w32 (n + 1))), (0, (0, a))] [])) : vc (zz sl si (7, 0)) (fun p => Nat.beq p 4) K Q mX12_bits 12 4 (ax_jmp mX12_bits.2.2.2.2.2.2 4) h [(0, (0, a)), (1, (0, n)), (2, (0, k))] [] := H
set_option maxHeartbeats 600000 in
theorem c_X12_bitsL {sl : Nat} {si : Nat → Int} {h h' : PH} {a : Int} {v : Int} (h0 : 0 ≤ a) (h1 : a < 256) (hc : CP (zz sl si (7, 0)) mX12_bits h [(0, a)] h' [(0, v)]) : h' = h ∧ v = bnS a := by
  have q : (fun (xh : PH) (r : List ZV) => ∀ v : Int, r = [(0, v)] → (xh = h ∧ v = bnS a)) h' [(0, v)] := by
    refine cp_vc (cut := (fun p => Nat.beq p 4)) (K := fun p hx lv st => (p = 4 ∧ lK2 (fun u1 u2 : Int => [(0, (0, a)), (1, (0, u1)), (2, (0, u2))]) (fun u1 u2 hx => (0 ≤ u2 ∧ u2 < 256) ∧ (0 ≤ u1 ∧ u1 + bnS u2 = bnS a) ∧ hx = h) p hx lv st)) (Q := fun (xh : PH) (r : List ZV) => ∀ v : Int, r = [(0, v)] → (xh = h ∧ v = bnS a)) (v_X12_bitsL ?_) (fun pc hx lv st hcut hK => ?_) hc
    · exact (by exact ⟨rfl, rfl, 0, a, ⟨⟨h0, h1⟩, ⟨by omega, by omega⟩, rfl⟩, rfl, rfl, rfl, trivial⟩)
    · rcases hK with ⟨rfl, rfl, u1, u2, hJ, hs⟩
      · obtain ⟨j1, j2, j3⟩ := hJ
        subst j3
        have ba := bn_r h0 h1
        have bk := bn_r j1.1 j1.2
        exact ⟨_, _, hs, v_X12_bitsL_4 ⟨fun c1 => (by intro v e; cases e; rw [c1, bn_z] at j2; exact ⟨rfl, by omega⟩), fun c1 => (by have lb := lo_b j1.1 j1.2 c1; have bk2 := bn_r lb.2.1 lb.2.2; exact ⟨rfl, rfl, u1 + 1, zand u2 (u2 - 1), ⟨lb.2, ⟨by omega, by omega⟩, rfl⟩, rfl, wv (by omega) (by omega) rfl, (by rw [w32_id (z := u2 - 1) (by omega) (by omega)]; rfl), trivial⟩)⟩⟩
  exact q v rfl
end
section
/-! 45z.8u.dies -/
/-! live(): one dies, in the reference -/
theorem Bd_e {g g' : PH} (e : g' 170 = g 170) : (BdR g → BdR g') ∧ (BdD g → BdD g') ∧ (BdH g → BdH g') := by
  unfold BdR BdD BdH
  rw [e]
  exact ⟨id, id, id⟩
set_option maxRecDepth 10000 in
theorem v_X12_diesByL {sl : Nat} {si : Nat → Int} {K : Nat → PH → ZL → List ZV → Prop} {Q : PH → List ZV → Prop} {h : PH}  {a : Int} (H : ∀ h1 v1, CP (zz sl si (7, 0)) mX12_dies h [(2, 169), (0, a)] h1 [(0, v1)] → v1 = 0 ∨ v1 = 1 → (v1 ≠ 0 → 0 ≤ (3 : Int) ∧ (3 : Int) < (5 : Nat) → R32 (h1 183 3) → 0 ≤ (3 : Int) ∧ (3 : Int) < (5 : Nat) → Q (uph h1 183 3 (w32 ((h1 183 3) + 1))) [(0, 1)]) ∧ (¬ (v1 ≠ 0) → Q h1 [(0, 0)])) : vc (zz sl si (7, 0)) (fun _ => false) K Q mX12_diesBy 16 0 mX12_diesBy.2.2.2.2.2.2 h [(0, (2, 169)), (1, (0, a))] [] := H
set_option maxHeartbeats 600000 in
theorem c_X12_diesByL {sl : Nat} {si : Nat → Int} {h h' : PH} {L : PH} {a : Int} {v : Int} (r : RN9 h L) (hw : W10 L) (hB : BdR h) (hD : BdD h) (hH : BdH h) (ha : 0 ≤ a ∧ a < L 0 4) (hc : CP (zz sl si (7, 0)) mX12_diesBy h [(2, 169), (0, a)] h' [(0, v)]) : (bB (L 0 7) a.toNat = true → v = 0 ∧ h' = h) ∧ (¬ bB (L 0 7) a.toNat = true → v = 1 ∧ h' = uph (diR h a.toNat) 183 3 (w32 (h 183 3 + 1))) := by
  have q : (fun (xh : PH) (r : List ZV) => ∀ v : Int, r = [(0, v)] → ((bB (L 0 7) a.toNat = true → v = 0 ∧ xh = h) ∧ (¬ bB (L 0 7) a.toNat = true → v = 1 ∧ xh = uph (diR h a.toNat) 183 3 (w32 (h 183 3 + 1))))) h' [(0, v)] := by
    refine cp_vc (cut := (fun _ => false)) (K := fun p hx lv st => False) (Q := fun (xh : PH) (r : List ZV) => ∀ v : Int, r = [(0, v)] → ((bB (L 0 7) a.toNat = true → v = 0 ∧ xh = h) ∧ (¬ bB (L 0 7) a.toNat = true → v = 1 ∧ xh = uph (diR h a.toNat) 183 3 (w32 (h 183 3 + 1))))) (v_X12_diesByL ?_) (fun pc hx lv st hcut hK => ?_) hc
    · exact (fun h1 v1 p1 q1 => ⟨fun c1 => (fun b2 r3 => (fun b4 => (by have h8 := hw.1.1.2.1; have n1 : h 170 1 = L 0 4 := r.1.2.1; have dd := c_X12_dies hB hD hH (by omega) p1; rw [(r.2.2.1 a.toNat (by omega)).2.1, bt_B (by omega)] at dd; rcases dd with ⟨d1, d2, d3⟩ | ⟨d1, d2, d3⟩; (exact absurd d2 c1); (have d1 : ¬ bB (L 0 7) a.toNat = true := (fun z => d1 ((bt_B (by omega)).mpr z)); obtain ⟨z1, z2, z3, z4⟩ := diR_b (p := a.toNat) (by omega) (by omega) hB hD hH; rw [d3, z4 183 3 (by omega)]; intro v e; cases e; exact ⟨fun z => absurd z d1, fun _ => ⟨rfl, rfl⟩⟩)))), fun c1 => (by have h8 := hw.1.1.2.1; have dd := c_X12_dies hB hD hH (by omega) p1; rw [(r.2.2.1 a.toNat (by omega)).2.1, bt_B (by omega)] at dd; rcases dd with ⟨d1, d2, d3⟩ | ⟨d1, d2, d3⟩; (rw [d3]; intro v e; cases e; exact ⟨fun _ => ⟨rfl, rfl⟩, fun z => absurd d1 z⟩); (exact absurd (show v1 ≠ 0 by omega) c1))⟩)
    · exact hK.elim
  exact q v rfl
set_option maxRecDepth 10000 in
theorem v_X12_diesAnyL {sl : Nat} {si : Nat → Int} {K : Nat → PH → ZL → List ZV → Prop} {Q : PH → List ZV → Prop} {h : PH}  (H : ∀ h1 v1, CP (zz sl si (7, 0)) mX12_setOf h [(2, 169), (0, 3)] h1 [(0, v1)] → R32 v1 → (v1 ≠ 0 → ∀ h2 v2, CP (zz sl si (7, 0)) mX12_bits h1 [(0, v1)] h2 [(0, v2)] → R32 v2 → ∀ h3 v3, CP (zz sl si (7, 0)) mX12_draw h2 [(2, 169), (0, v2)] h3 [(0, v3)] → R32 v3 → K 21 h3 [(2, (0, v3)), (1, (0, v1)), (0, (2, 169))] []) ∧ (¬ (v1 ≠ 0) → Q h1 [(0, 0)])) : vc (zz sl si (7, 0)) (fun p => Nat.beq p 21 || Nat.beq p 39) K Q mX12_diesAny 13 0 mX12_diesAny.2.2.2.2.2.2 h [(0, (2, 169))] [] := H
set_option maxRecDepth 10000 in
theorem v_X12_diesAnyL_21 {sl : Nat} {si : Nat → Int} {K : Nat → PH → ZL → List ZV → Prop} {Q : PH → List ZV → Prop} {h : PH}  {s k : Int} (H : (k ≤ 0 → K 39 h [(2, (0, 0)), (0, (2, 169)), (1, (0, s))] []) ∧ (¬ (k ≤ 0) → K 21 h [(2, (0, w32 (k + (-1)))), (1, (0, zand s (w32 (s - 1)))), (0, (2, 169))] [])) : vc (zz sl si (7, 0)) (fun p => Nat.beq p 21 || Nat.beq p 39) K Q mX12_diesAny 12 21 (ax_jmp mX12_diesAny.2.2.2.2.2.2 21) h [(0, (2, 169)), (1, (0, s)), (2, (0, k))] [] := H
set_option maxRecDepth 10000 in
theorem v_X12_diesAnyL_39 {sl : Nat} {si : Nat → Int} {K : Nat → PH → ZL → List ZV → Prop} {Q : PH → List ZV → Prop} {h : PH}  {s k : Int} (H : ∀ h1 v1, CP (zz sl si (7, 0)) mX12_isIn h [(2, 169), (0, s), (0, k)] h1 [(0, v1)] → v1 = 0 ∨ v1 = 1 → (v1 ≠ 0 → ∀ h2 v2, CP (zz sl si (7, 0)) mX12_diesBy h1 [(2, 169), (0, k)] h2 [(0, v2)] → v2 = 0 ∨ v2 = 1 → Q h2 [(0, v2)]) ∧ (¬ (v1 ≠ 0) → K 39 h1 [(2, (0, w32 (k + 1))), (0, (2, 169)), (1, (0, s))] [])) : vc (zz sl si (7, 0)) (fun p => Nat.beq p 21 || Nat.beq p 39) K Q mX12_diesAny 11 39 (ax_jmp mX12_diesAny.2.2.2.2.2.2 39) h [(0, (2, 169)), (1, (0, s)), (2, (0, k))] [] := H
set_option maxHeartbeats 600000 in
theorem c_X12_diesAnyL {sl : Nat} {si : Nat → Int} {h h' : PH} {L : PH} {v : Int} (r : RN9 h L) (hw : W10 L) (hB : BdR h) (hD : BdD h) (hH : BdH h) (hx0 : 0 ≤ h 169 27 ∧ h 169 27 ≤ 65535) (hc : CP (zz sl si (7, 0)) mX12_diesAny h [(2, 169)] h' [(0, v)]) : (clv L (L 0 4).toNat < 1 → v = 0 ∧ h' = h) ∧ (1 ≤ clv L (L 0 4).toNat → ∃ p : Nat, (p : Int) < L 0 4 ∧ ¬ bB (L 0 7) p = true ∧ clv L p = dwI (h 169 27) (clv L (L 0 4).toNat) ∧ v = 1 ∧ h' = uph (diR (uph h 169 27 (dwN (h 169 27))) p) 183 3 (w32 (h 183 3 + 1))) := by
  have q : (fun (xh : PH) (r : List ZV) => ∀ v : Int, r = [(0, v)] → ((clv L (L 0 4).toNat < 1 → v = 0 ∧ xh = h) ∧ (1 ≤ clv L (L 0 4).toNat → ∃ p : Nat, (p : Int) < L 0 4 ∧ ¬ bB (L 0 7) p = true ∧ clv L p = dwI (h 169 27) (clv L (L 0 4).toNat) ∧ v = 1 ∧ xh = uph (diR (uph h 169 27 (dwN (h 169 27))) p) 183 3 (w32 (h 183 3 + 1))))) h' [(0, v)] := by
    refine cp_vc (cut := (fun p => Nat.beq p 21 || Nat.beq p 39)) (K := fun p hx lv st => (p = 21 ∧ lK2 (fun u1 u2 : Int => [(0, (2, 169)), (1, (0, u1)), (2, (0, u2))]) (fun u1 u2 hx => lfS L u1 (dwI (h 169 27) (clv L (L 0 4).toNat) - u2) ∧ (0 ≤ u2 ∧ u2 ≤ dwI (h 169 27) (clv L (L 0 4).toNat)) ∧ 1 ≤ clv L (L 0 4).toNat ∧ hx = uph h 169 27 (dwN (h 169 27))) p hx lv st) ∨ (p = 39 ∧ lK2 (fun u1 u2 : Int => [(0, (2, 169)), (1, (0, u1)), (2, (0, u2))]) (fun u1 u2 hx => lfS L u1 (dwI (h 169 27) (clv L (L 0 4).toNat)) ∧ (0 ≤ u2 ∧ u2 ≤ 8) ∧ (∀ x : Nat, (x : Int) < u2 → ¬ bB u1 x = true) ∧ 1 ≤ clv L (L 0 4).toNat ∧ hx = uph h 169 27 (dwN (h 169 27))) p hx lv st)) (Q := fun (xh : PH) (r : List ZV) => ∀ v : Int, r = [(0, v)] → ((clv L (L 0 4).toNat < 1 → v = 0 ∧ xh = h) ∧ (1 ≤ clv L (L 0 4).toNat → ∃ p : Nat, (p : Int) < L 0 4 ∧ ¬ bB (L 0 7) p = true ∧ clv L p = dwI (h 169 27) (clv L (L 0 4).toNat) ∧ v = 1 ∧ xh = uph (diR (uph h 169 27 (dwN (h 169 27))) p) 183 3 (w32 (h 183 3 + 1))))) (v_X12_diesAnyL ?_) (fun pc hx lv st hcut hK => ?_) hc
    · exact (fun h1 v1 p1 q1 => ⟨fun c1 => (fun h2 v2 p2 q2 => (fun h3 v3 p3 q3 => (by have h8 := hw.1.1.2.1; obtain ⟨t1, w1⟩ := c_X12_setOf3 r hw p1; have t1 := t1.symm; subst t1; subst w1; obtain ⟨z1, z2, z3⟩ := li_b (L := L) (L 0 4).toNat (by omega); obtain ⟨t2, w2⟩ := c_X12_bitsL z1.1 z1.2.1 p2; have t2 := t2.symm; subst t2; rw [w2, z3] at p3; obtain ⟨t3, w3⟩ := c_X12_drawL p3; subst t3; subst w3; have cb := clv_b (L := L) (L 0 4).toNat; have c1 : 1 ≤ clv L (L 0 4).toNat := (by have n0 : clv L (L 0 4).toNat ≠ 0 := (fun z => by rw [← z3] at z; have bz := bn_0 ⟨(liS L (L 0 4).toNat).toNat, by have := z1.1; have := z1.2.1; omega⟩; dsimp only at bz; rw [Int.toNat_of_nonneg z1.1] at bz; have := bz z; have s0 := z1.1; omega); omega); have db := dwI_b hx0.1 hx0.2 c1 (by omega); exact Or.inl ⟨rfl, rfl, _, _, ⟨⟨⟨z1.1, z1.2.1⟩, fun x hx => by rw [z2 x hx]; have := clv_b (L := L) x; exact ⟨fun q => ⟨by omega, q.2, by omega⟩, fun q => ⟨by omega, q.2.1⟩⟩⟩, ⟨db.1, Int.le_refl _⟩, c1, rfl⟩, rfl, rfl, rfl, trivial⟩))), fun c1 => (by have h8 := hw.1.1.2.1; obtain ⟨t1, w1⟩ := c_X12_setOf3 r hw p1; have t1 := t1.symm; subst t1; obtain ⟨z1, z2, z3⟩ := li_b (L := L) (L 0 4).toNat (by omega); have c1 := Classical.not_not.mp c1; rw [← w1, c1, bn_z] at z3; intro v e; cases e; exact ⟨fun _ => ⟨rfl, rfl⟩, fun z => absurd z (by omega)⟩)⟩)
    · rcases hK with ⟨rfl, rfl, u1, u2, hJ, hs⟩ | ⟨rfl, rfl, u1, u2, hJ, hs⟩
      · obtain ⟨j1, j2, j3, j4⟩ := hJ
        have h8 := hw.1.1.2.1
        have cb := clv_b (L := L) (L 0 4).toNat
        have db := dwI_b hx0.1 hx0.2 j3 (by omega)
        exact ⟨_, _, hs, v_X12_diesAnyL_21 ⟨fun c1 => (by have k0 : u2 = 0 := (by omega); rw [k0, Int.sub_zero] at j1; exact Or.inr ⟨rfl, rfl, u1, 0, ⟨j1, by omega, fun x hx => absurd hx (by omega), j3, j4⟩, rfl, rfl, rfl, trivial⟩), fun c1 => (by obtain ⟨x, x1, x2, x3⟩ := clv_i (L := L) (j := dwI (h 169 27) (clv L (L 0 4).toNat) - u2) (by omega) (L 0 4).toNat (by omega); have sx := (j1.2 x (by omega)).mpr ⟨by omega, x2, by omega⟩; have s0 : u1 ≠ 0 := (fun z => by rw [z, bB_0 (by omega)] at sx; exact Bool.noConfusion sx); have st := j1.st (by omega) s0; exact Or.inl ⟨rfl, rfl, zand u1 (u1 - 1), u2 - 1, ⟨by rw [show dwI (h 169 27) (clv L (L 0 4).toNat) - (u2 - 1) = dwI (h 169 27) (clv L (L 0 4).toNat) - u2 + 1 by omega]; exact st, by omega, j3, j4⟩, rfl, (by have l1 := j1.1; rw [w32_id (z := u1 - 1) (by omega) (by omega)]; rfl), wv (by omega) (by omega) (by omega), trivial⟩)⟩⟩
      · obtain ⟨j1, j2, j5, j3, j4⟩ := hJ
        have h8 := hw.1.1.2.1
        have cb := clv_b (L := L) (L 0 4).toNat
        have db := dwI_b hx0.1 hx0.2 j3 (by omega)
        obtain ⟨x, x1, x2, x3⟩ := clv_i (L := L) (j := dwI (h 169 27) (clv L (L 0 4).toNat)) (by omega) (L 0 4).toNat (by omega)
        have sx := (j1.2 x (by omega)).mpr ⟨by omega, x2, by omega⟩
        have ux : u2 ≤ (x : Int) := by
          by_cases z : (x : Int) < u2
          · exact absurd sx (j5 x z)
          · omega
        exact ⟨_, _, hs, v_X12_diesAnyL_39 (fun h1 v1 p1 q1 => by obtain ⟨t1, e1⟩ := c_X12_isIn p1; have t1 := t1.symm; subst t1; exact ⟨fun c1 => (fun h2 v2 p2 q2 => (by rw [bt_z (by omega) (by omega)] at e1; have pp := j1.p (by omega) (p := u2.toNat) (by omega) (e1.mp (by omega)) (fun x hx => j5 x (by omega)); have e7 : hx 170 = h 170 := (by rw [j4]; exact funext (fun k => up_ne (by omega))); obtain ⟨f1, f2, f3⟩ := Bd_e e7; have db2 := c_X12_diesByL (r.e e7) hw (f1 hB) (f2 hD) (f3 hH) (by omega) p2; obtain ⟨y1, y2⟩ := db2.2 pp.2.1; intro v e; cases e; exact ⟨fun z => absurd j3 (by omega), fun _ => ⟨u2.toNat, pp.1, pp.2.1, pp.2.2, y1, by rw [y2, j4, show uph h 169 27 (dwN (h 169 27)) 183 3 = h 183 3 from up_ne (by omega)]⟩⟩)), fun c1 => (by rw [bt_z (by omega) (by omega)] at e1; exact Or.inr ⟨rfl, rfl, u1, u2 + 1, ⟨j1, by omega, fun y hy => (by (by_cases z : (y : Int) < u2; (exact j5 y z); (have ey : y = u2.toNat := (by omega); rw [ey]; exact fun q => by have := e1.mpr q; omega))), j3, j4⟩, rfl, rfl, wv (by omega) (by omega) (by omega), trivial⟩)⟩)⟩
  exact q v rfl
end
