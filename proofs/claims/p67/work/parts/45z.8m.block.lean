/-! TALES that are read: rows and blocks -/
def isO (K : Int) : Prop := K = 18 ∨ K = 19 ∨ K = 20 ∨ K = 21
def inK (Y : PH) (k : Int) : Prop := ∃ i : Nat, (i : Int) < Y 50 4 ∧ Y 51 i = k
def hL0 (L : PH) (a : Int) : Prop := 0 ≤ a ∧ a < L 1 0
def pL0 (L : PH) (a : Int) : Prop := 0 ≤ a ∧ a < L 0 4
/-- one row -/
def okw (L : PH) (K a b n : Int) : Prop := (K = 1 ∨ (10 ≤ K ∧ K ≤ 14) ∨ K = 16 ∨ (18 ≤ K ∧ K ≤ 23)) ∧ (K = 1 ∨ K = 13 ∨ K = 18 → hL0 L a) ∧ (K = 11 ∨ K = 12 ∨ K = 14 ∨ K = 19 ∨ K = 20 → pL0 L a) ∧ (K = 12 ∨ K = 14 → pL0 L b) ∧ (K = 20 → hL0 L b) ∧ (K = 10 → 1 ≤ n ∧ n ≤ 9) ∧ (K = 14 ∨ K = 21 → 1 ≤ n ∧ n ≤ 99) ∧ (K = 18 → 0 ≤ n ∧ n ≤ 9999)
/-- rows and blocks of what is read so far -/
def WY9 (L Y : PH) : Prop := (0 ≤ Y 43 2 ∧ 0 ≤ Y 50 4) ∧
  (∀ k : Nat, (k : Int) < Y 43 2 → okw L (Y 44 k) (Y 45 k) (Y 46 k) (Y 47 k)) ∧
  (∀ i : Nat, (i : Int) < Y 50 4 → (0 ≤ Y 51 i ∧ Y 51 i < Y 43 2) ∧ isO (Y 44 (Y 51 i).toNat) ∧ ∀ j : Nat, j < i → Y 51 j < Y 51 i) ∧
  (∀ k : Nat, (k : Int) < Y 43 2 → isO (Y 44 k) → ¬ inK Y k → ((k : Int) < Y 48 k ∧ Y 48 k < Y 43 2) ∧ Y 44 (Y 48 k).toNat = 22 ∧ Y 48 (Y 48 k).toNat = (k : Int)) ∧
  (∀ k : Nat, (k : Int) < Y 43 2 → Y 44 k = 22 → (0 ≤ Y 48 k ∧ Y 48 k < (k : Int)) ∧ isO (Y 44 (Y 48 k).toNat) ∧ Y 48 (Y 48 k).toNat = (k : Int) ∧ ¬ inK Y (Y 48 k)) ∧
  ∀ o p : Nat, (o : Int) < Y 43 2 → isO (Y 44 o) → ¬ inK Y o → isO (Y 44 p) → o < p → (p : Int) < Y 48 o → ¬ inK Y p ∧ Y 48 p < Y 48 o
theorem ad_kk {Y : PH} {a b c d : Int} (h0 : 0 ≤ Y 43 2) {k : Nat} (hk : (k : Int) < Y 43 2) {j : Nat} (hj : 44 ≤ j) : adY Y a b c d j k = Y j k := by
  unfold adY
  rw [up_ne (by omega), up_ne (by omega), up_ne (by omega), up_ne (by omega), up_ne (by omega), up_ne (by omega)]
theorem ad_nn {Y : PH} {a b c d : Int} : adY Y a b c d 44 (Y 43 2).toNat = a ∧ adY Y a b c d 45 (Y 43 2).toNat = b ∧ adY Y a b c d 46 (Y 43 2).toNat = c ∧ adY Y a b c d 47 (Y 43 2).toNat = d ∧ adY Y a b c d 48 (Y 43 2).toNat = Y 43 2 ∧ adY Y a b c d 43 2 = Y 43 2 + 1 := by
  unfold adY
  refine ⟨?_, ?_, ?_, ?_, ?_, ?_⟩
  · rw [up_ne (by omega), up_ne (by omega), up_ne (by omega), up_ne (by omega), up_ne (by omega), up_sm]
  · rw [up_ne (by omega), up_ne (by omega), up_ne (by omega), up_ne (by omega), up_sm]
  · rw [up_ne (by omega), up_ne (by omega), up_ne (by omega), up_sm]
  · rw [up_ne (by omega), up_ne (by omega), up_sm]
  · rw [up_ne (by omega), up_sm]
  · rw [up_sm]
section WY
variable {L Y Z : PH}
/-- a row that opens no block -/
theorem WY9.ad {K a b n : Int} (w : WY9 L Y) (ho : okw L K a b n) (h22 : K ≠ 22) (hno : ¬ isO K) : WY9 L (adY Y K a b n) := by
  obtain ⟨⟨z0, z1⟩, w1, w2, w3, w4, w5⟩ := w
  obtain ⟨n44, n45, n46, n47, n48, n43⟩ := ad_nn (Y := Y) (a := K) (b := a) (c := b) (d := n)
  have e50 : adY Y K a b n 50 4 = Y 50 4 := ad_2 (by omega) (by omega)
  have e51 : ∀ i, adY Y K a b n 51 i = Y 51 i := fun i => ad_2 (by omega) (by omega)
  have eK : ∀ x, inK (adY Y K a b n) x ↔ inK Y x := fun x => by unfold inK; rw [e50]; exact ⟨fun ⟨i, q1, q2⟩ => ⟨i, q1, by rw [← e51]; exact q2⟩, fun ⟨i, q1, q2⟩ => ⟨i, q1, by rw [e51]; exact q2⟩⟩
  have L8 : ∀ k : Nat, (k : Int) < Y 43 2 + 1 → (k : Int) < Y 43 2 ∨ k = (Y 43 2).toNat := fun k hk => by omega
  have ek : ∀ {j k : Nat}, 44 ≤ j → (k : Int) < Y 43 2 → adY Y K a b n j k = Y j k := fun {j k} hj hk => ad_kk z0 hk hj
  refine ⟨⟨by rw [n43]; omega, by rw [e50]; exact z1⟩, fun k hk => ?_, fun i hi => ?_, fun k hk hO hN => ?_, fun k hk hE => ?_, fun o p ho' hO hN hP h1 h2 => ?_⟩
  · rw [n43] at hk
    rcases L8 k hk with q | q
    · rw [ek (by omega) q, ek (by omega) q, ek (by omega) q, ek (by omega) q]; exact w1 k q
    · subst q; rw [n44, n45, n46, n47]; exact ho
  · rw [e50] at hi
    obtain ⟨a1, a2, a3⟩ := w2 i hi
    rw [e51, n43, ek (by omega) (by omega)]
    exact ⟨by omega, a2, fun j hj => by rw [e51]; exact a3 j hj⟩
  · rw [n43] at hk
    rw [eK] at hN
    rcases L8 k hk with q | q
    · rw [ek (by omega) q] at hO
      obtain ⟨a1, a2, a3⟩ := w3 k q hO hN
      rw [ek (by omega) q, n43, ek (by omega) (by omega), ek (by omega) (by omega)]
      exact ⟨by omega, a2, a3⟩
    · subst q; rw [n44] at hO; exact absurd hO hno
  · rw [n43] at hk
    rcases L8 k hk with q | q
    · rw [ek (by omega) q] at hE
      obtain ⟨a1, a2, a3, a4⟩ := w4 k q hE
      rw [ek (by omega) q, eK, ek (by omega) (by omega), ek (by omega) (by omega)]
      exact ⟨a1, a2, a3, a4⟩
    · subst q; rw [n44] at hE; exact absurd hE h22
  · rw [n43] at ho'
    rw [eK] at hN ⊢
    rcases L8 o ho' with q | q
    · rw [ek (by omega) q] at hO h2 ⊢
      have b := w3 o q hO hN
      rw [ek (by omega) (by omega)] at hP ⊢
      exact w5 o p q hO hN hP h1 h2
    · subst q; rw [n44] at hO; exact absurd hO hno
/-- a row that opens a block -/
theorem WY9.op {K a b n : Int} (w : WY9 L Y) (ho : okw L K a b n) (hO' : isO K) : WY9 L (opn (adY Y K a b n)) := by
  obtain ⟨⟨z0, z1⟩, w1, w2, w3, w4, w5⟩ := w
  obtain ⟨n44, n45, n46, n47, n48, n43⟩ := ad_nn (Y := Y) (a := K) (b := a) (c := b) (d := n)
  generalize hZ : adY Y K a b n = Z at *
  have e50 : Z 50 4 = Y 50 4 := by rw [← hZ]; exact ad_2 (by omega) (by omega)
  have e51 : ∀ i, Z 51 i = Y 51 i := fun i => by rw [← hZ]; exact ad_2 (by omega) (by omega)
  have ek : ∀ {j k : Nat}, 44 ≤ j → (k : Int) < Y 43 2 → Z j k = Y j k := fun {j k} hj hk => by rw [← hZ]; exact ad_kk z0 hk hj
  have o' : ∀ j k : Nat, 43 ≤ j → j ≤ 48 → opn Z j k = Z j k := fun j k q1 q2 => by unfold opn; rw [up_ne (by omega), up_ne (by omega)]
  have o50 : opn Z 50 4 = Y 50 4 + 1 := by unfold opn; rw [up_sm, e50]
  have o51 : ∀ i, opn Z 51 i = if i = (Y 50 4).toNat then Y 43 2 else Y 51 i := fun i => by
    unfold opn
    rw [up_ne (by omega), up_rd, e50]
    by_cases q : i = (Y 50 4).toNat
    · rw [if_pos ⟨rfl, q⟩, if_pos q, n43]; omega
    · rw [if_neg (by omega), if_neg q, e51]
  have eK : ∀ x : Int, inK (opn Z) x ↔ inK Y x ∨ x = Y 43 2 := fun x => by
    unfold inK
    rw [o50]
    constructor
    · rintro ⟨i, q1, q2⟩
      rw [o51] at q2
      by_cases q : i = (Y 50 4).toNat
      · rw [if_pos q] at q2; exact Or.inr q2.symm
      · rw [if_neg q] at q2; exact Or.inl ⟨i, by omega, q2⟩
    · rintro (⟨i, q1, q2⟩ | q)
      · exact ⟨i, by omega, by rw [o51, if_neg (by omega)]; exact q2⟩
      · exact ⟨(Y 50 4).toNat, by omega, by rw [o51, if_pos rfl]; exact q.symm⟩
  have L8 : ∀ k : Nat, (k : Int) < Y 43 2 + 1 → (k : Int) < Y 43 2 ∨ k = (Y 43 2).toNat := fun k hk => by omega
  have nO : ¬ (22 : Int) = K := fun q => by unfold isO at hO'; omega
  refine ⟨⟨by rw [o' 43 2 (by omega) (by omega), n43]; omega, by rw [o50]; omega⟩, fun k hk => ?_, fun i hi => ?_, fun k hk hO hN => ?_, fun k hk hE => ?_, fun o p ho' hO hN hP h1 h2 => ?_⟩
  · rw [o' 43 2 (by omega) (by omega), n43] at hk
    rw [o' _ _ (by omega) (by omega), o' _ _ (by omega) (by omega), o' _ _ (by omega) (by omega), o' _ _ (by omega) (by omega)]
    rcases L8 k hk with q | q
    · rw [ek (by omega) q, ek (by omega) q, ek (by omega) q, ek (by omega) q]; exact w1 k q
    · subst q; rw [n44, n45, n46, n47]; exact ho
  · rw [o50] at hi
    rw [o51, o' 43 2 (by omega) (by omega), n43, o' 44 _ (by omega) (by omega)]
    by_cases q : i = (Y 50 4).toNat
    · rw [if_pos q, n44]
      refine ⟨by omega, hO', fun j hj => ?_⟩
      rw [o51, if_neg (by omega)]
      exact (w2 j (by omega)).1.2
    · rw [if_neg q]
      obtain ⟨a1, a2, a3⟩ := w2 i (by omega)
      rw [ek (by omega) (by omega)]
      exact ⟨by omega, a2, fun j hj => by rw [o51, if_neg (by omega)]; exact a3 j hj⟩
  · rw [o' 43 2 (by omega) (by omega), n43] at hk
    rw [eK] at hN
    rw [o' _ _ (by omega) (by omega)] at hO
    have q : (k : Int) < Y 43 2 := by
      rcases L8 k hk with q | q
      · exact q
      · exact absurd (Or.inr (by omega)) hN
    rw [ek (by omega) q] at hO
    obtain ⟨a1, a2, a3⟩ := w3 k q hO (fun z => hN (Or.inl z))
    rw [o' _ _ (by omega) (by omega), ek (by omega) q, o' 43 2 (by omega) (by omega), n43, o' _ _ (by omega) (by omega), o' _ _ (by omega) (by omega), ek (by omega) (by omega), ek (by omega) (by omega)]
    exact ⟨by omega, a2, a3⟩
  · rw [o' 43 2 (by omega) (by omega), n43] at hk
    rw [o' _ _ (by omega) (by omega)] at hE
    rcases L8 k hk with q | q
    · rw [ek (by omega) q] at hE
      obtain ⟨a1, a2, a3, a4⟩ := w4 k q hE
      rw [o' _ _ (by omega) (by omega), ek (by omega) q, eK, o' _ _ (by omega) (by omega), o' _ _ (by omega) (by omega), ek (by omega) (by omega), ek (by omega) (by omega)]
      exact ⟨a1, a2, a3, fun z => z.elim a4 (fun y => by omega)⟩
    · subst q; rw [n44] at hE; exact absurd hE.symm nO
  · rw [o' 43 2 (by omega) (by omega), n43] at ho'
    rw [eK] at hN ⊢
    rw [o' _ _ (by omega) (by omega)] at hO hP h2
    rw [o' _ _ (by omega) (by omega), o' _ _ (by omega) (by omega)]
    have q : (o : Int) < Y 43 2 := by
      rcases L8 o ho' with q | q
      · exact q
      · exact absurd (Or.inr (by omega)) hN
    rw [ek (by omega) q] at hO h2 ⊢
    have nk : ¬ inK Y (o : Int) := fun z => hN (Or.inl z)
    have b := w3 o q hO nk
    rw [ek (by omega) (by omega)] at hP ⊢
    have c := w5 o p q hO nk hP h1 h2
    exact ⟨fun z => z.elim c.1 (fun y => by omega), c.2⟩
/-- the end of a block -/
theorem WY9.cl (w : WY9 L Y) (hd : 1 ≤ Y 50 4) : WY9 L (cls Y) := by
  obtain ⟨⟨z0, z1⟩, w1, w2, w3, w4, w5⟩ := w
  have t := w2 (Y 50 4 - 1).toNat (by omega)
  generalize hs : Y 51 (Y 50 4 - 1).toNat = s at t
  obtain ⟨⟨t1, t2⟩, t3, t4⟩ := t
  have sK : inK Y s := ⟨(Y 50 4 - 1).toNat, by omega, hs⟩
  have e48 : ∀ k : Nat, (k : Int) < Y 43 2 + 1 → cls Y 48 k = if k = (Y 43 2).toNat then s else if k = s.toNat then Y 43 2 else Y 48 k := fun k hk => by
    unfold cls
    rw [up_rd, hs]
    by_cases q : k = (Y 43 2).toNat
    · rw [if_pos ⟨rfl, q⟩, if_pos q]
    · rw [if_neg (by omega), if_neg q, up_rd]
      by_cases q2 : k = s.toNat
      · rw [if_pos ⟨rfl, q2⟩, if_pos q2]
      · rw [if_neg (by omega), if_neg q2, ad_kk (by rw [up_ne (by omega)]; exact z0) (by rw [up_ne (by omega)]; omega) (by omega), up_ne (by omega)]
  have n43 : cls Y 43 2 = Y 43 2 + 1 := by
    unfold cls
    rw [up_ne (by omega), up_ne (by omega), ad_nn.2.2.2.2.2, up_ne (by omega)]
  have e50 : cls Y 50 4 = Y 50 4 - 1 := by
    unfold cls
    rw [up_ne (by omega), up_ne (by omega), ad_2 (by omega) (by omega), up_sm]
  have e51 : ∀ i, cls Y 51 i = Y 51 i := fun i => by
    unfold cls
    rw [up_ne (by omega), up_ne (by omega), ad_2 (by omega) (by omega), up_ne (by omega)]
  have ek : ∀ {j k : Nat}, 44 ≤ j → j ≤ 47 → (k : Int) < Y 43 2 → cls Y j k = Y j k := fun {j k} h1 h2 hk => by
    unfold cls
    rw [up_ne (by omega), up_ne (by omega), ad_kk (by rw [up_ne (by omega)]; exact z0) (by rw [up_ne (by omega)]; exact hk) (by omega), up_ne (by omega)]
  have en : cls Y 44 (Y 43 2).toNat = 22 ∧ cls Y 45 (Y 43 2).toNat = 0 ∧ cls Y 46 (Y 43 2).toNat = 0 ∧ cls Y 47 (Y 43 2).toNat = 0 := by
    have a := ad_nn (Y := uph Y 50 4 (Y 50 4 - 1)) (a := 22) (b := 0) (c := 0) (d := 0)
    rw [up_ne (c := 50) (c' := 43) (by omega)] at a
    unfold cls
    refine ⟨?_, ?_, ?_, ?_⟩
    · rw [up_ne (by omega), up_ne (by omega)]; exact a.1
    · rw [up_ne (by omega), up_ne (by omega)]; exact a.2.1
    · rw [up_ne (by omega), up_ne (by omega)]; exact a.2.2.1
    · rw [up_ne (by omega), up_ne (by omega)]; exact a.2.2.2.1
  have eK : ∀ x : Int, inK (cls Y) x ↔ inK Y x ∧ x ≠ s := fun x => by
    unfold inK
    rw [e50]
    constructor
    · rintro ⟨i, q1, q2⟩
      rw [e51] at q2
      refine ⟨⟨i, by omega, q2⟩, fun z => ?_⟩
      have := t4 i (by omega)
      omega
    · rintro ⟨⟨i, q1, q2⟩, q3⟩
      refine ⟨i, ?_, by rw [e51]; exact q2⟩
      by_cases z : i = (Y 50 4 - 1).toNat
      · subst z; exact absurd (q2.symm.trans hs) q3
      · omega
  have L8 : ∀ k : Nat, (k : Int) < Y 43 2 + 1 → (k : Int) < Y 43 2 ∨ k = (Y 43 2).toNat := fun k hk => by omega
  have n22 : ¬ isO (22 : Int) := fun q => by unfold isO at q; omega
  have es : ((s.toNat : Nat) : Int) = s := by omega
  have kS : Y 44 s.toNat ≠ 22 := fun q => by rw [q] at t3; exact n22 t3
  -- a block that is closed already: its ends are neither of the two places
  have P3 : ∀ k : Nat, (k : Int) < Y 43 2 → isO (Y 44 k) → ¬ inK Y k → k ≠ s.toNat ∧ (Y 48 k).toNat ≠ s.toNat ∧ cls Y 48 k = Y 48 k ∧ cls Y 48 (Y 48 k).toNat = Y 48 (Y 48 k).toNat ∧ ((k : Int) < Y 48 k ∧ Y 48 k < Y 43 2) ∧ Y 44 (Y 48 k).toNat = 22 ∧ Y 48 (Y 48 k).toNat = (k : Int) := fun k q hO hN => by
    obtain ⟨a1, a2, a3⟩ := w3 k q hO hN
    have x1 : k ≠ s.toNat := fun z => hN (by rw [z, es]; exact sK)
    have x2 : (Y 48 k).toNat ≠ s.toNat := fun z => kS (by rw [← z]; exact a2)
    exact ⟨x1, x2, by rw [e48 k (by omega), if_neg (by omega), if_neg x1], by rw [e48 _ (by omega), if_neg (by omega), if_neg x2], a1, a2, a3⟩
  refine ⟨⟨by rw [n43]; omega, by rw [e50]; omega⟩, fun k hk => ?_, fun i hi => ?_, fun k hk hO hN => ?_, fun k hk hE => ?_, fun o p ho' hO hN hP h1 h2 => ?_⟩
  · rw [n43] at hk
    rcases L8 k hk with q | q
    · rw [ek (by omega) (by omega) q, ek (by omega) (by omega) q, ek (by omega) (by omega) q, ek (by omega) (by omega) q]; exact w1 k q
    · subst q
      rw [en.1, en.2.1, en.2.2.1, en.2.2.2]
      unfold okw
      omega
  · rw [e50] at hi
    obtain ⟨a1, a2, a3⟩ := w2 i (by omega)
    rw [e51, n43, ek (by omega) (by omega) (by omega)]
    exact ⟨by omega, a2, fun j hj => by rw [e51]; exact a3 j hj⟩
  · rw [n43] at hk ⊢
    rw [eK] at hN
    rcases L8 k hk with q | q
    · rw [ek (by omega) (by omega) q] at hO
      by_cases z : k = s.toNat
      · rw [e48 k (by omega), if_neg (by omega), if_pos z, en.1, e48 _ (by omega), if_pos rfl]
        exact ⟨by omega, rfl, by omega⟩
      · have nK : ¬ inK Y (k : Int) := fun y => hN ⟨y, by omega⟩
        obtain ⟨x1, x2, x3, x4, a1, a2, a3⟩ := P3 k q hO nK
        rw [x3, x4, ek (by omega) (by omega) (by omega)]
        exact ⟨by omega, a2, a3⟩
    · subst q; rw [en.1] at hO; exact absurd hO n22
  · rw [n43] at hk
    rcases L8 k hk with q | q
    · rw [ek (by omega) (by omega) q] at hE
      obtain ⟨a1, a2, a3, a4⟩ := w4 k q hE
      have x1 : k ≠ s.toNat := fun z => kS (by rw [← z]; exact hE)
      have x2 : (Y 48 k).toNat ≠ s.toNat := fun z => a4 (by rw [show Y 48 k = s by omega]; exact sK)
      rw [e48 k (by omega), if_neg (by omega), if_neg x1, ek (by omega) (by omega) (by omega), e48 _ (by omega), if_neg (by omega), if_neg x2, eK]
      exact ⟨a1, a2, a3, fun y => a4 y.1⟩
    · subst q
      rw [e48 _ (by omega), if_pos rfl, ek (by omega) (by omega) (by omega), e48 _ (by omega), if_neg (by omega), if_pos rfl, eK]
      exact ⟨by omega, t3, by omega, fun y => y.2 rfl⟩
  · rw [n43] at ho'
    rw [eK] at hN ⊢
    rcases L8 o ho' with q | q
    · rw [ek (by omega) (by omega) q] at hO
      by_cases z : o = s.toNat
      · -- the block closed now
        rw [e48 o (by omega), if_neg (by omega), if_pos z] at h2 ⊢
        rw [ek (by omega) (by omega) (by omega)] at hP
        have nK : ¬ inK Y (p : Int) := fun y => by
          obtain ⟨i, i1, i2⟩ := y
          by_cases e : i = (Y 50 4 - 1).toNat
          · rw [e, hs] at i2; omega
          · have := t4 i (by omega); omega
        obtain ⟨x1, x2, x3, x4, a1, a2, a3⟩ := P3 p (by omega) hP nK
        exact ⟨fun y => nK y.1, by rw [x3]; omega⟩
      · have nKo : ¬ inK Y (o : Int) := fun y => hN ⟨y, by omega⟩
        obtain ⟨x1, x2, x3, x4, a1, a2, a3⟩ := P3 o q hO nKo
        rw [x3] at h2 ⊢
        rw [ek (by omega) (by omega) (by omega)] at hP
        obtain ⟨b1, b2⟩ := w5 o p q hO nKo hP h1 h2
        obtain ⟨y1, y2, y3, y4, c1, c2, c3⟩ := P3 p (by omega) hP b1
        rw [y3]
        exact ⟨fun y => b1 y.1, b2⟩
    · subst q; rw [en.1] at hO; exact absurd hO n22
end WY
