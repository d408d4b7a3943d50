/-! A NIGHT: the reference's -/
/-- but for the row of the search -/
def E78 (h h' : PH) : Prop := ∀ c k : Nat, ¬ (c = 178 ∧ k < 7) → h' c k = h c k
theorem E78.r {h h' : PH} (hF : E78 h h') : h' 170 = h 170 := funext (fun k => hF 170 k (by omega))
theorem amR_c {h h' : PH} (hF : E78 h h') {p : Nat} : ∀ q : Nat, amR h' p q = amR h p q
  | 0 => rfl
  | q + 1 => by
    have e : atR h' = atR h := funext (fun i => by unfold atR; rw [hF.r])
    have w : WY h' = WY h := funext (fun i => funext (fun j => WY_c hF))
    show cif (0 < h' 170 (67 + 8 * p + q) ∧ WY h' (atR h' p) (atR h' q) < 1000000 ∧ (amR h' p q = -1 ∨ WY h' (atR h' p) (atR h' q) < WY h' (atR h' p) (atR h' (amR h' p q).toNat))) (q : Int) (amR h' p q) = _
    rw [amR_c hF q, e, w, hF.r]
    rfl
theorem nxR_c {h h' : PH} (hF : E78 h h') {f t : Nat} : ∀ k : Nat, nxR h' f t k = nxR h f t k
  | 0 => rfl
  | k + 1 => by
    have w : WY h' = WY h := funext (fun i => funext (fun j => WY_c hF))
    show cif (nxR h' f t k = -1 ∧ drR h' f k ∧ h' 170 (6 + 3 * k) ≠ 1 ∧ WY h' k t = WY h' f t - 1) (k : Int) (nxR h' f t k) = _
    rw [nxR_c hF k, w, hF.r, drR_c hF]
    rfl
/-- where one comes to -/
noncomputable def wzR (g : PH) (p m : Nat) : Int := if nxR g (atR g p) (atR g m) (g 170 0).toNat = -1 then g 170 (27 + 5 * p) else nxR g (atR g p) (atR g m) (g 170 0).toNat
/-- one's turn in a NIGHT -/
noncomputable def haR (g : PH) (p : Nat) : PH := if g 170 (29 + 5 * p) = 1 ∧ 0 < rs (g 170) (67 + 8 * p) (g 170 1).toNat then (if amR g p (g 170 1).toNat = -1 then g else if g 170 (27 + 5 * (amR g p (g 170 1).toNat).toNat) = g 170 (27 + 5 * p) then soR g p (amR g p (g 170 1).toNat).toNat else uph g 170 (27 + 5 * p) (wzR g p (amR g p (g 170 1).toNat).toNat)) else g
noncomputable def niR (g : PH) : Nat → PH
  | 0 => uph g 170 2 (w32 (g 170 2 + 1))
  | p + 1 => haR (niR g p) p
theorem am_pos {h : PH} {p : Nat} : ∀ q : Nat, amR h p q ≠ -1 → 0 < h 170 (67 + 8 * p + (amR h p q).toNat)
  | 0, hq => absurd rfl hq
  | q + 1, hq => by
    by_cases C : 0 < h 170 (67 + 8 * p + q) ∧ WY h (atR h p) (atR h q) < 1000000 ∧ (amR h p q = -1 ∨ WY h (atR h p) (atR h q) < WY h (atR h p) (atR h (amR h p q).toNat))
    · have e : amR h p (q + 1) = (q : Int) := cif_p C
      rw [e, Int.toNat_natCast]
      exact C.1
    · have e : amR h p (q + 1) = amR h p q := cif_n C
      rw [e] at hq ⊢
      exact am_pos q hq
theorem soG_o {g : PH} {p b c k : Nat} (hp : p < 8) (hb : b < 8) (hw : 0 ≤ g 170 (27 + 5 * b) ∧ g 170 (27 + 5 * b) ≤ 6) (hk : ¬ (c = 170 ∧ ((8 ≤ k ∧ k ≤ 26) ∨ (67 ≤ k ∧ k < 131)))) : soG g p b c k = g c k := by
  have ha : atR g b ≤ 6 := by unfold atR; omega
  unfold soG
  by_cases c1 : g 170 (29 + 5 * b) = 1
  · rw [if_pos c1, up_ne (by omega), up_ne (by omega)]
  · rw [if_neg c1]
    by_cases c2 : g 170 (31 + 5 * b) = 1
    · rw [if_pos c2, up_ne (by omega)]
    · rw [if_neg c2]
      by_cases c3 : g 170 (30 + 5 * b) = 0 ∨ zrem (g 170 2) 2 = 1
      · rw [if_pos c3, up_ne (by omega)]
      · rw [if_neg c3]
theorem zm9 {x : Int} (h : 0 ≤ x) : 0 ≤ zmin 99 x ∧ zmin 99 x ≤ 99 := by
  unfold zmin
  split <;> omega
theorem soG_d {g : PH} {p b : Nat} (hp : p < 8) (hb : b < 8) (hD : BdD g) (hw : 0 ≤ g 170 (27 + 5 * b) ∧ g 170 (27 + 5 * b) ≤ 6) (ho : 0 < g 170 (67 + 8 * p + b)) : BdD (soG g p b) := fun i hi => by
  have ha : atR g b ≤ 6 := by unfold atR; omega
  have d := hD i hi
  have dp := hD (8 * p + b) (by omega)
  rw [show 67 + (8 * p + b) = 67 + 8 * p + b by omega] at dp
  have w : w32 (g 170 (67 + 8 * p + b) - 1) = g 170 (67 + 8 * p + b) - 1 := w32_id (by omega) (by omega)
  unfold soG
  by_cases c1 : g 170 (29 + 5 * b) = 1
  · rw [if_pos c1]
    by_cases e1 : 67 + i = 67 + 8 * b + p
    · rw [e1, up_sm]; exact zm9 (by omega)
    · rw [up_ne (by omega)]
      by_cases e2 : 67 + i = 67 + 8 * p + b
      · rw [e2, up_sm, w]
        by_cases e3 : 0 < g 170 (67 + 8 * b + p)
        · rw [if_pos e3]; exact zm9 (by omega)
        · rw [if_neg e3]; exact zm9 (by omega)
      · rw [up_ne (by omega)]; exact d
  · rw [if_neg c1]
    by_cases c2 : g 170 (31 + 5 * b) = 1
    · rw [if_pos c2, up_ne (by omega)]; exact d
    · rw [if_neg c2]
      by_cases c3 : g 170 (30 + 5 * b) = 0 ∨ zrem (g 170 2) 2 = 1
      · rw [if_pos c3]
        by_cases e2 : 67 + i = 67 + 8 * p + b
        · rw [e2, up_sm, w]; exact zm9 (by omega)
        · rw [up_ne (by omega)]; exact d
      · rw [if_neg c3]; exact d
/-- what a turn leaves as it is -/
theorem haR_b {g : PH} {p : Nat} (hp : p < 8) (hB : BdR g) (hD : BdD g) : BdR (haR g p) ∧ BdD (haR g p) ∧ ∀ c k : Nat, ¬ (c = 170 ∧ (k = 3 ∨ (8 ≤ k ∧ k < 131))) → haR g p c k = g c k := by
  obtain ⟨b0, b1, b2⟩ := id hB
  unfold haR
  by_cases c1 : g 170 (29 + 5 * p) = 1 ∧ 0 < rs (g 170) (67 + 8 * p) (g 170 1).toNat
  · rw [if_pos c1]
    by_cases c2 : amR g p (g 170 1).toNat = -1
    · rw [if_pos c2]; exact ⟨hB, hD, fun c k _ => rfl⟩
    · rw [if_neg c2]
      have bm := am_b (h := g) (p := p) (g 170 1).toNat
      have po := am_pos (h := g) (p := p) (g 170 1).toNat c2
      generalize hm : (amR g p (g 170 1).toNat).toNat = m at *
      have hm8 : m < 8 := by omega
      by_cases c3 : g 170 (27 + 5 * m) = g 170 (27 + 5 * p)
      · rw [if_pos c3]
        unfold soR
        have G : ∀ k : Nat, k ≠ 3 → uph g 170 3 (w32 (g 170 3 + 1)) 170 k = g 170 k := fun k hk => up_ne (by omega)
        have hw : 0 ≤ uph g 170 3 (w32 (g 170 3 + 1)) 170 (27 + 5 * m) ∧ uph g 170 3 (w32 (g 170 3 + 1)) 170 (27 + 5 * m) ≤ 6 := by rw [G _ (by omega)]; exact b2 m hm8
        refine ⟨⟨?_, ?_, fun q hq => ?_⟩, soG_d hp hm8 (fun i hi => by rw [G _ (by omega)]; exact hD i hi) hw (by rw [G _ (by omega)]; exact po), fun c k q => ?_⟩
        · rw [soG_o hp hm8 hw (by omega), G _ (by omega)]; exact b0
        · rw [soG_o hp hm8 hw (by omega), G _ (by omega)]; exact b1
        · rw [soG_o hp hm8 hw (by omega), G _ (by omega)]; exact b2 q hq
        · rw [soG_o hp hm8 hw (by omega), up_ne (by omega)]
      · rw [if_neg c3]
        have tb : 0 ≤ wzR g p m ∧ wzR g p m ≤ 6 := by
          unfold wzR
          have nb := nx_b2 (h := g) (f := atR g p) (t := atR g m) (g 170 0).toNat
          by_cases e : nxR g (atR g p) (atR g m) (g 170 0).toNat = -1
          · rw [if_pos e]; exact b2 p hp
          · rw [if_neg e]; omega
        refine ⟨⟨by rw [up_ne (by omega)]; exact b0, by rw [up_ne (by omega)]; exact b1, fun q hq => ?_⟩, fun i hi => by rw [up_ne (by omega)]; exact hD i hi, fun c k q => up_ne (by omega)⟩
        by_cases e : q = p
        · rw [e, up_sm]; exact tb
        · rw [up_ne (by omega)]; exact b2 q hq
  · rw [if_neg c1]; exact ⟨hB, hD, fun c k _ => rfl⟩
theorem niR_b {g : PH} (hB : BdR g) (hD : BdD g) : ∀ p : Nat, p ≤ 8 → BdR (niR g p) ∧ BdD (niR g p) ∧ ∀ c k : Nat, ¬ (c = 170 ∧ (k = 2 ∨ k = 3 ∨ (8 ≤ k ∧ k < 131))) → niR g p c k = g c k
  | 0, _ => ⟨⟨by show 0 ≤ uph g 170 2 _ 170 0 ∧ uph g 170 2 _ 170 0 ≤ 7; rw [up_ne (by omega)]; exact hB.1, by show 0 ≤ uph g 170 2 _ 170 1 ∧ uph g 170 2 _ 170 1 ≤ 8; rw [up_ne (by omega)]; exact hB.2.1, fun q hq => by show 0 ≤ uph g 170 2 _ 170 (27 + 5 * q) ∧ uph g 170 2 _ 170 (27 + 5 * q) ≤ 6; rw [up_ne (by omega)]; exact hB.2.2 q hq⟩, fun i hi => by show 0 ≤ uph g 170 2 _ 170 (67 + i) ∧ uph g 170 2 _ 170 (67 + i) ≤ 99; rw [up_ne (by omega)]; exact hD i hi, fun c k q => up_ne (by omega)⟩
  | p + 1, hp => by
    obtain ⟨x, y, z⟩ := niR_b hB hD p (by omega)
    obtain ⟨x2, y2, z2⟩ := haR_b (p := p) (by omega) x y
    exact ⟨x2, y2, fun c k q => (z2 c k (by omega)).trans (z c k q)⟩
