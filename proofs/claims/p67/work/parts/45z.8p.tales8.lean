/-! tales(): the same TALES in both -/
/-- the TALES of a LAND L: at cell b of the class, in slot s of the reference -/
def TLS (b s : Nat) (h L : PH) : Prop := (h b 0 = 0 ∧ h 170 (528 * s + 4) = -1) ∨ (∃ Y : PH, CS b h Y ∧ RTl s h Y ∧ WY9 L Y ∧ WT Y ∧ Y 50 4 = 0)
theorem WY9.lc {L L' Y : PH} (w : WY9 L Y) (e0 : L' 1 0 = L 1 0) (e4 : L' 0 4 = L 0 4) : WY9 L' Y := by
  obtain ⟨a, b, c⟩ := w
  refine ⟨a, fun k hk => ?_, c⟩
  have z := b k hk
  unfold okw hL0 pL0 at z ⊢
  rw [e0, e4]
  exact z
/-- the TALES stay if the LAND's houses and persons do -/
theorem TLS.kp {b s : Nat} {h h' L L' : PH} (t : TLS b s h L) (e0 : L' 1 0 = L 1 0) (e4 : L' 0 4 = L 0 4) (e : ∀ c k : Nat, b ≤ c → c ≤ b + 5 → h' c k = h c k) (r : ∀ k : Nat, k = 4 ∨ (164 ≤ k ∧ k < 524) → h' 170 (528 * s + k) = h 170 (528 * s + k)) : TLS b s h' L' := by
  rcases t with ⟨t1, t2⟩ | ⟨Y, ⟨c0, c1, c2, c3⟩, ⟨r1, r2, r3⟩, w, wt, y⟩
  · exact Or.inl ⟨by rw [e b 0 (by omega) (by omega)]; exact t1, by rw [r 4 (by omega)]; exact t2⟩
  · have w1 := w.1
    have n : Y 43 2 ≤ 60 := by obtain ⟨x1, x2, x3, x4, x5⟩ := wt; omega
    refine Or.inr ⟨Y, ⟨by rw [e b 0 (by omega) (by omega)]; exact c0, by rw [e b 1 (by omega) (by omega)]; exact c1, by rw [e b 2 (by omega) (by omega)]; exact c2, fun i k hi hk => by rw [e _ k (by omega) (by omega)]; exact c3 i k hi hk⟩, ⟨by rw [r 4 (by omega)]; exact r1, fun k hk i h6 h4 => ?_, fun k hk p => ?_⟩, w.lc e0 e4, wt, y⟩
    · have z := r2 k hk i h6 h4
      rw [show 528 * s + 164 + 6 * k + i = 528 * s + (164 + 6 * k + i) by omega] at z ⊢
      rw [r _ (by omega)]; exact z
    · have z := r3 k hk p
      rw [show 528 * s + 168 + 6 * k = 528 * s + (168 + 6 * k) by omega] at z ⊢
      rw [r _ (by omega)]; exact z
theorem RLd.f4 {bs nb : Nat} {h h' L : PH} (hL : RLd bs nb h L) (hW : WL L) (hF : ∀ k : Nat, bs ≤ k → k < bs + 163 → k ≠ bs + 4 → h' 170 k = h 170 k) (hG : ∀ k : Nat, nb ≤ k → k < nb + 15 → h' 171 k = h 171 k) : RLd bs nb h' L := by
  obtain ⟨⟨a1, a2, a3, a4⟩, b, c, d, e, f, g⟩ := hL
  have w1 := hW.1
  have w2 := hW.2.1
  refine ⟨⟨by rw [hF _ (by omega) (by omega) (by omega)]; exact a1, by rw [hF _ (by omega) (by omega) (by omega)]; exact a2, by rw [hF _ (by omega) (by omega) (by omega)]; exact a3, by rw [hF _ (by omega) (by omega) (by omega)]; exact a4⟩, fun i hi => ?_, fun p hp => ?_, fun q hq => by rw [hF _ (by omega) (by omega) (by omega)]; exact d q hq, fun p hp => ⟨by rw [hF _ (by omega) (by omega) (by omega)]; exact (e p hp).1, fun k hk z => by rw [hF _ (by omega) (by omega) (by omega)]; exact (e p hp).2 k hk z⟩, fun i hi => by rw [hG _ (by omega) (by omega)]; exact f i hi, fun p hp => by rw [hG _ (by omega) (by omega)]; exact g p hp⟩
  · rw [hF _ (by omega) (by omega) (by omega), hF _ (by omega) (by omega) (by omega), hF _ (by omega) (by omega) (by omega)]
    exact b i hi
  · rw [hF (bs + 27 + 5 * p) (by omega) (by omega) (by omega), hF (bs + 28 + 5 * p) (by omega) (by omega) (by omega), hF (bs + 29 + 5 * p) (by omega) (by omega) (by omega), hF (bs + 30 + 5 * p) (by omega) (by omega) (by omega), hF (bs + 31 + 5 * p) (by omega) (by omega) (by omega)]
    exact c p hp
section TL
variable {sl : Nat} {si : Nat → Int} {h h1 h2 : PH} {a v w : Int}
end TL
