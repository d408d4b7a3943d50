/-! tales(): the same TALES in both -/
/-- the TALES of a LAND L: at cell b of the class, in slot s of the reference -/
def TLS (b s : Nat) (h L : PH) : Prop := (h b 0 = 0 ∧ h 170 (528 * s + 4) = -1) ∨ (∃ Y : PH, CS b h Y ∧ RTl s h Y ∧ WY9 L Y ∧ WT Y ∧ Y 50 4 = 0)
theorem WY9.lc {L L' Y : PH} (w : WY9 L Y) (e0 : L' 1 0 = L 1 0) (e4 : L' 0 4 = L 0 4) : WY9 L' Y := by
  obtain ⟨a, b, c⟩ := w
  refine ⟨a, fun k hk => ?_, c⟩
  have z := b k hk
  unfold okw hL0 pL0 at z ⊢
  rw [e0, e4]
  exact z
/-- the TALES stay if the LAND's houses and persons do -/
theorem TLS.kp {b s : Nat} {h h' L L' : PH} (t : TLS b s h L) (e0 : L' 1 0 = L 1 0) (e4 : L' 0 4 = L 0 4) (e : ∀ c k : Nat, b ≤ c → c ≤ b + 5 → h' c k = h c k) (r : ∀ k : Nat, k = 4 ∨ (164 ≤ k ∧ k < 524) → h' 170 (528 * s + k) = h 170 (528 * s + k)) : TLS b s h' L' := by
  rcases t with ⟨t1, t2⟩ | ⟨Y, ⟨c0, c1, c2, c3⟩, ⟨r1, r2, r3⟩, w, wt, y⟩
  · exact Or.inl ⟨by rw [e b 0 (by omega) (by omega)]; exact t1, by rw [r 4 (by omega)]; exact t2⟩
  · have w1 := w.1
    have n : Y 43 2 ≤ 60 := by obtain ⟨x1, x2, x3, x4, x5⟩ := wt; omega
    refine Or.inr ⟨Y, ⟨by rw [e b 0 (by omega) (by omega)]; exact c0, by rw [e b 1 (by omega) (by omega)]; exact c1, by rw [e b 2 (by omega) (by omega)]; exact c2, fun i k hi hk => by rw [e _ k (by omega) (by omega)]; exact c3 i k hi hk⟩, ⟨by rw [r 4 (by omega)]; exact r1, fun k hk i h6 h4 => ?_, fun k hk p => ?_⟩, w.lc e0 e4, wt, y⟩
    · have z := r2 k hk i h6 h4
      rw [show 528 * s + 164 + 6 * k + i = 528 * s + (164 + 6 * k + i) by omega] at z ⊢
      rw [r _ (by omega)]; exact z
    · have z := r3 k hk p
      rw [show 528 * s + 168 + 6 * k = 528 * s + (168 + 6 * k) by omega] at z ⊢
      rw [r _ (by omega)]; exact z
theorem RLd.f4 {bs nb : Nat} {h h' L : PH} (hL : RLd bs nb h L) (hW : WL L) (hF : ∀ k : Nat, bs ≤ k → k < bs + 163 → k ≠ bs + 4 → h' 170 k = h 170 k) (hG : ∀ k : Nat, nb ≤ k → k < nb + 15 → h' 171 k = h 171 k) : RLd bs nb h' L := by
  obtain ⟨⟨a1, a2, a3, a4⟩, b, c, d, e, f, g⟩ := hL
  have w1 := hW.1
  have w2 := hW.2.1
  refine ⟨⟨by rw [hF _ (by omega) (by omega) (by omega)]; exact a1, by rw [hF _ (by omega) (by omega) (by omega)]; exact a2, by rw [hF _ (by omega) (by omega) (by omega)]; exact a3, by rw [hF _ (by omega) (by omega) (by omega)]; exact a4⟩, fun i hi => ?_, fun p hp => ?_, fun q hq => by rw [hF _ (by omega) (by omega) (by omega)]; exact d q hq, fun p hp => ⟨by rw [hF _ (by omega) (by omega) (by omega)]; exact (e p hp).1, fun k hk z => by rw [hF _ (by omega) (by omega) (by omega)]; exact (e p hp).2 k hk z⟩, fun i hi => by rw [hG _ (by omega) (by omega)]; exact f i hi, fun p hp => by rw [hG _ (by omega) (by omega)]; exact g p hp⟩
  · rw [hF _ (by omega) (by omega) (by omega), hF _ (by omega) (by omega) (by omega), hF _ (by omega) (by omega) (by omega)]
    exact b i hi
  · rw [hF (bs + 27 + 5 * p) (by omega) (by omega) (by omega), hF (bs + 28 + 5 * p) (by omega) (by omega) (by omega), hF (bs + 29 + 5 * p) (by omega) (by omega) (by omega), hF (bs + 30 + 5 * p) (by omega) (by omega) (by omega), hF (bs + 31 + 5 * p) (by omega) (by omega) (by omega)]
    exact c p hp
section TL
variable {sl : Nat} {si : Nat → Int} {h h1 h2 : PH} {a v w : Int}
theorem tales_8 {L : PH} (hJ : J10 h) (hL : CL 5 h L) (hw : W10 L) (hr : RLd 0 0 h L) (ht : TLS 21 0 h L) (fb : ∀ c k : Nat, c ≤ 168 ∨ (c = 171 ∧ k < 15) → h2 c k = h1 c k) (p1 : CP (zz sl si (7, 0)) mX11_tales h [(2, 0), (0, a)] h1 [(0, v)]) (p2 : CP (zz sl si (7, 0)) mX12_tales h1 [(2, 169), (0, a)] h2 [(0, w)]) : v = w ∧ CL 5 h2 L ∧ RLd 0 0 h2 L ∧ TLS 21 0 h2 L ∧ ∀ k : Nat, 528 ≤ k → k < 2112 → h2 170 k = h 170 k := by
  let M : PH := fun j k => if j = 99 then h 170 k else L j k
  have MO : ∀ j k : Nat, j ≠ 99 → M j k = L j k := fun j k q => if_neg q
  have M9 : ∀ k : Nat, M 99 k = h 170 k := fun k => if_pos rfl
  have hM : CL 5 h M := fun j k i => by have := inL_b i; rw [MO j k (by omega)]; exact hL j k i
  have hWN : WN M := ⟨by rw [MO 1 0 (by omega)]; exact hw.1.1.1, by rw [MO 0 4 (by omega)]; exact hw.1.1.2.1⟩
  obtain ⟨y1, n1, f1⟩ := c_X11_talesF hJ hM hWN p1
  obtain ⟨ja, jb, jc, jd⟩ := hJ
  have F1 : ∀ c k : Nat, (5 ≤ c ∧ c ≤ 20) ∨ (c = 169 ∧ k = 10) ∨ 170 ≤ c → h1 c k = h c k := fun c k q => f1 c k (by omega) (by omega) (by omega) (by omega) (by omega) (by omega) (by omega)
  have nm : NmL h1 M := by
    obtain ⟨⟨a1, a2, -, -⟩, -, -, -, -, f, g⟩ := hr
    refine ⟨⟨by rw [F1 170 0 (by omega), MO 1 0 (by omega)]; exact a1, by rw [F1 170 1 (by omega), MO 0 4 (by omega)]; exact a2⟩, fun i hi => ?_, fun p hp => ?_, fun k hk => by rw [F1 170 k (by omega), M9]⟩
    · rw [MO 1 0 (by omega)] at hi
      have z := f i hi
      rw [Nat.zero_add] at z
      rw [F1 171 i (by omega), MO 9 i (by omega)]; exact z
    · rw [MO 0 4 (by omega)] at hp
      have z := g p hp
      rw [show 0 + 7 + p = 7 + p by omega] at z
      rw [F1 171 _ (by omega), MO 10 p (by omega)]; exact z
  have hY : y0 h 43 2 = 0 ∧ y0 h 43 1 = 0 ∧ y0 h 50 4 = 0 := by
    unfold y0
    exact ⟨by rw [up_ne (by omega), up_sm], by rw [up_ne (by omega), up_ne (by omega), up_sm], up_sm⟩
  obtain ⟨y2, n2⟩ := c_X12_talesG (B := fun k => h 3 k) (n := h 2 1) (L := M) (Y := y0 h) (fun k hk => by rw [F1 175 k (by omega)]; exact jc k hk) (by rw [F1 169 10 (by omega)]; exact ja.symm) jb nm hWN hY p2
  have c5 : CL 5 h2 L := hL.fr (fun c k q1 q2 => (fb c k (by omega)).trans (F1 c k (by omega)))
  have nG : ∀ k : Nat, 0 ≤ k → k < 0 + 15 → h2 171 k = h 171 k := fun k _ hk => (fb 171 k (by omega)).trans (F1 171 k (by omega))
  by_cases z : 0 ≤ a ∧ a ≤ h 2 1 ∧ a ≤ 300
  · have z1 := (y1 z).2
    have z2 := y2 z
    have zY := ptl_Y (T := Tx (fun k => h 3 k) a) (L := M) (by rw [MO 1 0 (by omega)]; exact hw.1.1.1.1) (by rw [MO 0 4 (by omega)]; exact hw.1.1.2.1.1) 300 (sk (Tx (fun k => h 3 k) a) 0) (y0 h) WY9_y0
    generalize ptl (Tx (fun k => h 3 k) a) M 300 (sk (Tx (fun k => h 3 k) a) 0) (y0 h) = r at z1 z2 zY
    match r, z1, z2, zY with
    | .inl q, z1, z2, zY =>
      have z1 : v = -1 ∧ CF h1 q.1 q.2 ∧ h1 0 0 = 9 ∧ ∀ c k : Nat, 21 ≤ c → c ≤ 26 → h1 c k = h c k := z1
      have z2 : w = -1 ∧ h2 169 16 = q.1 ∧ h2 169 17 = (q.2 : Int) ∧ NmL h2 M := z2
      have e : ∀ k : Nat, k < 2112 → h2 170 k = h 170 k := fun k hk => (z2.2.2.2.2.2.2 k hk).trans (M9 k)
      exact ⟨z1.1.trans z2.1.symm, c5, hr.f4 hw.1.1 (fun k _ hk _ => e k (by omega)) nG, ht.kp rfl rfl (fun c k q1 q2 => (fb c k (by omega)).trans (z1.2.2.2 c k (by omega) (by omega))) (fun k hk => e _ (by omega)), fun k _ hk => e k hk⟩
    | .inr q, z1, z2, zY =>
      have z1 : v = q.2 43 1 ∧ (h1 2 10 = 0 ∧ h1 2 11 = -1) ∧ CS 21 h1 q.2 ∧ WT q.2 ∧ q.2 50 4 = 0 ∧ h1 0 0 = 0 := z1
      have z2 : w = q.2 43 1 ∧ h2 169 16 = 0 ∧ h2 169 17 = -1 ∧ RTl 0 h2 q.2 ∧ (∀ k : Nat, k < 2112 → k ≠ 4 → ¬ (164 ≤ k ∧ k < 524) → h2 170 k = M 99 k) ∧ ∀ k : Nat, k < 15 → True := z2
      obtain ⟨x1, x2, x3, x4⟩ := z1.2.2.1
      have e : ∀ k : Nat, k < 2112 → k ≠ 4 → ¬ (164 ≤ k ∧ k < 524) → h2 170 k = h 170 k := fun k q1 q2 q3 => (z2.2.2.2.2.1 k q1 q2 q3).trans (M9 k)
      exact ⟨z1.1.trans z2.1.symm, c5, hr.f4 hw.1.1 (fun k _ hk q => e k (by omega) (by omega) (by omega)) nG, Or.inr ⟨q.2, ⟨by rw [fb 21 0 (by omega)]; exact x1, by rw [fb 21 1 (by omega)]; exact x2, by rw [fb 21 2 (by omega)]; exact x3, fun i k hi hk => by rw [fb _ k (by omega)]; exact x4 i k hi hk⟩, z2.2.2.2.1, (zY q rfl).1.lc (MO 1 0 (by omega)).symm (MO 0 4 (by omega)).symm, z1.2.2.2.1, z1.2.2.2.2.1⟩, fun k q1 q2 => e k q2 (by omega) (by omega)⟩
  · obtain ⟨z1, z2⟩ := n1 z
    obtain ⟨z3, z4⟩ := n2 z
    have e : ∀ k : Nat, h2 170 k = h 170 k := fun k => by rw [z4, z1, up_ne (by omega), up_ne (by omega)]
    exact ⟨z2.trans z3.symm, c5, hr.f4 hw.1.1 (fun k _ _ _ => e k) nG, ht.kp rfl rfl (fun c k q1 q2 => by rw [z4, z1, up_ne (by omega), up_ne (by omega)]) (fun k _ => e _), fun k _ _ => e k⟩
end TL
