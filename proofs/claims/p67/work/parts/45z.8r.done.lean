/-! what is done: the same in both -/
section NS
variable {L : PH}
theorem soM_o {p b j k : Nat} (hj : j = 9 ∨ j = 10) : soM L p b j k = L j k := by
  unfold soM
  split
  · split
    · rw [owe_o (by omega) (by omega), owe_o (by omega) (by omega)]
    · rw [owe_o (by omega) (by omega)]
  · split
    · split
      · rfl
      · rw [up_ne (by omega)]
    · split
      · rw [owe_o (by omega) (by omega)]
      · rfl
theorem haL_o {p j k : Nat} (hj : j = 9 ∨ j = 10) : haL L p j k = L j k := by
  unfold haL
  by_cases c1 : bB (L 0 7) p = true ∧ 0 < L 8 p
  · rw [if_pos c1]
    by_cases c2 : amL L p (L 0 4).toNat = -1
    · rw [if_pos c2]
    · rw [if_neg c2]
      by_cases c3 : L 11 (amL L p (L 0 4).toNat).toNat = L 11 p
      · rw [if_pos c3]; unfold soL; rw [soM_o hj, up_ne (by omega)]
      · rw [if_neg c3, up_ne (by omega)]
  · rw [if_neg c1]
theorem niL_o {j k : Nat} (hj : j = 9 ∨ j = 10) : ∀ p : Nat, niL L p j k = L j k
  | 0 => up_ne (by omega)
  | p + 1 => (haL_o hj).trans (niL_o hj p)
theorem nsL_o {j k : Nat} (hj : j = 9 ∨ j = 10) : ∀ n : Nat, nsL L n j k = L j k
  | 0 => rfl
  | n + 1 => (niL_o hj _).trans (nsL_o hj n)
end NS
section PR8
variable {sl : Nat} {si : Nat → Int} {h h1 h2 : PH} {a b c d e v w : Int}

theorem pr_salt8 (hJ : J8 h) (hb : b = 0 ∨ b = 1) (p1 : CP (zz sl si (7, 0)) mX11_salt h [(2, 0), (0, a), (0, b)] h1 [(0, v)]) (p2 : CP (zz sl si (7, 0)) mX12_salt h1 [(2, 169), (0, a), (0, b)] h2 [(0, w)]) : J8 h2 ∧ v = w := by
  obtain ⟨L, l⟩ := hJ.2.2.1
  obtain ⟨n, y, g⟩ := c_X11_saltL l.1 l.2.1 hb p1
  obtain ⟨n', y', g'⟩ := c_X12_saltL (l.n9 g) l.2.1 hb p2
  by_cases r : (0 ≤ a ∧ a < L 1 0)
  · obtain ⟨ya, yb⟩ := y r
    obtain ⟨za, zb⟩ := y' r
    by_cases q : (bB (L 1 1) a.toNat = true ↔ b = 1)
    · exact ⟨op8 hJ l g g' (ya q).2 l.2.1 (za q).2 rfl rfl (fun _ => rfl) (fun _ => rfl), (ya q).1.trans (za q).1.symm⟩
    · obtain ⟨q1, M, m1, m2, m3⟩ := yb q
      exact ⟨op8 hJ l g g' m1 m2 ((zb q).2.t m3) ((m3 1 0 (by omega) (by omega)).trans (fl_o (by omega))) ((m3 0 4 (by omega) (by omega)).trans (fl_o (by omega))) (fun k => (m3 9 k (by omega) (by omega)).trans (fl_o (by omega))) (fun k => (m3 10 k (by omega) (by omega)).trans (fl_o (by omega))), q1.trans (zb q).1.symm⟩
  · exact ⟨op8 hJ l g g' (n r).2 l.2.1 (n' r).2 rfl rfl (fun _ => rfl) (fun _ => rfl), (n r).1.trans (n' r).1.symm⟩
theorem pr_keep8 (hJ : J8 h) (hb : b = 0 ∨ b = 1) (p1 : CP (zz sl si (7, 0)) mX11_keep h [(2, 0), (0, a), (0, b)] h1 [(0, v)]) (p2 : CP (zz sl si (7, 0)) mX12_keep h1 [(2, 169), (0, a), (0, b)] h2 [(0, w)]) : J8 h2 ∧ v = w := by
  obtain ⟨L, l⟩ := hJ.2.2.1
  obtain ⟨n, y, g⟩ := c_X11_keepL l.1 l.2.1 hb p1
  obtain ⟨n', y', g'⟩ := c_X12_keepL (l.n9 g) l.2.1 hb p2
  by_cases r : (0 ≤ a ∧ a < L 0 4)
  · obtain ⟨ya, yb⟩ := y r
    obtain ⟨za, zb⟩ := y' r
    by_cases q : (bB (L 0 9) a.toNat = true ↔ b = 1)
    · exact ⟨op8 hJ l g g' (ya q).2 l.2.1 (za q).2 rfl rfl (fun _ => rfl) (fun _ => rfl), (ya q).1.trans (za q).1.symm⟩
    · exact ⟨op8 hJ l g g' (yb q).2 (l.2.1.fk r.1 r.2) (zb q).2 (fl_o (by omega)) (fl_o (by omega)) (fun k => fl_o (by omega)) (fun k => fl_o (by omega)), (yb q).1.trans (zb q).1.symm⟩
  · exact ⟨op8 hJ l g g' (n r).2 l.2.1 (n' r).2 rfl rfl (fun _ => rfl) (fun _ => rfl), (n r).1.trans (n' r).1.symm⟩
theorem pr_wall8 (hJ : J8 h) (hb : c = 0 ∨ c = 1) (p1 : CP (zz sl si (7, 0)) mX11_wall h [(2, 0), (0, a), (0, b), (0, c)] h1 [(0, v)]) (p2 : CP (zz sl si (7, 0)) mX12_wall h1 [(2, 169), (0, a), (0, b), (0, c)] h2 [(0, w)]) : J8 h2 ∧ v = w := by
  obtain ⟨L, l⟩ := hJ.2.2.1
  obtain ⟨n, y, g⟩ := c_X11_wallL l.1 l.2.1 hb p1
  obtain ⟨n', y', g'⟩ := c_X12_wallL (l.n9 g) l.2.1 hb p2
  by_cases r : (0 ≤ a ∧ a < L 1 0 ∧ 0 ≤ b ∧ b < L 1 0 ∧ a ≠ b)
  · obtain ⟨ya, yb⟩ := y r
    obtain ⟨za, zb⟩ := y' r
    by_cases q : (bB (L 2 a.toNat) b.toNat = true ↔ c = 1)
    · exact ⟨op8 hJ l g g' (ya q).2 l.2.1 (za q).2 rfl rfl (fun _ => rfl) (fun _ => rfl), (ya q).1.trans (za q).1.symm⟩
    · obtain ⟨q1, M, m1, m2, m3⟩ := yb q
      exact ⟨op8 hJ l g g' m1 m2 ((zb q).2.t m3) ((m3 1 0 (by omega) (by omega)).trans (wa_o (by omega))) ((m3 0 4 (by omega) (by omega)).trans (wa_o (by omega))) (fun k => (m3 9 k (by omega) (by omega)).trans (wa_o (by omega))) (fun k => (m3 10 k (by omega) (by omega)).trans (wa_o (by omega))), q1.trans (zb q).1.symm⟩
  · exact ⟨op8 hJ l g g' (n r).2 l.2.1 (n' r).2 rfl rfl (fun _ => rfl) (fun _ => rfl), (n r).1.trans (n' r).1.symm⟩
theorem pr_move8 (hJ : J8 h) (p1 : CP (zz sl si (7, 0)) mX11_move h [(2, 0), (0, a), (0, b)] h1 [(0, v)]) (p2 : CP (zz sl si (7, 0)) mX12_move h1 [(2, 169), (0, a), (0, b)] h2 [(0, w)]) : J8 h2 ∧ v = w := by
  obtain ⟨L, l⟩ := hJ.2.2.1
  obtain ⟨n, y, g⟩ := c_X11_moveL l.1 l.2.1 p1
  obtain ⟨n', y', g'⟩ := c_X12_moveL (l.n9 g) l.2.1 p2
  by_cases r : ((0 ≤ a ∧ a < L 0 4) ∧ 0 ≤ b ∧ b < L 1 0)
  · obtain ⟨ya, yb⟩ := y r
    obtain ⟨za, zb⟩ := y' r
    by_cases q : (bB (L 0 7) a.toNat = true ∨ L 11 a.toNat = b)
    · exact ⟨op8 hJ l g g' (ya q).2 l.2.1 (za q).2 rfl rfl (fun _ => rfl) (fun _ => rfl), (ya q).1.trans (za q).1.symm⟩
    · exact ⟨op8 hJ l g g' (yb q).2 (l.2.1.mv r.2) (zb q).2 (mv_o (by omega)) (mv_o (by omega)) (fun k => mv_o (by omega)) (fun k => mv_o (by omega)), (yb q).1.trans (zb q).1.symm⟩
  · exact ⟨op8 hJ l g g' (n r).2 l.2.1 (n' r).2 rfl rfl (fun _ => rfl) (fun _ => rfl), (n r).1.trans (n' r).1.symm⟩
theorem pr_night8 (hJ : J8 h) (hB : BdR h1) (hD : BdD h1) (p1 : CP (zz sl si (7, 0)) mX11_night h [(2, 0), (0, a)] h1 [(0, v)]) (p2 : CP (zz sl si (7, 0)) mX12_night h1 [(2, 169), (0, a)] h2 [(0, w)]) : J8 h2 ∧ v = w := by
  obtain ⟨L, l⟩ := hJ.2.2.1
  obtain ⟨n, y, g⟩ := c_X11_nightL l.1 l.2.1 p1
  obtain ⟨n', y', g'⟩ := c_X12_nightL (l.n9 g) l.2.1 hB hD p2
  by_cases r : (1 ≤ a ∧ a ≤ 99)
  · obtain ⟨ya, yb⟩ := y r
    obtain ⟨za, zb⟩ := y' r
    by_cases q : (9999 < w32 (L 0 12 + a))
    · exact ⟨op8 hJ l g g' (ya q).2 l.2.1 (za q).2 rfl rfl (fun _ => rfl) (fun _ => rfl), (ya q).1.trans (za q).1.symm⟩
    · have nw := nsL_w l.2.1.1 a.toNat
      exact ⟨op8 hJ l g g' (yb q).2 (nsL_w10 l.2.1 a.toNat) (zb q).2 nw.2.2 nw.2.1 (fun k => nsL_o (by omega) _) (fun k => nsL_o (by omega) _), (yb q).1.trans (zb q).1.symm⟩
  · exact ⟨op8 hJ l g g' (n r).2 l.2.1 (n' r).2 rfl rfl (fun _ => rfl) (fun _ => rfl), (n r).1.trans (n' r).1.symm⟩
theorem pr_die8 (hJ : J8 h) (hB : BdR h1) (hD : BdD h1) (hH : BdH h1) (p1 : CP (zz sl si (7, 0)) mX11_die h [(2, 0), (0, a)] h1 [(0, v)]) (p2 : CP (zz sl si (7, 0)) mX12_die h1 [(2, 169), (0, a)] h2 [(0, w)]) : J8 h2 ∧ v = w := by
  obtain ⟨L, l⟩ := hJ.2.2.1
  obtain ⟨n, y, g⟩ := c_X11_dieL l.1 l.2.1 p1
  obtain ⟨n', y', g'⟩ := c_X12_dieL (l.n9 g) l.2.1 hB hD hH p2
  by_cases r : (0 ≤ a ∧ a < L 0 4)
  · obtain ⟨ya, yb⟩ := y r
    obtain ⟨za, zb⟩ := y' r
    by_cases q : (bB (L 0 7) a.toNat = true)
    · exact ⟨op8 hJ l g g' (ya q).2 l.2.1 (za q).2 rfl rfl (fun _ => rfl) (fun _ => rfl), (ya q).1.trans (za q).1.symm⟩
    · obtain ⟨M, m1, m2, m3, m4⟩ := yb q
      obtain ⟨z1, z2⟩ := zb q M m2 m3
      have o : ∀ j k : Nat, ¬ (j = 0 ∧ k = 7) → j ≠ 7 → j ≠ 8 → M j k = L j k := fun j k q q7 q8 => (m3.2.1 j k q7 q8).trans (up_ne (by omega))
      exact ⟨op8 hJ l g g' m1 m2 z1 (o 1 0 (by omega) (by omega) (by omega)) (o 0 4 (by omega) (by omega) (by omega)) (fun k => o 9 k (by omega) (by omega) (by omega)) (fun k => o 10 k (by omega) (by omega) (by omega)), m4.trans z2.symm⟩
  · exact ⟨op8 hJ l g g' (n r).2 l.2.1 (n' r).2 rfl rfl (fun _ => rfl) (fun _ => rfl), (n r).1.trans (n' r).1.symm⟩
theorem pr_forgive8 (hJ : J8 h) (p1 : CP (zz sl si (7, 0)) mX11_forgive h [(2, 0), (0, a), (0, b)] h1 [(0, v)]) (p2 : CP (zz sl si (7, 0)) mX12_forgive h1 [(2, 169), (0, a), (0, b)] h2 [(0, w)]) : J8 h2 ∧ v = w := by
  obtain ⟨L, l⟩ := hJ.2.2.1
  obtain ⟨n, y, g⟩ := c_X11_forgiveL l.1 l.2.1 p1
  obtain ⟨n', y', g'⟩ := c_X12_forgiveL (l.n9 g) l.2.1 p2
  by_cases r : ((0 ≤ a ∧ a < L 0 4) ∧ (0 ≤ b ∧ b < L 0 4) ∧ a ≠ b)
  · obtain ⟨ya, yb⟩ := y r
    obtain ⟨za, zb⟩ := y' r
    by_cases q : (bB (L 0 7) a.toNat = true ∨ L 7 (8 * b.toNat + a.toNat) = 0)
    · exact ⟨op8 hJ l g g' (ya q).2 l.2.1 (za q).2 rfl rfl (fun _ => rfl) (fun _ => rfl), (ya q).1.trans (za q).1.symm⟩
    · exact ⟨op8 hJ l g g' (yb q).2 (l.2.1.ow r.2.1 r.1 (Or.inr rfl) (by omega)) (zb q).2 (owe_o (by omega) (by omega)) (owe_o (by omega) (by omega)) (fun k => owe_o (by omega) (by omega)) (fun k => owe_o (by omega) (by omega)), (yb q).1.trans (zb q).1.symm⟩
  · exact ⟨op8 hJ l g g' (n r).2 l.2.1 (n' r).2 rfl rfl (fun _ => rfl) (fun _ => rfl), (n r).1.trans (n' r).1.symm⟩
theorem pr_forge8 (hJ : J8 h) (p1 : CP (zz sl si (7, 0)) mX11_forge h [(2, 0), (0, a), (0, b), (0, c)] h1 [(0, v)]) (p2 : CP (zz sl si (7, 0)) mX12_forge h1 [(2, 169), (0, a), (0, b), (0, c)] h2 [(0, w)]) : J8 h2 ∧ v = w := by
  obtain ⟨L, l⟩ := hJ.2.2.1
  obtain ⟨n, y, g⟩ := c_X11_forgeL l.1 l.2.1 p1
  obtain ⟨n', y', g'⟩ := c_X12_forgeL (l.n9 g) l.2.1 p2
  by_cases r : (((0 ≤ a ∧ a < L 0 4) ∧ (0 ≤ b ∧ b < L 0 4) ∧ a ≠ b) ∧ 1 ≤ c ∧ c ≤ 99)
  · obtain ⟨ya, yb⟩ := y r
    obtain ⟨za, zb⟩ := y' r
    by_cases q : (¬ bB (L 0 7) a.toNat = true ∨ bB (L 0 7) b.toNat = true)
    · exact ⟨op8 hJ l g g' (ya q).2 l.2.1 (za q).2 rfl rfl (fun _ => rfl) (fun _ => rfl), (ya q).1.trans (za q).1.symm⟩
    · have h8 := l.2.1.1.1.2.1
      have o7 := l.2.1.1.1.2.2.2.2.1 (8 * a.toNat + b.toNat) (by omega)
      exact ⟨op8 hJ l g g' (yb q).2 (l.2.1.ow r.1.1 r.1.2.1 (Or.inl r.1.2.2) (cap9_b (by omega))) (zb q).2 (owe_o (by omega) (by omega)) (owe_o (by omega) (by omega)) (fun k => owe_o (by omega) (by omega)) (fun k => owe_o (by omega) (by omega)), (yb q).1.trans (zb q).1.symm⟩
  · exact ⟨op8 hJ l g g' (n r).2 l.2.1 (n' r).2 rfl rfl (fun _ => rfl) (fun _ => rfl), (n r).1.trans (n' r).1.symm⟩
end PR8
