section
/-! 45z.8a.die -/
/-! DIE on a LAND -/
def hrL (L : PH) (p k : Nat) : Nat := (L 13 (3 * p + k)).toNat
def okL (L : PH) (p d k : Nat) : Prop := ¬ bB (L 0 7) (hrL L p k) = true ∧ hrL L p k ≠ d
noncomputable def cnL (L : PH) (p d : Nat) : Nat → Int
  | 0 => 0
  | k + 1 => cnL L p d k + cif (okL L p d k) 1 0
noncomputable def hsL (L : PH) (p d : Nat) : Nat → Int
  | 0 => 0
  | k + 1 => cif (okL L p d k) (zor (hsL L p d k) (zshl 1 (L 13 (3 * p + k)))) (hsL L p d k)
noncomputable def shL (L : PH) (p d k : Nat) : Int := if cnL L p d k = 0 then L 7 (8 * d + p) - (cnL L p d (L 14 p).toNat - 1) * zdiv (L 7 (8 * d + p)) 3 else zdiv (L 7 (8 * d + p)) 3
/-- the heirs of a person are apart -/
def DsL (L : PH) : Prop := ∀ p j k : Nat, p < 8 → j < k → (k : Int) < L 14 p → hrL L p j ≠ hrL L p k
theorem cn_b {L : PH} {p d : Nat} : ∀ k : Nat, 0 ≤ cnL L p d k ∧ cnL L p d k ≤ k
  | 0 => ⟨Int.le_refl 0, Int.le_refl 0⟩
  | k + 1 => by
    have i := cn_b (L := L) (p := p) (d := d) k
    have e : 0 ≤ cif (okL L p d k) 1 0 ∧ cif (okL L p d k) 1 0 ≤ 1 := by
      by_cases x : okL L p d k
      · rw [cif_p x]; omega
      · rw [cif_n x]; omega
    show 0 ≤ cnL L p d k + _ ∧ cnL L p d k + _ ≤ _
    omega
theorem cn_m {L : PH} {p d k : Nat} : ∀ j : Nat, cnL L p d k ≤ cnL L p d (k + j)
  | 0 => Int.le_refl _
  | j + 1 => by
    have i := cn_m (L := L) (p := p) (d := d) (k := k) j
    have e : 0 ≤ cif (okL L p d (k + j)) 1 0 := by
      by_cases x : okL L p d (k + j)
      · rw [cif_p x]; omega
      · rw [cif_n x]; omega
    show _ ≤ cnL L p d (k + j) + cif (okL L p d (k + j)) 1 0
    omega
theorem cn_z {L : PH} {p d : Nat} : ∀ k : Nat, (∀ j, j < k → ¬ okL L p d j) → cnL L p d k = 0
  | 0, _ => rfl
  | k + 1, h => by
    show cnL L p d k + cif (okL L p d k) 1 0 = 0
    rw [cn_z k (fun j hj => h j (by omega)), cif_n (h k (by omega))]
    omega
theorem cn_p {L : PH} {p d j k : Nat} (hj : j < k) (ho : okL L p d j) : 1 ≤ cnL L p d k := by
  have m := cn_m (L := L) (p := p) (d := d) (k := j + 1) (k - (j + 1))
  rw [show j + 1 + (k - (j + 1)) = k by omega] at m
  have e : cnL L p d (j + 1) = cnL L p d j + 1 := by
    show cnL L p d j + cif (okL L p d j) 1 0 = _
    rw [cif_p ho]
  have := (cn_b (L := L) (p := p) (d := d) j).1
  omega
/-- how many bits a set has -/
def bnS (v : Int) : Int := bt v 0 + bt v 1 + bt v 2 + bt v 3 + bt v 4 + bt v 5 + bt v 6 + bt v 7
theorem bn_or {s n : Int} (h0 : 0 ≤ s) (h1 : s < 256) (n0 : 0 ≤ n) (n1 : n < 8) (hn : ¬ bB s n.toNat = true) : (0 ≤ zor s (zshl 1 n) ∧ zor s (zshl 1 n) < 256) ∧ (∀ x : Nat, x < 8 → (bB (zor s (zshl 1 n)) x = true ↔ bB s x = true ∨ x = n.toNat)) ∧ bnS (zor s (zshl 1 n)) = bnS s + 1 := by
  obtain ⟨⟨a1, a2, -⟩, e⟩ := bt_or s.toNat (by omega) n.toNat (by omega)
  rw [Int.toNat_of_nonneg h0, Int.toNat_of_nonneg n0] at a1 a2 e
  have z : bt s n.toNat = 0 := by
    have := bt_bB s (i := n.toNat) (by omega)
    have q : bt s n.toNat = if bB s n.toNat then 1 else 0 := this
    rw [q, if_neg hn]
  refine ⟨⟨a1, a2⟩, fun x hx => ?_, ?_⟩
  · rw [← bt_1 hx, ← bt_1 hx]
    have ex : zand (zshr (zor s (zshl 1 n)) (x : Int)) 1 = if x = n.toNat then 1 else zand (zshr s (x : Int)) 1 := e x hx
    rw [ex]
    by_cases y : x = n.toNat
    · rw [if_pos y]; exact ⟨fun _ => Or.inr y, fun _ => rfl⟩
    · rw [if_neg y]; exact ⟨fun q => Or.inl q, fun q => q.elim id (fun w => absurd w y)⟩
  · unfold bnS
    rw [e 0 (by omega), e 1 (by omega), e 2 (by omega), e 3 (by omega), e 4 (by omega), e 5 (by omega), e 6 (by omega), e 7 (by omega)]
    rcases (show n.toNat = 0 ∨ n.toNat = 1 ∨ n.toNat = 2 ∨ n.toNat = 3 ∨ n.toNat = 4 ∨ n.toNat = 5 ∨ n.toNat = 6 ∨ n.toNat = 7 by omega) with q | q | q | q | q | q | q | q <;> rw [q] at z ⊢ <;> simp only [Nat.reduceEqDiff, reduceIte, if_true, if_false] <;> omega
theorem hs_b {L : PH} {p d : Nat} (hp : p < 8) (hD : DsL L) (hR : ∀ k : Nat, k < 3 → (k : Int) < L 14 p → 0 ≤ L 13 (3 * p + k) ∧ L 13 (3 * p + k) < 8) (h3 : L 14 p ≤ 3) : ∀ k : Nat, (k : Int) ≤ L 14 p → (0 ≤ hsL L p d k ∧ hsL L p d k < 256) ∧ (∀ x : Nat, x < 8 → (bB (hsL L p d k) x = true ↔ ∃ j, j < k ∧ okL L p d j ∧ hrL L p j = x)) ∧ bnS (hsL L p d k) = cnL L p d k
  | 0, _ => ⟨⟨Int.le_refl 0, by show (0 : Int) < 256; omega⟩, fun x hx => by
      show bB 0 x = true ↔ _
      rw [bB_0 (by omega)]
      exact ⟨fun q => Bool.noConfusion q, fun ⟨j, hj, _⟩ => absurd hj (by omega)⟩, by show bnS 0 = 0; decide⟩
  | k + 1, hk => by
    obtain ⟨⟨i1, i2⟩, i3, i4⟩ := hs_b (d := d) hp hD hR h3 k (by omega)
    obtain ⟨r1, r2⟩ := hR k (by omega) (by omega)
    by_cases o : okL L p d k
    · have e : hsL L p d (k + 1) = zor (hsL L p d k) (zshl 1 (L 13 (3 * p + k))) := cif_p o
      have ec : cnL L p d (k + 1) = cnL L p d k + 1 := by
        show cnL L p d k + cif (okL L p d k) 1 0 = _
        rw [cif_p o]
      have nb : ¬ bB (hsL L p d k) (L 13 (3 * p + k)).toNat = true := fun q => by
        obtain ⟨j, hj, -, y⟩ := (i3 _ (by omega)).mp q
        exact hD p j k hp hj (by omega) y
      obtain ⟨b1, b2, b3⟩ := bn_or i1 i2 r1 r2 nb
      rw [e, ec]
      refine ⟨b1, fun x hx => ?_, by rw [b3, i4]⟩
      rw [b2 x hx, i3 x hx]
      constructor
      · rintro (⟨j, hj, y⟩ | y)
        · exact ⟨j, by omega, y⟩
        · exact ⟨k, by omega, o, y.symm⟩
      · rintro ⟨j, hj, y1, y2⟩
        by_cases q : j = k
        · subst q; exact Or.inr y2.symm
        · exact Or.inl ⟨j, by omega, y1, y2⟩
    · have e : hsL L p d (k + 1) = hsL L p d k := cif_n o
      have ec : cnL L p d (k + 1) = cnL L p d k := by
        show cnL L p d k + cif (okL L p d k) 1 0 = _
        rw [cif_n o]; omega
      rw [e, ec]
      refine ⟨⟨i1, i2⟩, fun x hx => ?_, i4⟩
      rw [i3 x hx]
      constructor
      · rintro ⟨j, hj, y⟩; exact ⟨j, by omega, y⟩
      · rintro ⟨j, hj, y1, y2⟩
        by_cases q : j = k
        · subst q; exact absurd y1 o
        · exact ⟨j, by omega, y1, y2⟩
def bcZ (a : Int) : Int := zand (w32 ((w32 ((zand (w32 ((w32 ((zand (w32 (a - (zand (zush a 1) 1431655765))) 858993459) + (zand (zush (w32 (a - (zand (zush a 1) 1431655765))) 2) 858993459))) + (zush (w32 ((zand (w32 (a - (zand (zush a 1) 1431655765))) 858993459) + (zand (zush (w32 (a - (zand (zush a 1) 1431655765))) 2) 858993459))) 4))) 252645135) + (zush (zand (w32 ((w32 ((zand (w32 (a - (zand (zush a 1) 1431655765))) 858993459) + (zand (zush (w32 (a - (zand (zush a 1) 1431655765))) 2) 858993459))) + (zush (w32 ((zand (w32 (a - (zand (zush a 1) 1431655765))) 858993459) + (zand (zush (w32 (a - (zand (zush a 1) 1431655765))) 2) 858993459))) 4))) 252645135) 8))) + (zush (w32 ((zand (w32 ((w32 ((zand (w32 (a - (zand (zush a 1) 1431655765))) 858993459) + (zand (zush (w32 (a - (zand (zush a 1) 1431655765))) 2) 858993459))) + (zush (w32 ((zand (w32 (a - (zand (zush a 1) 1431655765))) 858993459) + (zand (zush (w32 (a - (zand (zush a 1) 1431655765))) 2) 858993459))) 4))) 252645135) + (zush (zand (w32 ((w32 ((zand (w32 (a - (zand (zush a 1) 1431655765))) 858993459) + (zand (zush (w32 (a - (zand (zush a 1) 1431655765))) 2) 858993459))) + (zush (w32 ((zand (w32 (a - (zand (zush a 1) 1431655765))) 858993459) + (zand (zush (w32 (a - (zand (zush a 1) 1431655765))) 2) 858993459))) 4))) 252645135) 8))) 16))) 63
theorem bc_d : ∀ s : Fin 256, bcZ (s.val : Int) = bnS (s.val : Int) := by decide +kernel
theorem bc_b {a : Int} (h0 : 0 ≤ a) (h1 : a < 256) : bcZ a = bnS a := by
  have z := bc_d ⟨a.toNat, by omega⟩
  have e : ((a.toNat : Nat) : Int) = a := by omega
  have z : bcZ ((a.toNat : Nat) : Int) = bnS ((a.toNat : Nat) : Int) := z
  rw [e] at z
  exact z
set_option maxRecDepth 10000 in
theorem v_J6_bitCountS {sl : Nat} {si : Nat → Int} {K : Nat → PH → ZL → List ZV → Prop} {Q : PH → List ZV → Prop} {h : PH} {a : Int} (H : Q h [(0, zand (w32 ((w32 ((zand (w32 ((w32 ((zand (w32 (a - (zand (zush a 1) 1431655765))) 858993459) + (zand (zush (w32 (a - (zand (zush a 1) 1431655765))) 2) 858993459))) + (zush (w32 ((zand (w32 (a - (zand (zush a 1) 1431655765))) 858993459) + (zand (zush (w32 (a - (zand (zush a 1) 1431655765))) 2) 858993459))) 4))) 252645135) + (zush (zand (w32 ((w32 ((zand (w32 (a - (zand (zush a 1) 1431655765))) 858993459) + (zand (zush (w32 (a - (zand (zush a 1) 1431655765))) 2) 858993459))) + (zush (w32 ((zand (w32 (a - (zand (zush a 1) 1431655765))) 858993459) + (zand (zush (w32 (a - (zand (zush a 1) 1431655765))) 2) 858993459))) 4))) 252645135) 8))) + (zush (w32 ((zand (w32 ((w32 ((zand (w32 (a - (zand (zush a 1) 1431655765))) 858993459) + (zand (zush (w32 (a - (zand (zush a 1) 1431655765))) 2) 858993459))) + (zush (w32 ((zand (w32 (a - (zand (zush a 1) 1431655765))) 858993459) + (zand (zush (w32 (a - (zand (zush a 1) 1431655765))) 2) 858993459))) 4))) 252645135) + (zush (zand (w32 ((w32 ((zand (w32 (a - (zand (zush a 1) 1431655765))) 858993459) + (zand (zush (w32 (a - (zand (zush a 1) 1431655765))) 2) 858993459))) + (zush (w32 ((zand (w32 (a - (zand (zush a 1) 1431655765))) 858993459) + (zand (zush (w32 (a - (zand (zush a 1) 1431655765))) 2) 858993459))) 4))) 252645135) 8))) 16))) 63)]) : vc (zz sl si (7, 0)) (fun _ => false) K Q mJ6_bitCount_0f7a4 44 0 mJ6_bitCount_0f7a4.2.2.2.2.2.2 h [(0, (0, a))] [] := H
set_option maxRecDepth 100000 in
set_option maxHeartbeats 600000 in
theorem c_J6_bitCountS {sl : Nat} {si : Nat → Int} {h h' : PH} {a : Int} {v : Int} (h0 : 0 ≤ a) (h1 : a < 256) (hc : CP (zz sl si (7, 0)) mJ6_bitCount_0f7a4 h [(0, a)] h' [(0, v)]) : h' = h ∧ v = bnS a := by
  have q : (fun (xh : PH) (r : List ZV) => ∀ v : Int, r = [(0, v)] → (xh = h ∧ v = bnS a)) h' [(0, v)] := by
    refine cp_vc (cut := (fun _ => false)) (K := fun p hx lv st => False) (Q := fun (xh : PH) (r : List ZV) => ∀ v : Int, r = [(0, v)] → (xh = h ∧ v = bnS a)) (v_J6_bitCountS ?_) (fun pc hx lv st hcut hK => ?_) hc
    · exact (by intro v e; cases e; exact ⟨rfl, bc_b h0 h1⟩)
    · exact hK.elim
  exact q v rfl
set_option maxRecDepth 10000 in
theorem v_X1_heirSet5 {sl : Nat} {si : Nat → Int} {K : Nat → PH → ZL → List ZV → Prop} {Q : PH → List ZV → Prop} {h : PH}  {a b : Int} (H : K 5 h [(4, (0, 0)), (3, (0, 0)), (0, (2, 5)), (1, (0, a)), (2, (0, b))] []) : vc (zz sl si (7, 0)) (fun p => Nat.beq p 5) K Q mX1_heirSet 6 0 mX1_heirSet.2.2.2.2.2.2 h [(0, (2, 5)), (1, (0, a)), (2, (0, b))] [] := H
set_option maxRecDepth 10000 in
theorem v_X1_heirSet5_5 {sl : Nat} {si : Nat → Int} {K : Nat → PH → ZL → List ZV → Prop} {Q : PH → List ZV → Prop} {h : PH}  {a b : Int} {s k : Int} (H : 0 ≤ b ∧ b < (8 : Nat) → R32 (h 19 b.toNat) → ((h 19 b.toNat) ≤ k → Q h [(0, s)]) ∧ (¬ ((h 19 b.toNat) ≤ k) → 0 ≤ w32 ((w32 (b * 3)) + k) ∧ w32 ((w32 (b * 3)) + k) < (24 : Nat) → R32 (h 18 (w32 ((w32 (b * 3)) + k)).toNat) → ((h 18 (w32 ((w32 (b * 3)) + k)).toNat) = a → K 5 h [(4, (0, w32 (k + 1))), (5, (0, (h 18 (w32 ((w32 (b * 3)) + k)).toNat))), (0, (2, 5)), (1, (0, a)), (2, (0, b)), (3, (0, s))] []) ∧ (¬ ((h 18 (w32 ((w32 (b * 3)) + k)).toNat) = a) → R32 (h 5 7) → ∀ h1 v1, CP (zz sl si (7, 0)) mX11_has h [(0, (h 5 7)), (0, (h 18 (w32 ((w32 (b * 3)) + k)).toNat))] h1 [(0, v1)] → v1 = 0 ∨ v1 = 1 → (v1 ≠ 0 → K 5 h1 [(4, (0, w32 (k + 1))), (5, (0, (h 18 (w32 ((w32 (b * 3)) + k)).toNat))), (0, (2, 5)), (1, (0, a)), (2, (0, b)), (3, (0, s))] []) ∧ (¬ (v1 ≠ 0) → K 5 h1 [(4, (0, w32 (k + 1))), (3, (0, zor s (zshl 1 (h 18 (w32 ((w32 (b * 3)) + k)).toNat)))), (5, (0, (h 18 (w32 ((w32 (b * 3)) + k)).toNat))), (0, (2, 5)), (1, (0, a)), (2, (0, b))] [])))) : vc (zz sl si (7, 0)) (fun p => Nat.beq p 5) K Q mX1_heirSet 33 5 (ax_jmp mX1_heirSet.2.2.2.2.2.2 5) h [(0, (2, 5)), (1, (0, a)), (2, (0, b)), (3, (0, s)), (4, (0, k))] [] := H
set_option maxHeartbeats 600000 in
theorem c_X1_heirSet5 {sl : Nat} {si : Nat → Int} {h h' : PH} {L : PH} {a b : Int} {v : Int} (hL : CL 5 h L) (hw : W9 L) (ha : 0 ≤ a ∧ a < 8) (hb : 0 ≤ b ∧ b < 8) (hc : CP (zz sl si (7, 0)) mX1_heirSet h [(2, 5), (0, a), (0, b)] h' [(0, v)]) : h' = h ∧ v = hsL L b.toNat a.toNat (L 14 b.toNat).toNat := by
  have q : (fun (xh : PH) (r : List ZV) => ∀ v : Int, r = [(0, v)] → (xh = h ∧ v = hsL L b.toNat a.toNat (L 14 b.toNat).toNat)) h' [(0, v)] := by
    refine cp_vc (cut := (fun p => Nat.beq p 5)) (K := fun p hx lv st => (p = 5 ∧ lK (fun u : Nat => [(0, (2, 5)), (1, (0, a)), (2, (0, b)), (3, (0, hsL L b.toNat a.toNat u)), (4, (0, (u : Int)))]) (fun u hx => (u : Int) ≤ L 14 b.toNat ∧ hx = h) p hx lv st)) (Q := fun (xh : PH) (r : List ZV) => ∀ v : Int, r = [(0, v)] → (xh = h ∧ v = hsL L b.toNat a.toNat (L 14 b.toNat).toNat)) (v_X1_heirSet5 ?_) (fun pc hx lv st hcut hK => ?_) hc
    · exact (by have h3 := hw.1.2.2.1 b.toNat (by omega); exact ⟨rfl, rfl, 0, ⟨by omega, rfl⟩, rfl, rfl, rfl, rfl, rfl, trivial⟩)
    · rcases hK with ⟨rfl, rfl, u, hJ, hs⟩
      · obtain ⟨j1, j2⟩ := hJ
        subst j2
        exact ⟨_, _, hs, v_X1_heirSet5_5 (fun b1 r2 => ⟨fun c3 => (by have h8 := hw.1.2.1; have h3 := hw.1.2.2.1 b.toNat (by omega); have k14 : hx 19 b.toNat = L 14 b.toNat := hL 14 _ (il14 (by omega)); rw [k14] at c3; intro v e; cases e; have eu : (L 14 b.toNat).toNat = u := (by omega); exact ⟨rfl, by rw [eu]⟩), fun c3 => (fun b4 r5 => ⟨fun c6 => (by have h8 := hw.1.2.1; have h3 := hw.1.2.2.1 b.toNat (by omega); have k14 : hx 19 b.toNat = L 14 b.toNat := hL 14 _ (il14 (by omega)); rw [k14] at c3; have i3 : (w32 ((w32 (b * 3)) + (u : Int))).toNat = 3 * b.toNat + u := (by rw [w32_id (z := b * 3) (by omega) (by omega), w32_id (by omega) (by omega)]; omega); have k13 : hx 18 (3 * b.toNat + u) = L 13 (3 * b.toNat + u) := hL 13 _ (il13 (by omega)); have r13 := hw.2.2.2.2.1 b.toNat u (by omega) (by omega) (by omega); rw [i3, k13] at c6; have no : hsL L b.toNat a.toNat (u + 1) = hsL L b.toNat a.toNat u := cif_n (fun z => z.2 (by unfold hrL; omega)); exact ⟨rfl, rfl, u + 1, ⟨by omega, rfl⟩, rfl, rfl, rfl, (by rw [no]; rfl), wv (by omega) (by omega) (by omega), trivial⟩), fun c6 => (fun r7 => (fun h1 v1 p1 q1 => by obtain ⟨t1, e1⟩ := c_X11_hasB p1; have t1 := t1.symm; subst t1; exact ⟨fun c8 => (by have h8 := hw.1.2.1; have h3 := hw.1.2.2.1 b.toNat (by omega); have k14 : hx 19 b.toNat = L 14 b.toNat := hL 14 _ (il14 (by omega)); rw [k14] at c3; have i3 : (w32 ((w32 (b * 3)) + (u : Int))).toNat = 3 * b.toNat + u := (by rw [w32_id (z := b * 3) (by omega) (by omega), w32_id (by omega) (by omega)]; omega); have k13 : hx 18 (3 * b.toNat + u) = L 13 (3 * b.toNat + u) := hL 13 _ (il13 (by omega)); have r13 := hw.2.2.2.2.1 b.toNat u (by omega) (by omega) (by omega); rw [i3, k13] at c6 e1; have k07 : hx 5 7 = L 0 7 := hL 0 7 (Or.inl ⟨rfl, Or.inr (Or.inl rfl)⟩); rw [k07, bt_z (by omega) (by omega)] at e1; have no : hsL L b.toNat a.toNat (u + 1) = hsL L b.toNat a.toNat u := cif_n (fun z => z.1 (by unfold hrL; exact e1.mp (by omega))); exact ⟨rfl, rfl, u + 1, ⟨by omega, rfl⟩, rfl, rfl, rfl, (by rw [no]; rfl), wv (by omega) (by omega) (by omega), trivial⟩), fun c8 => (by have h8 := hw.1.2.1; have h3 := hw.1.2.2.1 b.toNat (by omega); have k14 : hx 19 b.toNat = L 14 b.toNat := hL 14 _ (il14 (by omega)); rw [k14] at c3; have i3 : (w32 ((w32 (b * 3)) + (u : Int))).toNat = 3 * b.toNat + u := (by rw [w32_id (z := b * 3) (by omega) (by omega), w32_id (by omega) (by omega)]; omega); have k13 : hx 18 (3 * b.toNat + u) = L 13 (3 * b.toNat + u) := hL 13 _ (il13 (by omega)); have r13 := hw.2.2.2.2.1 b.toNat u (by omega) (by omega) (by omega); rw [i3, k13] at c6 e1 ⊢; have k07 : hx 5 7 = L 0 7 := hL 0 7 (Or.inl ⟨rfl, Or.inr (Or.inl rfl)⟩); rw [k07, bt_z (by omega) (by omega)] at e1; have yo : hsL L b.toNat a.toNat (u + 1) = zor (hsL L b.toNat a.toNat u) (zshl 1 (L 13 (3 * b.toNat + u))) := cif_p ⟨fun z => by have := e1.mpr z; omega, fun z => c6 (by unfold hrL at z; omega)⟩; exact ⟨rfl, rfl, u + 1, ⟨by omega, rfl⟩, rfl, rfl, rfl, (by rw [yo]; rfl), wv (by omega) (by omega) (by omega), trivial⟩)⟩))⟩)⟩)⟩
  exact q v rfl
set_option maxRecDepth 10000 in
theorem v_X1_shareOf5 {sl : Nat} {si : Nat → Int} {K : Nat → PH → ZL → List ZV → Prop} {Q : PH → List ZV → Prop} {h : PH}  {a b c d : Int}  (H : ∀ h1 v1, CP (zz sl si (7, 0)) mX0_of h [(2, 11), (0, a), (0, b)] h1 [(0, v1)] → R32 v1 → (3 : Int) ≠ 0 → K 20 h1 [(7, (0, 0)), (6, (0, zdiv v1 3)), (5, (0, v1)), (0, (2, 5)), (1, (0, a)), (2, (0, b)), (3, (0, c)), (4, (0, d))] []) : vc (zz sl si (7, 0)) (fun p => Nat.beq p 20) K Q mX1_shareOf 14 0 mX1_shareOf.2.2.2.2.2.2 h [(0, (2, 5)), (1, (0, a)), (2, (0, b)), (3, (0, c)), (4, (0, d))] [] := H
set_option maxRecDepth 10000 in
theorem v_X1_shareOf5_20 {sl : Nat} {si : Nat → Int} {K : Nat → PH → ZL → List ZV → Prop} {Q : PH → List ZV → Prop} {h : PH}  {a b c d : Int}  {m t k : Int} (H : 0 ≤ b ∧ b < (8 : Nat) → R32 (h 19 b.toNat) → ((h 19 b.toNat) ≤ k → Q h [(0, 0)]) ∧ (¬ ((h 19 b.toNat) ≤ k) → 0 ≤ w32 ((w32 (b * 3)) + k) ∧ w32 ((w32 (b * 3)) + k) < (24 : Nat) → R32 (h 18 (w32 ((w32 (b * 3)) + k)).toNat) → ∀ h1 v1, CP (zz sl si (7, 0)) mX11_has h [(0, d), (0, (h 18 (w32 ((w32 (b * 3)) + k)).toNat))] h1 [(0, v1)] → v1 = 0 ∨ v1 = 1 → (v1 = 0 → K 20 h1 [(7, (0, w32 (k + 1))), (8, (0, (h 18 (w32 ((w32 (b * 3)) + k)).toNat))), (0, (2, 5)), (1, (0, a)), (2, (0, b)), (3, (0, c)), (4, (0, d)), (5, (0, m)), (6, (0, t))] []) ∧ (¬ (v1 = 0) → ((h 18 (w32 ((w32 (b * 3)) + k)).toNat) ≠ c → Q h1 [(0, t)]) ∧ (¬ ((h 18 (w32 ((w32 (b * 3)) + k)).toNat) ≠ c) → ∀ h2 v2, CP (zz sl si (7, 0)) mJ6_bitCount_0f7a4 h1 [(0, d)] h2 [(0, v2)] → R32 v2 → Q h2 [(0, w32 (m - (w32 (t * (w32 (v2 - 1))))))])))) : vc (zz sl si (7, 0)) (fun p => Nat.beq p 20) K Q mX1_shareOf 34 20 (ax_jmp mX1_shareOf.2.2.2.2.2.2 20) h [(0, (2, 5)), (1, (0, a)), (2, (0, b)), (3, (0, c)), (4, (0, d)), (5, (0, m)), (6, (0, t)), (7, (0, k))] [] := H
set_option maxHeartbeats 600000 in
theorem c_X1_shareOf5 {sl : Nat} {si : Nat → Int} {h h' : PH} {L : PH} {a b c d : Int} {n : Nat} {v : Int} (hL : CL 5 h L) (hw : W9 L) (hD : DsL L) (ha : 0 ≤ a ∧ a < 8) (hb : 0 ≤ b ∧ b < 8) (hc0 : 0 ≤ c) (hset : d = hsL L b.toNat a.toNat (L 14 b.toNat).toNat) (hn : (n : Int) < L 14 b.toNat) (ho : okL L b.toNat a.toNat n) (he : L 13 (3 * b.toNat + n) = c) (hc : CP (zz sl si (7, 0)) mX1_shareOf h [(2, 5), (0, a), (0, b), (0, c), (0, d)] h' [(0, v)]) : h' = h ∧ v = shL L b.toNat a.toNat n := by
  have q : (fun (xh : PH) (r : List ZV) => ∀ v : Int, r = [(0, v)] → (xh = h ∧ v = shL L b.toNat a.toNat n)) h' [(0, v)] := by
    refine cp_vc (cut := (fun p => Nat.beq p 20)) (K := fun p hx lv st => (p = 20 ∧ lK (fun u : Nat => [(0, (2, 5)), (1, (0, a)), (2, (0, b)), (3, (0, c)), (4, (0, d)), (5, (0, L 7 (8 * a.toNat + b.toNat))), (6, (0, zdiv (L 7 (8 * a.toNat + b.toNat)) 3)), (7, (0, (u : Int)))]) (fun u hx => (u : Int) ≤ L 14 b.toNat ∧ hx = h ∧ ∀ j : Nat, j < u → ¬ okL L b.toNat a.toNat j) p hx lv st)) (Q := fun (xh : PH) (r : List ZV) => ∀ v : Int, r = [(0, v)] → (xh = h ∧ v = shL L b.toNat a.toNat n)) (v_X1_shareOf5 ?_) (fun pc hx lv st hcut hK => ?_) hc
    · exact (fun h1 v1 p1 q1 => (fun d1 => (by have h3 := hw.1.2.2.1 b.toNat (by omega); obtain ⟨t1, w1⟩ := c_X0_of5 (by omega) (by omega) p1; have t1 := t1.symm; subst t1; have o1 : h 12 (8 * a.toNat + b.toNat) = L 7 (8 * a.toNat + b.toNat) := hL 7 _ (il7 (by omega)); rw [o1] at w1; subst w1; exact ⟨rfl, rfl, 0, ⟨by omega, rfl, fun j hj => absurd hj (by omega)⟩, rfl, rfl, rfl, rfl, rfl, rfl, rfl, rfl, trivial⟩)))
    · rcases hK with ⟨rfl, rfl, u, hJ, hs⟩
      · obtain ⟨j1, j2, j3⟩ := hJ
        subst j2
        exact ⟨_, _, hs, v_X1_shareOf5_20 (fun b1 r2 => ⟨fun c3 => (by have h8 := hw.1.2.1; have h3 := hw.1.2.2.1 b.toNat (by omega); have k14 : hx 19 b.toNat = L 14 b.toNat := hL 14 _ (il14 (by omega)); rw [k14] at c3; exact absurd ho (j3 n (by omega))), fun c3 => (fun b4 r5 => (fun h1 v1 p1 q1 => by obtain ⟨t1, e1⟩ := c_X11_hasB p1; have t1 := t1.symm; subst t1; exact ⟨fun c6 => (by have h8 := hw.1.2.1; have h3 := hw.1.2.2.1 b.toNat (by omega); have k14 : hx 19 b.toNat = L 14 b.toNat := hL 14 _ (il14 (by omega)); rw [k14] at c3; have i3 : (w32 ((w32 (b * 3)) + (u : Int))).toNat = 3 * b.toNat + u := (by rw [w32_id (z := b * 3) (by omega) (by omega), w32_id (by omega) (by omega)]; omega); have k13 : hx 18 (3 * b.toNat + u) = L 13 (3 * b.toNat + u) := hL 13 _ (il13 (by omega)); have r13 := hw.2.2.2.2.1 b.toNat u (by omega) (by omega) (by omega); obtain ⟨⟨s1, s2⟩, s3, s4⟩ := hs_b (L := L) (p := b.toNat) (d := a.toNat) (by omega) hD (fun k k1 k2 => ⟨(hw.2.2.2.2.1 b.toNat k (by omega) k1 k2).1, by have := (hw.2.2.2.2.1 b.toNat k (by omega) k1 k2).2; omega⟩) h3.2 (L 14 b.toNat).toNat (by omega); rw [i3, k13, bt_z (by omega) (by omega)] at e1; have no : ¬ okL L b.toNat a.toNat u := (fun z => by have := e1.mpr (by rw [hset]; exact (s3 _ (by omega)).mpr ⟨u, by omega, z, rfl⟩); omega); exact ⟨rfl, rfl, u + 1, ⟨by omega, rfl, fun j hj => by by_cases q : j = u; (subst q; exact no); (exact j3 j (by omega))⟩, rfl, rfl, rfl, rfl, rfl, rfl, rfl, wv (by omega) (by omega) (by omega), trivial⟩), fun c6 => ⟨fun c7 => (by have h8 := hw.1.2.1; have h3 := hw.1.2.2.1 b.toNat (by omega); have k14 : hx 19 b.toNat = L 14 b.toNat := hL 14 _ (il14 (by omega)); rw [k14] at c3; have i3 : (w32 ((w32 (b * 3)) + (u : Int))).toNat = 3 * b.toNat + u := (by rw [w32_id (z := b * 3) (by omega) (by omega), w32_id (by omega) (by omega)]; omega); have k13 : hx 18 (3 * b.toNat + u) = L 13 (3 * b.toNat + u) := hL 13 _ (il13 (by omega)); have r13 := hw.2.2.2.2.1 b.toNat u (by omega) (by omega) (by omega); obtain ⟨⟨s1, s2⟩, s3, s4⟩ := hs_b (L := L) (p := b.toNat) (d := a.toNat) (by omega) hD (fun k k1 k2 => ⟨(hw.2.2.2.2.1 b.toNat k (by omega) k1 k2).1, by have := (hw.2.2.2.2.1 b.toNat k (by omega) k1 k2).2; omega⟩) h3.2 (L 14 b.toNat).toNat (by omega); rw [i3, k13] at c7 e1; rw [bt_z (by omega) (by omega)] at e1; intro v e; cases e; have y := e1.mp (by omega); rw [hset] at y; obtain ⟨j, hj, jo, je⟩ := (s3 _ (by omega)).mp y; have ju : j = u := (by by_cases q : j < u; (exact absurd jo (j3 j q)); (by_cases q2 : u < j; (exact absurd je.symm (hD b.toNat u j (by omega) q2 (by omega))); omega)); subst ju; have nu : n ≠ j := (fun z => c7 (by rw [← z]; exact he)); have nj : j < n := (by by_cases q : n < j; (exact absurd ho (j3 n q)); omega); refine ⟨rfl, ?_⟩; unfold shL; rw [if_neg (by have := cn_p nj jo; omega)]), fun c7 => (fun h2 v2 p2 q2 => (by have h8 := hw.1.2.1; have h3 := hw.1.2.2.1 b.toNat (by omega); have k14 : hx 19 b.toNat = L 14 b.toNat := hL 14 _ (il14 (by omega)); rw [k14] at c3; have i3 : (w32 ((w32 (b * 3)) + (u : Int))).toNat = 3 * b.toNat + u := (by rw [w32_id (z := b * 3) (by omega) (by omega), w32_id (by omega) (by omega)]; omega); have k13 : hx 18 (3 * b.toNat + u) = L 13 (3 * b.toNat + u) := hL 13 _ (il13 (by omega)); have r13 := hw.2.2.2.2.1 b.toNat u (by omega) (by omega) (by omega); obtain ⟨⟨s1, s2⟩, s3, s4⟩ := hs_b (L := L) (p := b.toNat) (d := a.toNat) (by omega) hD (fun k k1 k2 => ⟨(hw.2.2.2.2.1 b.toNat k (by omega) k1 k2).1, by have := (hw.2.2.2.2.1 b.toNat k (by omega) k1 k2).2; omega⟩) h3.2 (L 14 b.toNat).toNat (by omega); rw [i3, k13] at c7; have un : u = n := (by by_cases q : n < u; (exact absurd ho (j3 n q)); (by_cases q2 : u < n; (exact absurd (show hrL L b.toNat u = hrL L b.toNat n by unfold hrL; rw [he]; omega) (hD b.toNat u n (by omega) q2 hn)); omega)); subst un; obtain ⟨t2, w2⟩ := c_J6_bitCountS (by rw [hset]; exact s1) (by rw [hset]; exact s2) p2; have t2 := t2.symm; subst t2; rw [hset, s4] at w2; have o7 := hw.1.2.2.2.2.1 (8 * a.toNat + b.toNat) (by omega); have zd := zd3 o7.1 o7.2; have cb := cn_b (L := L) (p := b.toNat) (d := a.toNat) (L 14 b.toNat).toNat; intro v e; cases e; refine ⟨rfl, ?_⟩; unfold shL; rw [if_pos (cn_z u j3), w2]; generalize cnL L b.toNat a.toNat (L 14 b.toNat).toNat = cc at *; generalize L 7 (8 * a.toNat + b.toNat) = ww at *; rw [show w32 (zdiv ww 3 * w32 (cc - 1)) = w32 (w32 (cc - 1) * zdiv ww 3) by rw [Int.mul_comm]]; exact pa_w o7.1 o7.2 zd.1 zd.2 cb.1 (by omega)))⟩⟩))⟩)⟩
  exact q v rfl
end
section
/-! 45z.8b.bury -/
/-! what a DIE leaves -/
def cap9 (x : Int) : Int := if x ≤ 99 then x else 99
theorem cap9_b {x : Int} (h : 0 ≤ x) : 0 ≤ cap9 x ∧ cap9 x ≤ 99 := by
  unfold cap9
  by_cases c : x ≤ 99
  · rw [if_pos c]; omega
  · rw [if_neg c]; omega
def hnL (L : PH) (p : Nat) : Nat := (L 14 p).toNat
/-- one debtor's row -/
def RWd (L : PH) (p d : Nat) (M : PH) : Prop := (L 7 (8 * d + p) ≤ 0 → ∀ x : Nat, x < 8 → M 7 (8 * d + x) = L 7 (8 * d + x)) ∧ (0 < L 7 (8 * d + p) → M 7 (8 * d + p) = 0 ∧ (∀ k : Nat, k < hnL L p → okL L p d k → M 7 (8 * d + hrL L p k) = cap9 (L 7 (8 * d + hrL L p k) + shL L p d k)) ∧ ∀ x : Nat, x < 8 → x ≠ p → (∀ k : Nat, k < hnL L p → okL L p d k → hrL L p k ≠ x) → M 7 (8 * d + x) = L 7 (8 * d + x))
def PMd (L : PH) (p d u : Nat) (M : PH) : Prop := W9 M ∧ (∀ j k : Nat, j ≠ 7 → j ≠ 8 → M j k = L j k) ∧ (∀ e x : Nat, e < 8 → x < 8 → e ≠ d → M 7 (8 * e + x) = L 7 (8 * e + x)) ∧ (∀ k : Nat, k < hnL L p → okL L p d k → hrL L p k < u → M 7 (8 * d + hrL L p k) = cap9 (L 7 (8 * d + hrL L p k) + shL L p d k)) ∧ ∀ x : Nat, x < 8 → (x < u → ∀ k : Nat, k < hnL L p → okL L p d k → hrL L p k ≠ x) → M 7 (8 * d + x) = L 7 (8 * d + x)
/-- the LAND in which one has just died -/
def ddL (L : PH) (p : Nat) : PH := uph L 0 7 (zor (L 0 7) (zshl 1 (p : Int)))
def DIn (L : PH) (p u : Nat) (M : PH) : Prop := W9 M ∧ (∀ j k : Nat, j ≠ 7 → j ≠ 8 → M j k = L j k) ∧ (∀ d : Nat, d < u → RWd L p d M) ∧ ∀ d x : Nat, u ≤ d → d < 8 → x < 8 → M 7 (8 * d + x) = L 7 (8 * d + x)
section CG
variable {L M : PH} {p d : Nat}
theorem ok_cg (e0 : M 0 7 = L 0 7) (e13 : ∀ k, M 13 k = L 13 k) {k : Nat} : okL M p d k = okL L p d k := by
  unfold okL hrL
  rw [e0, e13]
theorem cn_cg (e0 : M 0 7 = L 0 7) (e13 : ∀ k, M 13 k = L 13 k) : ∀ k : Nat, cnL M p d k = cnL L p d k
  | 0 => rfl
  | k + 1 => by
    show cnL M p d k + cif (okL M p d k) 1 0 = cnL L p d k + cif (okL L p d k) 1 0
    rw [cn_cg e0 e13 k, ok_cg e0 e13]
theorem hs_cg (e0 : M 0 7 = L 0 7) (e13 : ∀ k, M 13 k = L 13 k) : ∀ k : Nat, hsL M p d k = hsL L p d k
  | 0 => rfl
  | k + 1 => by
    show cif (okL M p d k) (zor (hsL M p d k) (zshl 1 (M 13 (3 * p + k)))) (hsL M p d k) = cif (okL L p d k) (zor (hsL L p d k) (zshl 1 (L 13 (3 * p + k)))) (hsL L p d k)
    rw [hs_cg e0 e13 k, ok_cg e0 e13, e13]
theorem sh_cg (e0 : M 0 7 = L 0 7) (e13 : ∀ k, M 13 k = L 13 k) (e14 : M 14 p = L 14 p) (e7 : M 7 (8 * d + p) = L 7 (8 * d + p)) {k : Nat} : shL M p d k = shL L p d k := by
  unfold shL
  rw [cn_cg e0 e13, cn_cg e0 e13, e14, e7]
theorem DsL.cg (hD : DsL L) (e13 : ∀ k, M 13 k = L 13 k) (e14 : ∀ p, M 14 p = L 14 p) : DsL M := fun p j k hp hj hk => by
  rw [e14] at hk
  have := hD p j k hp hj hk
  unfold hrL at this ⊢
  rw [e13, e13]
  exact this
theorem sh_b (hw : W9 L) (hp : p < 8) (hd : d < 8) {k : Nat} : 0 ≤ shL L p d k ∧ shL L p d k ≤ 200 := by
  have o := hw.1.2.2.2.2.1 (8 * d + p) (by omega)
  have z := zd3 o.1 o.2
  have h3 := hw.1.2.2.1 p hp
  have c := cn_b (L := L) (p := p) (d := d) (L 14 p).toNat
  unfold shL
  by_cases x : cnL L p d k = 0
  · rw [if_pos x]
    generalize cnL L p d (L 14 p).toNat = n at *
    rcases n4 c.1 (by omega) with q | q | q | q <;> rw [q] <;> omega
  · rw [if_neg x]
    omega
theorem SB.set {v n : Int} {p : Nat} (h : SB v n) (hp : (p : Int) < n) (h8 : p < 8) : SB (zor v (zshl 1 (p : Int))) n := by
  obtain ⟨a, b⟩ := bt_or v.toNat (by have := h.1; have := h.2.1; omega) p h8
  rw [Int.toNat_of_nonneg h.1] at a b
  refine ⟨a.1, a.2.1, fun i hi hn => ?_⟩
  rw [b i hi, if_neg (by omega)]
  exact h.2.2 i hi hn
theorem W9.dd (w : W9 L) (hp : (p : Int) < L 0 4) : W9 (ddL L p) := by
  have h8 := w.1.2.1
  have s := w.1.s
  refine w.kp (w.1.kp (fun j k q => up_ne (by omega)) (by rw [ddL, up_ne (by omega)]; exact w.1.1) (by rw [ddL, up_ne (by omega)]; exact h8) ?_) (up_ne (by omega)) (fun j k q => up_ne (by omega)) (fun p b _ _ _ => up_ne (by omega)) (fun p q => by rw [ddL, up_ne (by omega), up_ne (by omega)]; exact w.2.2.1 p q) (fun k => up_ne (by omega)) (fun k => up_ne (by omega)) (fun i hi => by rw [ddL, up_ne (by omega)]; exact w.2.2.2.2.2 i hi)
  exact WS.of (a := L 1 1) (n := L 1 0) (d := zor (L 0 7) (zshl 1 (p : Int))) (f := L 0 8) (k := L 0 9) (p := L 0 4) (up_ne (by omega)) (up_ne (by omega)) (by rw [ddL, up_rd, if_pos ⟨rfl, rfl⟩]) (up_ne (by omega)) (up_ne (by omega)) (up_ne (by omega)) ⟨s.1, s.2.1.set hp (by omega), s.2.2.1, s.2.2.2⟩
theorem dd_bit (w : W9 L) (hp : p < 8) {x : Nat} (hx : x < 8) : bB (ddL L p 0 7) x = true ↔ bB (L 0 7) x = true ∨ x = p := by
  have e : ddL L p 0 7 = zor (L 0 7) (zshl 1 (p : Int)) := by rw [ddL, up_rd, if_pos ⟨rfl, rfl⟩]
  rw [e, bB_or, bB_one (by omega) (by omega)]
  simp only [Bool.or_eq_true, decide_eq_true_eq]
/-- one more heir has its share -/
theorem PMd.st {u k : Nat} (m : PMd L p d u M) (hD : DsL L) (hp : p < 8) (hd : d < 8) (hu : u < 8) (hn : hnL L p ≤ 3) (hu4 : (u : Int) < L 0 4) (hk : k < hnL L p) (ho : okL L p d k) (he : hrL L p k = u) (hs0 : 0 ≤ shL L p d k) : PMd L p d (u + 1) (owe M (d : Int) (u : Int) (cap9 (M 7 (8 * d + u) + shL L p d k))) := by
  obtain ⟨m1, m2, m3, m4, m5⟩ := m
  have mu : M 7 (8 * d + u) = L 7 (8 * d + u) := m5 u hu (fun q => absurd q (by omega))
  have o := m1.1.2.2.2.2.1 (8 * d + u) (by omega)
  have cb := cap9_b (x := M 7 (8 * d + u) + shL L p d k) (by omega)
  refine ⟨m1.ow (by omega) ⟨by omega, by rw [m2 0 4 (by omega) (by omega)]; exact hu4⟩ cb, fun j q q7 q8 => by rw [owe_o q7 q8]; exact m2 j q q7 q8, fun e x he hx hne => ?_, fun q hq hqo hqu => ?_, fun x hx hxq => ?_⟩
  · rw [owe_7, if_neg (by omega)]; exact m3 e x he hx hne
  · by_cases z : hrL L p q = u
    · have ekq : q = k := by
        unfold hnL at hk hq
        by_cases y : q < k
        · exact absurd (z.trans he.symm) (hD p q k hp y (by omega))
        · by_cases y2 : k < q
          · exact absurd (he.trans z.symm) (hD p k q hp y2 (by omega))
          · omega
      subst ekq
      rw [owe_7, z, if_pos (by omega), mu]
    · rw [owe_7, if_neg (by omega)]; exact m4 q hq hqo (by omega)
  · by_cases z : x = u
    · subst z; exact absurd he (hxq (by omega) k hk ho)
    · rw [owe_7, if_neg (by omega)]; exact m5 x hx (fun q => hxq (by omega))
/-- none of the heirs -/
theorem PMd.no {u : Nat} (m : PMd L p d u M) (ho : ∀ k : Nat, k < hnL L p → okL L p d k → hrL L p k ≠ u) : PMd L p d (u + 1) M := by
  obtain ⟨m1, m2, m3, m4, m5⟩ := m
  refine ⟨m1, m2, m3, fun q hq hqo hqu => m4 q hq hqo (by have := ho q hq hqo; omega), fun x hx hxq => m5 x hx (fun q => hxq (by omega))⟩
theorem PMd.en {u : Nat} (m : PMd L p d u M) (hd : d < 8) (hp4 : (p : Int) < L 0 4) (h8 : L 0 4 ≤ 8) (hu : ∀ k : Nat, k < hnL L p → hrL L p k < u) (hpd : bB (L 0 7) p = true) (h0 : 0 < L 7 (8 * d + p)) : W9 (owe M (d : Int) (p : Int) 0) ∧ (∀ j k : Nat, j ≠ 7 → j ≠ 8 → owe M (d : Int) (p : Int) 0 j k = L j k) ∧ (∀ e x : Nat, e < 8 → x < 8 → e ≠ d → owe M (d : Int) (p : Int) 0 7 (8 * e + x) = L 7 (8 * e + x)) ∧ RWd L p d (owe M (d : Int) (p : Int) 0) := by
  obtain ⟨m1, m2, m3, m4, m5⟩ := m
  refine ⟨m1.ow (by omega) ⟨by omega, by rw [m2 0 4 (by omega) (by omega)]; exact hp4⟩ (by omega), fun j q q7 q8 => by rw [owe_o q7 q8]; exact m2 j q q7 q8, fun e x he hx hne => by rw [owe_7, if_neg (by omega)]; exact m3 e x he hx hne, fun q => absurd q (by omega), fun _ => ⟨by rw [owe_7, if_pos (by omega)], fun k hk ho => ?_, fun x hx hxp hxq => ?_⟩⟩
  · have ne : hrL L p k ≠ p := fun z => ho.1 (by rw [z]; exact hpd)
    rw [owe_7, if_neg (by omega)]
    exact m4 k hk ho (hu k hk)
  · rw [owe_7, if_neg (by omega)]
    exact m5 x hx (fun _ => hxq)
theorem RWd.cg {L' M' : PH} (r : RWd L p d M) (hR : ∀ k : Nat, k < hnL L p → hrL L p k < 8) (hp : p < 8) (e0 : L' 0 7 = L 0 7) (e13 : ∀ k, L' 13 k = L 13 k) (e14 : L' 14 p = L 14 p) (e7 : ∀ x : Nat, x < 8 → L' 7 (8 * d + x) = L 7 (8 * d + x)) (f7 : ∀ x : Nat, x < 8 → M' 7 (8 * d + x) = M 7 (8 * d + x)) : RWd L' p d M' := by
  have en : hnL L' p = hnL L p := by unfold hnL; rw [e14]
  have eh : ∀ k, hrL L' p k = hrL L p k := fun k => by unfold hrL; rw [e13]
  refine ⟨fun q x hx => ?_, fun q => ?_⟩
  · rw [f7 x hx, e7 x hx]; exact r.1 (by rw [← e7 p hp]; exact q) x hx
  · rw [e7 p hp] at q
    obtain ⟨r1, r2, r3⟩ := r.2 q
    refine ⟨by rw [f7 p hp]; exact r1, fun k hk ho => ?_, fun x hx hxp hxq => ?_⟩
    · rw [en] at hk
      have ho : okL L p d k := by rw [← ok_cg (M := L') (L := L) (p := p) (d := d) (k := k) e0 e13]; exact ho
      have b := hR k hk
      rw [eh, f7 _ b, e7 _ b, sh_cg e0 e13 e14 (e7 p hp)]
      exact r2 k hk ho
    · rw [f7 x hx, e7 x hx]
      refine r3 x hx hxp (fun k hk ho => ?_)
      have := hxq k (by rw [en]; exact hk) (by rw [ok_cg e0 e13]; exact ho)
      rw [eh] at this
      exact this
end CG
set_option maxRecDepth 10000 in
theorem v_X0_add5 {sl : Nat} {si : Nat → Int} {K : Nat → PH → ZL → List ZV → Prop} {Q : PH → List ZV → Prop} {h : PH}  {a b c : Int} (H : ∀ h1 v1, CP (zz sl si (7, 0)) mX0_of h [(2, 11), (0, a), (0, b)] h1 [(0, v1)] → R32 v1 → ((w32 (v1 + c)) ≤ 99 → ∀ h2, CP (zz sl si (7, 0)) mX0_put h1 [(2, 11), (0, a), (0, b), (0, w32 (v1 + c))] h2 [] → Q h2 []) ∧ (¬ ((w32 (v1 + c)) ≤ 99) → ∀ h3, CP (zz sl si (7, 0)) mX0_put h1 [(2, 11), (0, a), (0, b), (0, 99)] h3 [] → Q h3 [])) : vc (zz sl si (7, 0)) (fun _ => false) K Q mX0_add 19 0 mX0_add.2.2.2.2.2.2 h [(0, (2, 11)), (1, (0, a)), (2, (0, b)), (3, (0, c))] [] := H
set_option maxHeartbeats 600000 in
theorem c_X0_add5 {sl : Nat} {si : Nat → Int} {h h' : PH} {L : PH} {a b c : Int} (hL : CL 5 h L) (hw : W9 L) (ha : 0 ≤ a ∧ a < 8) (hb : 0 ≤ b ∧ b < 8) (hv : 0 ≤ c ∧ c ≤ 200) (hc : CP (zz sl si (7, 0)) mX0_add h [(2, 11), (0, a), (0, b), (0, c)] h' []) : CL 5 h' (owe L a b (cap9 (L 7 (8 * a.toNat + b.toNat) + c))) ∧ (∀ c k : Nat, c ≠ 12 → c ≠ 13 → h' c k = h c k) := by
  have q : (fun (xh : PH) (r : List ZV) => CL 5 xh (owe L a b (cap9 (L 7 (8 * a.toNat + b.toNat) + c))) ∧ (∀ c k : Nat, c ≠ 12 → c ≠ 13 → xh c k = h c k)) h' [] := by
    refine cp_vc (cut := (fun _ => false)) (K := fun p hx lv st => False) (Q := fun (xh : PH) (r : List ZV) => CL 5 xh (owe L a b (cap9 (L 7 (8 * a.toNat + b.toNat) + c))) ∧ (∀ c k : Nat, c ≠ 12 → c ≠ 13 → xh c k = h c k)) (v_X0_add5 ?_) (fun pc hx lv st hcut hK => ?_) hc
    · exact (fun h1 v1 p1 q1 => ⟨fun c1 => (fun h2 p2 => (by obtain ⟨t1, w1⟩ := c_X0_of5 (by omega) (by omega) p1; have t1 := t1.symm; subst t1; have o1 : h 12 (8 * a.toNat + b.toNat) = L 7 (8 * a.toNat + b.toNat) := hL 7 _ (il7 (by omega)); have o7 := hw.1.2.2.2.2.1 (8 * a.toNat + b.toNat) (by omega); rw [o1] at w1; subst w1; rw [w32_id (by omega) (by omega)] at c1 p2; have e : cap9 (L 7 (8 * a.toNat + b.toNat) + c) = L 7 (8 * a.toNat + b.toNat) + c := if_pos c1; rw [e]; exact c_X0_put5 hL hw.1 ha hb (by omega) p2)), fun c1 => (fun h3 p3 => (by obtain ⟨t1, w1⟩ := c_X0_of5 (by omega) (by omega) p1; have t1 := t1.symm; subst t1; have o1 : h 12 (8 * a.toNat + b.toNat) = L 7 (8 * a.toNat + b.toNat) := hL 7 _ (il7 (by omega)); have o7 := hw.1.2.2.2.2.1 (8 * a.toNat + b.toNat) (by omega); rw [o1] at w1; subst w1; rw [w32_id (by omega) (by omega)] at c1; have e : cap9 (L 7 (8 * a.toNat + b.toNat) + c) = 99 := if_neg c1; rw [e]; exact c_X0_put5 hL hw.1 ha hb (by omega) p3))⟩)
    · exact hK.elim
  exact q
set_option maxRecDepth 10000 in
theorem v_X1_passOn5 {sl : Nat} {si : Nat → Int} {K : Nat → PH → ZL → List ZV → Prop} {Q : PH → List ZV → Prop} {h : PH}  {a b : Int} (H : ∀ h1 v1, CP (zz sl si (7, 0)) mX1_heirSet h [(2, 5), (0, a), (0, b)] h1 [(0, v1)] → R32 v1 → K 10 h1 [(4, (0, 0)), (3, (0, v1)), (0, (2, 5)), (1, (0, a)), (2, (0, b))] []) : vc (zz sl si (7, 0)) (fun p => Nat.beq p 10) K Q mX1_passOn 9 0 mX1_passOn.2.2.2.2.2.2 h [(0, (2, 5)), (1, (0, a)), (2, (0, b))] [] := H
set_option maxRecDepth 10000 in
theorem v_X1_passOn5_10 {sl : Nat} {si : Nat → Int} {K : Nat → PH → ZL → List ZV → Prop} {Q : PH → List ZV → Prop} {h : PH}  {a b : Int} {s k : Int} (H : R32 (h 5 4) → ((h 5 4) ≤ k → ∀ h1, CP (zz sl si (7, 0)) mX0_put h [(2, 11), (0, a), (0, b), (0, 0)] h1 [] → Q h1 []) ∧ (¬ ((h 5 4) ≤ k) → ∀ h2 v2, CP (zz sl si (7, 0)) mX11_has h [(0, s), (0, k)] h2 [(0, v2)] → v2 = 0 ∨ v2 = 1 → (v2 = 0 → K 10 h2 [(4, (0, w32 (k + 1))), (0, (2, 5)), (1, (0, a)), (2, (0, b)), (3, (0, s))] []) ∧ (¬ (v2 = 0) → ∀ h3 v3, CP (zz sl si (7, 0)) mX1_shareOf h2 [(2, 5), (0, a), (0, b), (0, k), (0, s)] h3 [(0, v3)] → R32 v3 → ∀ h4, CP (zz sl si (7, 0)) mX0_add h3 [(2, 11), (0, a), (0, k), (0, v3)] h4 [] → K 10 h4 [(4, (0, w32 (k + 1))), (0, (2, 5)), (1, (0, a)), (2, (0, b)), (3, (0, s))] []))) : vc (zz sl si (7, 0)) (fun p => Nat.beq p 10) K Q mX1_passOn 23 10 (ax_jmp mX1_passOn.2.2.2.2.2.2 10) h [(0, (2, 5)), (1, (0, a)), (2, (0, b)), (3, (0, s)), (4, (0, k))] [] := H
set_option maxHeartbeats 600000 in
theorem c_X1_passOn5 {sl : Nat} {si : Nat → Int} {h h' : PH} {L : PH} {a b : Int} (hL : CL 5 h L) (hw : W9 L) (hD : DsL L) (ha : 0 ≤ a ∧ a < 8) (hb : 0 ≤ b ∧ b < L 0 4) (hpd : bB (L 0 7) b.toNat = true) (h0 : 0 < L 7 (8 * a.toNat + b.toNat)) (hc : CP (zz sl si (7, 0)) mX1_passOn h [(2, 5), (0, a), (0, b)] h' []) : (∃ M : PH, CL 5 h' M ∧ W9 M ∧ (∀ j k : Nat, j ≠ 7 → j ≠ 8 → M j k = L j k) ∧ (∀ e x : Nat, e < 8 → x < 8 → e ≠ a.toNat → M 7 (8 * e + x) = L 7 (8 * e + x)) ∧ RWd L b.toNat a.toNat M) ∧ (∀ c k : Nat, c ≠ 12 → c ≠ 13 → h' c k = h c k) := by
  have q : (fun (xh : PH) (r : List ZV) => (∃ M : PH, CL 5 xh M ∧ W9 M ∧ (∀ j k : Nat, j ≠ 7 → j ≠ 8 → M j k = L j k) ∧ (∀ e x : Nat, e < 8 → x < 8 → e ≠ a.toNat → M 7 (8 * e + x) = L 7 (8 * e + x)) ∧ RWd L b.toNat a.toNat M) ∧ (∀ c k : Nat, c ≠ 12 → c ≠ 13 → xh c k = h c k)) h' [] := by
    refine cp_vc (cut := (fun p => Nat.beq p 10)) (K := fun p hx lv st => (p = 10 ∧ lK (fun u : Nat => [(0, (2, 5)), (1, (0, a)), (2, (0, b)), (3, (0, hsL L b.toNat a.toNat (L 14 b.toNat).toNat)), (4, (0, (u : Int)))]) (fun u hx => (u : Int) ≤ L 0 4 ∧ (∃ M : PH, CL 5 hx M ∧ PMd L b.toNat a.toNat u M) ∧ (∀ c k : Nat, c ≠ 12 → c ≠ 13 → hx c k = h c k)) p hx lv st)) (Q := fun (xh : PH) (r : List ZV) => (∃ M : PH, CL 5 xh M ∧ W9 M ∧ (∀ j k : Nat, j ≠ 7 → j ≠ 8 → M j k = L j k) ∧ (∀ e x : Nat, e < 8 → x < 8 → e ≠ a.toNat → M 7 (8 * e + x) = L 7 (8 * e + x)) ∧ RWd L b.toNat a.toNat M) ∧ (∀ c k : Nat, c ≠ 12 → c ≠ 13 → xh c k = h c k)) (v_X1_passOn5 ?_) (fun pc hx lv st hcut hK => ?_) hc
    · exact (fun h1 v1 p1 q1 => (by have h8 := hw.1.2.1; have h3 := hw.1.2.2.1 b.toNat (by omega); obtain ⟨t1, w1⟩ := c_X1_heirSet5 hL hw (by omega) (by omega) p1; have t1 := t1.symm; subst t1; subst w1; exact ⟨rfl, rfl, 0, ⟨by omega, ⟨L, hL, hw, fun _ _ _ _ => rfl, fun _ _ _ _ _ => rfl, fun k _ _ q => absurd q (by omega), fun _ _ _ => rfl⟩, fun _ _ _ _ => rfl⟩, rfl, rfl, rfl, rfl, rfl, trivial⟩))
    · rcases hK with ⟨rfl, rfl, u, hJ, hs⟩
      · obtain ⟨j1, ⟨M, j2, j3⟩, j4⟩ := hJ
        have h8 := hw.1.2.1
        have h3 := hw.1.2.2.1 b.toNat (by omega)
        obtain ⟨⟨s1, s2⟩, s3, s4⟩ := hs_b (L := L) (p := b.toNat) (d := a.toNat) (by omega) hD (fun k k1 k2 => ⟨(hw.2.2.2.2.1 b.toNat k (by omega) k1 k2).1, by have := (hw.2.2.2.2.1 b.toNat k (by omega) k1 k2).2; omega⟩) h3.2 (L 14 b.toNat).toNat (by omega)
        obtain ⟨m1, m2, m3, m4, m5⟩ := id j3
        have k4 : hx 5 4 = L 0 4 := (j2 0 4 (Or.inl ⟨rfl, Or.inl rfl⟩)).trans (m2 0 4 (by omega) (by omega))
        have hr8 : ∀ k : Nat, k < hnL L b.toNat → 0 ≤ L 13 (3 * b.toNat + k) ∧ L 13 (3 * b.toNat + k) < L 0 4 := fun k hk => hw.2.2.2.2.1 b.toNat k (by omega) (by unfold hnL at hk; omega) (by unfold hnL at hk; omega)
        exact ⟨_, _, hs, v_X1_passOn5_10 (fun r1 => ⟨fun c2 => (fun h1 p1 => (by rw [k4] at c2; obtain ⟨x1, x2⟩ := c_X0_put5 j2 m1.1 ha (by omega) (by omega) p1; have en := j3.en (by omega) (by omega) h8.2 (fun k hk => by have := hr8 k hk; unfold hrL; omega) hpd h0; rw [show ((a.toNat : Nat) : Int) = a by omega, show ((b.toNat : Nat) : Int) = b by omega] at en; exact ⟨⟨_, x1, en⟩, fun c k y1 y2 => (x2 c k y1 y2).trans (j4 c k y1 y2)⟩)), fun c2 => (fun h2 v2 p2 q2 => by obtain ⟨t2, e2⟩ := c_X11_hasB p2; have t2 := t2.symm; subst t2; exact ⟨fun c3 => (by rw [k4] at c2; rw [bt_z (by omega) (by omega), Int.toNat_natCast] at e2; exact ⟨rfl, rfl, u + 1, ⟨by omega, ⟨M, j2, j3.no (fun k hk ho z => by have := e2.mpr ((s3 u (by omega)).mpr ⟨k, hk, ho, z⟩); omega)⟩, j4⟩, rfl, rfl, rfl, rfl, wv (by omega) (by omega) (by omega), trivial⟩), fun c3 => (fun h3 v3 p3 q3 => (fun h4 p4 => (by rw [k4] at c2; rw [bt_z (by omega) (by omega), Int.toNat_natCast] at e2; obtain ⟨k, hk, ho, he⟩ := (s3 u (by omega)).mp (e2.mp (by omega)); have r13 := hr8 k hk; have c7 : M 0 7 = L 0 7 := m2 0 7 (by omega) (by omega); have c13 : ∀ k, M 13 k = L 13 k := fun k => m2 13 k (by omega) (by omega); have c14 : ∀ k, M 14 k = L 14 k := fun k => m2 14 k (by omega) (by omega); have cp : M 7 (8 * a.toNat + b.toNat) = L 7 (8 * a.toNat + b.toNat) := m5 b.toNat (by omega) (fun _ q _ qo z => qo.1 (by rw [z]; exact hpd)); obtain ⟨t3, w3⟩ := c_X1_shareOf5 (L := M) (n := k) j2 m1 (hD.cg c13 c14) ha (by omega) (by omega) (by rw [hs_cg c7 c13, c14]) (by rw [c14]; omega) (by rw [ok_cg c7 c13]; exact ho) (by rw [c13]; unfold hrL at he; omega) p3; have t3 := t3.symm; subst t3; rw [sh_cg c7 c13 (c14 _) cp] at w3; subst w3; have sb := sh_b hw (p := b.toNat) (d := a.toNat) (by omega) (by omega) (k := k); obtain ⟨x1, x2⟩ := c_X0_add5 j2 m1 ha (by omega) (by omega) p4; rw [Int.toNat_natCast] at x1; have st := j3.st hD (by omega) (by omega) (by omega) (by unfold hnL; omega) (by omega) hk ho he sb.1; rw [show ((a.toNat : Nat) : Int) = a by omega] at st; exact ⟨rfl, rfl, u + 1, ⟨by omega, ⟨_, x1, st⟩, fun c k y1 y2 => (x2 c k y1 y2).trans (j4 c k y1 y2)⟩, rfl, rfl, rfl, rfl, wv (by omega) (by omega) (by omega), trivial⟩)))⟩)⟩)⟩
  exact q
end
section
/-! 45z.8c.bury2 -/
/-! one debtor more -/
section ST
variable {L M M2 : PH} {p u : Nat}
theorem DIn.no (m : DIn L p u M) (hu : u < 8) (hp : p < 8) (h0 : M 7 (8 * u + p) ≤ 0) : DIn L p (u + 1) M := by
  obtain ⟨m1, m2, m3, m4⟩ := m
  have e := m4 u p (by omega) hu hp
  refine ⟨m1, m2, fun d hd => ?_, fun d x h1 h2 h3 => m4 d x (by omega) h2 h3⟩
  by_cases z : d = u
  · subst z
    exact ⟨fun _ x hx => m4 d x (by omega) hu hx, fun q => absurd q (by omega)⟩
  · exact m3 d (by omega)
theorem DIn.st (m : DIn L p u M) (hu : u < 8) (hp : p < 8) (hR : ∀ k : Nat, k < hnL L p → hrL L p k < 8) (e : W9 M2 ∧ (∀ j k : Nat, j ≠ 7 → j ≠ 8 → M2 j k = M j k) ∧ (∀ e x : Nat, e < 8 → x < 8 → e ≠ u → M2 7 (8 * e + x) = M 7 (8 * e + x)) ∧ RWd M p u M2) : DIn L p (u + 1) M2 := by
  obtain ⟨m1, m2, m3, m4⟩ := m
  obtain ⟨e1, e2, e3, e4⟩ := e
  have c13 : ∀ k, M 13 k = L 13 k := fun k => m2 13 k (by omega) (by omega)
  have c14 : M 14 p = L 14 p := m2 14 p (by omega) (by omega)
  have hR' : ∀ k : Nat, k < hnL M p → hrL M p k < 8 := fun k hk => by
    unfold hnL at hk
    rw [c14] at hk
    have := hR k hk
    unfold hrL at this ⊢
    rw [c13]
    exact this
  refine ⟨e1, fun j k q7 q8 => (e2 j k q7 q8).trans (m2 j k q7 q8), fun d hd => ?_, fun d x h1 h2 h3 => (e3 d x h2 h3 (by omega)).trans (m4 d x (by omega) h2 h3)⟩
  by_cases z : d = u
  · subst z
    exact e4.cg (L' := L) hR' hp (m2 0 7 (by omega) (by omega)).symm (fun k => (c13 k).symm) c14.symm (fun x hx => (m4 d x (by omega) hu hx).symm) (fun _ _ => rfl)
  · exact (m3 d (by omega)).cg hR hp rfl (fun _ => rfl) rfl (fun _ _ => rfl) (fun x hx => e3 d x (by omega) hx z)
end ST
set_option maxRecDepth 10000 in
theorem v_X1_isDead5 {sl : Nat} {si : Nat → Int} {K : Nat → PH → ZL → List ZV → Prop} {Q : PH → List ZV → Prop} {h : PH}  {a : Int} (H : R32 (h 5 7) → ∀ h1 v1, CP (zz sl si (7, 0)) mX11_has h [(0, (h 5 7)), (0, a)] h1 [(0, v1)] → v1 = 0 ∨ v1 = 1 → Q h1 [(0, v1)]) : vc (zz sl si (7, 0)) (fun _ => false) K Q mX1_isDead 7 0 mX1_isDead.2.2.2.2.2.2 h [(0, (2, 5)), (1, (0, a))] [] := H
set_option maxHeartbeats 600000 in
theorem c_X1_isDead5 {sl : Nat} {si : Nat → Int} {h h' : PH} {L : PH} {a : Int} {v : Int} (hL : CL 5 h L) (ha : 0 ≤ a ∧ a < 8) (hc : CP (zz sl si (7, 0)) mX1_isDead h [(2, 5), (0, a)] h' [(0, v)]) : h' = h ∧ (v = 1 ↔ bB (L 0 7) a.toNat = true) := by
  have q : (fun (xh : PH) (r : List ZV) => ∀ v : Int, r = [(0, v)] → (xh = h ∧ (v = 1 ↔ bB (L 0 7) a.toNat = true))) h' [(0, v)] := by
    refine cp_vc (cut := (fun _ => false)) (K := fun p hx lv st => False) (Q := fun (xh : PH) (r : List ZV) => ∀ v : Int, r = [(0, v)] → (xh = h ∧ (v = 1 ↔ bB (L 0 7) a.toNat = true))) (v_X1_isDead5 ?_) (fun pc hx lv st hcut hK => ?_) hc
    · exact (fun r1 => (fun h1 v1 p1 q1 => by obtain ⟨t1, e1⟩ := c_X11_hasB p1; have t1 := t1.symm; subst t1; exact (by intro v e; cases e; have k7 : h 5 7 = L 0 7 := hL 0 7 (Or.inl ⟨rfl, Or.inr (Or.inl rfl)⟩); rw [k7, bt_z (by omega) (by omega)] at e1; exact ⟨rfl, e1⟩)))
    · exact hK.elim
  exact q v rfl
set_option maxRecDepth 10000 in
theorem v_X1_bury5 {sl : Nat} {si : Nat → Int} {K : Nat → PH → ZL → List ZV → Prop} {Q : PH → List ZV → Prop} {h : PH}  {a : Int} (H : (a = (-1) → Q h [(0, 0)]) ∧ (¬ (a = (-1)) → R32 (h 5 7) → ∀ h1 v1, CP (zz sl si (7, 0)) mX11_has h [(0, (h 5 7)), (0, a)] h1 [(0, v1)] → v1 = 0 ∨ v1 = 1 → (v1 = 0 → R32 (h1 5 7) → K 32 (uph h1 5 7 (zor (h1 5 7) (zshl 1 a))) [(2, (0, 0)), (0, (2, 5)), (1, (0, a))] []) ∧ (¬ (v1 = 0) → Q h1 [(0, 0)]))) : vc (zz sl si (7, 0)) (fun p => Nat.beq p 32) K Q mX1_bury 20 0 mX1_bury.2.2.2.2.2.2 h [(0, (2, 5)), (1, (0, a))] [] := H
set_option maxRecDepth 10000 in
theorem v_X1_bury5_32 {sl : Nat} {si : Nat → Int} {K : Nat → PH → ZL → List ZV → Prop} {Q : PH → List ZV → Prop} {h : PH}  {a : Int} {k : Int} (H : R32 (h 5 4) → ((h 5 4) ≤ k → Q h [(0, 1)]) ∧ (¬ ((h 5 4) ≤ k) → ∀ h1 v1, CP (zz sl si (7, 0)) mX0_of h [(2, 11), (0, k), (0, a)] h1 [(0, v1)] → R32 v1 → (v1 ≤ 0 → K 32 h1 [(2, (0, w32 (k + 1))), (0, (2, 5)), (1, (0, a))] []) ∧ (¬ (v1 ≤ 0) → ∀ h2, CP (zz sl si (7, 0)) mX1_passOn h1 [(2, 5), (0, k), (0, a)] h2 [] → K 32 h2 [(2, (0, w32 (k + 1))), (0, (2, 5)), (1, (0, a))] []))) : vc (zz sl si (7, 0)) (fun p => Nat.beq p 32) K Q mX1_bury 18 32 (ax_jmp mX1_bury.2.2.2.2.2.2 32) h [(0, (2, 5)), (1, (0, a)), (2, (0, k))] [] := H
set_option maxHeartbeats 600000 in
theorem c_X1_bury5 {sl : Nat} {si : Nat → Int} {h h' : PH} {L : PH} {a : Int} {v : Int} (hL : CL 5 h L) (hw : W9 L) (hD : DsL L) (ha : a = -1 ∨ (0 ≤ a ∧ a < L 0 4)) (hc : CP (zz sl si (7, 0)) mX1_bury h [(2, 5), (0, a)] h' [(0, v)]) : (v = 0 ∧ h' = h ∧ (a = -1 ∨ bB (L 0 7) a.toNat = true)) ∨ (v = 1 ∧ a ≠ -1 ∧ ¬ bB (L 0 7) a.toNat = true ∧ (∃ M : PH, CL 5 h' M ∧ DIn (ddL L a.toNat) a.toNat (L 0 4).toNat M) ∧ (∀ c k : Nat, ¬ (c = 5 ∧ k = 7) → c ≠ 12 → c ≠ 13 → h' c k = h c k)) := by
  have q : (fun (xh : PH) (r : List ZV) => ∀ v : Int, r = [(0, v)] → ((v = 0 ∧ xh = h ∧ (a = -1 ∨ bB (L 0 7) a.toNat = true)) ∨ (v = 1 ∧ a ≠ -1 ∧ ¬ bB (L 0 7) a.toNat = true ∧ (∃ M : PH, CL 5 xh M ∧ DIn (ddL L a.toNat) a.toNat (L 0 4).toNat M) ∧ (∀ c k : Nat, ¬ (c = 5 ∧ k = 7) → c ≠ 12 → c ≠ 13 → xh c k = h c k)))) h' [(0, v)] := by
    refine cp_vc (cut := (fun p => Nat.beq p 32)) (K := fun p hx lv st => (p = 32 ∧ lK (fun u : Nat => [(0, (2, 5)), (1, (0, a)), (2, (0, (u : Int)))]) (fun u hx => (u : Int) ≤ L 0 4 ∧ a ≠ -1 ∧ ¬ bB (L 0 7) a.toNat = true ∧ (∃ M : PH, CL 5 hx M ∧ DIn (ddL L a.toNat) a.toNat u M) ∧ (∀ c k : Nat, ¬ (c = 5 ∧ k = 7) → c ≠ 12 → c ≠ 13 → hx c k = h c k)) p hx lv st)) (Q := fun (xh : PH) (r : List ZV) => ∀ v : Int, r = [(0, v)] → ((v = 0 ∧ xh = h ∧ (a = -1 ∨ bB (L 0 7) a.toNat = true)) ∨ (v = 1 ∧ a ≠ -1 ∧ ¬ bB (L 0 7) a.toNat = true ∧ (∃ M : PH, CL 5 xh M ∧ DIn (ddL L a.toNat) a.toNat (L 0 4).toNat M) ∧ (∀ c k : Nat, ¬ (c = 5 ∧ k = 7) → c ≠ 12 → c ≠ 13 → xh c k = h c k)))) (v_X1_bury5 ?_) (fun pc hx lv st hcut hK => ?_) hc
    · exact ⟨fun c1 => (by intro v e; cases e; exact Or.inl ⟨rfl, rfl, Or.inl c1⟩), fun c1 => (fun r2 => (fun h1 v1 p1 q1 => by obtain ⟨t1, e1⟩ := c_X11_hasB p1; have t1 := t1.symm; subst t1; exact ⟨fun c3 => (fun r4 => (by have h8 := hw.1.2.1; have k7 : h 5 7 = L 0 7 := hL 0 7 (Or.inl ⟨rfl, Or.inr (Or.inl rfl)⟩); rw [k7, bt_z (by omega) (by omega)] at e1; rw [k7] at r2; have nd : ¬ bB (L 0 7) a.toNat = true := (fun z => by have := e1.mpr z; omega); rw [k7]; exact ⟨rfl, rfl, 0, ⟨by omega, c1, nd, ⟨ddL L a.toNat, (by have z := hL.up 0 7 (zor (L 0 7) (zshl 1 a)); unfold ddL; rw [show ((a.toNat : Nat) : Int) = a by omega]; exact z), hw.dd (by omega), fun _ _ _ _ => rfl, fun d q => absurd q (by omega), fun _ _ _ _ _ => rfl⟩, fun c k y1 y2 y3 => up_ne (by omega)⟩, rfl, rfl, rfl, trivial⟩)), fun c3 => (by have h8 := hw.1.2.1; have k7 : h 5 7 = L 0 7 := hL 0 7 (Or.inl ⟨rfl, Or.inr (Or.inl rfl)⟩); rw [k7, bt_z (by omega) (by omega)] at e1; intro v e; cases e; exact Or.inl ⟨rfl, rfl, Or.inr (e1.mp (by omega))⟩)⟩))⟩
    · rcases hK with ⟨rfl, rfl, u, hJ, hs⟩
      · obtain ⟨j1, j2, j3, ⟨M, j4, j5⟩, j6⟩ := hJ
        have h8 := hw.1.2.1
        obtain ⟨m1, m2, m3, m4⟩ := id j5
        have k4 : hx 5 4 = L 0 4 := (j4 0 4 (Or.inl ⟨rfl, Or.inl rfl⟩)).trans (m2 0 4 (by omega) (by omega))
        have d13 : ∀ k, M 13 k = L 13 k := fun k => m2 13 k (by omega) (by omega)
        have d14 : ∀ k, M 14 k = L 14 k := fun k => m2 14 k (by omega) (by omega)
        exact ⟨_, _, hs, v_X1_bury5_32 (fun r1 => ⟨fun c2 => (by rw [k4] at c2; intro v e; cases e; have eu : (L 0 4).toNat = u := (by omega); rw [eu]; exact Or.inr ⟨rfl, j2, j3, ⟨M, j4, j5⟩, j6⟩), fun c2 => (fun h1 v1 p1 q1 => ⟨fun c3 => (by rw [k4] at c2; obtain ⟨t1, w1⟩ := c_X0_of5 (by omega) (by omega) p1; have t1 := t1.symm; subst t1; rw [Int.toNat_natCast] at w1; have o1 : hx 12 (8 * u + a.toNat) = M 7 (8 * u + a.toNat) := j4 7 _ (il7 (by omega)); rw [o1] at w1; exact ⟨rfl, rfl, u + 1, ⟨by omega, j2, j3, ⟨M, j4, j5.no (by omega) (by omega) (by omega)⟩, j6⟩, rfl, rfl, wv (by omega) (by omega) (by omega), trivial⟩), fun c3 => (fun h2 p2 => (by rw [k4] at c2; obtain ⟨t1, w1⟩ := c_X0_of5 (by omega) (by omega) p1; have t1 := t1.symm; subst t1; rw [Int.toNat_natCast] at w1; have o1 : hx 12 (8 * u + a.toNat) = M 7 (8 * u + a.toNat) := j4 7 _ (il7 (by omega)); rw [o1] at w1; have bd : bB (M 0 7) a.toNat = true := (by rw [m2 0 7 (by omega) (by omega)]; exact (dd_bit hw (by omega) (by omega)).mpr (Or.inr rfl)); obtain ⟨⟨M2, x1, x2⟩, x3⟩ := c_X1_passOn5 j4 m1 (hD.cg d13 d14) (by omega) (by rw [m2 0 4 (by omega) (by omega)]; show 0 ≤ a ∧ a < L 0 4; omega) bd (by rw [Int.toNat_natCast]; omega) p2; rw [Int.toNat_natCast] at x2; exact ⟨rfl, rfl, u + 1, ⟨by omega, j2, j3, ⟨M2, x1, j5.st (by omega) (by omega) (fun k hk => by have r := hw.2.2.2.2.1 a.toNat k (by omega) (by have := (hw.1.2.2.1 a.toNat (by omega)).2; unfold hnL at hk; have e : ddL L a.toNat 14 a.toNat = L 14 a.toNat := up_ne (by omega); rw [e] at hk; omega) (by unfold hnL at hk; have e : ddL L a.toNat 14 a.toNat = L 14 a.toNat := up_ne (by omega); rw [e] at hk; omega); unfold hrL; have e : ddL L a.toNat 13 (3 * a.toNat + k) = L 13 (3 * a.toNat + k) := up_ne (by omega); rw [e]; omega) x2⟩, fun c k y1 y2 y3 => (x3 c k y2 y3).trans (j6 c k y1 y2 y3)⟩, rfl, rfl, wv (by omega) (by omega) (by omega), trivial⟩))⟩)⟩)⟩
  exact q v rfl
set_option maxRecDepth 10000 in
theorem v_X1_remit5 {sl : Nat} {si : Nat → Int} {K : Nat → PH → ZL → List ZV → Prop} {Q : PH → List ZV → Prop} {h : PH}  {a b : Int} (H : ∀ h1 v1, CP (zz sl si (7, 0)) mX1_isDead h [(2, 5), (0, a)] h1 [(0, v1)] → v1 = 0 ∨ v1 = 1 → (v1 ≠ 0 → Q h1 [(0, 0)]) ∧ (¬ (v1 ≠ 0) → ∀ h2 v2, CP (zz sl si (7, 0)) mX0_of h1 [(2, 11), (0, b), (0, a)] h2 [(0, v2)] → R32 v2 → (v2 ≠ 0 → ∀ h3, CP (zz sl si (7, 0)) mX0_put h2 [(2, 11), (0, b), (0, a), (0, 0)] h3 [] → Q h3 [(0, 1)]) ∧ (¬ (v2 ≠ 0) → Q h2 [(0, 0)]))) : vc (zz sl si (7, 0)) (fun _ => false) K Q mX1_remit 20 0 mX1_remit.2.2.2.2.2.2 h [(0, (2, 5)), (1, (0, a)), (2, (0, b))] [] := H
set_option maxHeartbeats 600000 in
theorem c_X1_remit5 {sl : Nat} {si : Nat → Int} {h h' : PH} {L : PH} {a b : Int} {v : Int} (hL : CL 5 h L) (hw : W9 L) (ha : 0 ≤ a ∧ a < L 0 4) (hb : 0 ≤ b ∧ b < L 0 4) (hc : CP (zz sl si (7, 0)) mX1_remit h [(2, 5), (0, a), (0, b)] h' [(0, v)]) : (v = 0 ∧ h' = h ∧ (bB (L 0 7) a.toNat = true ∨ L 7 (8 * b.toNat + a.toNat) = 0)) ∨ (v = 1 ∧ ¬ bB (L 0 7) a.toNat = true ∧ L 7 (8 * b.toNat + a.toNat) ≠ 0 ∧ CL 5 h' (owe L b a 0) ∧ (∀ c k : Nat, c ≠ 12 → c ≠ 13 → h' c k = h c k)) := by
  have q : (fun (xh : PH) (r : List ZV) => ∀ v : Int, r = [(0, v)] → ((v = 0 ∧ xh = h ∧ (bB (L 0 7) a.toNat = true ∨ L 7 (8 * b.toNat + a.toNat) = 0)) ∨ (v = 1 ∧ ¬ bB (L 0 7) a.toNat = true ∧ L 7 (8 * b.toNat + a.toNat) ≠ 0 ∧ CL 5 xh (owe L b a 0) ∧ (∀ c k : Nat, c ≠ 12 → c ≠ 13 → xh c k = h c k)))) h' [(0, v)] := by
    refine cp_vc (cut := (fun _ => false)) (K := fun p hx lv st => False) (Q := fun (xh : PH) (r : List ZV) => ∀ v : Int, r = [(0, v)] → ((v = 0 ∧ xh = h ∧ (bB (L 0 7) a.toNat = true ∨ L 7 (8 * b.toNat + a.toNat) = 0)) ∨ (v = 1 ∧ ¬ bB (L 0 7) a.toNat = true ∧ L 7 (8 * b.toNat + a.toNat) ≠ 0 ∧ CL 5 xh (owe L b a 0) ∧ (∀ c k : Nat, c ≠ 12 → c ≠ 13 → xh c k = h c k)))) (v_X1_remit5 ?_) (fun pc hx lv st hcut hK => ?_) hc
    · exact (fun h1 v1 p1 q1 => ⟨fun c1 => (by have h8 := hw.1.2.1; obtain ⟨t1, w1⟩ := c_X1_isDead5 hL (by omega) p1; have t1 := t1.symm; subst t1; intro v e; cases e; exact Or.inl ⟨rfl, rfl, Or.inl (w1.mp (by omega))⟩), fun c1 => (fun h2 v2 p2 q2 => ⟨fun c2 => (fun h3 p3 => (by have h8 := hw.1.2.1; obtain ⟨t1, w1⟩ := c_X1_isDead5 hL (by omega) p1; have t1 := t1.symm; subst t1; obtain ⟨t2, w2⟩ := c_X0_of5 (by omega) (by omega) p2; have t2 := t2.symm; subst t2; have o1 : h 12 (8 * b.toNat + a.toNat) = L 7 (8 * b.toNat + a.toNat) := hL 7 _ (il7 (by omega)); rw [o1] at w2; obtain ⟨x1, x2⟩ := c_X0_put5 hL hw.1 (by omega) (by omega) (by omega) p3; intro v e; cases e; exact Or.inr ⟨rfl, fun z => by have := w1.mpr z; omega, by omega, x1, x2⟩)), fun c2 => (by have h8 := hw.1.2.1; obtain ⟨t1, w1⟩ := c_X1_isDead5 hL (by omega) p1; have t1 := t1.symm; subst t1; obtain ⟨t2, w2⟩ := c_X0_of5 (by omega) (by omega) p2; have t2 := t2.symm; subst t2; have o1 : h 12 (8 * b.toNat + a.toNat) = L 7 (8 * b.toNat + a.toNat) := hL 7 _ (il7 (by omega)); rw [o1] at w2; intro v e; cases e; exact Or.inl ⟨rfl, rfl, Or.inr (by omega)⟩)⟩)⟩)
    · exact hK.elim
  exact q v rfl
set_option maxRecDepth 10000 in
theorem v_X1_slander5 {sl : Nat} {si : Nat → Int} {K : Nat → PH → ZL → List ZV → Prop} {Q : PH → List ZV → Prop} {h : PH}  {a b c : Int} (H : ∀ h1 v1, CP (zz sl si (7, 0)) mX1_isDead h [(2, 5), (0, a)] h1 [(0, v1)] → v1 = 0 ∨ v1 = 1 → (v1 = 0 → Q h1 [(0, 0)]) ∧ (¬ (v1 = 0) → ∀ h2 v2, CP (zz sl si (7, 0)) mX1_isDead h1 [(2, 5), (0, b)] h2 [(0, v2)] → v2 = 0 ∨ v2 = 1 → (v2 = 0 → ∀ h3, CP (zz sl si (7, 0)) mX0_add h2 [(2, 11), (0, a), (0, b), (0, c)] h3 [] → Q h3 [(0, 1)]) ∧ (¬ (v2 = 0) → Q h2 [(0, 0)]))) : vc (zz sl si (7, 0)) (fun _ => false) K Q mX1_slander 18 0 mX1_slander.2.2.2.2.2.2 h [(0, (2, 5)), (1, (0, a)), (2, (0, b)), (3, (0, c))] [] := H
set_option maxHeartbeats 600000 in
theorem c_X1_slander5 {sl : Nat} {si : Nat → Int} {h h' : PH} {L : PH} {a b c : Int} {v : Int} (hL : CL 5 h L) (hw : W9 L) (ha : 0 ≤ a ∧ a < L 0 4) (hb : 0 ≤ b ∧ b < L 0 4) (hv : 1 ≤ c ∧ c ≤ 99) (hc : CP (zz sl si (7, 0)) mX1_slander h [(2, 5), (0, a), (0, b), (0, c)] h' [(0, v)]) : (v = 0 ∧ h' = h ∧ (¬ bB (L 0 7) a.toNat = true ∨ bB (L 0 7) b.toNat = true)) ∨ (v = 1 ∧ bB (L 0 7) a.toNat = true ∧ ¬ bB (L 0 7) b.toNat = true ∧ CL 5 h' (owe L a b (cap9 (L 7 (8 * a.toNat + b.toNat) + c))) ∧ (∀ c k : Nat, c ≠ 12 → c ≠ 13 → h' c k = h c k)) := by
  have q : (fun (xh : PH) (r : List ZV) => ∀ v : Int, r = [(0, v)] → ((v = 0 ∧ xh = h ∧ (¬ bB (L 0 7) a.toNat = true ∨ bB (L 0 7) b.toNat = true)) ∨ (v = 1 ∧ bB (L 0 7) a.toNat = true ∧ ¬ bB (L 0 7) b.toNat = true ∧ CL 5 xh (owe L a b (cap9 (L 7 (8 * a.toNat + b.toNat) + c))) ∧ (∀ c k : Nat, c ≠ 12 → c ≠ 13 → xh c k = h c k)))) h' [(0, v)] := by
    refine cp_vc (cut := (fun _ => false)) (K := fun p hx lv st => False) (Q := fun (xh : PH) (r : List ZV) => ∀ v : Int, r = [(0, v)] → ((v = 0 ∧ xh = h ∧ (¬ bB (L 0 7) a.toNat = true ∨ bB (L 0 7) b.toNat = true)) ∨ (v = 1 ∧ bB (L 0 7) a.toNat = true ∧ ¬ bB (L 0 7) b.toNat = true ∧ CL 5 xh (owe L a b (cap9 (L 7 (8 * a.toNat + b.toNat) + c))) ∧ (∀ c k : Nat, c ≠ 12 → c ≠ 13 → xh c k = h c k)))) (v_X1_slander5 ?_) (fun pc hx lv st hcut hK => ?_) hc
    · exact (fun h1 v1 p1 q1 => ⟨fun c1 => (by have h8 := hw.1.2.1; obtain ⟨t1, w1⟩ := c_X1_isDead5 hL (by omega) p1; have t1 := t1.symm; subst t1; intro v e; cases e; exact Or.inl ⟨rfl, rfl, Or.inl (fun z => by have := w1.mpr z; omega)⟩), fun c1 => (fun h2 v2 p2 q2 => ⟨fun c2 => (fun h3 p3 => (by have h8 := hw.1.2.1; obtain ⟨t1, w1⟩ := c_X1_isDead5 hL (by omega) p1; have t1 := t1.symm; subst t1; obtain ⟨t2, w2⟩ := c_X1_isDead5 hL (by omega) p2; have t2 := t2.symm; subst t2; obtain ⟨x1, x2⟩ := c_X0_add5 hL hw (by omega) (by omega) (by omega) p3; intro v e; cases e; exact Or.inr ⟨rfl, w1.mp (by omega), fun z => (by have := w2.mpr z; omega), x1, x2⟩)), fun c2 => (by have h8 := hw.1.2.1; obtain ⟨t1, w1⟩ := c_X1_isDead5 hL (by omega) p1; have t1 := t1.symm; subst t1; obtain ⟨t2, w2⟩ := c_X1_isDead5 hL (by omega) p2; have t2 := t2.symm; subst t2; intro v e; cases e; exact Or.inl ⟨rfl, rfl, Or.inr (w2.mp (by omega))⟩)⟩)⟩)
    · exact hK.elim
  exact q v rfl
end
section
/-! 45z.8d.die9 -/
/-! DIE: the reference does what the class does -/
theorem RN9.eq {h L L' : PH} (r : RN9 h L) (e7 : ∀ q : Nat, q < 64 → L' 7 q = L 7 q) (e : ∀ j k : Nat, j ≠ 7 → j ≠ 8 → L' j k = L j k) : RN9 h L' := by
  obtain ⟨a, b, c, d, f⟩ := r
  refine ⟨by rw [e 1 0 (by omega) (by omega), e 0 4 (by omega) (by omega), e 0 12 (by omega) (by omega), e 0 13 (by omega) (by omega)]; exact a, fun i hi => by rw [e 1 1 (by omega) (by omega), e 2 i (by omega) (by omega), e 15 i (by omega) (by omega)]; exact b i hi, fun p hp => by rw [e 0 4 (by omega) (by omega), e 11 p (by omega) (by omega), e 12 p (by omega) (by omega), e 0 7 (by omega) (by omega), e 0 8 (by omega) (by omega), e 0 9 (by omega) (by omega)]; exact c p hp, fun q hq => by rw [e7 q hq]; exact d q hq, fun p hp => ?_⟩
  rw [e 14 p (by omega) (by omega)]
  exact ⟨(f p hp).1, fun k hk q => by rw [e 13 _ (by omega) (by omega)]; exact (f p hp).2 k hk q⟩
theorem RN9.ud {h L : PH} (r : RN9 h L) (w : W9 L) {p : Nat} (hp : p < 8) : RN9 (uph h 170 (29 + 5 * p) 1) (ddL L p) := by
  obtain ⟨a, b, c, d, f⟩ := r
  have z : ∀ k : Nat, k ≠ 29 + 5 * p → uph h 170 (29 + 5 * p) 1 170 k = h 170 k := fun k hk => up_ne (by omega)
  have y : ∀ j k : Nat, ¬ (j = 0 ∧ k = 7) → ddL L p j k = L j k := fun j k q => up_ne (by omega)
  have y7 : ddL L p 0 7 = zor (L 0 7) (zshl 1 (p : Int)) := by rw [ddL, up_rd, if_pos ⟨rfl, rfl⟩]
  have s := w.1.s.2.1
  have bo := (bt_or (L 0 7).toNat (by have := s.1; have := s.2.1; omega) p hp).2
  rw [Int.toNat_of_nonneg s.1] at bo
  refine ⟨by rw [y 1 0 (by omega), y 0 4 (by omega), y 0 12 (by omega), y 0 13 (by omega), z _ (by omega), z _ (by omega), z _ (by omega), z _ (by omega)]; exact a, fun i hi => by rw [y 1 1 (by omega), y 2 i (by omega), y 15 i (by omega), z _ (by omega), z _ (by omega), z _ (by omega)]; exact b i hi, fun q hq => ?_, fun q hq => by rw [y 7 q (by omega), z _ (by omega)]; exact d q hq, fun q hq => ?_⟩
  · rw [y 0 4 (by omega), y 11 q (by omega), y 12 q (by omega), y 0 8 (by omega), y 0 9 (by omega), y7, bo q hq, z (27 + 5 * q) (by omega), z (28 + 5 * q) (by omega), z (30 + 5 * q) (by omega), z (31 + 5 * q) (by omega)]
    obtain ⟨c1, c2, c3, c4⟩ := c q hq
    refine ⟨c1, ?_, c3, c4⟩
    by_cases x : q = p
    · subst x; rw [if_pos rfl, up_rd, if_pos ⟨rfl, rfl⟩]
    · rw [if_neg x, z _ (by omega)]; exact c2
  · rw [y 14 q (by omega), z _ (by omega)]
    exact ⟨(f q hq).1, fun k hk x => by rw [y 13 _ (by omega), z _ (by omega)]; exact (f q hq).2 k hk x⟩
section RF
variable {g L : PH} {p d : Nat}
theorem he_b9 (r : RN9 g L) (hp : p < 8) {k : Nat} (hk : k < 3) (hn : (k : Int) < L 14 p) : heR g p (k + 1) = hrL L p k := by
  have z := (r.2.2.2.2 p hp).2 k hk hn
  unfold heR hrL
  rw [show 131 + 4 * p + (k + 1) = 132 + 4 * p + k by omega, z]
theorem ok_b9 (r : RN9 g L) (w : W9 L) (hp : p < 8) {k : Nat} (hk : k < 3) (hn : (k : Int) < L 14 p) : (g 170 (29 + 5 * heR g p (k + 1)) ≠ 1 ∧ heR g p (k + 1) ≠ d) ↔ okL L p d k := by
  have r13 := w.2.2.2.2.1 p k hp hk hn
  have h8 := w.1.2.1
  have x8 : hrL L p k < 8 := by unfold hrL; omega
  rw [he_b9 r hp hk hn, (r.2.2.1 _ x8).2.1]
  unfold okL
  rw [Ne, bt_B x8]
theorem hb_b9 (r : RN9 g L) (w : W9 L) (hp : p < 8) : ∀ k : Nat, (k : Int) ≤ L 14 p → hbR g p d k = cnL L p d k
  | 0, _ => rfl
  | k + 1, hk => by
    have h3 := w.1.2.2.1 p hp
    have o := ok_b9 (d := d) r w hp (k := k) (by omega) (by omega)
    show hbR g p d k + cif _ 1 0 = cnL L p d k + cif _ 1 0
    rw [hb_b9 r w hp k (by omega)]
    by_cases c : okL L p d k
    · rw [cif_p c, cif_p (o.mpr c)]
    · rw [cif_n c, cif_n (fun z => c (o.mp z))]
theorem hc_b9 (r : RN9 g L) (hp : p < 8) : hcR g p = hnL L p := by
  unfold hcR hnL
  rw [(r.2.2.2.2 p hp).1]
theorem pa_b9 (r : RN9 g L) (w : W9 L) (hp : p < 8) (hd : d < 8) {k : Nat} (hk : (k : Int) ≤ L 14 p) : paR g p d k = shL L p d k := by
  have h3 := w.1.2.2.1 p hp
  have e := r.2.2.2.1 (8 * d + p) (by omega)
  unfold paR shL
  rw [hb_b9 r w hp k hk, hc_b9 r hp, hb_b9 r w hp (hnL L p) (by unfold hnL; omega), show 67 + 8 * d + p = 67 + (8 * d + p) by omega, e]
  rfl
theorem zm_c {x : Int} : zmin 99 x = cap9 x := by
  unfold zmin cap9
  by_cases c : x ≤ 99
  · rw [if_pos c]
    by_cases q : x < 99
    · rw [if_pos q]
    · rw [if_neg q]; omega
  · rw [if_neg c, if_neg (by omega)]
/-- in the order of the heirs -/
def PKd (L : PH) (p d u : Nat) (M : PH) : Prop := W9 M ∧ (∀ j k : Nat, j ≠ 7 → j ≠ 8 → M j k = L j k) ∧ (∀ e x : Nat, e < 8 → x < 8 → e ≠ d → M 7 (8 * e + x) = L 7 (8 * e + x)) ∧ (∀ k : Nat, k < u → okL L p d k → M 7 (8 * d + hrL L p k) = cap9 (L 7 (8 * d + hrL L p k) + shL L p d k)) ∧ ∀ x : Nat, x < 8 → (∀ k : Nat, k < u → okL L p d k → hrL L p k ≠ x) → M 7 (8 * d + x) = L 7 (8 * d + x)
theorem diK_9 (r : RN9 g L) (w : W9 L) (hD : DsL L) (hp : p < 8) (hd : d < 8) (hpd : bB (L 0 7) p = true) : ∀ u : Nat, (u : Int) ≤ L 14 p → ∃ M, RN9 (diK g p d u) M ∧ PKd L p d u M
  | 0, _ => ⟨L, r, w, fun _ _ _ _ => rfl, fun _ _ _ _ _ => rfl, fun k hk => absurd hk (by omega), fun _ _ _ => rfl⟩
  | u + 1, hu => by
    obtain ⟨M, q, m⟩ := diK_9 r w hD hp hd hpd u (by omega)
    obtain ⟨m1, m2, m3, m4, m5⟩ := id m
    have h3 := w.1.2.2.1 p hp
    have h8 := w.1.2.1
    have r13 := w.2.2.2.2.1 p u hp (by omega) (by omega)
    have e14 : M 14 p = L 14 p := m2 14 p (by omega) (by omega)
    have e13 : ∀ k, M 13 k = L 13 k := fun k => m2 13 k (by omega) (by omega)
    have e07 : M 0 7 = L 0 7 := m2 0 7 (by omega) (by omega)
    have o := ok_b9 (d := d) q m1 hp (k := u) (by omega) (by rw [e14]; omega)
    rw [ok_cg e07 e13] at o
    have eh : heR (diK g p d u) p (u + 1) = hrL L p u := by
      rw [he_b9 q hp (by omega) (by rw [e14]; omega)]; unfold hrL; rw [e13]
    have nx : ∀ k : Nat, k < u → okL L p d k → hrL L p k ≠ hrL L p u := fun k hk _ => hD p k u hp hk (by omega)
    by_cases c : okL L p d u
    · have x8 : hrL L p u < 8 := by unfold hrL; omega
      have pd : M 7 (8 * d + p) = L 7 (8 * d + p) := m5 p hp (fun k _ ho z => ho.1 (by rw [z]; exact hpd))
      have xd : M 7 (8 * d + hrL L p u) = L 7 (8 * d + hrL L p u) := m5 _ x8 nx
      have sb := sh_b w hp hd (k := u)
      have ob := w.1.2.2.2.2.1 (8 * d + hrL L p u) (by omega)
      have cb := cap9_b (x := L 7 (8 * d + hrL L p u) + shL L p d u) (by omega)
      have e : diK g p d (u + 1) = uph (diK g p d u) 170 (67 + 8 * d + hrL L p u) (cap9 (L 7 (8 * d + hrL L p u) + shL L p d u)) := by
        show (if _ then _ else _) = _
        rw [if_pos (o.mpr c), eh, pa_b9 q m1 hp hd (by rw [e14]; omega), sh_cg e07 e13 e14 pd, show 67 + 8 * d + hrL L p u = 67 + (8 * d + hrL L p u) by omega, q.2.2.2.1 _ (by omega), xd, w32_id (by omega) (by omega), zm_c]
      have ow := q.ow (x := (d : Int)) (y := (hrL L p u : Int)) (v := cap9 (L 7 (8 * d + hrL L p u) + shL L p d u)) (by omega) (by omega)
      rw [Int.toNat_natCast, Int.toNat_natCast] at ow
      refine ⟨_, by rw [e]; exact ow, m1.ow (by omega) ⟨by omega, by rw [m2 0 4 (by omega) (by omega)]; unfold hrL; omega⟩ cb, fun j k j7 j8 => by rw [owe_o j7 j8]; exact m2 j k j7 j8, fun e x he hx hne => by rw [owe_7, if_neg (by omega)]; exact m3 e x he hx hne, fun k hk ho => ?_, fun x hx hxq => ?_⟩
      · by_cases z : k = u
        · subst z; rw [owe_7, if_pos (by omega)]
        · have := nx k (by omega) ho
          rw [owe_7, if_neg (by omega)]; exact m4 k (by omega) ho
      · have := hxq u (by omega) c
        rw [owe_7, if_neg (by omega)]; exact m5 x hx (fun k hk => hxq k (by omega))
    · have e : diK g p d (u + 1) = diK g p d u := by
        show (if _ then _ else _) = _
        rw [if_neg (fun z => c (o.mp z))]
      refine ⟨M, by rw [e]; exact q, m1, m2, m3, fun k hk ho => ?_, fun x hx hxq => m5 x hx (fun k hk => hxq k (by omega))⟩
      by_cases z : k = u
      · subst z; exact absurd ho c
      · exact m4 k (by omega) ho
theorem diA_9 (r : RN9 g L) (w : W9 L) (hD : DsL L) (hp : (p : Int) < L 0 4) (hz : L 7 (8 * p + p) = 0) : ∀ d : Nat, (d : Int) ≤ L 0 4 → ∃ M, RN9 (diA g p d) M ∧ DIn (ddL L p) p d M
  | 0, _ => by
    have h8 := w.1.2.1
    exact ⟨ddL L p, r.ud w (by omega), w.dd hp, fun _ _ _ _ => rfl, fun d hd => absurd hd (by omega), fun _ _ _ _ _ => rfl⟩
  | d + 1, hd => by
    have h8 := w.1.2.1
    have p8 : p < 8 := by omega
    obtain ⟨M, q, m⟩ := diA_9 r w hD hp hz d (by omega)
    obtain ⟨m1, m2, m3, m4⟩ := id m
    have y : ∀ j k : Nat, ¬ (j = 0 ∧ k = 7) → ddL L p j k = L j k := fun j k q => up_ne (by omega)
    have e14 : ∀ k, M 14 k = L 14 k := fun k => (m2 14 k (by omega) (by omega)).trans (y 14 k (by omega))
    have e13 : ∀ k, M 13 k = L 13 k := fun k => (m2 13 k (by omega) (by omega)).trans (y 13 k (by omega))
    have ev : diA g p d 170 (67 + 8 * d + p) = M 7 (8 * d + p) := by
      rw [show 67 + 8 * d + p = 67 + (8 * d + p) by omega]; exact q.2.2.2.1 _ (by omega)
    have ob := m1.1.2.2.2.2.1 (8 * d + p) (by omega)
    by_cases c : d = p ∨ diA g p d 170 (67 + 8 * d + p) = 0
    · have e : diA g p (d + 1) = diA g p d := if_pos c
      refine ⟨M, by rw [e]; exact q, m.no (by omega) p8 ?_⟩
      rcases c with c | c
      · subst c
        rw [m4 d d (by omega) (by omega) (by omega), y 7 _ (by omega), hz]
        exact Int.le_refl 0
      · rw [← ev, c]
        exact Int.le_refl 0
    · have e : diA g p (d + 1) = uph (diK (diA g p d) p d (hcR (diA g p d) p)) 170 (67 + 8 * d + p) (zmin 99 0) := if_neg c
      have bd : bB (M 0 7) p = true := by rw [m2 0 7 (by omega) (by omega)]; exact (dd_bit w p8 p8).mpr (Or.inr rfl)
      have h3 := m1.1.2.2.1 p p8
      obtain ⟨N, s, n1, n2, n3, n4, n5⟩ := diK_9 (d := d) q m1 (hD.cg e13 e14) p8 (by omega) bd (hnL M p) (by unfold hnL; omega)
      have ow := s.ow (x := (d : Int)) (y := (p : Int)) (v := 0) (by omega) (by omega)
      rw [Int.toNat_natCast, Int.toNat_natCast] at ow
      have e4 : M 0 4 = L 0 4 := (m2 0 4 (by omega) (by omega)).trans (y 0 4 (by omega))
      refine ⟨owe N (d : Int) (p : Int) 0, by rw [e, hc_b9 q p8, zm0]; exact ow, m.st (by omega) p8 (fun k hk => ?_) ⟨n1.ow (by omega) ⟨by omega, by rw [n2 0 4 (by omega) (by omega), e4]; exact hp⟩ (by omega), fun j k j7 j8 => by rw [owe_o j7 j8]; exact n2 j k j7 j8, fun e x he hx hne => by rw [owe_7, if_neg (by omega)]; exact n3 e x he hx hne, fun z => ?_, fun _ => ⟨by rw [owe_7, if_pos (by omega)], fun k hk ho => ?_, fun x hx hxp hxq => ?_⟩⟩⟩
      · unfold hnL at hk
        rw [y 14 p (by omega)] at hk
        have r13 := w.2.2.2.2.1 p k p8 (by rw [e14] at h3; omega) (by omega)
        unfold hrL
        rw [y 13 _ (by omega)]
        omega
      · exact absurd (show diA g p d 170 (67 + 8 * d + p) = 0 by rw [ev]; omega) (fun z => c (Or.inr z))
      · have ne : hrL M p k ≠ p := fun z => ho.1 (by rw [z]; exact bd)
        rw [owe_7, if_neg (by omega)]; exact n4 k hk ho
      · rw [owe_7, if_neg (by omega)]; exact n5 x hx hxq
theorem DIn.one {M M' : PH} {u : Nat} (m : DIn L p u M) (n : DIn L p u M') (hp : p < 8) (hR : ∀ k : Nat, k < hnL L p → hrL L p k < 8) : ∀ q : Nat, q < 64 → M' 7 q = M 7 q := fun q hq => by
  obtain ⟨-, -, m3, m4⟩ := m
  obtain ⟨-, -, n3, n4⟩ := n
  have e : q = 8 * (q / 8) + q % 8 := by omega
  generalize hx : q % 8 = x at e
  generalize hd : q / 8 = d at e
  have x8 : x < 8 := by omega
  have d8 : d < 8 := by omega
  rw [e]
  by_cases c : d < u
  · have a := m3 d c
    have b := n3 d c
    by_cases z : L 7 (8 * d + p) ≤ 0
    · rw [a.1 z x x8, b.1 z x x8]
    · obtain ⟨a1, a2, a3⟩ := a.2 (by omega)
      obtain ⟨b1, b2, b3⟩ := b.2 (by omega)
      by_cases y : x = p
      · subst y; rw [a1, b1]
      · by_cases w : ∃ k, k < hnL L p ∧ okL L p d k ∧ hrL L p k = x
        · obtain ⟨k, k1, k2, k3⟩ := w
          have a4 := a2 k k1 k2
          have b4 := b2 k k1 k2
          rw [k3] at a4 b4
          rw [a4, b4]
        · have no : ∀ k, k < hnL L p → okL L p d k → hrL L p k ≠ x := fun k k1 k2 k3 => w ⟨k, k1, k2, k3⟩
          rw [a3 x x8 y no, b3 x x8 y no]
  · rw [m4 d x (by omega) d8 x8, n4 d x (by omega) d8 x8]
/-- a DIE does the same -/
theorem di_b9 {M : PH} (r : RN9 g L) (w : W9 L) (hD : DsL L) (hp : (p : Int) < L 0 4) (hz : L 7 (8 * p + p) = 0) (m : DIn (ddL L p) p (L 0 4).toNat M) : RN9 (diR g p) M := by
  have h8 := w.1.2.1
  have h3 := w.1.2.2.1 p (by omega)
  obtain ⟨N, s, n⟩ := diA_9 r w hD hp hz (L 0 4).toNat (by omega)
  have y : ∀ j k : Nat, ¬ (j = 0 ∧ k = 7) → ddL L p j k = L j k := fun j k q => up_ne (by omega)
  have e : diR g p = diA g p (L 0 4).toNat := by unfold diR; rw [r.1.2.1]
  rw [e]
  refine s.eq (n.one m (by omega) (fun k hk => ?_)) (fun j k j7 j8 => by rw [m.2.1 j k j7 j8, n.2.1 j k j7 j8])
  unfold hnL at hk
  rw [y 14 p (by omega)] at hk
  have r13 := w.2.2.2.2.1 p k (by omega) (by omega) (by omega)
  unfold hrL
  rw [y 13 _ (by omega)]
  omega
end RF
end
section
/-! 45z.8e.sets -/
/-! what holds of a LAND, all of it -/
def W10 (L : PH) : Prop := W9 L ∧ DsL L ∧ (∀ p : Nat, p < 8 → L 7 (8 * p + p) = 0) ∧ (∀ i : Nat, i < 7 → SB (L 2 i) (L 1 0)) ∧ (∀ i j : Nat, i < 7 → j < 7 → bB (L 2 i) j = bB (L 2 j) i) ∧ ∀ p b : Nat, p < 8 → b < 8 → L 0 4 ≤ (p : Int) → L 7 (8 * p + b) = 0
theorem zx_d : ∀ s : Fin 256, ∀ n : Fin 8, (0 ≤ zxor (s.val : Int) (zshl 1 (n.val : Int)) ∧ zxor (s.val : Int) (zshl 1 (n.val : Int)) < 256) ∧ (bt (s.val : Int) n.val = 0 → zor (s.val : Int) (zshl 1 (n.val : Int)) = zxor (s.val : Int) (zshl 1 (n.val : Int))) ∧ (bt (s.val : Int) n.val = 1 → zand (s.val : Int) (zxor (zshl 1 (n.val : Int)) (-1)) = zxor (s.val : Int) (zshl 1 (n.val : Int))) := by decide +kernel
theorem zx_c {v n : Int} {m : Int} (h : SB v m) (h0 : 0 ≤ n) (h8 : n < 8) : (0 ≤ zxor v (zshl 1 n) ∧ zxor v (zshl 1 n) < 256) ∧ (¬ bB v n.toNat = true → zor v (zshl 1 n) = zxor v (zshl 1 n)) ∧ (bB v n.toNat = true → zand v (zxor (zshl 1 n) (-1)) = zxor v (zshl 1 n)) := by
  have z := zx_d ⟨v.toNat, by have := h.1; have := h.2.1; omega⟩ ⟨n.toNat, by omega⟩
  have e1 : ((v.toNat : Nat) : Int) = v := Int.toNat_of_nonneg h.1
  have e2 : ((n.toNat : Nat) : Int) = n := by omega
  dsimp only at z
  rw [e1, e2] at z
  have q : bt v n.toNat = if bB v n.toNat then 1 else 0 := bt_bB v (i := n.toNat) (by omega)
  exact ⟨z.1, fun y => z.2.1 (by rw [q, if_neg y]), fun y => z.2.2 (by rw [q, if_pos y])⟩
theorem zx_b {v n : Int} {j : Nat} (h0 : 0 ≤ n) (h8 : n < 8) (hj : j < 8) : bB (zxor v (zshl 1 n)) j = (bB v j ^^ decide (j = n.toNat)) := by
  have e : bB (zshl 1 n) j = decide (j = n.toNat) := by
    have := bB_one (a := n.toNat) (i := j) (by omega) hj
    rw [show ((n.toNat : Nat) : Int) = n by omega] at this
    exact this
  rw [bB_xor, e]
theorem bt_e {v : Int} {j : Nat} (hj : j < 8) : bt v j = if bB v j = true then 1 else 0 := bt_bB v hj
theorem zx_t {v n : Int} {j : Nat} (h0 : 0 ≤ n) (h8 : n < 8) (hj : j < 8) : bt (zxor v (zshl 1 n)) j = if j = n.toNat then 1 - bt v j else bt v j := by
  rw [bt_e hj, bt_e hj, zx_b h0 h8 hj]
  by_cases y : j = n.toNat
  · rw [if_pos y, decide_eq_true y]
    cases bB v j <;> rfl
  · rw [if_neg y, decide_eq_false y]
    cases bB v j <;> rfl
theorem SB.fl {v m n : Int} (h : SB v m) (h0 : 0 ≤ n) (hm : n < m) (h8 : n < 8) : SB (zxor v (zshl 1 n)) m := by
  obtain ⟨z, -, -⟩ := zx_c h h0 h8
  refine ⟨z.1, z.2, fun i hi hn => ?_⟩
  rw [zx_t h0 h8 hi, if_neg (by omega)]
  exact h.2.2 i hi hn
/-- a place of which one bit is turned -/
def flL (L : PH) (j k : Nat) (n : Int) : PH := uph L j k (zxor (L j k) (zshl 1 n))
theorem fl_o {L : PH} {j k j' k' : Nat} {n : Int} (e : ¬ (j' = j ∧ k' = k)) : flL L j k n j' k' = L j' k' := by
  unfold flL
  rw [up_rd, if_neg e]
theorem fl_s {L : PH} {j k : Nat} {n : Int} : flL L j k n j k = zxor (L j k) (zshl 1 n) := by
  unfold flL
  rw [up_rd, if_pos ⟨rfl, rfl⟩]
theorem W9.rd {L M : PH} (w : W9 L) (hW : WL M) (e0 : M 0 4 = L 0 4) (e1 : M 1 0 = L 1 0) (hT : TBL M) (e : ∀ j k : Nat, 5 ≤ j → M j k = L j k) : W9 M := by
  obtain ⟨w1, w2, w3, w4, w5, w6⟩ := w
  refine ⟨hW, fun p b hp hb h => ?_, fun p hp => ?_, hT, fun p k hp hk h => ?_, fun i hi => by rw [e 15 i (by omega)]; exact w6 i hi⟩
  · rw [e0] at h
    rw [e 7 _ (by omega)]; exact w2 p b hp hb h
  · rw [e0] at hp
    rw [e 11 p (by omega), e 12 p (by omega), e1]; exact w3 p hp
  · rw [e 14 p (by omega)] at h
    rw [e 13 _ (by omega), e0]; exact w5 p k hp hk h
theorem W10.kp {L M : PH} (w : W10 L) (w9 : W9 M) (e1 : M 1 0 = L 1 0) (e2 : ∀ k, M 2 k = L 2 k) (e0 : M 0 4 = L 0 4) (e7 : ∀ p b : Nat, p < 8 → b < 8 → p = b ∨ L 0 4 ≤ (p : Int) → M 7 (8 * p + b) = L 7 (8 * p + b)) (e13 : ∀ k, M 13 k = L 13 k) (e14 : ∀ k, M 14 k = L 14 k) : W10 M := by
  obtain ⟨-, w2, w3, w4, w5, w6⟩ := w
  exact ⟨w9, w2.cg e13 e14, fun p hp => by rw [e7 p p hp hp (Or.inl rfl)]; exact w3 p hp, fun i hi => by rw [e2, e1]; exact w4 i hi, fun i j hi hj => by rw [e2, e2]; exact w5 i j hi hj, fun p b hp hb q => by rw [e0] at q; rw [e7 p b hp hb (Or.inr q)]; exact w6 p b hp hb q⟩
/-- keep -/
theorem W10.fk {L : PH} (w : W10 L) {p : Int} (h0 : 0 ≤ p) (hp : p < L 0 4) : W10 (flL L 0 9 p) := by
  have h8 := w.1.1.2.1
  have s := w.1.1.s
  refine w.kp (w.1.kp (w.1.1.kp (fun j k q => fl_o (by omega)) (by rw [fl_o (by omega)]; exact w.1.1.1) (by rw [fl_o (by omega)]; exact h8) ?_) (fl_o (by omega)) (fun j k q => fl_o (by omega)) (fun p b _ _ _ => fl_o (by omega)) (fun p q => by rw [fl_o (by omega), fl_o (by omega)]; exact w.1.2.2.1 p q) (fun k => fl_o (by omega)) (fun k => fl_o (by omega)) (fun i hi => by rw [fl_o (by omega)]; exact w.1.2.2.2.2.2 i hi)) (fl_o (by omega)) (fun k => fl_o (by omega)) (fl_o (by omega)) (fun p b hp hb _ => fl_o (by omega)) (fun k => fl_o (by omega)) (fun k => fl_o (by omega))
  exact WS.of (a := L 1 1) (n := L 1 0) (d := L 0 7) (f := L 0 8) (k := zxor (L 0 9) (zshl 1 p)) (p := L 0 4) (fl_o (by omega)) (fl_o (by omega)) (fl_o (by omega)) (fl_o (by omega)) fl_s (fl_o (by omega)) ⟨s.1, s.2.1, s.2.2.1, s.2.2.2.fl h0 hp (by omega)⟩
/-- move -/
def mvL (L : PH) (p i : Int) : PH := uph (uph L 11 p.toNat i) 12 p.toNat i
theorem mv_o {L : PH} {p i : Int} {j k : Nat} (e : j ≠ 11 ∧ j ≠ 12) : mvL L p i j k = L j k := by
  unfold mvL
  rw [up_ne (by omega), up_ne (by omega)]
theorem W10.mv {L : PH} (w : W10 L) {p i : Int} (hi : 0 ≤ i ∧ i < L 1 0) : W10 (mvL L p i) := by
  have h8 := w.1.1.2.1
  refine w.kp (w.1.kp (w.1.1.kp (fun j k q => mv_o (by omega)) (by rw [mv_o (by omega)]; exact w.1.1.1) (by rw [mv_o (by omega)]; exact h8) (w.1.1.s.kp (fun j k q => mv_o (by omega)))) (mv_o (by omega)) (fun j k q => mv_o (by omega)) (fun p b _ _ _ => mv_o (by omega)) (fun q hq => ?_) (fun k => mv_o (by omega)) (fun k => mv_o (by omega)) (fun i hi => by rw [mv_o (by omega)]; exact w.1.2.2.2.2.2 i hi)) (mv_o (by omega)) (fun k => mv_o (by omega)) (mv_o (by omega)) (fun p b hp hb _ => mv_o (by omega)) (fun k => mv_o (by omega)) (fun k => mv_o (by omega))
  unfold mvL
  rw [up_ne (by omega), up_rd, up_rd]
  have z := w.1.2.2.1 q hq
  by_cases y : q = p.toNat
  · rw [if_pos ⟨rfl, y⟩, if_pos ⟨rfl, y⟩]; exact ⟨hi, hi⟩
  · rw [if_neg (by omega), if_neg (by omega), up_ne (by omega)]; exact z
/-- salt -/
theorem W10.sa {L M : PH} (w : W10 L) {i : Int} (hi : 0 ≤ i ∧ i < L 1 0) (hT : TBL M) (e : ∀ j k : Nat, j ≠ 3 → j ≠ 4 → M j k = flL L 1 1 i j k) : W10 M := by
  have h7 := w.1.1.1
  have s := w.1.1.s
  have e' : ∀ j k : Nat, ¬ (j = 1 ∧ k = 1) → j ≠ 3 → j ≠ 4 → M j k = L j k := fun j k q q3 q4 => (e j k q3 q4).trans (fl_o q)
  have e11 : M 1 1 = zxor (L 1 1) (zshl 1 i) := (e 1 1 (by omega) (by omega)).trans fl_s
  refine w.kp (w.1.rd (w.1.1.kp (fun j k q => e' j k (by omega) (by omega) (by omega)) (by rw [e' 1 0 (by omega) (by omega) (by omega)]; exact h7) (by rw [e' 0 4 (by omega) (by omega) (by omega)]; exact w.1.1.2.1) ?_) (e' 0 4 (by omega) (by omega) (by omega)) (e' 1 0 (by omega) (by omega) (by omega)) hT (fun j k q => e' j k (by omega) (by omega) (by omega))) (e' 1 0 (by omega) (by omega) (by omega)) (fun k => e' 2 k (by omega) (by omega) (by omega)) (e' 0 4 (by omega) (by omega) (by omega)) (fun p b _ _ _ => e' 7 _ (by omega) (by omega) (by omega)) (fun k => e' 13 k (by omega) (by omega) (by omega)) (fun k => e' 14 k (by omega) (by omega) (by omega))
  exact WS.of (a := zxor (L 1 1) (zshl 1 i)) (n := L 1 0) (d := L 0 7) (f := L 0 8) (k := L 0 9) (p := L 0 4) e11 (e' 1 0 (by omega) (by omega) (by omega)) (e' 0 7 (by omega) (by omega) (by omega)) (e' 0 8 (by omega) (by omega) (by omega)) (e' 0 9 (by omega) (by omega) (by omega)) (e' 0 4 (by omega) (by omega) (by omega)) ⟨s.1.fl hi.1 hi.2 (by omega), s.2.1, s.2.2.1, s.2.2.2⟩
/-- wall -/
def waL (L : PH) (a b : Int) : PH := flL (flL L 2 a.toNat b) 2 b.toNat a
theorem wa_o {L : PH} {a b : Int} {j k : Nat} (e : j ≠ 2) : waL L a b j k = L j k := by
  unfold waL
  rw [fl_o (by omega), fl_o (by omega)]
theorem wa_2 {L : PH} {a b : Int} (h : 0 ≤ a ∧ 0 ≤ b ∧ a ≠ b) {k : Nat} : waL L a b 2 k = if k = a.toNat then zxor (L 2 k) (zshl 1 b) else if k = b.toNat then zxor (L 2 k) (zshl 1 a) else L 2 k := by
  unfold waL
  by_cases x : k = a.toNat
  · rw [if_pos x, fl_o (by omega), x, fl_s]
  · rw [if_neg x]
    by_cases y : k = b.toNat
    · rw [if_pos y, y, fl_s, fl_o (by omega)]
    · rw [if_neg y, fl_o (by omega), fl_o (by omega)]
theorem W10.wa {L M : PH} (w : W10 L) {a b : Int} (ha : 0 ≤ a ∧ a < L 1 0) (hb : 0 ≤ b ∧ b < L 1 0) (hab : a ≠ b) (hT : TBL M) (e : ∀ j k : Nat, j ≠ 3 → j ≠ 4 → M j k = waL L a b j k) : W10 M := by
  have h7 := w.1.1.1
  have s := w.1.1.s
  have e' : ∀ j k : Nat, j ≠ 2 → j ≠ 3 → j ≠ 4 → M j k = L j k := fun j k q q3 q4 => (e j k q3 q4).trans (wa_o q)
  have e2 : ∀ k : Nat, M 2 k = if k = a.toNat then zxor (L 2 k) (zshl 1 b) else if k = b.toNat then zxor (L 2 k) (zshl 1 a) else L 2 k := fun k => (e 2 k (by omega) (by omega)).trans (wa_2 ⟨ha.1, hb.1, hab⟩)
  have w9 : W9 M := w.1.rd (w.1.1.kp (fun j k q => e' j k (by omega) (by omega) (by omega)) (by rw [e' 1 0 (by omega) (by omega) (by omega)]; exact h7) (by rw [e' 0 4 (by omega) (by omega) (by omega)]; exact w.1.1.2.1) (s.kp (fun j k q => e' j k (by omega) (by omega) (by omega)))) (e' 0 4 (by omega) (by omega) (by omega)) (e' 1 0 (by omega) (by omega) (by omega)) hT (fun j k q => e' j k (by omega) (by omega) (by omega))
  obtain ⟨-, w2, w3, w4, w5, w6⟩ := w
  refine ⟨w9, w2.cg (fun k => e' 13 k (by omega) (by omega) (by omega)) (fun k => e' 14 k (by omega) (by omega) (by omega)), fun p hp => by rw [e' 7 _ (by omega) (by omega) (by omega)]; exact w3 p hp, fun i hi => ?_, fun i j hi hj => ?_, fun p b hp hb q => by rw [e' 0 4 (by omega) (by omega) (by omega)] at q; rw [e' 7 _ (by omega) (by omega) (by omega)]; exact w6 p b hp hb q⟩
  · rw [e' 1 0 (by omega) (by omega) (by omega), e2]
    have z := w4 i hi
    by_cases x : i = a.toNat
    · rw [if_pos x]; exact z.fl hb.1 hb.2 (by omega)
    · rw [if_neg x]
      by_cases y : i = b.toNat
      · rw [if_pos y]; exact z.fl ha.1 ha.2 (by omega)
      · rw [if_neg y]; exact z
  · have Q : ∀ i j : Nat, i < 7 → j < 7 → bB (M 2 i) j = (bB (L 2 i) j ^^ decide ((i = a.toNat ∧ j = b.toNat) ∨ (i = b.toNat ∧ j = a.toNat))) := fun i j hi hj => by
      rw [e2]
      by_cases x : i = a.toNat
      · rw [if_pos x, zx_b hb.1 (by omega) (by omega), show decide (j = b.toNat) = decide ((i = a.toNat ∧ j = b.toNat) ∨ (i = b.toNat ∧ j = a.toNat)) from decide_eq_decide.mpr ⟨fun q => Or.inl ⟨x, q⟩, fun q => by omega⟩]
      · rw [if_neg x]
        by_cases y : i = b.toNat
        · rw [if_pos y, zx_b ha.1 (by omega) (by omega), show decide (j = a.toNat) = decide ((i = a.toNat ∧ j = b.toNat) ∨ (i = b.toNat ∧ j = a.toNat)) from decide_eq_decide.mpr ⟨fun q => Or.inr ⟨y, q⟩, fun q => by omega⟩]
        · rw [if_neg y, decide_eq_false (by omega), Bool.xor_false]
    rw [Q i j hi hj, Q j i hj hi, w5 i j hi hj, show decide ((i = a.toNat ∧ j = b.toNat) ∨ (i = b.toNat ∧ j = a.toNat)) = decide ((j = a.toNat ∧ i = b.toNat) ∨ (j = b.toNat ∧ i = a.toNat)) from decide_eq_decide.mpr ⟨fun q => by omega, fun q => by omega⟩]
theorem surv5 {sl : Nat} {si : Nat → Int} {h h' L : PH} (hL : CL 5 h L) (hn : 0 ≤ L 1 0 ∧ L 1 0 ≤ 7) (hc : CP (zz sl si (7, 0)) mX5_survey h [(2, 6)] h' []) : (∃ M : PH, CL 5 h' M ∧ TBL M ∧ ∀ j k : Nat, j ≠ 3 → j ≠ 4 → M j k = L j k) ∧ ∀ c k : Nat, c ≠ 8 → c ≠ 9 → h' c k = h c k := by
  have e0 : h 6 0 = L 1 0 := hL 1 0 (il1 (by decide))
  have hn' : 0 ≤ h 6 0 ∧ h 6 0 ≤ 7 := by rw [e0]; exact hn
  obtain ⟨s1, s2, s3⟩ := c_X5_survey5F hn' hc
  have F : ∀ c k : Nat, c ≠ 8 → c ≠ 9 → h' c k = h c k := fun c k y1 y2 => s3 c k (by omega)
  have rd : RDS 6 7 h L := ⟨e0, hL 1 1 (il1 (by decide)), fun i hi => hL 2 i (il2 hi)⟩
  have e0' : h' 6 0 = h 6 0 := F _ _ (by omega) (by omega)
  have rd' : RDS 6 7 h' L := ⟨e0'.trans rd.1, (F _ _ (by omega) (by omega)).trans rd.2.1, fun i hi => (F _ _ (by omega) (by omega)).trans (rd.2.2 i hi)⟩
  have l3 : ∀ f t : Nat, (f : Int) < L 1 0 → (t : Int) < L 1 0 → h' 8 (7 * f + t) = lenW (WLn L f t) := fun f t hf ht => by
    rw [s1 f t (by omega) (by omega), le_W hn' (by omega) (by omega), rd.W hn']
  let M : PH := fun j k => if j = 3 then h' 8 k else if j = 4 then h' 9 k else L j k
  have M3 : ∀ k, M 3 k = h' 8 k := fun k => if_pos rfl
  have M4 : ∀ k, M 4 k = h' 9 k := fun k => (if_neg (by omega)).trans (if_pos rfl)
  have MO : ∀ j k : Nat, j ≠ 3 → j ≠ 4 → M j k = L j k := fun j k q3 q4 => (if_neg q3).trans (if_neg q4)
  have WM : ∀ f t : Nat, WLn M f t = WLn L f t := fun f t => WLn_c (MO 1 0 (by omega) (by omega)) (MO 1 1 (by omega) (by omega)) (fun i => MO 2 i (by omega) (by omega))
  have NM : ∀ f t : Nat, nxT M f t = nxT L f t := fun f t => by
    unfold nxT
    rw [nxS_c (MO 1 0 (by omega) (by omega)) (MO 1 1 (by omega) (by omega)) (fun i => MO 2 i (by omega) (by omega)), MO 1 0 (by omega) (by omega)]
  refine ⟨⟨M, fun j k i => ?_, fun f t hf ht => ?_, MO⟩, F⟩
  · by_cases c3 : j = 3
    · subst c3; rw [M3]
    · by_cases c4 : j = 4
      · subst c4; rw [M4]
      · rw [MO j k c3 c4, F _ _ (by omega) (by omega)]; exact hL j k i
  · rw [MO 1 0 (by omega) (by omega)] at hf ht
    rw [M3, M4, WM, NM]
    refine ⟨l3 f t hf ht, fun y1 y2 => ?_⟩
    rw [s2 f t (by omega) (by omega)]
    exact ln_nx rd' (by rw [e0', e0]; exact hn) (by omega) (by omega) (fun i hi => l3 i t (by omega) ht) y1 y2
set_option maxRecDepth 10000 in
theorem v_X5_strew5 {sl : Nat} {si : Nat → Int} {K : Nat → PH → ZL → List ZV → Prop} {Q : PH → List ZV → Prop} {h : PH}  {a b : Int} (H : R32 (h 6 1) → ∀ h1 v1, CP (zz sl si (7, 0)) mX11_has h [(0, (h 6 1)), (0, a)] h1 [(0, v1)] → v1 = 0 ∨ v1 = 1 → (v1 ≠ b → R32 (h1 6 1) → ∀ h2, CP (zz sl si (7, 0)) mX5_survey (uph h1 6 1 (zxor (h1 6 1) (zshl 1 a))) [(2, 6)] h2 [] → Q h2 [(0, 1)]) ∧ (¬ (v1 ≠ b) → Q h1 [(0, 0)])) : vc (zz sl si (7, 0)) (fun _ => false) K Q mX5_strew 20 0 mX5_strew.2.2.2.2.2.2 h [(0, (2, 6)), (1, (0, a)), (2, (0, b))] [] := H
set_option maxHeartbeats 600000 in
theorem c_X5_strew5 {sl : Nat} {si : Nat → Int} {h h' : PH} {L : PH} {a b : Int} {v : Int} (hL : CL 5 h L) (hw : W10 L) (ha : 0 ≤ a ∧ a < L 1 0) (hb : b = 0 ∨ b = 1) (hc : CP (zz sl si (7, 0)) mX5_strew h [(2, 6), (0, a), (0, b)] h' [(0, v)]) : ((bB (L 1 1) a.toNat = true ↔ b = 1) → v = 0 ∧ h' = h) ∧ (¬ (bB (L 1 1) a.toNat = true ↔ b = 1) → v = 1 ∧ (∃ M : PH, CL 5 h' M ∧ TBL M ∧ ∀ j k : Nat, j ≠ 3 → j ≠ 4 → M j k = flL L 1 1 a j k) ∧ ∀ c k : Nat, c ≠ 6 → c ≠ 8 → c ≠ 9 → h' c k = h c k) := by
  have q : (fun (xh : PH) (r : List ZV) => ∀ v : Int, r = [(0, v)] → (((bB (L 1 1) a.toNat = true ↔ b = 1) → v = 0 ∧ xh = h) ∧ (¬ (bB (L 1 1) a.toNat = true ↔ b = 1) → v = 1 ∧ (∃ M : PH, CL 5 xh M ∧ TBL M ∧ ∀ j k : Nat, j ≠ 3 → j ≠ 4 → M j k = flL L 1 1 a j k) ∧ ∀ c k : Nat, c ≠ 6 → c ≠ 8 → c ≠ 9 → xh c k = h c k))) h' [(0, v)] := by
    refine cp_vc (cut := (fun _ => false)) (K := fun p hx lv st => False) (Q := fun (xh : PH) (r : List ZV) => ∀ v : Int, r = [(0, v)] → (((bB (L 1 1) a.toNat = true ↔ b = 1) → v = 0 ∧ xh = h) ∧ (¬ (bB (L 1 1) a.toNat = true ↔ b = 1) → v = 1 ∧ (∃ M : PH, CL 5 xh M ∧ TBL M ∧ ∀ j k : Nat, j ≠ 3 → j ≠ 4 → M j k = flL L 1 1 a j k) ∧ ∀ c k : Nat, c ≠ 6 → c ≠ 8 → c ≠ 9 → xh c k = h c k))) (v_X5_strew5 ?_) (fun pc hx lv st hcut hK => ?_) hc
    · exact (fun r1 => (fun h1 v1 p1 q1 => by obtain ⟨t1, e1⟩ := c_X11_hasB p1; have t1 := t1.symm; subst t1; exact ⟨fun c2 => (fun r3 => (fun h2 p2 => (by have h7 := hw.1.1.1; have k1 : h 6 1 = L 1 1 := hL 1 1 (il1 (by decide)); rw [k1, bt_z (by omega) (by omega)] at e1; have u := hL.up 1 1 (zxor (L 1 1) (zshl 1 a)); rw [k1] at p2; obtain ⟨x1, x2⟩ := surv5 (L := flL L 1 1 a) u (by rw [fl_o (by omega)]; exact h7) p2; intro v e; cases e; refine ⟨fun z => absurd (by (rcases hb with y | y; (have : v1 ≠ 1 := (fun z1 => by have := z.mp (e1.mp z1); omega); omega); (have := e1.mpr (z.mpr y); omega)) : v1 = b) c2, fun _ => ⟨rfl, x1, fun c k y1 y2 y3 => by rw [x2 c k y2 y3, up_ne (by omega)]⟩⟩))), fun c2 => (by have h7 := hw.1.1.1; have k1 : h 6 1 = L 1 1 := hL 1 1 (il1 (by decide)); rw [k1, bt_z (by omega) (by omega)] at e1; intro v e; cases e; refine ⟨fun _ => ⟨rfl, rfl⟩, fun z => absurd ⟨fun y => by have := e1.mpr y; omega, fun y => e1.mp (by omega)⟩ z⟩)⟩))
    · exact hK.elim
  exact q v rfl
set_option maxRecDepth 10000 in
theorem v_X5_hang5 {sl : Nat} {si : Nat → Int} {K : Nat → PH → ZL → List ZV → Prop} {Q : PH → List ZV → Prop} {h : PH}  {a b c : Int} (H : (c = 0 → 0 ≤ a ∧ a < (7 : Nat) → R32 (h 7 a.toNat) → 0 ≤ a ∧ a < (7 : Nat) → 0 ≤ b ∧ b < (7 : Nat) → R32 ((uph h 7 a.toNat (zand (h 7 a.toNat) (zxor (zshl 1 b) (-1)))) 7 b.toNat) → 0 ≤ b ∧ b < (7 : Nat) → Q (uph (uph h 7 a.toNat (zand (h 7 a.toNat) (zxor (zshl 1 b) (-1)))) 7 b.toNat (zand ((uph h 7 a.toNat (zand (h 7 a.toNat) (zxor (zshl 1 b) (-1)))) 7 b.toNat) (zxor (zshl 1 a) (-1)))) []) ∧ (¬ (c = 0) → 0 ≤ a ∧ a < (7 : Nat) → R32 (h 7 a.toNat) → 0 ≤ a ∧ a < (7 : Nat) → 0 ≤ b ∧ b < (7 : Nat) → R32 ((uph h 7 a.toNat (zor (h 7 a.toNat) (zshl 1 b))) 7 b.toNat) → 0 ≤ b ∧ b < (7 : Nat) → Q (uph (uph h 7 a.toNat (zor (h 7 a.toNat) (zshl 1 b))) 7 b.toNat (zor ((uph h 7 a.toNat (zor (h 7 a.toNat) (zshl 1 b))) 7 b.toNat) (zshl 1 a))) [])) : vc (zz sl si (7, 0)) (fun _ => false) K Q mX5_hang 29 0 mX5_hang.2.2.2.2.2.2 h [(0, (2, 6)), (1, (0, a)), (2, (0, b)), (3, (0, c))] [] := H
set_option maxHeartbeats 600000 in
theorem c_X5_hang5 {sl : Nat} {si : Nat → Int} {h h' : PH} {L : PH} {a b c : Int} (hL : CL 5 h L) (hw : W10 L) (ha : 0 ≤ a ∧ a < L 1 0) (hb : 0 ≤ b ∧ b < L 1 0) (hab : a ≠ b) (hcc : c = 0 ∨ c = 1) (hne : ¬ (bB (L 2 a.toNat) b.toNat = true ↔ c = 1)) (hc : CP (zz sl si (7, 0)) mX5_hang h [(2, 6), (0, a), (0, b), (0, c)] h' []) : CL 5 h' (waL L a b) ∧ ∀ c k : Nat, c ≠ 7 → h' c k = h c k := by
  have q : (fun (xh : PH) (r : List ZV) => CL 5 xh (waL L a b) ∧ ∀ c k : Nat, c ≠ 7 → xh c k = h c k) h' [] := by
    refine cp_vc (cut := (fun _ => false)) (K := fun p hx lv st => False) (Q := fun (xh : PH) (r : List ZV) => CL 5 xh (waL L a b) ∧ ∀ c k : Nat, c ≠ 7 → xh c k = h c k) (v_X5_hang5 ?_) (fun pc hx lv st hcut hK => ?_) hc
    · exact ⟨fun c1 => (fun b2 r3 => (fun b4 => (fun b5 r6 => (fun b7 => (by have h7 := hw.1.1.1; have k1 : h 7 a.toNat = L 2 a.toNat := hL 2 _ (il2 (by omega)); have k2 : h 7 b.toNat = L 2 b.toNat := hL 2 _ (il2 (by omega)); have d1 : bB (L 2 a.toNat) b.toNat = true := Classical.byContradiction (fun z => hne ⟨fun y => absurd y z, fun y => absurd y (by omega)⟩); have d2 : bB (L 2 b.toNat) a.toNat = true := (by rw [hw.2.2.2.2.1 b.toNat a.toNat (by omega) (by omega)]; exact d1); rw [up_ne (by omega), k1, k2, (zx_c (hw.2.2.2.1 a.toNat (by omega)) hb.1 (by omega)).2.2 d1, (zx_c (hw.2.2.2.1 b.toNat (by omega)) ha.1 (by omega)).2.2 d2]; have u := (hL.up 2 a.toNat (zxor (L 2 a.toNat) (zshl 1 b))).up 2 b.toNat (zxor (L 2 b.toNat) (zshl 1 a)); refine ⟨?_, fun c k y1 => by rw [up_ne (by omega), up_ne (by omega)]⟩; unfold waL; rw [show flL (flL L 2 a.toNat b) 2 b.toNat a = uph (uph L 2 a.toNat (zxor (L 2 a.toNat) (zshl 1 b))) 2 b.toNat (zxor (L 2 b.toNat) (zshl 1 a)) by (unfold flL; rw [up_ne (by omega)])]; exact u))))), fun c1 => (fun b8 r9 => (fun b10 => (fun b11 r12 => (fun b13 => (by have h7 := hw.1.1.1; have k1 : h 7 a.toNat = L 2 a.toNat := hL 2 _ (il2 (by omega)); have k2 : h 7 b.toNat = L 2 b.toNat := hL 2 _ (il2 (by omega)); have d1 : ¬ bB (L 2 a.toNat) b.toNat = true := (fun z => hne ⟨fun _ => by omega, fun _ => z⟩); have d2 : ¬ bB (L 2 b.toNat) a.toNat = true := (by rw [hw.2.2.2.2.1 b.toNat a.toNat (by omega) (by omega)]; exact d1); rw [up_ne (by omega), k1, k2, (zx_c (hw.2.2.2.1 a.toNat (by omega)) hb.1 (by omega)).2.1 d1, (zx_c (hw.2.2.2.1 b.toNat (by omega)) ha.1 (by omega)).2.1 d2]; have u := (hL.up 2 a.toNat (zxor (L 2 a.toNat) (zshl 1 b))).up 2 b.toNat (zxor (L 2 b.toNat) (zshl 1 a)); refine ⟨?_, fun c k y1 => by rw [up_ne (by omega), up_ne (by omega)]⟩; unfold waL; rw [show flL (flL L 2 a.toNat b) 2 b.toNat a = uph (uph L 2 a.toNat (zxor (L 2 a.toNat) (zshl 1 b))) 2 b.toNat (zxor (L 2 b.toNat) (zshl 1 a)) by (unfold flL; rw [up_ne (by omega)])]; exact u)))))⟩
    · exact hK.elim
  exact q
end
