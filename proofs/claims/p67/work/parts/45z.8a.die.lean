/-! DIE on a LAND -/
def hrL (L : PH) (p k : Nat) : Nat := (L 13 (3 * p + k)).toNat
def okL (L : PH) (p d k : Nat) : Prop := ¬ bB (L 0 7) (hrL L p k) = true ∧ hrL L p k ≠ d
noncomputable def cnL (L : PH) (p d : Nat) : Nat → Int
  | 0 => 0
  | k + 1 => cnL L p d k + cif (okL L p d k) 1 0
noncomputable def hsL (L : PH) (p d : Nat) : Nat → Int
  | 0 => 0
  | k + 1 => cif (okL L p d k) (zor (hsL L p d k) (zshl 1 (L 13 (3 * p + k)))) (hsL L p d k)
noncomputable def shL (L : PH) (p d k : Nat) : Int := if cnL L p d k = 0 then L 7 (8 * d + p) - (cnL L p d (L 14 p).toNat - 1) * zdiv (L 7 (8 * d + p)) 3 else zdiv (L 7 (8 * d + p)) 3
/-- the heirs of a person are apart -/
def DsL (L : PH) : Prop := ∀ p j k : Nat, p < 8 → j < k → (k : Int) < L 14 p → hrL L p j ≠ hrL L p k
theorem cn_b {L : PH} {p d : Nat} : ∀ k : Nat, 0 ≤ cnL L p d k ∧ cnL L p d k ≤ k
  | 0 => ⟨Int.le_refl 0, Int.le_refl 0⟩
  | k + 1 => by
    have i := cn_b (L := L) (p := p) (d := d) k
    have e : 0 ≤ cif (okL L p d k) 1 0 ∧ cif (okL L p d k) 1 0 ≤ 1 := by
      by_cases x : okL L p d k
      · rw [cif_p x]; omega
      · rw [cif_n x]; omega
    show 0 ≤ cnL L p d k + _ ∧ cnL L p d k + _ ≤ _
    omega
theorem cn_m {L : PH} {p d k : Nat} : ∀ j : Nat, cnL L p d k ≤ cnL L p d (k + j)
  | 0 => Int.le_refl _
  | j + 1 => by
    have i := cn_m (L := L) (p := p) (d := d) (k := k) j
    have e : 0 ≤ cif (okL L p d (k + j)) 1 0 := by
      by_cases x : okL L p d (k + j)
      · rw [cif_p x]; omega
      · rw [cif_n x]; omega
    show _ ≤ cnL L p d (k + j) + cif (okL L p d (k + j)) 1 0
    omega
theorem cn_z {L : PH} {p d : Nat} : ∀ k : Nat, (∀ j, j < k → ¬ okL L p d j) → cnL L p d k = 0
  | 0, _ => rfl
  | k + 1, h => by
    show cnL L p d k + cif (okL L p d k) 1 0 = 0
    rw [cn_z k (fun j hj => h j (by omega)), cif_n (h k (by omega))]
    omega
theorem cn_p {L : PH} {p d j k : Nat} (hj : j < k) (ho : okL L p d j) : 1 ≤ cnL L p d k := by
  have m := cn_m (L := L) (p := p) (d := d) (k := j + 1) (k - (j + 1))
  rw [show j + 1 + (k - (j + 1)) = k by omega] at m
  have e : cnL L p d (j + 1) = cnL L p d j + 1 := by
    show cnL L p d j + cif (okL L p d j) 1 0 = _
    rw [cif_p ho]
  have := (cn_b (L := L) (p := p) (d := d) j).1
  omega
/-- how many bits a set has -/
def bnS (v : Int) : Int := bt v 0 + bt v 1 + bt v 2 + bt v 3 + bt v 4 + bt v 5 + bt v 6 + bt v 7
theorem bn_or {s n : Int} (h0 : 0 ≤ s) (h1 : s < 256) (n0 : 0 ≤ n) (n1 : n < 8) (hn : ¬ bB s n.toNat = true) : (0 ≤ zor s (zshl 1 n) ∧ zor s (zshl 1 n) < 256) ∧ (∀ x : Nat, x < 8 → (bB (zor s (zshl 1 n)) x = true ↔ bB s x = true ∨ x = n.toNat)) ∧ bnS (zor s (zshl 1 n)) = bnS s + 1 := by
  obtain ⟨⟨a1, a2, -⟩, e⟩ := bt_or s.toNat (by omega) n.toNat (by omega)
  rw [Int.toNat_of_nonneg h0, Int.toNat_of_nonneg n0] at a1 a2 e
  have z : bt s n.toNat = 0 := by
    have := bt_bB s (i := n.toNat) (by omega)
    have q : bt s n.toNat = if bB s n.toNat then 1 else 0 := this
    rw [q, if_neg hn]
  refine ⟨⟨a1, a2⟩, fun x hx => ?_, ?_⟩
  · rw [← bt_1 hx, ← bt_1 hx]
    have ex : zand (zshr (zor s (zshl 1 n)) (x : Int)) 1 = if x = n.toNat then 1 else zand (zshr s (x : Int)) 1 := e x hx
    rw [ex]
    by_cases y : x = n.toNat
    · rw [if_pos y]; exact ⟨fun _ => Or.inr y, fun _ => rfl⟩
    · rw [if_neg y]; exact ⟨fun q => Or.inl q, fun q => q.elim id (fun w => absurd w y)⟩
  · unfold bnS
    rw [e 0 (by omega), e 1 (by omega), e 2 (by omega), e 3 (by omega), e 4 (by omega), e 5 (by omega), e 6 (by omega), e 7 (by omega)]
    rcases (show n.toNat = 0 ∨ n.toNat = 1 ∨ n.toNat = 2 ∨ n.toNat = 3 ∨ n.toNat = 4 ∨ n.toNat = 5 ∨ n.toNat = 6 ∨ n.toNat = 7 by omega) with q | q | q | q | q | q | q | q <;> rw [q] at z ⊢ <;> simp only [Nat.reduceEqDiff, reduceIte, if_true, if_false] <;> omega
theorem hs_b {L : PH} {p d : Nat} (hp : p < 8) (hD : DsL L) (hR : ∀ k : Nat, k < 3 → (k : Int) < L 14 p → 0 ≤ L 13 (3 * p + k) ∧ L 13 (3 * p + k) < 8) (h3 : L 14 p ≤ 3) : ∀ k : Nat, (k : Int) ≤ L 14 p → (0 ≤ hsL L p d k ∧ hsL L p d k < 256) ∧ (∀ x : Nat, x < 8 → (bB (hsL L p d k) x = true ↔ ∃ j, j < k ∧ okL L p d j ∧ hrL L p j = x)) ∧ bnS (hsL L p d k) = cnL L p d k
  | 0, _ => ⟨⟨Int.le_refl 0, by show (0 : Int) < 256; omega⟩, fun x hx => by
      show bB 0 x = true ↔ _
      rw [bB_0 (by omega)]
      exact ⟨fun q => Bool.noConfusion q, fun ⟨j, hj, _⟩ => absurd hj (by omega)⟩, by show bnS 0 = 0; decide⟩
  | k + 1, hk => by
    obtain ⟨⟨i1, i2⟩, i3, i4⟩ := hs_b (d := d) hp hD hR h3 k (by omega)
    obtain ⟨r1, r2⟩ := hR k (by omega) (by omega)
    by_cases o : okL L p d k
    · have e : hsL L p d (k + 1) = zor (hsL L p d k) (zshl 1 (L 13 (3 * p + k))) := cif_p o
      have ec : cnL L p d (k + 1) = cnL L p d k + 1 := by
        show cnL L p d k + cif (okL L p d k) 1 0 = _
        rw [cif_p o]
      have nb : ¬ bB (hsL L p d k) (L 13 (3 * p + k)).toNat = true := fun q => by
        obtain ⟨j, hj, -, y⟩ := (i3 _ (by omega)).mp q
        exact hD p j k hp hj (by omega) y
      obtain ⟨b1, b2, b3⟩ := bn_or i1 i2 r1 r2 nb
      rw [e, ec]
      refine ⟨b1, fun x hx => ?_, by rw [b3, i4]⟩
      rw [b2 x hx, i3 x hx]
      constructor
      · rintro (⟨j, hj, y⟩ | y)
        · exact ⟨j, by omega, y⟩
        · exact ⟨k, by omega, o, y.symm⟩
      · rintro ⟨j, hj, y1, y2⟩
        by_cases q : j = k
        · subst q; exact Or.inr y2.symm
        · exact Or.inl ⟨j, by omega, y1, y2⟩
    · have e : hsL L p d (k + 1) = hsL L p d k := cif_n o
      have ec : cnL L p d (k + 1) = cnL L p d k := by
        show cnL L p d k + cif (okL L p d k) 1 0 = _
        rw [cif_n o]; omega
      rw [e, ec]
      refine ⟨⟨i1, i2⟩, fun x hx => ?_, i4⟩
      rw [i3 x hx]
      constructor
      · rintro ⟨j, hj, y⟩; exact ⟨j, by omega, y⟩
      · rintro ⟨j, hj, y1, y2⟩
        by_cases q : j = k
        · subst q; exact absurd y1 o
        · exact ⟨j, by omega, y1, y2⟩
def bcZ (a : Int) : Int := zand (w32 ((w32 ((zand (w32 ((w32 ((zand (w32 (a - (zand (zush a 1) 1431655765))) 858993459) + (zand (zush (w32 (a - (zand (zush a 1) 1431655765))) 2) 858993459))) + (zush (w32 ((zand (w32 (a - (zand (zush a 1) 1431655765))) 858993459) + (zand (zush (w32 (a - (zand (zush a 1) 1431655765))) 2) 858993459))) 4))) 252645135) + (zush (zand (w32 ((w32 ((zand (w32 (a - (zand (zush a 1) 1431655765))) 858993459) + (zand (zush (w32 (a - (zand (zush a 1) 1431655765))) 2) 858993459))) + (zush (w32 ((zand (w32 (a - (zand (zush a 1) 1431655765))) 858993459) + (zand (zush (w32 (a - (zand (zush a 1) 1431655765))) 2) 858993459))) 4))) 252645135) 8))) + (zush (w32 ((zand (w32 ((w32 ((zand (w32 (a - (zand (zush a 1) 1431655765))) 858993459) + (zand (zush (w32 (a - (zand (zush a 1) 1431655765))) 2) 858993459))) + (zush (w32 ((zand (w32 (a - (zand (zush a 1) 1431655765))) 858993459) + (zand (zush (w32 (a - (zand (zush a 1) 1431655765))) 2) 858993459))) 4))) 252645135) + (zush (zand (w32 ((w32 ((zand (w32 (a - (zand (zush a 1) 1431655765))) 858993459) + (zand (zush (w32 (a - (zand (zush a 1) 1431655765))) 2) 858993459))) + (zush (w32 ((zand (w32 (a - (zand (zush a 1) 1431655765))) 858993459) + (zand (zush (w32 (a - (zand (zush a 1) 1431655765))) 2) 858993459))) 4))) 252645135) 8))) 16))) 63
theorem bc_d : ∀ s : Fin 256, bcZ (s.val : Int) = bnS (s.val : Int) := by decide +kernel
theorem bc_b {a : Int} (h0 : 0 ≤ a) (h1 : a < 256) : bcZ a = bnS a := by
  have z := bc_d ⟨a.toNat, by omega⟩
  have e : ((a.toNat : Nat) : Int) = a := by omega
  have z : bcZ ((a.toNat : Nat) : Int) = bnS ((a.toNat : Nat) : Int) := z
  rw [e] at z
  exact z
set_option maxRecDepth 10000 in
theorem v_J6_bitCountS {sl : Nat} {si : Nat → Int} {K : Nat → PH → ZL → List ZV → Prop} {Q : PH → List ZV → Prop} {h : PH} {a : Int} (H : Q h [(0, zand (w32 ((w32 ((zand (w32 ((w32 ((zand (w32 (a - (zand (zush a 1) 1431655765))) 858993459) + (zand (zush (w32 (a - (zand (zush a 1) 1431655765))) 2) 858993459))) + (zush (w32 ((zand (w32 (a - (zand (zush a 1) 1431655765))) 858993459) + (zand (zush (w32 (a - (zand (zush a 1) 1431655765))) 2) 858993459))) 4))) 252645135) + (zush (zand (w32 ((w32 ((zand (w32 (a - (zand (zush a 1) 1431655765))) 858993459) + (zand (zush (w32 (a - (zand (zush a 1) 1431655765))) 2) 858993459))) + (zush (w32 ((zand (w32 (a - (zand (zush a 1) 1431655765))) 858993459) + (zand (zush (w32 (a - (zand (zush a 1) 1431655765))) 2) 858993459))) 4))) 252645135) 8))) + (zush (w32 ((zand (w32 ((w32 ((zand (w32 (a - (zand (zush a 1) 1431655765))) 858993459) + (zand (zush (w32 (a - (zand (zush a 1) 1431655765))) 2) 858993459))) + (zush (w32 ((zand (w32 (a - (zand (zush a 1) 1431655765))) 858993459) + (zand (zush (w32 (a - (zand (zush a 1) 1431655765))) 2) 858993459))) 4))) 252645135) + (zush (zand (w32 ((w32 ((zand (w32 (a - (zand (zush a 1) 1431655765))) 858993459) + (zand (zush (w32 (a - (zand (zush a 1) 1431655765))) 2) 858993459))) + (zush (w32 ((zand (w32 (a - (zand (zush a 1) 1431655765))) 858993459) + (zand (zush (w32 (a - (zand (zush a 1) 1431655765))) 2) 858993459))) 4))) 252645135) 8))) 16))) 63)]) : vc (zz sl si (7, 0)) (fun _ => false) K Q mJ6_bitCount_0f7a4 44 0 mJ6_bitCount_0f7a4.2.2.2.2.2.2 h [(0, (0, a))] [] := H
set_option maxRecDepth 100000 in
set_option maxHeartbeats 600000 in
theorem c_J6_bitCountS {sl : Nat} {si : Nat → Int} {h h' : PH} {a : Int} {v : Int} (h0 : 0 ≤ a) (h1 : a < 256) (hc : CP (zz sl si (7, 0)) mJ6_bitCount_0f7a4 h [(0, a)] h' [(0, v)]) : h' = h ∧ v = bnS a := by
  have q : (fun (xh : PH) (r : List ZV) => ∀ v : Int, r = [(0, v)] → (xh = h ∧ v = bnS a)) h' [(0, v)] := by
    refine cp_vc (cut := (fun _ => false)) (K := fun p hx lv st => False) (Q := fun (xh : PH) (r : List ZV) => ∀ v : Int, r = [(0, v)] → (xh = h ∧ v = bnS a)) (v_J6_bitCountS ?_) (fun pc hx lv st hcut hK => ?_) hc
    · exact (by intro v e; cases e; exact ⟨rfl, bc_b h0 h1⟩)
    · exact hK.elim
  exact q v rfl
set_option maxRecDepth 10000 in
theorem v_X1_heirSet5 {sl : Nat} {si : Nat → Int} {K : Nat → PH → ZL → List ZV → Prop} {Q : PH → List ZV → Prop} {h : PH}  {a b : Int} (H : K 5 h [(4, (0, 0)), (3, (0, 0)), (0, (2, 5)), (1, (0, a)), (2, (0, b))] []) : vc (zz sl si (7, 0)) (fun p => Nat.beq p 5) K Q mX1_heirSet 6 0 mX1_heirSet.2.2.2.2.2.2 h [(0, (2, 5)), (1, (0, a)), (2, (0, b))] [] := H
set_option maxRecDepth 10000 in
theorem v_X1_heirSet5_5 {sl : Nat} {si : Nat → Int} {K : Nat → PH → ZL → List ZV → Prop} {Q : PH → List ZV → Prop} {h : PH}  {a b : Int} {s k : Int} (H : 0 ≤ b ∧ b < (8 : Nat) → R32 (h 19 b.toNat) → ((h 19 b.toNat) ≤ k → Q h [(0, s)]) ∧ (¬ ((h 19 b.toNat) ≤ k) → 0 ≤ w32 ((w32 (b * 3)) + k) ∧ w32 ((w32 (b * 3)) + k) < (24 : Nat) → R32 (h 18 (w32 ((w32 (b * 3)) + k)).toNat) → ((h 18 (w32 ((w32 (b * 3)) + k)).toNat) = a → K 5 h [(4, (0, w32 (k + 1))), (5, (0, (h 18 (w32 ((w32 (b * 3)) + k)).toNat))), (0, (2, 5)), (1, (0, a)), (2, (0, b)), (3, (0, s))] []) ∧ (¬ ((h 18 (w32 ((w32 (b * 3)) + k)).toNat) = a) → R32 (h 5 7) → ∀ h1 v1, CP (zz sl si (7, 0)) mX11_has h [(0, (h 5 7)), (0, (h 18 (w32 ((w32 (b * 3)) + k)).toNat))] h1 [(0, v1)] → v1 = 0 ∨ v1 = 1 → (v1 ≠ 0 → K 5 h1 [(4, (0, w32 (k + 1))), (5, (0, (h 18 (w32 ((w32 (b * 3)) + k)).toNat))), (0, (2, 5)), (1, (0, a)), (2, (0, b)), (3, (0, s))] []) ∧ (¬ (v1 ≠ 0) → K 5 h1 [(4, (0, w32 (k + 1))), (3, (0, zor s (zshl 1 (h 18 (w32 ((w32 (b * 3)) + k)).toNat)))), (5, (0, (h 18 (w32 ((w32 (b * 3)) + k)).toNat))), (0, (2, 5)), (1, (0, a)), (2, (0, b))] [])))) : vc (zz sl si (7, 0)) (fun p => Nat.beq p 5) K Q mX1_heirSet 33 5 (ax_jmp mX1_heirSet.2.2.2.2.2.2 5) h [(0, (2, 5)), (1, (0, a)), (2, (0, b)), (3, (0, s)), (4, (0, k))] [] := H
set_option maxHeartbeats 600000 in
theorem c_X1_heirSet5 {sl : Nat} {si : Nat → Int} {h h' : PH} {L : PH} {a b : Int} {v : Int} (hL : CL 5 h L) (hw : W9 L) (ha : 0 ≤ a ∧ a < 8) (hb : 0 ≤ b ∧ b < 8) (hc : CP (zz sl si (7, 0)) mX1_heirSet h [(2, 5), (0, a), (0, b)] h' [(0, v)]) : h' = h ∧ v = hsL L b.toNat a.toNat (L 14 b.toNat).toNat := by
  have q : (fun (xh : PH) (r : List ZV) => ∀ v : Int, r = [(0, v)] → (xh = h ∧ v = hsL L b.toNat a.toNat (L 14 b.toNat).toNat)) h' [(0, v)] := by
    refine cp_vc (cut := (fun p => Nat.beq p 5)) (K := fun p hx lv st => (p = 5 ∧ lK (fun u : Nat => [(0, (2, 5)), (1, (0, a)), (2, (0, b)), (3, (0, hsL L b.toNat a.toNat u)), (4, (0, (u : Int)))]) (fun u hx => (u : Int) ≤ L 14 b.toNat ∧ hx = h) p hx lv st)) (Q := fun (xh : PH) (r : List ZV) => ∀ v : Int, r = [(0, v)] → (xh = h ∧ v = hsL L b.toNat a.toNat (L 14 b.toNat).toNat)) (v_X1_heirSet5 ?_) (fun pc hx lv st hcut hK => ?_) hc
    · exact (by have h3 := hw.1.2.2.1 b.toNat (by omega); exact ⟨rfl, rfl, 0, ⟨by omega, rfl⟩, rfl, rfl, rfl, rfl, rfl, trivial⟩)
    · rcases hK with ⟨rfl, rfl, u, hJ, hs⟩
      · obtain ⟨j1, j2⟩ := hJ
        subst j2
        exact ⟨_, _, hs, v_X1_heirSet5_5 (fun b1 r2 => ⟨fun c3 => (by have h8 := hw.1.2.1; have h3 := hw.1.2.2.1 b.toNat (by omega); have k14 : hx 19 b.toNat = L 14 b.toNat := hL 14 _ (il14 (by omega)); rw [k14] at c3; intro v e; cases e; have eu : (L 14 b.toNat).toNat = u := (by omega); exact ⟨rfl, by rw [eu]⟩), fun c3 => (fun b4 r5 => ⟨fun c6 => (by have h8 := hw.1.2.1; have h3 := hw.1.2.2.1 b.toNat (by omega); have k14 : hx 19 b.toNat = L 14 b.toNat := hL 14 _ (il14 (by omega)); rw [k14] at c3; have i3 : (w32 ((w32 (b * 3)) + (u : Int))).toNat = 3 * b.toNat + u := (by rw [w32_id (z := b * 3) (by omega) (by omega), w32_id (by omega) (by omega)]; omega); have k13 : hx 18 (3 * b.toNat + u) = L 13 (3 * b.toNat + u) := hL 13 _ (il13 (by omega)); have r13 := hw.2.2.2.2.1 b.toNat u (by omega) (by omega) (by omega); rw [i3, k13] at c6; have no : hsL L b.toNat a.toNat (u + 1) = hsL L b.toNat a.toNat u := cif_n (fun z => z.2 (by unfold hrL; omega)); exact ⟨rfl, rfl, u + 1, ⟨by omega, rfl⟩, rfl, rfl, rfl, (by rw [no]; rfl), wv (by omega) (by omega) (by omega), trivial⟩), fun c6 => (fun r7 => (fun h1 v1 p1 q1 => by obtain ⟨t1, e1⟩ := c_X11_hasB p1; have t1 := t1.symm; subst t1; exact ⟨fun c8 => (by have h8 := hw.1.2.1; have h3 := hw.1.2.2.1 b.toNat (by omega); have k14 : hx 19 b.toNat = L 14 b.toNat := hL 14 _ (il14 (by omega)); rw [k14] at c3; have i3 : (w32 ((w32 (b * 3)) + (u : Int))).toNat = 3 * b.toNat + u := (by rw [w32_id (z := b * 3) (by omega) (by omega), w32_id (by omega) (by omega)]; omega); have k13 : hx 18 (3 * b.toNat + u) = L 13 (3 * b.toNat + u) := hL 13 _ (il13 (by omega)); have r13 := hw.2.2.2.2.1 b.toNat u (by omega) (by omega) (by omega); rw [i3, k13] at c6 e1; have k07 : hx 5 7 = L 0 7 := hL 0 7 (by unfold inL; omega); rw [k07, bt_z (by omega) (by omega)] at e1; have no : hsL L b.toNat a.toNat (u + 1) = hsL L b.toNat a.toNat u := cif_n (fun z => z.1 (by unfold hrL; exact e1.mp (by omega))); exact ⟨rfl, rfl, u + 1, ⟨by omega, rfl⟩, rfl, rfl, rfl, (by rw [no]; rfl), wv (by omega) (by omega) (by omega), trivial⟩), fun c8 => (by have h8 := hw.1.2.1; have h3 := hw.1.2.2.1 b.toNat (by omega); have k14 : hx 19 b.toNat = L 14 b.toNat := hL 14 _ (il14 (by omega)); rw [k14] at c3; have i3 : (w32 ((w32 (b * 3)) + (u : Int))).toNat = 3 * b.toNat + u := (by rw [w32_id (z := b * 3) (by omega) (by omega), w32_id (by omega) (by omega)]; omega); have k13 : hx 18 (3 * b.toNat + u) = L 13 (3 * b.toNat + u) := hL 13 _ (il13 (by omega)); have r13 := hw.2.2.2.2.1 b.toNat u (by omega) (by omega) (by omega); rw [i3, k13] at c6 e1 ⊢; have k07 : hx 5 7 = L 0 7 := hL 0 7 (by unfold inL; omega); rw [k07, bt_z (by omega) (by omega)] at e1; have yo : hsL L b.toNat a.toNat (u + 1) = zor (hsL L b.toNat a.toNat u) (zshl 1 (L 13 (3 * b.toNat + u))) := cif_p ⟨fun z => by have := e1.mpr z; omega, fun z => c6 (by unfold hrL at z; omega)⟩; exact ⟨rfl, rfl, u + 1, ⟨by omega, rfl⟩, rfl, rfl, rfl, (by rw [yo]; rfl), wv (by omega) (by omega) (by omega), trivial⟩)⟩))⟩)⟩)⟩
  exact q v rfl
set_option maxRecDepth 10000 in
theorem v_X1_shareOf5 {sl : Nat} {si : Nat → Int} {K : Nat → PH → ZL → List ZV → Prop} {Q : PH → List ZV → Prop} {h : PH}  {a b c d : Int}  (H : ∀ h1 v1, CP (zz sl si (7, 0)) mX0_of h [(2, 11), (0, a), (0, b)] h1 [(0, v1)] → R32 v1 → (3 : Int) ≠ 0 → K 20 h1 [(7, (0, 0)), (6, (0, zdiv v1 3)), (5, (0, v1)), (0, (2, 5)), (1, (0, a)), (2, (0, b)), (3, (0, c)), (4, (0, d))] []) : vc (zz sl si (7, 0)) (fun p => Nat.beq p 20) K Q mX1_shareOf 14 0 mX1_shareOf.2.2.2.2.2.2 h [(0, (2, 5)), (1, (0, a)), (2, (0, b)), (3, (0, c)), (4, (0, d))] [] := H
set_option maxRecDepth 10000 in
theorem v_X1_shareOf5_20 {sl : Nat} {si : Nat → Int} {K : Nat → PH → ZL → List ZV → Prop} {Q : PH → List ZV → Prop} {h : PH}  {a b c d : Int}  {m t k : Int} (H : 0 ≤ b ∧ b < (8 : Nat) → R32 (h 19 b.toNat) → ((h 19 b.toNat) ≤ k → Q h [(0, 0)]) ∧ (¬ ((h 19 b.toNat) ≤ k) → 0 ≤ w32 ((w32 (b * 3)) + k) ∧ w32 ((w32 (b * 3)) + k) < (24 : Nat) → R32 (h 18 (w32 ((w32 (b * 3)) + k)).toNat) → ∀ h1 v1, CP (zz sl si (7, 0)) mX11_has h [(0, d), (0, (h 18 (w32 ((w32 (b * 3)) + k)).toNat))] h1 [(0, v1)] → v1 = 0 ∨ v1 = 1 → (v1 = 0 → K 20 h1 [(7, (0, w32 (k + 1))), (8, (0, (h 18 (w32 ((w32 (b * 3)) + k)).toNat))), (0, (2, 5)), (1, (0, a)), (2, (0, b)), (3, (0, c)), (4, (0, d)), (5, (0, m)), (6, (0, t))] []) ∧ (¬ (v1 = 0) → ((h 18 (w32 ((w32 (b * 3)) + k)).toNat) ≠ c → Q h1 [(0, t)]) ∧ (¬ ((h 18 (w32 ((w32 (b * 3)) + k)).toNat) ≠ c) → ∀ h2 v2, CP (zz sl si (7, 0)) mJ6_bitCount_0f7a4 h1 [(0, d)] h2 [(0, v2)] → R32 v2 → Q h2 [(0, w32 (m - (w32 (t * (w32 (v2 - 1))))))])))) : vc (zz sl si (7, 0)) (fun p => Nat.beq p 20) K Q mX1_shareOf 34 20 (ax_jmp mX1_shareOf.2.2.2.2.2.2 20) h [(0, (2, 5)), (1, (0, a)), (2, (0, b)), (3, (0, c)), (4, (0, d)), (5, (0, m)), (6, (0, t)), (7, (0, k))] [] := H
set_option maxHeartbeats 600000 in
theorem c_X1_shareOf5 {sl : Nat} {si : Nat → Int} {h h' : PH} {L : PH} {a b c d : Int} {n : Nat} {v : Int} (hL : CL 5 h L) (hw : W9 L) (hD : DsL L) (ha : 0 ≤ a ∧ a < 8) (hb : 0 ≤ b ∧ b < 8) (hc0 : 0 ≤ c) (hset : d = hsL L b.toNat a.toNat (L 14 b.toNat).toNat) (hn : (n : Int) < L 14 b.toNat) (ho : okL L b.toNat a.toNat n) (he : L 13 (3 * b.toNat + n) = c) (hc : CP (zz sl si (7, 0)) mX1_shareOf h [(2, 5), (0, a), (0, b), (0, c), (0, d)] h' [(0, v)]) : h' = h ∧ v = shL L b.toNat a.toNat n := by
  have q : (fun (xh : PH) (r : List ZV) => ∀ v : Int, r = [(0, v)] → (xh = h ∧ v = shL L b.toNat a.toNat n)) h' [(0, v)] := by
    refine cp_vc (cut := (fun p => Nat.beq p 20)) (K := fun p hx lv st => (p = 20 ∧ lK (fun u : Nat => [(0, (2, 5)), (1, (0, a)), (2, (0, b)), (3, (0, c)), (4, (0, d)), (5, (0, L 7 (8 * a.toNat + b.toNat))), (6, (0, zdiv (L 7 (8 * a.toNat + b.toNat)) 3)), (7, (0, (u : Int)))]) (fun u hx => (u : Int) ≤ L 14 b.toNat ∧ hx = h ∧ ∀ j : Nat, j < u → ¬ okL L b.toNat a.toNat j) p hx lv st)) (Q := fun (xh : PH) (r : List ZV) => ∀ v : Int, r = [(0, v)] → (xh = h ∧ v = shL L b.toNat a.toNat n)) (v_X1_shareOf5 ?_) (fun pc hx lv st hcut hK => ?_) hc
    · exact (fun h1 v1 p1 q1 => (fun d1 => (by have h3 := hw.1.2.2.1 b.toNat (by omega); obtain ⟨t1, w1⟩ := c_X0_of5 (by omega) (by omega) p1; have t1 := t1.symm; subst t1; have o1 : h 12 (8 * a.toNat + b.toNat) = L 7 (8 * a.toNat + b.toNat) := hL 7 _ (il7 (by omega)); rw [o1] at w1; subst w1; exact ⟨rfl, rfl, 0, ⟨by omega, rfl, fun j hj => absurd hj (by omega)⟩, rfl, rfl, rfl, rfl, rfl, rfl, rfl, rfl, trivial⟩)))
    · rcases hK with ⟨rfl, rfl, u, hJ, hs⟩
      · obtain ⟨j1, j2, j3⟩ := hJ
        subst j2
        exact ⟨_, _, hs, v_X1_shareOf5_20 (fun b1 r2 => ⟨fun c3 => (by have h8 := hw.1.2.1; have h3 := hw.1.2.2.1 b.toNat (by omega); have k14 : hx 19 b.toNat = L 14 b.toNat := hL 14 _ (il14 (by omega)); rw [k14] at c3; exact absurd ho (j3 n (by omega))), fun c3 => (fun b4 r5 => (fun h1 v1 p1 q1 => by obtain ⟨t1, e1⟩ := c_X11_hasB p1; have t1 := t1.symm; subst t1; exact ⟨fun c6 => (by have h8 := hw.1.2.1; have h3 := hw.1.2.2.1 b.toNat (by omega); have k14 : hx 19 b.toNat = L 14 b.toNat := hL 14 _ (il14 (by omega)); rw [k14] at c3; have i3 : (w32 ((w32 (b * 3)) + (u : Int))).toNat = 3 * b.toNat + u := (by rw [w32_id (z := b * 3) (by omega) (by omega), w32_id (by omega) (by omega)]; omega); have k13 : hx 18 (3 * b.toNat + u) = L 13 (3 * b.toNat + u) := hL 13 _ (il13 (by omega)); have r13 := hw.2.2.2.2.1 b.toNat u (by omega) (by omega) (by omega); obtain ⟨⟨s1, s2⟩, s3, s4⟩ := hs_b (L := L) (p := b.toNat) (d := a.toNat) (by omega) hD (fun k k1 k2 => ⟨(hw.2.2.2.2.1 b.toNat k (by omega) k1 k2).1, by have := (hw.2.2.2.2.1 b.toNat k (by omega) k1 k2).2; omega⟩) h3.2 (L 14 b.toNat).toNat (by omega); rw [i3, k13, bt_z (by omega) (by omega)] at e1; have no : ¬ okL L b.toNat a.toNat u := (fun z => by have := e1.mpr (by rw [hset]; exact (s3 _ (by omega)).mpr ⟨u, by omega, z, rfl⟩); omega); exact ⟨rfl, rfl, u + 1, ⟨by omega, rfl, fun j hj => by by_cases q : j = u; (subst q; exact no); (exact j3 j (by omega))⟩, rfl, rfl, rfl, rfl, rfl, rfl, rfl, wv (by omega) (by omega) (by omega), trivial⟩), fun c6 => ⟨fun c7 => (by have h8 := hw.1.2.1; have h3 := hw.1.2.2.1 b.toNat (by omega); have k14 : hx 19 b.toNat = L 14 b.toNat := hL 14 _ (il14 (by omega)); rw [k14] at c3; have i3 : (w32 ((w32 (b * 3)) + (u : Int))).toNat = 3 * b.toNat + u := (by rw [w32_id (z := b * 3) (by omega) (by omega), w32_id (by omega) (by omega)]; omega); have k13 : hx 18 (3 * b.toNat + u) = L 13 (3 * b.toNat + u) := hL 13 _ (il13 (by omega)); have r13 := hw.2.2.2.2.1 b.toNat u (by omega) (by omega) (by omega); obtain ⟨⟨s1, s2⟩, s3, s4⟩ := hs_b (L := L) (p := b.toNat) (d := a.toNat) (by omega) hD (fun k k1 k2 => ⟨(hw.2.2.2.2.1 b.toNat k (by omega) k1 k2).1, by have := (hw.2.2.2.2.1 b.toNat k (by omega) k1 k2).2; omega⟩) h3.2 (L 14 b.toNat).toNat (by omega); rw [i3, k13] at c7 e1; rw [bt_z (by omega) (by omega)] at e1; intro v e; cases e; have y := e1.mp (by omega); rw [hset] at y; obtain ⟨j, hj, jo, je⟩ := (s3 _ (by omega)).mp y; have ju : j = u := (by by_cases q : j < u; (exact absurd jo (j3 j q)); (by_cases q2 : u < j; (exact absurd je.symm (hD b.toNat u j (by omega) q2 (by omega))); omega)); subst ju; have nu : n ≠ j := (fun z => c7 (by rw [← z]; exact he)); have nj : j < n := (by by_cases q : n < j; (exact absurd ho (j3 n q)); omega); refine ⟨rfl, ?_⟩; unfold shL; rw [if_neg (by have := cn_p nj jo; omega)]), fun c7 => (fun h2 v2 p2 q2 => (by have h8 := hw.1.2.1; have h3 := hw.1.2.2.1 b.toNat (by omega); have k14 : hx 19 b.toNat = L 14 b.toNat := hL 14 _ (il14 (by omega)); rw [k14] at c3; have i3 : (w32 ((w32 (b * 3)) + (u : Int))).toNat = 3 * b.toNat + u := (by rw [w32_id (z := b * 3) (by omega) (by omega), w32_id (by omega) (by omega)]; omega); have k13 : hx 18 (3 * b.toNat + u) = L 13 (3 * b.toNat + u) := hL 13 _ (il13 (by omega)); have r13 := hw.2.2.2.2.1 b.toNat u (by omega) (by omega) (by omega); obtain ⟨⟨s1, s2⟩, s3, s4⟩ := hs_b (L := L) (p := b.toNat) (d := a.toNat) (by omega) hD (fun k k1 k2 => ⟨(hw.2.2.2.2.1 b.toNat k (by omega) k1 k2).1, by have := (hw.2.2.2.2.1 b.toNat k (by omega) k1 k2).2; omega⟩) h3.2 (L 14 b.toNat).toNat (by omega); rw [i3, k13] at c7; have un : u = n := (by by_cases q : n < u; (exact absurd ho (j3 n q)); (by_cases q2 : u < n; (exact absurd (show hrL L b.toNat u = hrL L b.toNat n by unfold hrL; rw [he]; omega) (hD b.toNat u n (by omega) q2 hn)); omega)); subst un; obtain ⟨t2, w2⟩ := c_J6_bitCountS (by rw [hset]; exact s1) (by rw [hset]; exact s2) p2; have t2 := t2.symm; subst t2; rw [hset, s4] at w2; have o7 := hw.1.2.2.2.2.1 (8 * a.toNat + b.toNat) (by omega); have zd := zd3 o7.1 o7.2; have cb := cn_b (L := L) (p := b.toNat) (d := a.toNat) (L 14 b.toNat).toNat; intro v e; cases e; refine ⟨rfl, ?_⟩; unfold shL; rw [if_pos (cn_z u j3), w2]; generalize cnL L b.toNat a.toNat (L 14 b.toNat).toNat = cc at *; generalize L 7 (8 * a.toNat + b.toNat) = ww at *; rw [show w32 (zdiv ww 3 * w32 (cc - 1)) = w32 (w32 (cc - 1) * zdiv ww 3) by rw [Int.mul_comm]]; exact pa_w o7.1 o7.2 zd.1 zd.2 cb.1 (by omega)))⟩⟩))⟩)⟩
  exact q v rfl
