/-! NIGHTS on a LAND -/
def atL (L : PH) (p : Nat) : Nat := (L 11 p).toNat
noncomputable def amL (L : PH) (p : Nat) : Nat → Int
  | 0 => -1
  | q + 1 => cif (0 < L 7 (8 * p + q) ∧ WLn L (atL L p) (atL L q) < 1000000 ∧ (amL L p q = -1 ∨ WLn L (atL L p) (atL L q) < WLn L (atL L p) (atL L (amL L p q).toNat))) (q : Int) (amL L p q)
noncomputable def fwL (L : PH) (p q : Nat) : Int := if amL L p q = -1 then 7 else WLn L (atL L p) (atL L (amL L p q).toNat)
theorem amL_b {L : PH} {p : Nat} : ∀ (q : Nat), amL L p q = -1 ∨ (0 ≤ amL L p q ∧ amL L p q < q)
  | 0 => Or.inl rfl
  | q + 1 => by
    have i := amL_b (L := L) (p := p) q
    by_cases C : 0 < L 7 (8 * p + q) ∧ WLn L (atL L p) (atL L q) < 1000000 ∧ (amL L p q = -1 ∨ WLn L (atL L p) (atL L q) < WLn L (atL L p) (atL L (amL L p q).toNat))
    · have e : amL L p (q + 1) = (q : Int) := cif_p C
      rw [e]; omega
    · have e : amL L p (q + 1) = amL L p q := cif_n C
      rw [e]; omega
theorem amL_w {L : PH} {p : Nat} : ∀ (q : Nat), amL L p q ≠ -1 → 0 < L 7 (8 * p + (amL L p q).toNat) ∧ WLn L (atL L p) (atL L (amL L p q).toNat) < 1000000
  | 0, h => absurd rfl h
  | q + 1, h => by
    by_cases C : 0 < L 7 (8 * p + q) ∧ WLn L (atL L p) (atL L q) < 1000000 ∧ (amL L p q = -1 ∨ WLn L (atL L p) (atL L q) < WLn L (atL L p) (atL L (amL L p q).toNat))
    · have e : amL L p (q + 1) = (q : Int) := cif_p C
      rw [e, Int.toNat_natCast]
      exact ⟨C.1, C.2.1⟩
    · have e : amL L p (q + 1) = amL L p q := cif_n C
      rw [e] at h ⊢
      exact amL_w q h
/-- what holds of a LAND besides -/
def W9 (L : PH) : Prop := WL L ∧ (∀ p b : Nat, p < 8 → b < 8 → L 0 4 ≤ (b : Int) → L 7 (8 * p + b) = 0) ∧ (∀ p : Nat, (p : Int) < L 0 4 → (0 ≤ L 11 p ∧ L 11 p < L 1 0) ∧ 0 ≤ L 12 p ∧ L 12 p < L 1 0) ∧ TBL L ∧ (∀ p k : Nat, p < 8 → k < 3 → (k : Int) < L 14 p → 0 ≤ L 13 (3 * p + k) ∧ L 13 (3 * p + k) < L 0 4) ∧ ∀ i : Nat, i < 7 → 0 ≤ L 15 i ∧ L 15 i ≤ 9999
/-- what is said -/
def soM (L : PH) (p b : Nat) : PH := if bB (L 0 7) b = true then (if 0 < L 7 (8 * b + p) then owe (owe L b p 0) p b 0 else owe L p b (L 7 (8 * p + b) - 1)) else if bB (L 0 9) b = true then (if 9999 ≤ L 15 (atL L b) then L else uph L 15 (atL L b) (w32 (L 15 (atL L b) + 1))) else if ¬ bB (L 0 8) b = true ∨ zrem (L 0 12) 2 = 1 then owe L p b (L 7 (8 * p + b) - 1) else L
def soL (L : PH) (p b : Nat) : PH := soM (uph L 0 13 (w32 (L 0 13 + 1))) p b
noncomputable def haL (L : PH) (p : Nat) : PH := if bB (L 0 7) p = true ∧ 0 < L 8 p then (if amL L p (L 0 4).toNat = -1 then L else if L 11 (amL L p (L 0 4).toNat).toNat = L 11 p then soL L p (amL L p (L 0 4).toNat).toNat else uph L 11 p (nxT L (atL L p) (atL L (amL L p (L 0 4).toNat).toNat))) else L
noncomputable def niL (L : PH) : Nat → PH
  | 0 => uph L 0 12 (w32 (L 0 12 + 1))
  | p + 1 => haL (niL L p) p
noncomputable def nsL (L : PH) : Nat → PH
  | 0 => L
  | k + 1 => niL (nsL L k) (nsL L k 0 4).toNat
/-- the length of a WAY is below the number of HOUSES -/
theorem WLn_6 {L : PH} {f t : Nat} (h7 : L 1 0 ≤ 7) (hf : (f : Int) < L 1 0) (ht : (t : Int) < L 1 0) : WLn L f t ≤ 6 ∨ WLn L f t = 1000000 := by
  have b := lvS_n (n := (L 1 0).toNat) (f := f) (dr := fun i j => bB (L 2 i) j = true) (cl := fun j => bB (L 1 1) j = true) (by omega) (by omega) (t := t) (by omega) (7 - (L 1 0).toNat) (by omega)
  rw [show (L 1 0).toNat + (7 - (L 1 0).toNat) = 7 by omega] at b
  have c := lvS_le (n := (L 1 0).toNat) (f := f) (dr := fun i j => bB (L 2 i) j = true) (cl := fun j => bB (L 1 1) j = true) ((L 1 0).toNat - 1) t
  unfold WLn
  rw [b]
  omega
theorem ix8c {a b : Int} (h0 : 0 ≤ a) (h1 : a ≤ 8) (h2 : 0 ≤ b) (h3 : b ≤ 8) : (w32 ((w32 (a * 8)) + b)).toNat = 8 * a.toNat + b.toNat := by
  rw [w32_id (z := a * 8) (by omega) (by omega), w32_id (by omega) (by omega)]
  omega
set_option maxRecDepth 10000 in
theorem v_X0_of5 {sl : Nat} {si : Nat → Int} {K : Nat → PH → ZL → List ZV → Prop} {Q : PH → List ZV → Prop} {h : PH} {a b : Int} (H : 0 ≤ w32 ((w32 (a * 8)) + b) ∧ w32 ((w32 (a * 8)) + b) < (64 : Nat) → R32 (h 12 (w32 ((w32 (a * 8)) + b)).toNat) → Q h [(0, (h 12 (w32 ((w32 (a * 8)) + b)).toNat))]) : vc (zz sl si (7, 0)) (fun _ => false) K Q mX0_of 11 0 mX0_of.2.2.2.2.2.2 h [(0, (2, 11)), (1, (0, a)), (2, (0, b))] [] := H
set_option maxHeartbeats 600000 in
theorem c_X0_of5 {sl : Nat} {si : Nat → Int} {h h' : PH} {a b : Int} {v : Int} (ha : 0 ≤ a ∧ a < 8) (hb : 0 ≤ b ∧ b < 8) (hc : CP (zz sl si (7, 0)) mX0_of h [(2, 11), (0, a), (0, b)] h' [(0, v)]) : h' = h ∧ v = h 12 (8 * a.toNat + b.toNat) := by
  have q : (fun (xh : PH) (r : List ZV) => ∀ v : Int, r = [(0, v)] → (xh = h ∧ v = h 12 (8 * a.toNat + b.toNat))) h' [(0, v)] := by
    refine cp_vc (cut := (fun _ => false)) (K := fun p hx lv st => False) (Q := fun (xh : PH) (r : List ZV) => ∀ v : Int, r = [(0, v)] → (xh = h ∧ v = h 12 (8 * a.toNat + b.toNat))) (v_X0_of5 ?_) (fun pc hx lv st hcut hK => ?_) hc
    · exact (fun b1 r2 => (by intro v e; cases e; rw [ix8c (by omega) (by omega) (by omega) (by omega)]; exact ⟨rfl, rfl⟩))
    · exact hK.elim
  exact q v rfl
set_option maxRecDepth 10000 in
theorem v_X0_put5 {sl : Nat} {si : Nat → Int} {K : Nat → PH → ZL → List ZV → Prop} {Q : PH → List ZV → Prop} {h : PH}  {a b c : Int} (H : 0 ≤ a ∧ a < (8 : Nat) → R32 (h 13 a.toNat) → 0 ≤ w32 ((w32 (a * 8)) + b) ∧ w32 ((w32 (a * 8)) + b) < (64 : Nat) → R32 (h 12 (w32 ((w32 (a * 8)) + b)).toNat) → 0 ≤ a ∧ a < (8 : Nat) → 0 ≤ w32 ((w32 (a * 8)) + b) ∧ w32 ((w32 (a * 8)) + b) < (64 : Nat) → Q (uph (uph h 13 a.toNat (w32 ((h 13 a.toNat) + (w32 (c - (h 12 (w32 ((w32 (a * 8)) + b)).toNat)))))) 12 (w32 ((w32 (a * 8)) + b)).toNat c) []) : vc (zz sl si (7, 0)) (fun _ => false) K Q mX0_put 27 0 mX0_put.2.2.2.2.2.2 h [(0, (2, 11)), (1, (0, a)), (2, (0, b)), (3, (0, c))] [] := H
set_option maxHeartbeats 600000 in
theorem c_X0_put5 {sl : Nat} {si : Nat → Int} {h h' : PH} {L : PH} {a b c : Int} (hL : CL 5 h L) (hW : WL L) (ha : 0 ≤ a ∧ a < 8) (hb : 0 ≤ b ∧ b < 8) (hv : 0 ≤ c ∧ c ≤ 99) (hc : CP (zz sl si (7, 0)) mX0_put h [(2, 11), (0, a), (0, b), (0, c)] h' []) : CL 5 h' (owe L a b c) ∧ ∀ c k : Nat, c ≠ 12 → c ≠ 13 → h' c k = h c k := by
  have q : (fun (xh : PH) (r : List ZV) => CL 5 xh (owe L a b c) ∧ ∀ c k : Nat, c ≠ 12 → c ≠ 13 → xh c k = h c k) h' [] := by
    refine cp_vc (cut := (fun _ => false)) (K := fun p hx lv st => False) (Q := fun (xh : PH) (r : List ZV) => CL 5 xh (owe L a b c) ∧ ∀ c k : Nat, c ≠ 12 → c ≠ 13 → xh c k = h c k) (v_X0_put5 ?_) (fun pc hx lv st hcut hK => ?_) hc
    · exact (fun b1 r2 => (fun b3 r4 => (fun b5 => (fun b6 => (by have t := hW.tot (p := a.toNat) (by omega); have o := hW.2.2.2.2.1 (8 * a.toNat + b.toNat) (by omega); have e1 : h 13 a.toNat = L 8 a.toNat := hL 8 a.toNat (il8 (by omega)); have e2 : h 12 (8 * a.toNat + b.toNat) = L 7 (8 * a.toNat + b.toNat) := hL 7 _ (il7 (by omega)); rw [ix8c (by omega) (by omega) (by omega) (by omega), e1, e2, w32_id (z := c - L 7 (8 * a.toNat + b.toNat)) (by omega) (by omega), w32_id (by omega) (by omega)]; exact ⟨(hL.up 8 _ _).up 7 _ _, fun c k z1 z2 => by rw [up_ne (by omega), up_ne (by omega)]⟩)))))
    · exact hK.elim
  exact q
set_option maxRecDepth 10000 in
theorem v_X1_aimOf5 {sl : Nat} {si : Nat → Int} {K : Nat → PH → ZL → List ZV → Prop} {Q : PH → List ZV → Prop} {h : PH}  {a : Int} (H : K 8 h [(4, (0, 0)), (3, (0, 7)), (2, (0, (-1))), (0, (2, 5)), (1, (0, a))] []) : vc (zz sl si (7, 0)) (fun p => Nat.beq p 8) K Q mX1_aimOf 8 0 mX1_aimOf.2.2.2.2.2.2 h [(0, (2, 5)), (1, (0, a))] [] := H
set_option maxRecDepth 10000 in
theorem v_X1_aimOf5_8 {sl : Nat} {si : Nat → Int} {K : Nat → PH → ZL → List ZV → Prop} {Q : PH → List ZV → Prop} {h : PH}  {a : Int} {m w q : Int} (H : R32 (h 5 4) → ((h 5 4) ≤ q → Q h [(0, m)]) ∧ (¬ ((h 5 4) ≤ q) → ∀ h1 v1, CP (zz sl si (7, 0)) mX0_of h [(2, 11), (0, a), (0, q)] h1 [(0, v1)] → R32 v1 → (v1 ≤ 0 → K 8 h1 [(4, (0, w32 (q + 1))), (0, (2, 5)), (1, (0, a)), (2, (0, m)), (3, (0, w))] []) ∧ (¬ (v1 ≤ 0) → 0 ≤ a ∧ a < (8 : Nat) → R32 (h1 16 a.toNat) → 0 ≤ q ∧ q < (8 : Nat) → R32 (h1 16 q.toNat) → ∀ h2 v2, CP (zz sl si (7, 0)) mX5_distance h1 [(2, 6), (0, (h1 16 a.toNat)), (0, (h1 16 q.toNat))] h2 [(0, v2)] → R32 v2 → (v2 = (-1) → K 8 h2 [(4, (0, w32 (q + 1))), (5, (0, v2)), (0, (2, 5)), (1, (0, a)), (2, (0, m)), (3, (0, w))] []) ∧ (¬ (v2 = (-1)) → (w ≤ v2 → K 8 h2 [(4, (0, w32 (q + 1))), (5, (0, v2)), (0, (2, 5)), (1, (0, a)), (2, (0, m)), (3, (0, w))] []) ∧ (¬ (w ≤ v2) → K 8 h2 [(4, (0, w32 (q + 1))), (2, (0, q)), (3, (0, v2)), (5, (0, v2)), (0, (2, 5)), (1, (0, a))] []))))) : vc (zz sl si (7, 0)) (fun p => Nat.beq p 8) K Q mX1_aimOf 36 8 (ax_jmp mX1_aimOf.2.2.2.2.2.2 8) h [(0, (2, 5)), (1, (0, a)), (2, (0, m)), (3, (0, w)), (4, (0, q))] [] := H
set_option maxHeartbeats 600000 in
theorem c_X1_aimOf5 {sl : Nat} {si : Nat → Int} {h h' : PH} {L : PH} {a : Int} {v : Int} (hL : CL 5 h L) (hW : WL L) (hP : ∀ p : Nat, (p : Int) < L 0 4 → (0 ≤ L 11 p ∧ L 11 p < L 1 0) ∧ 0 ≤ L 12 p ∧ L 12 p < L 1 0) (hT : TBL L) (ha : 0 ≤ a ∧ a < L 0 4) (hc : CP (zz sl si (7, 0)) mX1_aimOf h [(2, 5), (0, a)] h' [(0, v)]) : h' = h ∧ v = amL L a.toNat (L 0 4).toNat := by
  have q : (fun (xh : PH) (r : List ZV) => ∀ v : Int, r = [(0, v)] → (xh = h ∧ v = amL L a.toNat (L 0 4).toNat)) h' [(0, v)] := by
    refine cp_vc (cut := (fun p => Nat.beq p 8)) (K := fun p hx lv st => (p = 8 ∧ lK (fun u : Nat => [(0, (2, 5)), (1, (0, a)), (2, (0, amL L a.toNat u)), (3, (0, fwL L a.toNat u)), (4, (0, (u : Int)))]) (fun u hx => (u : Int) ≤ L 0 4 ∧ hx = h) p hx lv st)) (Q := fun (xh : PH) (r : List ZV) => ∀ v : Int, r = [(0, v)] → (xh = h ∧ v = amL L a.toNat (L 0 4).toNat)) (v_X1_aimOf5 ?_) (fun pc hx lv st hcut hK => ?_) hc
    · exact (by exact ⟨rfl, rfl, 0, ⟨by omega, rfl⟩, rfl, rfl, rfl, rfl, rfl, trivial⟩)
    · rcases hK with ⟨rfl, rfl, u, hJ, hs⟩
      · obtain ⟨j1, j2⟩ := hJ
        subst j2
        have h8 := hW.2.1
        have h7 := hW.1
        have e04 : hx 5 4 = L 0 4 := hL 0 4 (by unfold inL; omega)
        exact ⟨_, _, hs, v_X1_aimOf5_8 (fun r1 => ⟨fun c2 => (by rw [e04] at c2; intro v e; cases e; have eu : (L 0 4).toNat = u := (by omega); exact ⟨rfl, by rw [eu]⟩), fun c2 => (fun h1 v1 p1 q1 => ⟨fun c3 => (by rw [e04] at c2; obtain ⟨t1, w1⟩ := c_X0_of5 (by omega) (by omega) p1; have t1 := t1.symm; subst t1; rw [Int.toNat_natCast] at w1; have o1 : hx 12 (8 * a.toNat + u) = L 7 (8 * a.toNat + u) := hL 7 _ (il7 (by omega)); rw [o1] at w1; have hPa := (hP a.toNat (by omega)).1; have hPu := (hP u (by omega)).1; have am : amL L a.toNat (u + 1) = amL L a.toNat u := cif_n (fun z => by have := z.1; omega); have fw : fwL L a.toNat (u + 1) = fwL L a.toNat u := (by unfold fwL; rw [am]); exact ⟨rfl, rfl, u + 1, ⟨by omega, rfl⟩, rfl, rfl, (by rw [am]; rfl), (by rw [fw]; rfl), wv (by omega) (by omega) (by omega), trivial⟩), fun c3 => (fun b4 r5 => (fun b6 r7 => (fun h2 v2 p2 q2 => ⟨fun c8 => (by rw [e04] at c2; obtain ⟨t1, w1⟩ := c_X0_of5 (by omega) (by omega) p1; have t1 := t1.symm; subst t1; rw [Int.toNat_natCast] at w1; have o1 : hx 12 (8 * a.toNat + u) = L 7 (8 * a.toNat + u) := hL 7 _ (il7 (by omega)); rw [o1] at w1; have hPa := (hP a.toNat (by omega)).1; have hPu := (hP u (by omega)).1; have a1 : hx 16 a.toNat = L 11 a.toNat := hL 11 _ (il11 (by omega)); have a2 : hx 16 (u : Int).toNat = L 11 u := (by rw [Int.toNat_natCast]; exact hL 11 _ (il11 (by omega))); rw [a1, a2] at p2; obtain ⟨t2, w2⟩ := c_X5_distance5 (by omega) (by omega) p2; have t2 := t2.symm; subst t2; have l1 : hx 8 (7 * (L 11 a.toNat).toNat + (L 11 u).toNat) = L 3 (7 * (L 11 a.toNat).toNat + (L 11 u).toNat) := hL 3 _ (il3 (by omega)); have tb := (hT (L 11 a.toNat).toNat (L 11 u).toNat (by omega) (by omega)).1; rw [l1, tb] at w2; have d2 : v2 = lenW (WLn L (atL L a.toNat) (atL L u)) := w2; unfold lenW at d2; have w0 := WLn_0 (L := L) (f := atL L a.toNat) (t := atL L u); have w6 := WLn_6 (L := L) (f := atL L a.toNat) (t := atL L u) (by omega) (by unfold atL; omega) (by unfold atL; omega); have wM : WLn L (atL L a.toNat) (atL L u) = 1000000 := Classical.byContradiction (fun z => by rw [if_neg z] at d2; omega); have am : amL L a.toNat (u + 1) = amL L a.toNat u := cif_n (fun z => by have := z.2.1; omega); have fw : fwL L a.toNat (u + 1) = fwL L a.toNat u := (by unfold fwL; rw [am]); exact ⟨rfl, rfl, u + 1, ⟨by omega, rfl⟩, rfl, rfl, (by rw [am]; rfl), (by rw [fw]; rfl), wv (by omega) (by omega) (by omega), trivial⟩), fun c8 => ⟨fun c9 => (by rw [e04] at c2; obtain ⟨t1, w1⟩ := c_X0_of5 (by omega) (by omega) p1; have t1 := t1.symm; subst t1; rw [Int.toNat_natCast] at w1; have o1 : hx 12 (8 * a.toNat + u) = L 7 (8 * a.toNat + u) := hL 7 _ (il7 (by omega)); rw [o1] at w1; have hPa := (hP a.toNat (by omega)).1; have hPu := (hP u (by omega)).1; have a1 : hx 16 a.toNat = L 11 a.toNat := hL 11 _ (il11 (by omega)); have a2 : hx 16 (u : Int).toNat = L 11 u := (by rw [Int.toNat_natCast]; exact hL 11 _ (il11 (by omega))); rw [a1, a2] at p2; obtain ⟨t2, w2⟩ := c_X5_distance5 (by omega) (by omega) p2; have t2 := t2.symm; subst t2; have l1 : hx 8 (7 * (L 11 a.toNat).toNat + (L 11 u).toNat) = L 3 (7 * (L 11 a.toNat).toNat + (L 11 u).toNat) := hL 3 _ (il3 (by omega)); have tb := (hT (L 11 a.toNat).toNat (L 11 u).toNat (by omega) (by omega)).1; rw [l1, tb] at w2; have d2 : v2 = lenW (WLn L (atL L a.toNat) (atL L u)) := w2; unfold lenW at d2; have w0 := WLn_0 (L := L) (f := atL L a.toNat) (t := atL L u); have w6 := WLn_6 (L := L) (f := atL L a.toNat) (t := atL L u) (by omega) (by unfold atL; omega) (by unfold atL; omega); have wN : WLn L (atL L a.toNat) (atL L u) ≠ 1000000 := (fun z => by rw [if_pos z] at d2; omega); rw [if_neg wN] at d2; have am : amL L a.toNat (u + 1) = amL L a.toNat u := cif_n (fun z => (by (have z3 := z.2.2; unfold fwL at c9; by_cases y : amL L a.toNat u = -1; (rw [if_pos y] at c9; omega); (rw [if_neg y] at c9; exact z3.elim y (fun x => by omega))))); have fw : fwL L a.toNat (u + 1) = fwL L a.toNat u := (by unfold fwL; rw [am]); exact ⟨rfl, rfl, u + 1, ⟨by omega, rfl⟩, rfl, rfl, (by rw [am]; rfl), (by rw [fw]; rfl), wv (by omega) (by omega) (by omega), trivial⟩), fun c9 => (by rw [e04] at c2; obtain ⟨t1, w1⟩ := c_X0_of5 (by omega) (by omega) p1; have t1 := t1.symm; subst t1; rw [Int.toNat_natCast] at w1; have o1 : hx 12 (8 * a.toNat + u) = L 7 (8 * a.toNat + u) := hL 7 _ (il7 (by omega)); rw [o1] at w1; have hPa := (hP a.toNat (by omega)).1; have hPu := (hP u (by omega)).1; have a1 : hx 16 a.toNat = L 11 a.toNat := hL 11 _ (il11 (by omega)); have a2 : hx 16 (u : Int).toNat = L 11 u := (by rw [Int.toNat_natCast]; exact hL 11 _ (il11 (by omega))); rw [a1, a2] at p2; obtain ⟨t2, w2⟩ := c_X5_distance5 (by omega) (by omega) p2; have t2 := t2.symm; subst t2; have l1 : hx 8 (7 * (L 11 a.toNat).toNat + (L 11 u).toNat) = L 3 (7 * (L 11 a.toNat).toNat + (L 11 u).toNat) := hL 3 _ (il3 (by omega)); have tb := (hT (L 11 a.toNat).toNat (L 11 u).toNat (by omega) (by omega)).1; rw [l1, tb] at w2; have d2 : v2 = lenW (WLn L (atL L a.toNat) (atL L u)) := w2; unfold lenW at d2; have w0 := WLn_0 (L := L) (f := atL L a.toNat) (t := atL L u); have w6 := WLn_6 (L := L) (f := atL L a.toNat) (t := atL L u) (by omega) (by unfold atL; omega) (by unfold atL; omega); have wN : WLn L (atL L a.toNat) (atL L u) ≠ 1000000 := (fun z => by rw [if_pos z] at d2; omega); rw [if_neg wN] at d2; have am : amL L a.toNat (u + 1) = (u : Int) := cif_p ⟨by omega, by omega, by (unfold fwL at c9; by_cases y : amL L a.toNat u = -1; (exact Or.inl y); (rw [if_neg y] at c9; exact Or.inr (by omega)))⟩; have fw : fwL L a.toNat (u + 1) = v2 := (by unfold fwL; rw [am, if_neg (by omega), Int.toNat_natCast]; exact d2.symm); exact ⟨rfl, rfl, u + 1, ⟨by omega, rfl⟩, rfl, rfl, (by rw [am]; rfl), (by rw [fw]; rfl), wv (by omega) (by omega) (by omega), trivial⟩)⟩⟩)))⟩)⟩)⟩
  exact q v rfl
