/-! BITS of any number -/
def bB (x : Int) (i : Nat) : Bool := (Int32.ofInt x).toBitVec.getLsbD i
theorem bB_and {x y : Int} {i : Nat} : bB (zand x y) i = (bB x i && bB y i) := by
  unfold bB zand
  rw [Int32.ofInt_toInt, Int32.toBitVec_and, BitVec.getLsbD_and]
theorem bB_or {x y : Int} {i : Nat} : bB (zor x y) i = (bB x i || bB y i) := by
  unfold bB zor
  rw [Int32.ofInt_toInt, Int32.toBitVec_or, BitVec.getLsbD_or]
theorem bB_xor {x y : Int} {i : Nat} : bB (zxor x y) i = (bB x i ^^ bB y i) := by
  unfold bB zxor
  rw [Int32.ofInt_toInt, Int32.toBitVec_xor, BitVec.getLsbD_xor]
theorem bB_m1 {i : Nat} (h : i < 32) : bB (-1) i = true := by
  have : ∀ i : Nat, i < 32 → bB (-1) i = true := by decide
  exact this i h
theorem bB_0 {i : Nat} (h : i < 32) : bB 0 i = false := by
  have : ∀ i : Nat, i < 32 → bB 0 i = false := by decide
  exact this i h
theorem bB_one {a i : Nat} (ha : a < 8) (hi : i < 8) : bB (zshl 1 (a : Int)) i = decide (i = a) := by
  have : ∀ a : Nat, a < 8 → ∀ i : Nat, i < 8 → bB (zshl 1 (a : Int)) i = decide (i = a) := by decide
  exact this a ha i hi
theorem bv1 (b : BitVec 32) : (b &&& 1#32).toInt = if b.getLsbD 0 then 1 else 0 := by
  have e : b &&& 1#32 = if b.getLsbD 0 then 1#32 else 0#32 := by
    apply BitVec.eq_of_getLsbD_eq
    intro i hi
    rw [BitVec.getLsbD_and]
    cases h : b.getLsbD 0
    · simp
      by_cases z : i = 0
      · subst z; rw [h]; simp
      · simp [z]
    · simp
      by_cases z : i = 0
      · subst z; rw [h]; simp
      · simp [z]
  rw [e]
  cases b.getLsbD 0 <;> decide
theorem shr_bB (x : Int) {i : Nat} (h : i < 8) : bB (zshr x (i : Int)) 0 = bB x i := by
  unfold bB zshr
  rw [Int32.ofInt_toInt, Int32.toBitVec_shiftRight]
  rcases (show i = 0 ∨ i = 1 ∨ i = 2 ∨ i = 3 ∨ i = 4 ∨ i = 5 ∨ i = 6 ∨ i = 7 by omega) with z | z | z | z | z | z | z | z <;> subst z <;> simp [BitVec.getElem_sshiftRight]
theorem bt_bB (x : Int) {i : Nat} (h : i < 8) : zand (zshr x (i : Int)) 1 = if bB x i then 1 else 0 := by
  have e := shr_bB x h
  unfold zand
  rw [show (Int32.ofInt (zshr x i) &&& Int32.ofInt 1).toInt = ((Int32.ofInt (zshr x i)).toBitVec &&& 1#32).toInt from rfl, bv1]
  unfold bB at e ⊢
  rw [e]
theorem bt_1 {x : Int} {i : Nat} (h : i < 8) : zand (zshr x (i : Int)) 1 = 1 ↔ bB x i = true := by
  rw [bt_bB x h]
  cases bB x i <;> simp
theorem bB_not {x : Int} {i : Nat} (h : i < 32) : bB (zxor x (-1)) i = !bB x i := by
  rw [bB_xor, bB_m1 h]
  cases bB x i <;> rfl
/-! ROADS: the search of the class -/
/-- the doors of a set of HOUSES; d, r: where doors, ROADS lie -/
noncomputable def arC (h : PH) (d : Nat) (s : Int) : Nat → Int
  | 0 => 0
  | k + 1 => if zand (zshr s k) 1 = 1 then zor (arC h d s k) (h d k) else arC h d s k
theorem arC_c {h h' : PH} {d : Nat} {s : Int} : ∀ {n : Nat}, (∀ k : Nat, k < n → h' d k = h d k) → arC h' d s n = arC h d s n
  | 0, _ => rfl
  | k + 1, e => by
    show (if _ then zor (arC h' d s k) (h' d k) else arC h' d s k) = _
    rw [arC_c (fun i hi => e i (by omega)), e k (by omega)]
    rfl
theorem arC_b {h : PH} {d : Nat} {s : Int} {t : Nat} (ht : t < 8) : ∀ {n : Nat}, n ≤ 8 → (bB (arC h d s n) t = true ↔ ∃ a, a < n ∧ bB s a = true ∧ bB (h d a) t = true)
  | 0, _ => by
    show bB 0 t = true ↔ _
    rw [bB_0 (by omega)]
    exact ⟨fun z => (by cases z), fun ⟨a, x, _⟩ => by omega⟩
  | k + 1, hn => by
    have i := arC_b (h := h) (d := d) (s := s) ht (n := k) (by omega)
    show bB (if zand (zshr s k) 1 = 1 then zor (arC h d s k) (h d k) else arC h d s k) t = true ↔ _
    by_cases c : bB s k = true
    · rw [if_pos ((bt_1 (by omega)).mpr c), bB_or, Bool.or_eq_true, i]
      constructor
      · rintro (⟨a, x, y⟩ | z)
        · exact ⟨a, by omega, y⟩
        · exact ⟨k, by omega, c, z⟩
      · rintro ⟨a, x, y, z⟩
        by_cases e : a = k
        · rw [e] at z; exact Or.inr z
        · exact Or.inl ⟨a, by omega, y, z⟩
    · rw [if_neg (fun z => c ((bt_1 (by omega)).mp z)), i]
      constructor
      · rintro ⟨a, x, y⟩; exact ⟨a, by omega, y⟩
      · rintro ⟨a, x, y, z⟩
        by_cases e : a = k
        · rw [e] at y; exact absurd y c
        · exact ⟨a, by omega, y, z⟩
/-- the edge behind k steps, what was seen -/
noncomputable def esC (h : PH) (r d : Nat) (a : Int) : Nat → Int × Int
  | 0 => (zshl 1 a, zshl 1 a)
  | k + 1 => (zand (zand (arC h d (esC h r d a k).1 (h r 0).toNat) (zxor (esC h r d a k).2 (-1))) (zxor (h r 1) (-1)), zor (esC h r d a k).2 (zand (zand (arC h d (esC h r d a k).1 (h r 0).toNat) (zxor (esC h r d a k).2 (-1))) (zxor (h r 1) (-1))))
theorem esC_c {h h' : PH} {r d : Nat} {a : Int} (e0 : h' r 0 = h r 0) (e1 : h' r 1 = h r 1) (hn : h r 0 ≤ 7) (ed : ∀ k : Nat, k < 7 → h' d k = h d k) : ∀ k : Nat, esC h' r d a k = esC h r d a k
  | 0 => rfl
  | k + 1 => by
    show (_, _) = (_, _)
    rw [esC_c e0 e1 hn ed k, e0, e1, arC_c (fun i hi => ed i (by omega))]
/-- the lengths below k -/
noncomputable def leC (h : PH) (r d : Nat) (a : Int) (t : Nat) : Nat → Int
  | 0 => -1
  | k + 1 => if zand (zshr (esC h r d a k).1 t) 1 = 1 then (k : Int) else leC h r d a t k
theorem leC_c {h h' : PH} {r d : Nat} {a : Int} {t : Nat} (e0 : h' r 0 = h r 0) (e1 : h' r 1 = h r 1) (hn : h r 0 ≤ 7) (ed : ∀ k : Nat, k < 7 → h' d k = h d k) : ∀ k : Nat, leC h' r d a t k = leC h r d a t k
  | 0 => rfl
  | k + 1 => by
    show (if _ then (k : Int) else leC h' r d a t k) = _
    rw [leC_c e0 e1 hn ed k, esC_c e0 e1 hn ed k]
    rfl
theorem leC_b {h : PH} {r d : Nat} {a : Int} {t : Nat} : ∀ k : Nat, -1 ≤ leC h r d a t k ∧ leC h r d a t k ≤ k
  | 0 => by
    show (-1 : Int) ≤ -1 ∧ (-1 : Int) ≤ _
    omega
  | k + 1 => by
    have i := leC_b (h := h) (r := r) (d := d) (a := a) (t := t) k
    show -1 ≤ (if _ then (k : Int) else leC h r d a t k) ∧ (if _ then (k : Int) else leC h r d a t k) ≤ _
    split <;> omega
/-- the HOUSE next on a shortest WAY, out of those below k; q: where the lengths lie -/
noncomputable def lnC (h : PH) (r d q f t : Nat) : Nat → Int
  | 0 => -1
  | k + 1 => if lnC h r d q f t k = -1 ∧ 0 < h q (7 * f + t) ∧ zand (zshr (zand (h d f) (zxor (h r 1) (-1))) k) 1 = 1 ∧ h q (7 * k + t) = h q (7 * f + t) - 1 then (k : Int) else lnC h r d q f t k
noncomputable def nxC (h : PH) (r d q f t : Nat) : Int := if lnC h r d q f t (h r 0).toNat = -1 then (f : Int) else lnC h r d q f t (h r 0).toNat
theorem lnC_c {h h' : PH} {r d q f t : Nat} (e1 : h' r 1 = h r 1) (ed : h' d f = h d f) (el : ∀ k : Nat, h' q k = h q k) : ∀ k : Nat, lnC h' r d q f t k = lnC h r d q f t k
  | 0 => rfl
  | k + 1 => by
    show (if _ then (k : Int) else lnC h' r d q f t k) = _
    rw [lnC_c e1 ed el k, e1, ed, el, el]
    rfl
theorem ix7 {a : Int} {k : Nat} (h0 : 0 ≤ a) (h1 : a ≤ 7) (hk : k ≤ 8) : (w32 ((w32 (a * 7)) + (k : Int))).toNat = 7 * a.toNat + k := by
  rw [w32_id (z := a * 7) (by omega) (by omega), w32_id (by omega) (by omega)]
  omega
set_option maxRecDepth 10000 in
theorem v_X11_hasB {sl : Nat} {si : Nat → Int} {K : Nat → PH → ZL → List ZV → Prop} {Q : PH → List ZV → Prop} {h : PH} {a b : Int} (H : ((zand (zshr a b) 1) ≠ 1 → Q h [(0, 0)]) ∧ (¬ ((zand (zshr a b) 1) ≠ 1) → Q h [(0, 1)])) : vc (zz sl si (7, 0)) (fun _ => false) K Q mX11_has 12 0 mX11_has.2.2.2.2.2.2 h [(0, (0, a)), (1, (0, b))] [] := H
set_option maxHeartbeats 600000 in
theorem c_X11_hasB {sl : Nat} {si : Nat → Int} {h h' : PH} {a b : Int} {v : Int} (hc : CP (zz sl si (7, 0)) mX11_has h [(0, a), (0, b)] h' [(0, v)]) : h' = h ∧ (v = 1 ↔ zand (zshr a b) 1 = 1) := by
  have q : (fun (xh : PH) (r : List ZV) => ∀ v : Int, r = [(0, v)] → (xh = h ∧ (v = 1 ↔ zand (zshr a b) 1 = 1))) h' [(0, v)] := by
    refine cp_vc (cut := (fun _ => false)) (K := fun p hx lv st => False) (Q := fun (xh : PH) (r : List ZV) => ∀ v : Int, r = [(0, v)] → (xh = h ∧ (v = 1 ↔ zand (zshr a b) 1 = 1))) (v_X11_hasB ?_) (fun pc hx lv st hcut hK => ?_) hc
    · exact ⟨fun c1 => (by intro v e; cases e; exact ⟨rfl, ⟨fun z => by omega, fun z => absurd z c1⟩⟩), fun c1 => (by intro v e; cases e; exact ⟨rfl, ⟨fun _ => Classical.not_not.mp c1, fun _ => rfl⟩⟩)⟩
    · exact hK.elim
  exact q v rfl
set_option maxRecDepth 10000 in
theorem v_X5_around5 {sl : Nat} {si : Nat → Int} {K : Nat → PH → ZL → List ZV → Prop} {Q : PH → List ZV → Prop} {h : PH} {s : Int} (H : K 4 h [(3, (0, 0)), (2, (0, 0)), (0, (2, 6)), (1, (0, s))] []) : vc (zz sl si (7, 0)) (fun p => Nat.beq p 4) K Q mX5_around 6 0 mX5_around.2.2.2.2.2.2 h [(0, (2, 6)), (1, (0, s))] [] := H
set_option maxRecDepth 10000 in
theorem v_X5_around5_4 {sl : Nat} {si : Nat → Int} {K : Nat → PH → ZL → List ZV → Prop} {Q : PH → List ZV → Prop} {h : PH} {s : Int} {v k : Int} (H : R32 (h 6 0) → ((h 6 0) ≤ k → Q h [(0, v)]) ∧ (¬ ((h 6 0) ≤ k) → ((zand (zshr s k) 1) ≠ 1 → K 4 h [(3, (0, w32 (k + 1))), (0, (2, 6)), (1, (0, s)), (2, (0, v))] []) ∧ (¬ ((zand (zshr s k) 1) ≠ 1) → 0 ≤ k ∧ k < (7 : Nat) → R32 (h 7 k.toNat) → K 4 h [(3, (0, w32 (k + 1))), (2, (0, zor v (h 7 k.toNat))), (0, (2, 6)), (1, (0, s))] []))) : vc (zz sl si (7, 0)) (fun p => Nat.beq p 4) K Q mX5_around 22 4 (ax_jmp mX5_around.2.2.2.2.2.2 4) h [(0, (2, 6)), (1, (0, s)), (2, (0, v)), (3, (0, k))] [] := H
set_option maxHeartbeats 600000 in
theorem c_X5_around5 {sl : Nat} {si : Nat → Int} {h h' : PH} {s : Int} {v : Int} (hn : 0 ≤ h 6 0 ∧ h 6 0 ≤ 7) (hc : CP (zz sl si (7, 0)) mX5_around h [(2, 6), (0, s)] h' [(0, v)]) : h' = h ∧ v = arC h 7 s (h 6 0).toNat := by
  have q : (fun (xh : PH) (r : List ZV) => ∀ v : Int, r = [(0, v)] → (xh = h ∧ v = arC h 7 s (h 6 0).toNat)) h' [(0, v)] := by
    refine cp_vc (cut := (fun p => Nat.beq p 4)) (K := fun p hx lv st => (p = 4 ∧ lK (fun u : Nat => [(0, (2, 6)), (1, (0, s)), (2, (0, arC h 7 s u)), (3, (0, (u : Int)))]) (fun u hx => (u : Int) ≤ h 6 0 ∧ hx = h) p hx lv st)) (Q := fun (xh : PH) (r : List ZV) => ∀ v : Int, r = [(0, v)] → (xh = h ∧ v = arC h 7 s (h 6 0).toNat)) (v_X5_around5 ?_) (fun pc hx lv st hcut hK => ?_) hc
    · exact (by exact ⟨rfl, rfl, 0, ⟨by omega, rfl⟩, rfl, rfl, rfl, rfl, trivial⟩)
    · rcases hK with ⟨rfl, rfl, u, hJ, hs⟩
      · obtain ⟨j1, j2⟩ := hJ
        subst j2
        exact ⟨_, _, hs, v_X5_around5_4 (fun r1 => ⟨fun c2 => (by intro v e; cases e; have eu : (hx 6 0).toNat = u := (by omega); exact ⟨rfl, by rw [eu]⟩), fun c2 => ⟨fun c3 => (by have e : arC hx 7 s (u + 1) = arC hx 7 s u := if_neg c3; exact ⟨rfl, rfl, u + 1, ⟨by omega, rfl⟩, rfl, rfl, (by rw [e]; rfl), wv (by omega) (by omega) (by omega), trivial⟩), fun c3 => (fun b4 r5 => (by have e : arC hx 7 s (u + 1) = zor (arC hx 7 s u) (hx 7 u) := if_pos (Classical.not_not.mp c3); rw [Int.toNat_natCast]; exact ⟨rfl, rfl, u + 1, ⟨by omega, rfl⟩, rfl, rfl, (by rw [e]; rfl), wv (by omega) (by omega) (by omega), trivial⟩))⟩⟩)⟩
  exact q v rfl
set_option maxRecDepth 10000 in
theorem v_X5_measureL5 {sl : Nat} {si : Nat → Int} {K : Nat → PH → ZL → List ZV → Prop} {Q : PH → List ZV → Prop} {h : PH} {a : Int} (H : K 9 h [(4, (0, 0)), (3, (0, zshl 1 a)), (2, (0, zshl 1 a)), (0, (2, 6)), (1, (0, a))] []) : vc (zz sl si (7, 0)) (fun p => Nat.beq p 9 || Nat.beq p 40 || Nat.beq p 52) K Q mX5_measureFrom 10 0 mX5_measureFrom.2.2.2.2.2.2 h [(0, (2, 6)), (1, (0, a))] [] := H
set_option maxRecDepth 10000 in
theorem v_X5_measureL5_9 {sl : Nat} {si : Nat → Int} {K : Nat → PH → ZL → List ZV → Prop} {Q : PH → List ZV → Prop} {h : PH} {a : Int} {e s k : Int} (H : R32 (h 6 0) → ((h 6 0) ≤ k → K 40 h [(4, (0, 0)), (0, (2, 6)), (1, (0, a)), (2, (0, e)), (3, (0, s))] []) ∧ (¬ ((h 6 0) ≤ k) → 0 ≤ w32 ((w32 (a * 7)) + k) ∧ w32 ((w32 (a * 7)) + k) < (49 : Nat) → K 9 (uph h 8 (w32 ((w32 (a * 7)) + k)).toNat (-1)) [(4, (0, w32 (k + 1))), (0, (2, 6)), (1, (0, a)), (2, (0, e)), (3, (0, s))] [])) : vc (zz sl si (7, 0)) (fun p => Nat.beq p 9 || Nat.beq p 40 || Nat.beq p 52) K Q mX5_measureFrom 17 9 (ax_jmp mX5_measureFrom.2.2.2.2.2.2 9) h [(0, (2, 6)), (1, (0, a)), (2, (0, e)), (3, (0, s)), (4, (0, k))] [] := H
set_option maxRecDepth 10000 in
theorem v_X5_measureL5_40 {sl : Nat} {si : Nat → Int} {K : Nat → PH → ZL → List ZV → Prop} {Q : PH → List ZV → Prop} {h : PH} {a : Int} {e s k : Int} (H : R32 (h 6 0) → ((h 6 0) ≤ k → Q h []) ∧ (¬ ((h 6 0) ≤ k) → K 52 h [(5, (0, 0)), (0, (2, 6)), (1, (0, a)), (2, (0, e)), (3, (0, s)), (4, (0, k))] [])) : vc (zz sl si (7, 0)) (fun p => Nat.beq p 9 || Nat.beq p 40 || Nat.beq p 52) K Q mX5_measureFrom 8 40 (ax_jmp mX5_measureFrom.2.2.2.2.2.2 40) h [(0, (2, 6)), (1, (0, a)), (2, (0, e)), (3, (0, s)), (4, (0, k))] [] := H
set_option maxRecDepth 10000 in
theorem v_X5_measureL5_52 {sl : Nat} {si : Nat → Int} {K : Nat → PH → ZL → List ZV → Prop} {Q : PH → List ZV → Prop} {h : PH} {a : Int} {e s k m : Int} (H : R32 (h 6 0) → ((h 6 0) ≤ m → ∀ h1 v1, CP (zz sl si (7, 0)) mX5_around h [(2, 6), (0, e)] h1 [(0, v1)] → R32 v1 → R32 (h1 6 1) → K 40 h1 [(4, (0, w32 (k + 1))), (3, (0, zor s (zand (zand v1 (zxor s (-1))) (zxor (h1 6 1) (-1))))), (2, (0, zand (zand v1 (zxor s (-1))) (zxor (h1 6 1) (-1)))), (0, (2, 6)), (1, (0, a)), (5, (0, m))] []) ∧ (¬ ((h 6 0) ≤ m) → ∀ h2 v2, CP (zz sl si (7, 0)) mX11_has h [(0, e), (0, m)] h2 [(0, v2)] → v2 = 0 ∨ v2 = 1 → (v2 = 0 → K 52 h2 [(5, (0, w32 (m + 1))), (0, (2, 6)), (1, (0, a)), (2, (0, e)), (3, (0, s)), (4, (0, k))] []) ∧ (¬ (v2 = 0) → 0 ≤ w32 ((w32 (a * 7)) + m) ∧ w32 ((w32 (a * 7)) + m) < (49 : Nat) → K 52 (uph h2 8 (w32 ((w32 (a * 7)) + m)).toNat k) [(5, (0, w32 (m + 1))), (0, (2, 6)), (1, (0, a)), (2, (0, e)), (3, (0, s)), (4, (0, k))] []))) : vc (zz sl si (7, 0)) (fun p => Nat.beq p 9 || Nat.beq p 40 || Nat.beq p 52) K Q mX5_measureFrom 25 52 (ax_jmp mX5_measureFrom.2.2.2.2.2.2 52) h [(0, (2, 6)), (1, (0, a)), (2, (0, e)), (3, (0, s)), (4, (0, k)), (5, (0, m))] [] := H
set_option maxHeartbeats 600000 in
theorem c_X5_measureL5 {sl : Nat} {si : Nat → Int} {h h' : PH} {a : Int} (hn : 0 ≤ h 6 0 ∧ h 6 0 ≤ 7) (ha : 0 ≤ a ∧ a < h 6 0) (hc : CP (zz sl si (7, 0)) mX5_measureFrom h [(2, 6), (0, a)] h' []) : (∀ t : Nat, (t : Int) < h 6 0 → h' 8 (7 * a.toNat + t) = leC h 6 7 a t (h 6 0).toNat) ∧ (∀ c k : Nat, ¬ (c = 8 ∧ 7 * a.toNat ≤ k ∧ k < 7 * a.toNat + 7) → h' c k = h c k) := by
  have q : (fun (xh : PH) (r : List ZV) => (∀ t : Nat, (t : Int) < h 6 0 → xh 8 (7 * a.toNat + t) = leC h 6 7 a t (h 6 0).toNat) ∧ (∀ c k : Nat, ¬ (c = 8 ∧ 7 * a.toNat ≤ k ∧ k < 7 * a.toNat + 7) → xh c k = h c k)) h' [] := by
    refine cp_vc (cut := (fun p => Nat.beq p 9 || Nat.beq p 40 || Nat.beq p 52)) (K := fun p hx lv st => (p = 9 ∧ lK (fun u : Nat => [(0, (2, 6)), (1, (0, a)), (2, (0, (esC h 6 7 a 0).1)), (3, (0, (esC h 6 7 a 0).2)), (4, (0, (u : Int)))]) (fun u hx => (u : Int) ≤ h 6 0 ∧ (∀ t : Nat, t < u → hx 8 (7 * a.toNat + t) = -1) ∧ (∀ c k : Nat, ¬ (c = 8 ∧ 7 * a.toNat ≤ k ∧ k < 7 * a.toNat + 7) → hx c k = h c k)) p hx lv st) ∨ (p = 40 ∧ lK (fun u : Nat => [(0, (2, 6)), (1, (0, a)), (2, (0, (esC h 6 7 a u).1)), (3, (0, (esC h 6 7 a u).2)), (4, (0, (u : Int)))]) (fun u hx => (u : Int) ≤ h 6 0 ∧ (∀ t : Nat, (t : Int) < h 6 0 → hx 8 (7 * a.toNat + t) = leC h 6 7 a t u) ∧ (∀ c k : Nat, ¬ (c = 8 ∧ 7 * a.toNat ≤ k ∧ k < 7 * a.toNat + 7) → hx c k = h c k)) p hx lv st) ∨ (p = 52 ∧ lN2 (fun u1 u2 : Nat => [(0, (2, 6)), (1, (0, a)), (2, (0, (esC h 6 7 a u1).1)), (3, (0, (esC h 6 7 a u1).2)), (4, (0, (u1 : Int))), (5, (0, (u2 : Int)))]) (fun u1 u2 hx => (u1 : Int) < h 6 0 ∧ (u2 : Int) ≤ h 6 0 ∧ (∀ t : Nat, (t : Int) < h 6 0 → hx 8 (7 * a.toNat + t) = if t < u2 then leC h 6 7 a t (u1 + 1) else leC h 6 7 a t u1) ∧ (∀ c k : Nat, ¬ (c = 8 ∧ 7 * a.toNat ≤ k ∧ k < 7 * a.toNat + 7) → hx c k = h c k)) p hx lv st)) (Q := fun (xh : PH) (r : List ZV) => (∀ t : Nat, (t : Int) < h 6 0 → xh 8 (7 * a.toNat + t) = leC h 6 7 a t (h 6 0).toNat) ∧ (∀ c k : Nat, ¬ (c = 8 ∧ 7 * a.toNat ≤ k ∧ k < 7 * a.toNat + 7) → xh c k = h c k)) (v_X5_measureL5 ?_) (fun pc hx lv st hcut hK => ?_) hc
    · exact (by exact Or.inl ⟨rfl, rfl, 0, ⟨by omega, fun t z => by omega, fun c k z => rfl⟩, rfl, rfl, rfl, rfl, rfl, trivial⟩)
    · rcases hK with ⟨rfl, rfl, u, hJ, hs⟩ | ⟨rfl, rfl, u, hJ, hs⟩ | ⟨rfl, rfl, u1, u2, hJ, hs⟩
      · obtain ⟨j1, j2, j3⟩ := hJ
        have r0 : hx 6 0 = h 6 0 := j3 6 0 (by omega)
        exact ⟨_, _, hs, v_X5_measureL5_9 (fun r1 => ⟨fun c2 => (by rw [r0] at c2; exact Or.inr (Or.inl ⟨rfl, rfl, 0, ⟨by omega, fun t z => j2 t (by omega), j3⟩, rfl, rfl, rfl, rfl, rfl, trivial⟩)), fun c2 => (fun b3 => (by rw [r0] at c2; have ix := ix7 (a := a) (k := u) (by omega) (by omega) (by omega); rw [ix]; exact Or.inl ⟨rfl, rfl, u + 1, ⟨by omega, fun t z => (by (by_cases y : t = u; (rw [y, up_sm]); (rw [up_ne (by omega)]; exact j2 t (by omega)))), fun c k z => by rw [up_ne (by omega)]; exact j3 c k z⟩, rfl, rfl, rfl, rfl, wv (by omega) (by omega) (by omega), trivial⟩))⟩)⟩
      · obtain ⟨j1, j2, j3⟩ := hJ
        have r0 : hx 6 0 = h 6 0 := j3 6 0 (by omega)
        exact ⟨_, _, hs, v_X5_measureL5_40 (fun r1 => ⟨fun c2 => (by rw [r0] at c2; have eu : (h 6 0).toNat = u := (by omega); exact ⟨fun t z => by rw [eu]; exact j2 t z, j3⟩), fun c2 => (by rw [r0] at c2; exact Or.inr (Or.inr ⟨rfl, rfl, u, 0, ⟨by omega, by omega, fun t z => by rw [if_neg (by omega)]; exact j2 t z, j3⟩, rfl, rfl, rfl, rfl, rfl, rfl, trivial⟩))⟩)⟩
      · obtain ⟨j1, j2, j3, j4⟩ := hJ
        have r0 : hx 6 0 = h 6 0 := j4 6 0 (by omega)
        have rr1 : hx 6 1 = h 6 1 := j4 6 1 (by omega)
        exact ⟨_, _, hs, v_X5_measureL5_52 (fun r1 => ⟨fun c2 => (fun h1 v1 p1 q1 => (fun r3 => (by rw [r0] at c2; obtain ⟨t1, w1⟩ := c_X5_around5 (by rw [r0]; exact hn) p1; have t1 := t1.symm; subst t1; rw [r0, arC_c (fun k z => j4 7 k (by omega))] at w1; rw [w1, rr1]; exact Or.inr (Or.inl ⟨rfl, rfl, u1 + 1, ⟨by omega, fun t z => (by (have y := j3 t z; rw [if_pos (by omega)] at y; exact y)), j4⟩, rfl, rfl, rfl, rfl, wv (by omega) (by omega) (by omega), trivial⟩)))), fun c2 => (fun h2 v2 p2 q2 => by obtain ⟨t2, e2⟩ := c_X11_hasB p2; have t2 := t2.symm; subst t2; exact ⟨fun c4 => (by rw [r0] at c2; have nb : ¬ zand (zshr (esC h 6 7 a u1).1 u2) 1 = 1 := (fun z => by have := e2.mpr z; omega); exact Or.inr (Or.inr ⟨rfl, rfl, u1, u2 + 1, ⟨by omega, by omega, fun t z => (by (have y := j3 t z; by_cases e : t = u2; (rw [if_neg (by omega)] at y; rw [if_pos (by omega), y, e]; exact (if_neg nb).symm); (by_cases e3 : t < u2; (rw [if_pos e3] at y; rw [if_pos (by omega)]; exact y); (rw [if_neg e3] at y; rw [if_neg (by omega)]; exact y)))), j4⟩, rfl, rfl, rfl, rfl, rfl, wv (by omega) (by omega) (by omega), trivial⟩)), fun c4 => (fun b5 => (by rw [r0] at c2; have nb : zand (zshr (esC h 6 7 a u1).1 u2) 1 = 1 := e2.mp (by omega); have ix := ix7 (a := a) (k := u2) (by omega) (by omega) (by omega); rw [ix]; exact Or.inr (Or.inr ⟨rfl, rfl, u1, u2 + 1, ⟨by omega, by omega, fun t z => (by (by_cases e : t = u2; (rw [if_pos (by omega), e, up_sm]; exact (if_pos nb).symm); (rw [up_ne (by omega)]; have y := j3 t z; by_cases e3 : t < u2; (rw [if_pos e3] at y; rw [if_pos (by omega)]; exact y); (rw [if_neg e3] at y; rw [if_neg (by omega)]; exact y)))), fun c k z => by rw [up_ne (by omega)]; exact j4 c k z⟩, rfl, rfl, rfl, rfl, rfl, wv (by omega) (by omega) (by omega), trivial⟩)))⟩)⟩)⟩
  exact q
set_option maxRecDepth 10000 in
theorem v_X5_distance5 {sl : Nat} {si : Nat → Int} {K : Nat → PH → ZL → List ZV → Prop} {Q : PH → List ZV → Prop} {h : PH} {a b : Int} (H : 0 ≤ w32 ((w32 (a * 7)) + b) ∧ w32 ((w32 (a * 7)) + b) < (49 : Nat) → R32 (h 8 (w32 ((w32 (a * 7)) + b)).toNat) → Q h [(0, (h 8 (w32 ((w32 (a * 7)) + b)).toNat))]) : vc (zz sl si (7, 0)) (fun _ => false) K Q mX5_distance 11 0 mX5_distance.2.2.2.2.2.2 h [(0, (2, 6)), (1, (0, a)), (2, (0, b))] [] := H
set_option maxHeartbeats 600000 in
theorem c_X5_distance5 {sl : Nat} {si : Nat → Int} {h h' : PH} {a b : Int} {v : Int} (ha : 0 ≤ a ∧ a ≤ 6) (hb : 0 ≤ b ∧ b ≤ 6) (hc : CP (zz sl si (7, 0)) mX5_distance h [(2, 6), (0, a), (0, b)] h' [(0, v)]) : h' = h ∧ v = h 8 (7 * a.toNat + b.toNat) := by
  have q : (fun (xh : PH) (r : List ZV) => ∀ v : Int, r = [(0, v)] → (xh = h ∧ v = h 8 (7 * a.toNat + b.toNat))) h' [(0, v)] := by
    refine cp_vc (cut := (fun _ => false)) (K := fun p hx lv st => False) (Q := fun (xh : PH) (r : List ZV) => ∀ v : Int, r = [(0, v)] → (xh = h ∧ v = h 8 (7 * a.toNat + b.toNat))) (v_X5_distance5 ?_) (fun pc hx lv st hcut hK => ?_) hc
    · exact (fun b1 r2 => (by intro v e; cases e; have ix := ix7 (a := a) (k := b.toNat) (by omega) (by omega) (by omega); rw [show ((b.toNat : Nat) : Int) = b by omega] at ix; rw [ix]; exact ⟨rfl, rfl⟩))
    · exact hK.elim
  exact q v rfl
set_option maxRecDepth 10000 in
theorem v_X5_nextHouse5 {sl : Nat} {si : Nat → Int} {K : Nat → PH → ZL → List ZV → Prop} {Q : PH → List ZV → Prop} {h : PH} {a b : Int} (H : 0 ≤ w32 ((w32 (a * 7)) + b) ∧ w32 ((w32 (a * 7)) + b) < (49 : Nat) → R32 (h 9 (w32 ((w32 (a * 7)) + b)).toNat) → Q h [(0, (h 9 (w32 ((w32 (a * 7)) + b)).toNat))]) : vc (zz sl si (7, 0)) (fun _ => false) K Q mX5_nextHouse 11 0 mX5_nextHouse.2.2.2.2.2.2 h [(0, (2, 6)), (1, (0, a)), (2, (0, b))] [] := H
set_option maxHeartbeats 600000 in
theorem c_X5_nextHouse5 {sl : Nat} {si : Nat → Int} {h h' : PH} {a b : Int} {v : Int} (ha : 0 ≤ a ∧ a ≤ 6) (hb : 0 ≤ b ∧ b ≤ 6) (hc : CP (zz sl si (7, 0)) mX5_nextHouse h [(2, 6), (0, a), (0, b)] h' [(0, v)]) : h' = h ∧ v = h 9 (7 * a.toNat + b.toNat) := by
  have q : (fun (xh : PH) (r : List ZV) => ∀ v : Int, r = [(0, v)] → (xh = h ∧ v = h 9 (7 * a.toNat + b.toNat))) h' [(0, v)] := by
    refine cp_vc (cut := (fun _ => false)) (K := fun p hx lv st => False) (Q := fun (xh : PH) (r : List ZV) => ∀ v : Int, r = [(0, v)] → (xh = h ∧ v = h 9 (7 * a.toNat + b.toNat))) (v_X5_nextHouse5 ?_) (fun pc hx lv st hcut hK => ?_) hc
    · exact (fun b1 r2 => (by intro v e; cases e; have ix := ix7 (a := a) (k := b.toNat) (by omega) (by omega) (by omega); rw [show ((b.toNat : Nat) : Int) = b by omega] at ix; rw [ix]; exact ⟨rfl, rfl⟩))
    · exact hK.elim
  exact q v rfl
set_option maxRecDepth 10000 in
theorem v_X5_leastNext5 {sl : Nat} {si : Nat → Int} {K : Nat → PH → ZL → List ZV → Prop} {Q : PH → List ZV → Prop} {h : PH} {a b : Int} (H : ∀ h1 v1, CP (zz sl si (7, 0)) mX5_distance h [(2, 6), (0, a), (0, b)] h1 [(0, v1)] → R32 v1 → K 10 h1 [(4, (0, 0)), (3, (0, v1)), (0, (2, 6)), (1, (0, a)), (2, (0, b))] []) : vc (zz sl si (7, 0)) (fun p => Nat.beq p 10) K Q mX5_leastNext 9 0 mX5_leastNext.2.2.2.2.2.2 h [(0, (2, 6)), (1, (0, a)), (2, (0, b))] [] := H
set_option maxRecDepth 10000 in
theorem v_X5_leastNext5_10 {sl : Nat} {si : Nat → Int} {K : Nat → PH → ZL → List ZV → Prop} {Q : PH → List ZV → Prop} {h : PH} {a b : Int} {w k : Int} (H : R32 (h 6 0) → ((h 6 0) ≤ k → Q h [(0, a)]) ∧ (¬ ((h 6 0) ≤ k) → (w ≤ 0 → Q h [(0, a)]) ∧ (¬ (w ≤ 0) → 0 ≤ a ∧ a < (7 : Nat) → R32 (h 7 a.toNat) → R32 (h 6 1) → ∀ h1 v1, CP (zz sl si (7, 0)) mX11_has h [(0, zand (h 7 a.toNat) (zxor (h 6 1) (-1))), (0, k)] h1 [(0, v1)] → v1 = 0 ∨ v1 = 1 → (v1 = 0 → K 10 h1 [(4, (0, w32 (k + 1))), (0, (2, 6)), (1, (0, a)), (2, (0, b)), (3, (0, w))] []) ∧ (¬ (v1 = 0) → ∀ h2 v2, CP (zz sl si (7, 0)) mX5_distance h1 [(2, 6), (0, k), (0, b)] h2 [(0, v2)] → R32 v2 → (v2 ≠ (w32 (w - 1)) → K 10 h2 [(4, (0, w32 (k + 1))), (0, (2, 6)), (1, (0, a)), (2, (0, b)), (3, (0, w))] []) ∧ (¬ (v2 ≠ (w32 (w - 1))) → Q h2 [(0, k)]))))) : vc (zz sl si (7, 0)) (fun p => Nat.beq p 10) K Q mX5_leastNext 30 10 (ax_jmp mX5_leastNext.2.2.2.2.2.2 10) h [(0, (2, 6)), (1, (0, a)), (2, (0, b)), (3, (0, w)), (4, (0, k))] [] := H
set_option maxHeartbeats 600000 in
theorem c_X5_leastNext5 {sl : Nat} {si : Nat → Int} {h h' : PH} {a b : Int} {v : Int} (hn : 0 ≤ h 6 0 ∧ h 6 0 ≤ 7) (ha : 0 ≤ a ∧ a ≤ 6) (hb : 0 ≤ b ∧ b ≤ 6) (hl : -1 ≤ h 8 (7 * a.toNat + b.toNat) ∧ h 8 (7 * a.toNat + b.toNat) ≤ 7) (hc : CP (zz sl si (7, 0)) mX5_leastNext h [(2, 6), (0, a), (0, b)] h' [(0, v)]) : h' = h ∧ v = nxC h 6 7 8 a.toNat b.toNat := by
  have q : (fun (xh : PH) (r : List ZV) => ∀ v : Int, r = [(0, v)] → (xh = h ∧ v = nxC h 6 7 8 a.toNat b.toNat)) h' [(0, v)] := by
    refine cp_vc (cut := (fun p => Nat.beq p 10)) (K := fun p hx lv st => (p = 10 ∧ lK (fun u : Nat => [(0, (2, 6)), (1, (0, a)), (2, (0, b)), (3, (0, h 8 (7 * a.toNat + b.toNat))), (4, (0, (u : Int)))]) (fun u hx => (u : Int) ≤ h 6 0 ∧ hx = h ∧ lnC h 6 7 8 a.toNat b.toNat u = -1) p hx lv st)) (Q := fun (xh : PH) (r : List ZV) => ∀ v : Int, r = [(0, v)] → (xh = h ∧ v = nxC h 6 7 8 a.toNat b.toNat)) (v_X5_leastNext5 ?_) (fun pc hx lv st hcut hK => ?_) hc
    · exact (fun h1 v1 p1 q1 => (by obtain ⟨t1, w1⟩ := c_X5_distance5 ha hb p1; have t1 := t1.symm; subst t1; exact ⟨rfl, rfl, 0, ⟨by omega, rfl, rfl⟩, rfl, rfl, rfl, (by rw [w1]; rfl), rfl, trivial⟩))
    · rcases hK with ⟨rfl, rfl, u, hJ, hs⟩
      · obtain ⟨j1, j2, j3⟩ := hJ
        subst j2
        have lb := hl
        exact ⟨_, _, hs, v_X5_leastNext5_10 (fun r1 => ⟨fun c2 => (by intro v e; cases e; have eu : (hx 6 0).toNat = u := (by omega); exact ⟨rfl, by unfold nxC; rw [eu, if_pos j3]; omega⟩), fun c2 => ⟨fun c3 => (by intro v e; cases e; have no : ∀ k : Nat, lnC hx 6 7 8 a.toNat b.toNat k = -1 := (fun k => by induction k with | zero => rfl | succ k i => exact (if_neg (fun z => by have := z.2.1; omega)).trans i); exact ⟨rfl, by unfold nxC; rw [if_pos (no _)]; omega⟩), fun c3 => (fun b4 r5 => (fun r6 => (fun h1 v1 p1 q1 => by obtain ⟨t1, e1⟩ := c_X11_hasB p1; have t1 := t1.symm; subst t1; exact ⟨fun c7 => (by have e : lnC hx 6 7 8 a.toNat b.toNat (u + 1) = -1 := (if_neg (fun z => by have := e1.mpr z.2.2.1; omega)).trans j3; exact ⟨rfl, rfl, u + 1, ⟨by omega, rfl, e⟩, rfl, rfl, rfl, rfl, wv (by omega) (by omega) (by omega), trivial⟩), fun c7 => (fun h2 v2 p2 q2 => ⟨fun c8 => (by obtain ⟨t2, w2⟩ := c_X5_distance5 (by omega) hb p2; have t2 := t2.symm; subst t2; rw [w32_id (by omega) (by omega), w2, Int.toNat_natCast] at c8; have e : lnC hx 6 7 8 a.toNat b.toNat (u + 1) = -1 := (if_neg (fun z => c8 z.2.2.2)).trans j3; exact ⟨rfl, rfl, u + 1, ⟨by omega, rfl, e⟩, rfl, rfl, rfl, rfl, wv (by omega) (by omega) (by omega), trivial⟩), fun c8 => (by obtain ⟨t2, w2⟩ := c_X5_distance5 (by omega) hb p2; have t2 := t2.symm; subst t2; rw [w32_id (by omega) (by omega), w2, Int.toNat_natCast] at c8; have y : lnC hx 6 7 8 a.toNat b.toNat (u + 1) = (u : Int) := if_pos ⟨j3, by omega, e1.mp (by omega), Classical.not_not.mp c8⟩; have st : ∀ m : Nat, lnC hx 6 7 8 a.toNat b.toNat (u + 1 + m) = (u : Int) := (fun m => by induction m with | zero => exact y | succ m i => exact (if_neg (fun z => by have := i.symm.trans z.1; omega)).trans i); intro v e; cases e; have em := st ((hx 6 0).toNat - (u + 1)); rw [show u + 1 + ((hx 6 0).toNat - (u + 1)) = (hx 6 0).toNat by omega] at em; exact ⟨rfl, by unfold nxC; rw [em, if_neg (by omega)]⟩)⟩)⟩)))⟩⟩)⟩
  exact q v rfl
