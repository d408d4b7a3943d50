/-! ROADS of a LAND -/
section LVS
variable {n f : Nat} {dr dr' : Nat → Nat → Prop} {cl cl' : Nat → Prop}
theorem lvS_cg (e1 : ∀ a t : Nat, a < n → t < n → (dr' a t ↔ dr a t)) (e2 : ∀ t : Nat, t < n → (cl' t ↔ cl t)) : ∀ k t : Nat, lvS n dr' cl' f k t = lvS n dr cl f k t
  | 0, t => rfl
  | k + 1, t => by
    show cif _ _ _ = cif _ _ _
    rw [lvS_cg e1 e2 k t]
    refine cif_c ⟨?_, ?_⟩
    · rintro ⟨x, y, z, a, p, q, r⟩
      exact ⟨x, y, fun w => z ((e2 t y).mpr w), a, p, by rw [← lvS_cg e1 e2 k a]; exact q, (e1 a t p y).mp r⟩
    · rintro ⟨x, y, z, a, p, q, r⟩
      exact ⟨x, y, fun w => z ((e2 t y).mp w), a, p, by rw [lvS_cg e1 e2 k a]; exact q, (e1 a t p y).mpr r⟩
/-- no level n: n steps are enough -/
theorem lvS_n (hf : f < n) (hn : n ≤ 8) {t : Nat} (ht : t < n) : ∀ j : Nat, n + j ≤ 8 → lvS n dr cl f (n + j) t = lvS n dr cl f (n - 1) t := by
  have S : ∀ k : Nat, n ≤ k + 1 → k ≤ 8 → lvS n dr cl f (k + 1) t = lvS n dr cl f k t := fun k hk h8 => by
    by_cases c : lvS n dr cl f k t = 1000000 ∧ t < n ∧ ¬ cl t ∧ ∃ a, a < n ∧ lvS n dr cl f k a = (k : Int) ∧ dr a t
    · have e : lvS n dr cl f (k + 1) t = ((k + 1 : Nat) : Int) := cif_p c
      have w := lvS_ct (dr := dr) (cl := cl) hf (k + 1) (by omega) ⟨t, ht, e⟩
      have w2 := ctS_le (n := n) (g := fun t => lvS n dr cl f (k + 1) t) n
      omega
    · exact cif_n c
  intro j
  induction j with
  | zero =>
    intro h
    have s := S (n - 1) (by omega) (by omega)
    rw [show n - 1 + 1 = n by omega] at s
    exact s
  | succ j i =>
    intro h
    have s := S (n + j) (by omega) (by omega)
    exact s.trans (i (by omega))
end LVS
def lenW (x : Int) : Int := if x = 1000000 then -1 else x
/-- the length of a WAY in a LAND; 1000000: none -/
noncomputable def WLn (L : PH) (f t : Nat) : Int := lvS (L 1 0).toNat (fun i j => bB (L 2 i) j = true) (fun j => bB (L 1 1) j = true) f 7 t
noncomputable def nxS (L : PH) (f t : Nat) : Nat → Int
  | 0 => -1
  | k + 1 => cif (nxS L f t k = -1 ∧ bB (L 2 f) k = true ∧ ¬ bB (L 1 1) k = true ∧ WLn L k t = WLn L f t - 1) (k : Int) (nxS L f t k)
noncomputable def nxT (L : PH) (f t : Nat) : Int := if nxS L f t (L 1 0).toNat = -1 then (f : Int) else nxS L f t (L 1 0).toNat
/-- the tables of a LAND tell its WAYS -/
def TBL (L : PH) : Prop := ∀ f t : Nat, (f : Int) < L 1 0 → (t : Int) < L 1 0 → L 3 (7 * f + t) = lenW (WLn L f t) ∧ (1 ≤ WLn L f t → WLn L f t ≠ 1000000 → L 4 (7 * f + t) = nxT L f t)
section LE
variable {h : PH} {r d f : Nat}
theorem le_lv (hn : 0 ≤ h r 0 ∧ h r 0 ≤ 7) (hf : (f : Int) < h r 0) {t : Nat} (ht : (t : Int) < h r 0) : ∀ k : Nat, k ≤ 8 → leC h r d (f : Int) t (k + 1) = lenW (lvS (h r 0).toNat (fun i j => bB (h d i) j = true) (fun j => bB (h r 1) j = true) f k t)
  | 0, hk => by
    have e := (es_lv (d := d) hn hf 0 (by omega) t ht).1
    show (if zand (zshr (esC h r d (f : Int) 0).1 t) 1 = 1 then ((0 : Nat) : Int) else -1) = _
    unfold lenW
    by_cases c : bB (esC h r d (f : Int) 0).1 t = true
    · rw [if_pos ((bt_1 (by omega)).mpr c), e.mp c, if_neg (by omega)]
    · rw [if_neg (fun z => c ((bt_1 (by omega)).mp z))]
      have y := lvS_le (n := (h r 0).toNat) (dr := fun i j => bB (h d i) j = true) (cl := fun j => bB (h r 1) j = true) (f := f) 0 t
      have y0 := lvS_0 (n := (h r 0).toNat) (dr := fun i j => bB (h d i) j = true) (cl := fun j => bB (h r 1) j = true) (f := f) 0 t
      have y1 := fun z => c (e.mpr z)
      rw [if_pos (y.resolve_left (fun q => y1 (by omega)))]
  | k + 1, hk => by
    have i := le_lv hn hf ht k (by omega)
    have e := (es_lv (d := d) hn hf (k + 1) (by omega) t ht).1
    show (if zand (zshr (esC h r d (f : Int) (k + 1)).1 t) 1 = 1 then ((k + 1 : Nat) : Int) else leC h r d (f : Int) t (k + 1)) = _
    by_cases c : bB (esC h r d (f : Int) (k + 1)).1 t = true
    · rw [if_pos ((bt_1 (by omega)).mpr c), e.mp c]
      unfold lenW
      rw [if_neg (by omega)]
    · rw [if_neg (fun z => c ((bt_1 (by omega)).mp z)), i]
      have y1 := fun z => c (e.mpr z)
      by_cases C : lvS (h r 0).toNat (fun i j => bB (h d i) j = true) (fun j => bB (h r 1) j = true) f k t = 1000000 ∧ t < (h r 0).toNat ∧ ¬ bB (h r 1) t = true ∧ ∃ a, a < (h r 0).toNat ∧ lvS (h r 0).toNat (fun i j => bB (h d i) j = true) (fun j => bB (h r 1) j = true) f k a = (k : Int) ∧ bB (h d a) t = true
      · exact absurd (cif_p C) y1
      · have e2 : lvS (h r 0).toNat (fun i j => bB (h d i) j = true) (fun j => bB (h r 1) j = true) f (k + 1) t = lvS (h r 0).toNat (fun i j => bB (h d i) j = true) (fun j => bB (h r 1) j = true) f k t := cif_n C
        rw [e2]
theorem le_W (hn : 0 ≤ h r 0 ∧ h r 0 ≤ 7) (hf : (f : Int) < h r 0) {t : Nat} (ht : (t : Int) < h r 0) : leC h r d (f : Int) t (h r 0).toNat = lenW (lvS (h r 0).toNat (fun i j => bB (h d i) j = true) (fun j => bB (h r 1) j = true) f 7 t) := by
  have a := le_lv (d := d) hn hf ht ((h r 0).toNat - 1) (by omega)
  rw [show (h r 0).toNat - 1 + 1 = (h r 0).toNat by omega] at a
  have b := lvS_n (n := (h r 0).toNat) (f := f) (dr := fun i j => bB (h d i) j = true) (cl := fun j => bB (h r 1) j = true) (by omega) (by omega) (t := t) (by omega) (7 - (h r 0).toNat) (by omega)
  rw [show (h r 0).toNat + (7 - (h r 0).toNat) = 7 by omega] at b
  rw [a, b]
end LE
theorem WLn_0 {L : PH} {f t : Nat} : 0 ≤ WLn L f t := lvS_0 7 t
theorem WLn_7 {L : PH} {f t : Nat} : WLn L f t ≤ 7 ∨ WLn L f t = 1000000 := lvS_le 7 t
/-- a LAND's roads as a heap has them -/
def RDS (r d : Nat) (h L : PH) : Prop := h r 0 = L 1 0 ∧ h r 1 = L 1 1 ∧ ∀ i : Nat, i < 7 → h d i = L 2 i
theorem RDS.W {r d : Nat} {h L : PH} (e : RDS r d h L) (hn : 0 ≤ h r 0 ∧ h r 0 ≤ 7) {f t : Nat} : lvS (h r 0).toNat (fun i j => bB (h d i) j = true) (fun j => bB (h r 1) j = true) f 7 t = WLn L f t := by
  unfold WLn
  rw [← e.1]
  exact lvS_cg (fun a t ha _ => by rw [e.2.2 a (by omega)]) (fun t _ => by rw [e.2.1]) 7 t
/-- the next HOUSE by the tables -/
theorem ln_nx {r d q : Nat} {h L : PH} (e : RDS r d h L) (hn : 0 ≤ h r 0 ∧ h r 0 ≤ 7) {f t : Nat} (hf : (f : Int) < h r 0) (ht : (t : Int) < h r 0) (hl : ∀ i : Nat, (i : Int) < h r 0 → h q (7 * i + t) = lenW (WLn L i t)) (h1 : 1 ≤ WLn L f t) (h2 : WLn L f t ≠ 1000000) : nxC h r d q f t = nxT L f t := by
  have A : ∀ k : Nat, k ≤ (h r 0).toNat → lnC h r d q f t k = nxS L f t k := fun k => by
    induction k with
    | zero => intro _; rfl
    | succ k i =>
      intro hk
      have i := i (by omega)
      show (if lnC h r d q f t k = -1 ∧ 0 < h q (7 * f + t) ∧ zand (zshr (zand (h d f) (zxor (h r 1) (-1))) k) 1 = 1 ∧ h q (7 * k + t) = h q (7 * f + t) - 1 then (k : Int) else lnC h r d q f t k) = cif _ _ _
      have e1 : h q (7 * f + t) = WLn L f t := by rw [hl f hf]; unfold lenW; rw [if_neg h2]
      have e2 := hl k (by omega)
      have w7 := WLn_7 (L := L) (f := f) (t := t)
      have B : zand (zshr (zand (h d f) (zxor (h r 1) (-1))) k) 1 = 1 ↔ bB (L 2 f) k = true ∧ ¬ bB (L 1 1) k = true := by
        rw [bt_1 (by omega), bB_and, bB_not (by omega), Bool.and_eq_true, e.2.2 f (by omega), e.2.1]
        cases bB (L 1 1) k <;> simp
      have C : h q (7 * k + t) = h q (7 * f + t) - 1 ↔ WLn L k t = WLn L f t - 1 := by
        rw [e1, e2]
        unfold lenW
        have w8 := WLn_7 (L := L) (f := k) (t := t)
        by_cases c : WLn L k t = 1000000
        · rw [if_pos c]; omega
        · rw [if_neg c]
      by_cases P : nxS L f t k = -1 ∧ bB (L 2 f) k = true ∧ ¬ bB (L 1 1) k = true ∧ WLn L k t = WLn L f t - 1
      · rw [cif_p P, if_pos ⟨i.trans P.1, by rw [e1]; omega, B.mpr ⟨P.2.1, P.2.2.1⟩, C.mpr P.2.2.2⟩]
      · rw [cif_n P, if_neg (fun z => P ⟨i.symm.trans z.1, (B.mp z.2.2.1).1, (B.mp z.2.2.1).2, C.mp z.2.2.2⟩), i]
  unfold nxC nxT
  rw [A _ (Nat.le_refl _), ← e.1]
set_option maxRecDepth 10000 in
theorem v_X5_survey5F {sl : Nat} {si : Nat → Int} {K : Nat → PH → ZL → List ZV → Prop} {Q : PH → List ZV → Prop} {h : PH} (H : K 2 h [(1, (0, 0)), (0, (2, 6))] []) : vc (zz sl si (7, 0)) (fun p => Nat.beq p 2 || Nat.beq p 23 || Nat.beq p 33) K Q mX5_survey 4 0 mX5_survey.2.2.2.2.2.2 h [(0, (2, 6))] [] := H
set_option maxRecDepth 10000 in
theorem v_X5_survey5F_2 {sl : Nat} {si : Nat → Int} {K : Nat → PH → ZL → List ZV → Prop} {Q : PH → List ZV → Prop} {h : PH} {k : Int} (H : R32 (h 6 0) → ((h 6 0) ≤ k → K 23 h [(1, (0, 0)), (0, (2, 6))] []) ∧ (¬ ((h 6 0) ≤ k) → ∀ h1, CP (zz sl si (7, 0)) mX5_measureFrom h [(2, 6), (0, k)] h1 [] → K 2 h1 [(1, (0, w32 (k + 1))), (0, (2, 6))] [])) : vc (zz sl si (7, 0)) (fun p => Nat.beq p 2 || Nat.beq p 23 || Nat.beq p 33) K Q mX5_survey 11 2 (ax_jmp mX5_survey.2.2.2.2.2.2 2) h [(0, (2, 6)), (1, (0, k))] [] := H
set_option maxRecDepth 10000 in
theorem v_X5_survey5F_23 {sl : Nat} {si : Nat → Int} {K : Nat → PH → ZL → List ZV → Prop} {Q : PH → List ZV → Prop} {h : PH} {k : Int} (H : R32 (h 6 0) → ((h 6 0) ≤ k → Q h []) ∧ (¬ ((h 6 0) ≤ k) → K 33 h [(2, (0, 0)), (0, (2, 6)), (1, (0, k))] [])) : vc (zz sl si (7, 0)) (fun p => Nat.beq p 2 || Nat.beq p 23 || Nat.beq p 33) K Q mX5_survey 8 23 (ax_jmp mX5_survey.2.2.2.2.2.2 23) h [(0, (2, 6)), (1, (0, k))] [] := H
set_option maxRecDepth 10000 in
theorem v_X5_survey5F_33 {sl : Nat} {si : Nat → Int} {K : Nat → PH → ZL → List ZV → Prop} {Q : PH → List ZV → Prop} {h : PH} {k m : Int} (H : R32 (h 6 0) → ((h 6 0) ≤ m → K 23 h [(1, (0, w32 (k + 1))), (0, (2, 6)), (2, (0, m))] []) ∧ (¬ ((h 6 0) ≤ m) → ∀ h1 v1, CP (zz sl si (7, 0)) mX5_leastNext h [(2, 6), (0, k), (0, m)] h1 [(0, v1)] → R32 v1 → 0 ≤ w32 ((w32 (k * 7)) + m) ∧ w32 ((w32 (k * 7)) + m) < (49 : Nat) → K 33 (uph h1 9 (w32 ((w32 (k * 7)) + m)).toNat v1) [(2, (0, w32 (m + 1))), (0, (2, 6)), (1, (0, k))] [])) : vc (zz sl si (7, 0)) (fun p => Nat.beq p 2 || Nat.beq p 23 || Nat.beq p 33) K Q mX5_survey 20 33 (ax_jmp mX5_survey.2.2.2.2.2.2 33) h [(0, (2, 6)), (1, (0, k)), (2, (0, m))] [] := H
set_option maxHeartbeats 600000 in
theorem c_X5_survey5F {sl : Nat} {si : Nat → Int} {h h' : PH} (hn : 0 ≤ h 6 0 ∧ h 6 0 ≤ 7) (hc : CP (zz sl si (7, 0)) mX5_survey h [(2, 6)] h' []) : (∀ f t : Nat, (f : Int) < h 6 0 → (t : Int) < h 6 0 → h' 8 (7 * f + t) = leC h 6 7 (f : Int) t (h 6 0).toNat) ∧ (∀ f t : Nat, (f : Int) < h 6 0 → (t : Int) < h 6 0 → h' 9 (7 * f + t) = nxC h' 6 7 8 f t) ∧ (∀ c k : Nat, ¬ ((c = 8 ∨ c = 9) ∧ k < 49) → h' c k = h c k) := by
  have q : (fun (xh : PH) (r : List ZV) => (∀ f t : Nat, (f : Int) < h 6 0 → (t : Int) < h 6 0 → xh 8 (7 * f + t) = leC h 6 7 (f : Int) t (h 6 0).toNat) ∧ (∀ f t : Nat, (f : Int) < h 6 0 → (t : Int) < h 6 0 → xh 9 (7 * f + t) = nxC xh 6 7 8 f t) ∧ (∀ c k : Nat, ¬ ((c = 8 ∨ c = 9) ∧ k < 49) → xh c k = h c k)) h' [] := by
    refine cp_vc (cut := (fun p => Nat.beq p 2 || Nat.beq p 23 || Nat.beq p 33)) (K := fun p hx lv st => (p = 2 ∧ lK (fun u : Nat => [(0, (2, 6)), (1, (0, (u : Int)))]) (fun u hx => (u : Int) ≤ h 6 0 ∧ (∀ f t : Nat, f < u → (t : Int) < h 6 0 → hx 8 (7 * f + t) = leC h 6 7 (f : Int) t (h 6 0).toNat) ∧ (∀ c k : Nat, ¬ ((c = 8 ∨ c = 9) ∧ k < 49) → hx c k = h c k)) p hx lv st) ∨ (p = 23 ∧ lK (fun u : Nat => [(0, (2, 6)), (1, (0, (u : Int)))]) (fun u hx => (u : Int) ≤ h 6 0 ∧ (∀ f t : Nat, (f : Int) < h 6 0 → (t : Int) < h 6 0 → hx 8 (7 * f + t) = leC h 6 7 (f : Int) t (h 6 0).toNat) ∧ (∀ f t : Nat, f < u → (t : Int) < h 6 0 → hx 9 (7 * f + t) = nxC hx 6 7 8 f t) ∧ (∀ c k : Nat, ¬ ((c = 8 ∨ c = 9) ∧ k < 49) → hx c k = h c k)) p hx lv st) ∨ (p = 33 ∧ lN2 (fun u1 u2 : Nat => [(0, (2, 6)), (1, (0, (u1 : Int))), (2, (0, (u2 : Int)))]) (fun u1 u2 hx => (u1 : Int) < h 6 0 ∧ (u2 : Int) ≤ h 6 0 ∧ (∀ f t : Nat, (f : Int) < h 6 0 → (t : Int) < h 6 0 → hx 8 (7 * f + t) = leC h 6 7 (f : Int) t (h 6 0).toNat) ∧ (∀ f t : Nat, f < u1 → (t : Int) < h 6 0 → hx 9 (7 * f + t) = nxC hx 6 7 8 f t) ∧ (∀ t : Nat, t < u2 → hx 9 (7 * u1 + t) = nxC hx 6 7 8 u1 t) ∧ (∀ c k : Nat, ¬ ((c = 8 ∨ c = 9) ∧ k < 49) → hx c k = h c k)) p hx lv st)) (Q := fun (xh : PH) (r : List ZV) => (∀ f t : Nat, (f : Int) < h 6 0 → (t : Int) < h 6 0 → xh 8 (7 * f + t) = leC h 6 7 (f : Int) t (h 6 0).toNat) ∧ (∀ f t : Nat, (f : Int) < h 6 0 → (t : Int) < h 6 0 → xh 9 (7 * f + t) = nxC xh 6 7 8 f t) ∧ (∀ c k : Nat, ¬ ((c = 8 ∨ c = 9) ∧ k < 49) → xh c k = h c k)) (v_X5_survey5F ?_) (fun pc hx lv st hcut hK => ?_) hc
    · exact (by exact Or.inl ⟨rfl, rfl, 0, ⟨by omega, fun f t z => by omega, fun c k z => rfl⟩, rfl, rfl, trivial⟩)
    · rcases hK with ⟨rfl, rfl, u, hJ, hs⟩ | ⟨rfl, rfl, u, hJ, hs⟩ | ⟨rfl, rfl, u1, u2, hJ, hs⟩
      · obtain ⟨j1, j2, j3⟩ := hJ
        have r0 : hx 6 0 = h 6 0 := j3 6 0 (by omega)
        exact ⟨_, _, hs, v_X5_survey5F_2 (fun r1 => ⟨fun c2 => (by rw [r0] at c2; exact Or.inr (Or.inl ⟨rfl, rfl, 0, ⟨by omega, fun f t z => j2 f t (by omega), fun f t z => by omega, j3⟩, rfl, rfl, trivial⟩)), fun c2 => (fun h1 p1 => (by rw [r0] at c2; obtain ⟨m1, m2⟩ := c_X5_measureL5 (by rw [r0]; exact hn) (by rw [r0]; omega) p1; rw [Int.toNat_natCast, r0] at m1; rw [Int.toNat_natCast] at m2; have CC : ∀ t k : Nat, leC hx 6 7 (u : Int) t k = leC h 6 7 (u : Int) t k := (fun t k => leC_c (r0) (j3 6 1 (by omega)) (by omega) (fun k z => j3 7 k (by omega)) k); exact Or.inl ⟨rfl, rfl, u + 1, ⟨by omega, fun f t z y => (by (by_cases e : f = u; (rw [e, m1 t y]; exact CC t _); (rw [m2 _ _ (by omega)]; exact j2 f t (by omega) y))), fun c k z => by rw [m2 c k (by omega)]; exact j3 c k z⟩, rfl, wv (by omega) (by omega) (by omega), trivial⟩))⟩)⟩
      · obtain ⟨j1, j2, j3, j4⟩ := hJ
        have r0 : hx 6 0 = h 6 0 := j4 6 0 (by omega)
        exact ⟨_, _, hs, v_X5_survey5F_23 (fun r1 => ⟨fun c2 => (by rw [r0] at c2; exact ⟨j2, fun f t z => j3 f t (by omega), j4⟩), fun c2 => (by rw [r0] at c2; exact Or.inr (Or.inr ⟨rfl, rfl, u, 0, ⟨by omega, by omega, j2, j3, fun t z => by omega, j4⟩, rfl, rfl, rfl, trivial⟩))⟩)⟩
      · obtain ⟨j1, j2, j3, j4, j5, j6⟩ := hJ
        have r0 : hx 6 0 = h 6 0 := j6 6 0 (by omega)
        have NC : ∀ (v : Int) (i f t : Nat), nxC (uph hx 9 i v) 6 7 8 f t = nxC hx 6 7 8 f t := fun v i f t => by
          unfold nxC
          rw [lnC_c (up_ne (by omega)) (up_ne (by omega)) (fun k => up_ne (by omega)), up_ne (by omega)]
        exact ⟨_, _, hs, v_X5_survey5F_33 (fun r1 => ⟨fun c2 => (by rw [r0] at c2; exact Or.inr (Or.inl ⟨rfl, rfl, u1 + 1, ⟨by omega, j3, fun f t z y => (by (by_cases e : f = u1; (rw [e]; exact j5 t (by omega)); exact j4 f t (by omega) y)), j6⟩, rfl, wv (by omega) (by omega) (by omega), trivial⟩)), fun c2 => (fun h1 v1 p1 q1 => (fun b3 => (by rw [r0] at c2; obtain ⟨t1, w1⟩ := c_X5_leastNext5 (by rw [r0]; exact hn) (by omega) (by omega) (by rw [Int.toNat_natCast, Int.toNat_natCast, j3 u1 u2 (by omega) (by omega)]; have lb := leC_b (h := h) (r := 6) (d := 7) (a := (u1 : Int)) (t := u2) (h 6 0).toNat; omega) p1; have t1 := t1.symm; subst t1; rw [Int.toNat_natCast, Int.toNat_natCast] at w1; have ix := ix7 (a := (u1 : Int)) (k := u2) (by omega) (by omega) (by omega); rw [Int.toNat_natCast] at ix; rw [ix]; exact Or.inr (Or.inr ⟨rfl, rfl, u1, u2 + 1, ⟨by omega, by omega, fun f t z y => by rw [up_ne (by omega)]; exact j3 f t z y, fun f t z y => by rw [NC, up_ne (by omega)]; exact j4 f t z y, fun t z => (by (rw [NC]; by_cases e : t = u2; (rw [e, up_sm]; exact w1); (rw [up_ne (by omega)]; exact j5 t (by omega)))), fun c k z => by rw [up_ne (by omega)]; exact j6 c k z⟩, rfl, rfl, wv (by omega) (by omega) (by omega), trivial⟩))))⟩)⟩
  exact q
