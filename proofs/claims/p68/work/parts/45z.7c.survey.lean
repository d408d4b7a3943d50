section
/-! 45z.7c.survey -/
/-! ROADS of a LAND -/
section LVS
variable {n f : Nat} {dr dr' : Nat → Nat → Prop} {cl cl' : Nat → Prop}
theorem lvS_cg (e1 : ∀ a t : Nat, a < n → t < n → (dr' a t ↔ dr a t)) (e2 : ∀ t : Nat, t < n → (cl' t ↔ cl t)) : ∀ k t : Nat, lvS n dr' cl' f k t = lvS n dr cl f k t
  | 0, t => rfl
  | k + 1, t => by
    show cif _ _ _ = cif _ _ _
    rw [lvS_cg e1 e2 k t]
    refine cif_c ⟨?_, ?_⟩
    · rintro ⟨x, y, z, a, p, q, r⟩
      exact ⟨x, y, fun w => z ((e2 t y).mpr w), a, p, by rw [← lvS_cg e1 e2 k a]; exact q, (e1 a t p y).mp r⟩
    · rintro ⟨x, y, z, a, p, q, r⟩
      exact ⟨x, y, fun w => z ((e2 t y).mp w), a, p, by rw [lvS_cg e1 e2 k a]; exact q, (e1 a t p y).mpr r⟩
/-- no level n: n steps are enough -/
theorem lvS_n (hf : f < n) (hn : n ≤ 8) {t : Nat} (ht : t < n) : ∀ j : Nat, n + j ≤ 8 → lvS n dr cl f (n + j) t = lvS n dr cl f (n - 1) t := by
  have S : ∀ k : Nat, n ≤ k + 1 → k ≤ 8 → lvS n dr cl f (k + 1) t = lvS n dr cl f k t := fun k hk h8 => by
    by_cases c : lvS n dr cl f k t = 1000000 ∧ t < n ∧ ¬ cl t ∧ ∃ a, a < n ∧ lvS n dr cl f k a = (k : Int) ∧ dr a t
    · have e : lvS n dr cl f (k + 1) t = ((k + 1 : Nat) : Int) := cif_p c
      have w := lvS_ct (dr := dr) (cl := cl) hf (k + 1) (by omega) ⟨t, ht, e⟩
      have w2 := ctS_le (n := n) (g := fun t => lvS n dr cl f (k + 1) t) n
      omega
    · exact cif_n c
  intro j
  induction j with
  | zero =>
    intro h
    have s := S (n - 1) (by omega) (by omega)
    rw [show n - 1 + 1 = n by omega] at s
    exact s
  | succ j i =>
    intro h
    have s := S (n + j) (by omega) (by omega)
    exact s.trans (i (by omega))
end LVS
def lenW (x : Int) : Int := if x = 1000000 then -1 else x
/-- the length of a WAY in a LAND; 1000000: none -/
noncomputable def WLn (L : PH) (f t : Nat) : Int := lvS (L 1 0).toNat (fun i j => bB (L 2 i) j = true) (fun j => bB (L 1 1) j = true) f 7 t
noncomputable def nxS (L : PH) (f t : Nat) : Nat → Int
  | 0 => -1
  | k + 1 => cif (nxS L f t k = -1 ∧ bB (L 2 f) k = true ∧ ¬ bB (L 1 1) k = true ∧ WLn L k t = WLn L f t - 1) (k : Int) (nxS L f t k)
noncomputable def nxT (L : PH) (f t : Nat) : Int := if nxS L f t (L 1 0).toNat = -1 then (f : Int) else nxS L f t (L 1 0).toNat
/-- the tables of a LAND tell its WAYS -/
def TBL (L : PH) : Prop := ∀ f t : Nat, (f : Int) < L 1 0 → (t : Int) < L 1 0 → L 3 (7 * f + t) = lenW (WLn L f t) ∧ (1 ≤ WLn L f t → WLn L f t ≠ 1000000 → L 4 (7 * f + t) = nxT L f t)
section LE
variable {h : PH} {r d f : Nat}
theorem le_lv (hn : 0 ≤ h r 0 ∧ h r 0 ≤ 7) (hf : (f : Int) < h r 0) {t : Nat} (ht : (t : Int) < h r 0) : ∀ k : Nat, k ≤ 8 → leC h r d (f : Int) t (k + 1) = lenW (lvS (h r 0).toNat (fun i j => bB (h d i) j = true) (fun j => bB (h r 1) j = true) f k t)
  | 0, hk => by
    have e := (es_lv (d := d) hn hf 0 (by omega) t ht).1
    show (if zand (zshr (esC h r d (f : Int) 0).1 t) 1 = 1 then ((0 : Nat) : Int) else -1) = _
    unfold lenW
    by_cases c : bB (esC h r d (f : Int) 0).1 t = true
    · rw [if_pos ((bt_1 (by omega)).mpr c), e.mp c, if_neg (by omega)]
    · rw [if_neg (fun z => c ((bt_1 (by omega)).mp z))]
      have y := lvS_le (n := (h r 0).toNat) (dr := fun i j => bB (h d i) j = true) (cl := fun j => bB (h r 1) j = true) (f := f) 0 t
      have y0 := lvS_0 (n := (h r 0).toNat) (dr := fun i j => bB (h d i) j = true) (cl := fun j => bB (h r 1) j = true) (f := f) 0 t
      have y1 := fun z => c (e.mpr z)
      rw [if_pos (y.resolve_left (fun q => y1 (by omega)))]
  | k + 1, hk => by
    have i := le_lv hn hf ht k (by omega)
    have e := (es_lv (d := d) hn hf (k + 1) (by omega) t ht).1
    show (if zand (zshr (esC h r d (f : Int) (k + 1)).1 t) 1 = 1 then ((k + 1 : Nat) : Int) else leC h r d (f : Int) t (k + 1)) = _
    by_cases c : bB (esC h r d (f : Int) (k + 1)).1 t = true
    · rw [if_pos ((bt_1 (by omega)).mpr c), e.mp c]
      unfold lenW
      rw [if_neg (by omega)]
    · rw [if_neg (fun z => c ((bt_1 (by omega)).mp z)), i]
      have y1 := fun z => c (e.mpr z)
      by_cases C : lvS (h r 0).toNat (fun i j => bB (h d i) j = true) (fun j => bB (h r 1) j = true) f k t = 1000000 ∧ t < (h r 0).toNat ∧ ¬ bB (h r 1) t = true ∧ ∃ a, a < (h r 0).toNat ∧ lvS (h r 0).toNat (fun i j => bB (h d i) j = true) (fun j => bB (h r 1) j = true) f k a = (k : Int) ∧ bB (h d a) t = true
      · exact absurd (cif_p C) y1
      · have e2 : lvS (h r 0).toNat (fun i j => bB (h d i) j = true) (fun j => bB (h r 1) j = true) f (k + 1) t = lvS (h r 0).toNat (fun i j => bB (h d i) j = true) (fun j => bB (h r 1) j = true) f k t := cif_n C
        rw [e2]
theorem le_W (hn : 0 ≤ h r 0 ∧ h r 0 ≤ 7) (hf : (f : Int) < h r 0) {t : Nat} (ht : (t : Int) < h r 0) : leC h r d (f : Int) t (h r 0).toNat = lenW (lvS (h r 0).toNat (fun i j => bB (h d i) j = true) (fun j => bB (h r 1) j = true) f 7 t) := by
  have a := le_lv (d := d) hn hf ht ((h r 0).toNat - 1) (by omega)
  rw [show (h r 0).toNat - 1 + 1 = (h r 0).toNat by omega] at a
  have b := lvS_n (n := (h r 0).toNat) (f := f) (dr := fun i j => bB (h d i) j = true) (cl := fun j => bB (h r 1) j = true) (by omega) (by omega) (t := t) (by omega) (7 - (h r 0).toNat) (by omega)
  rw [show (h r 0).toNat + (7 - (h r 0).toNat) = 7 by omega] at b
  rw [a, b]
end LE
theorem WLn_0 {L : PH} {f t : Nat} : 0 ≤ WLn L f t := lvS_0 7 t
theorem WLn_7 {L : PH} {f t : Nat} : WLn L f t ≤ 7 ∨ WLn L f t = 1000000 := lvS_le 7 t
/-- a LAND's roads as a heap has them -/
def RDS (r d : Nat) (h L : PH) : Prop := h r 0 = L 1 0 ∧ h r 1 = L 1 1 ∧ ∀ i : Nat, i < 7 → h d i = L 2 i
theorem RDS.W {r d : Nat} {h L : PH} (e : RDS r d h L) (hn : 0 ≤ h r 0 ∧ h r 0 ≤ 7) {f t : Nat} : lvS (h r 0).toNat (fun i j => bB (h d i) j = true) (fun j => bB (h r 1) j = true) f 7 t = WLn L f t := by
  unfold WLn
  rw [← e.1]
  exact lvS_cg (fun a t ha _ => by rw [e.2.2 a (by omega)]) (fun t _ => by rw [e.2.1]) 7 t
/-- the next HOUSE by the tables -/
theorem ln_nx {r d q : Nat} {h L : PH} (e : RDS r d h L) (hn : 0 ≤ h r 0 ∧ h r 0 ≤ 7) {f t : Nat} (hf : (f : Int) < h r 0) (ht : (t : Int) < h r 0) (hl : ∀ i : Nat, (i : Int) < h r 0 → h q (7 * i + t) = lenW (WLn L i t)) (h1 : 1 ≤ WLn L f t) (h2 : WLn L f t ≠ 1000000) : nxC h r d q f t = nxT L f t := by
  have A : ∀ k : Nat, k ≤ (h r 0).toNat → lnC h r d q f t k = nxS L f t k := fun k => by
    induction k with
    | zero => intro _; rfl
    | succ k i =>
      intro hk
      have i := i (by omega)
      show (if lnC h r d q f t k = -1 ∧ 0 < h q (7 * f + t) ∧ zand (zshr (zand (h d f) (zxor (h r 1) (-1))) k) 1 = 1 ∧ h q (7 * k + t) = h q (7 * f + t) - 1 then (k : Int) else lnC h r d q f t k) = cif _ _ _
      have e1 : h q (7 * f + t) = WLn L f t := by rw [hl f hf]; unfold lenW; rw [if_neg h2]
      have e2 := hl k (by omega)
      have w7 := WLn_7 (L := L) (f := f) (t := t)
      have B : zand (zshr (zand (h d f) (zxor (h r 1) (-1))) k) 1 = 1 ↔ bB (L 2 f) k = true ∧ ¬ bB (L 1 1) k = true := by
        rw [bt_1 (by omega), bB_and, bB_not (by omega), Bool.and_eq_true, e.2.2 f (by omega), e.2.1]
        cases bB (L 1 1) k <;> simp
      have C : h q (7 * k + t) = h q (7 * f + t) - 1 ↔ WLn L k t = WLn L f t - 1 := by
        rw [e1, e2]
        unfold lenW
        have w8 := WLn_7 (L := L) (f := k) (t := t)
        by_cases c : WLn L k t = 1000000
        · rw [if_pos c]; omega
        · rw [if_neg c]
      by_cases P : nxS L f t k = -1 ∧ bB (L 2 f) k = true ∧ ¬ bB (L 1 1) k = true ∧ WLn L k t = WLn L f t - 1
      · rw [cif_p P, if_pos ⟨i.trans P.1, by rw [e1]; omega, B.mpr ⟨P.2.1, P.2.2.1⟩, C.mpr P.2.2.2⟩]
      · rw [cif_n P, if_neg (fun z => P ⟨i.symm.trans z.1, (B.mp z.2.2.1).1, (B.mp z.2.2.1).2, C.mp z.2.2.2⟩), i]
  unfold nxC nxT
  rw [A _ (Nat.le_refl _), ← e.1]
set_option maxRecDepth 10000 in
theorem v_X5_survey5F {sl : Nat} {si : Nat → Int} {K : Nat → PH → ZL → List ZV → Prop} {Q : PH → List ZV → Prop} {h : PH} (H : K 2 h [(1, (0, 0)), (0, (2, 6))] []) : vc (zz sl si (7, 0)) (fun p => Nat.beq p 2 || Nat.beq p 23 || Nat.beq p 33) K Q mX5_survey 4 0 mX5_survey.2.2.2.2.2.2 h [(0, (2, 6))] [] := H
set_option maxRecDepth 10000 in
theorem v_X5_survey5F_2 {sl : Nat} {si : Nat → Int} {K : Nat → PH → ZL → List ZV → Prop} {Q : PH → List ZV → Prop} {h : PH} {k : Int} (H : R32 (h 6 0) → ((h 6 0) ≤ k → K 23 h [(1, (0, 0)), (0, (2, 6))] []) ∧ (¬ ((h 6 0) ≤ k) → ∀ h1, CP (zz sl si (7, 0)) mX5_measureFrom h [(2, 6), (0, k)] h1 [] → K 2 h1 [(1, (0, w32 (k + 1))), (0, (2, 6))] [])) : vc (zz sl si (7, 0)) (fun p => Nat.beq p 2 || Nat.beq p 23 || Nat.beq p 33) K Q mX5_survey 11 2 (ax_jmp mX5_survey.2.2.2.2.2.2 2) h [(0, (2, 6)), (1, (0, k))] [] := H
set_option maxRecDepth 10000 in
theorem v_X5_survey5F_23 {sl : Nat} {si : Nat → Int} {K : Nat → PH → ZL → List ZV → Prop} {Q : PH → List ZV → Prop} {h : PH} {k : Int} (H : R32 (h 6 0) → ((h 6 0) ≤ k → Q h []) ∧ (¬ ((h 6 0) ≤ k) → K 33 h [(2, (0, 0)), (0, (2, 6)), (1, (0, k))] [])) : vc (zz sl si (7, 0)) (fun p => Nat.beq p 2 || Nat.beq p 23 || Nat.beq p 33) K Q mX5_survey 8 23 (ax_jmp mX5_survey.2.2.2.2.2.2 23) h [(0, (2, 6)), (1, (0, k))] [] := H
set_option maxRecDepth 10000 in
theorem v_X5_survey5F_33 {sl : Nat} {si : Nat → Int} {K : Nat → PH → ZL → List ZV → Prop} {Q : PH → List ZV → Prop} {h : PH} {k m : Int} (H : R32 (h 6 0) → ((h 6 0) ≤ m → K 23 h [(1, (0, w32 (k + 1))), (0, (2, 6)), (2, (0, m))] []) ∧ (¬ ((h 6 0) ≤ m) → ∀ h1 v1, CP (zz sl si (7, 0)) mX5_leastNext h [(2, 6), (0, k), (0, m)] h1 [(0, v1)] → R32 v1 → 0 ≤ w32 ((w32 (k * 7)) + m) ∧ w32 ((w32 (k * 7)) + m) < (49 : Nat) → K 33 (uph h1 9 (w32 ((w32 (k * 7)) + m)).toNat v1) [(2, (0, w32 (m + 1))), (0, (2, 6)), (1, (0, k))] [])) : vc (zz sl si (7, 0)) (fun p => Nat.beq p 2 || Nat.beq p 23 || Nat.beq p 33) K Q mX5_survey 20 33 (ax_jmp mX5_survey.2.2.2.2.2.2 33) h [(0, (2, 6)), (1, (0, k)), (2, (0, m))] [] := H
set_option maxHeartbeats 600000 in
theorem c_X5_survey5F {sl : Nat} {si : Nat → Int} {h h' : PH} (hn : 0 ≤ h 6 0 ∧ h 6 0 ≤ 7) (hc : CP (zz sl si (7, 0)) mX5_survey h [(2, 6)] h' []) : (∀ f t : Nat, (f : Int) < h 6 0 → (t : Int) < h 6 0 → h' 8 (7 * f + t) = leC h 6 7 (f : Int) t (h 6 0).toNat) ∧ (∀ f t : Nat, (f : Int) < h 6 0 → (t : Int) < h 6 0 → h' 9 (7 * f + t) = nxC h' 6 7 8 f t) ∧ (∀ c k : Nat, ¬ ((c = 8 ∨ c = 9) ∧ k < 49) → h' c k = h c k) := by
  have q : (fun (xh : PH) (r : List ZV) => (∀ f t : Nat, (f : Int) < h 6 0 → (t : Int) < h 6 0 → xh 8 (7 * f + t) = leC h 6 7 (f : Int) t (h 6 0).toNat) ∧ (∀ f t : Nat, (f : Int) < h 6 0 → (t : Int) < h 6 0 → xh 9 (7 * f + t) = nxC xh 6 7 8 f t) ∧ (∀ c k : Nat, ¬ ((c = 8 ∨ c = 9) ∧ k < 49) → xh c k = h c k)) h' [] := by
    refine cp_vc (cut := (fun p => Nat.beq p 2 || Nat.beq p 23 || Nat.beq p 33)) (K := fun p hx lv st => (p = 2 ∧ lK (fun u : Nat => [(0, (2, 6)), (1, (0, (u : Int)))]) (fun u hx => (u : Int) ≤ h 6 0 ∧ (∀ f t : Nat, f < u → (t : Int) < h 6 0 → hx 8 (7 * f + t) = leC h 6 7 (f : Int) t (h 6 0).toNat) ∧ (∀ c k : Nat, ¬ ((c = 8 ∨ c = 9) ∧ k < 49) → hx c k = h c k)) p hx lv st) ∨ (p = 23 ∧ lK (fun u : Nat => [(0, (2, 6)), (1, (0, (u : Int)))]) (fun u hx => (u : Int) ≤ h 6 0 ∧ (∀ f t : Nat, (f : Int) < h 6 0 → (t : Int) < h 6 0 → hx 8 (7 * f + t) = leC h 6 7 (f : Int) t (h 6 0).toNat) ∧ (∀ f t : Nat, f < u → (t : Int) < h 6 0 → hx 9 (7 * f + t) = nxC hx 6 7 8 f t) ∧ (∀ c k : Nat, ¬ ((c = 8 ∨ c = 9) ∧ k < 49) → hx c k = h c k)) p hx lv st) ∨ (p = 33 ∧ lN2 (fun u1 u2 : Nat => [(0, (2, 6)), (1, (0, (u1 : Int))), (2, (0, (u2 : Int)))]) (fun u1 u2 hx => (u1 : Int) < h 6 0 ∧ (u2 : Int) ≤ h 6 0 ∧ (∀ f t : Nat, (f : Int) < h 6 0 → (t : Int) < h 6 0 → hx 8 (7 * f + t) = leC h 6 7 (f : Int) t (h 6 0).toNat) ∧ (∀ f t : Nat, f < u1 → (t : Int) < h 6 0 → hx 9 (7 * f + t) = nxC hx 6 7 8 f t) ∧ (∀ t : Nat, t < u2 → hx 9 (7 * u1 + t) = nxC hx 6 7 8 u1 t) ∧ (∀ c k : Nat, ¬ ((c = 8 ∨ c = 9) ∧ k < 49) → hx c k = h c k)) p hx lv st)) (Q := fun (xh : PH) (r : List ZV) => (∀ f t : Nat, (f : Int) < h 6 0 → (t : Int) < h 6 0 → xh 8 (7 * f + t) = leC h 6 7 (f : Int) t (h 6 0).toNat) ∧ (∀ f t : Nat, (f : Int) < h 6 0 → (t : Int) < h 6 0 → xh 9 (7 * f + t) = nxC xh 6 7 8 f t) ∧ (∀ c k : Nat, ¬ ((c = 8 ∨ c = 9) ∧ k < 49) → xh c k = h c k)) (v_X5_survey5F ?_) (fun pc hx lv st hcut hK => ?_) hc
    · exact (by exact Or.inl ⟨rfl, rfl, 0, ⟨by omega, fun f t z => by omega, fun c k z => rfl⟩, rfl, rfl, trivial⟩)
    · rcases hK with ⟨rfl, rfl, u, hJ, hs⟩ | ⟨rfl, rfl, u, hJ, hs⟩ | ⟨rfl, rfl, u1, u2, hJ, hs⟩
      · obtain ⟨j1, j2, j3⟩ := hJ
        have r0 : hx 6 0 = h 6 0 := j3 6 0 (by omega)
        exact ⟨_, _, hs, v_X5_survey5F_2 (fun r1 => ⟨fun c2 => (by rw [r0] at c2; exact Or.inr (Or.inl ⟨rfl, rfl, 0, ⟨by omega, fun f t z => j2 f t (by omega), fun f t z => by omega, j3⟩, rfl, rfl, trivial⟩)), fun c2 => (fun h1 p1 => (by rw [r0] at c2; obtain ⟨m1, m2⟩ := c_X5_measureL5 (by rw [r0]; exact hn) (by rw [r0]; omega) p1; rw [Int.toNat_natCast, r0] at m1; rw [Int.toNat_natCast] at m2; have CC : ∀ t k : Nat, leC hx 6 7 (u : Int) t k = leC h 6 7 (u : Int) t k := (fun t k => leC_c (r0) (j3 6 1 (by omega)) (by omega) (fun k z => j3 7 k (by omega)) k); exact Or.inl ⟨rfl, rfl, u + 1, ⟨by omega, fun f t z y => (by (by_cases e : f = u; (rw [e, m1 t y]; exact CC t _); (rw [m2 _ _ (by omega)]; exact j2 f t (by omega) y))), fun c k z => by rw [m2 c k (by omega)]; exact j3 c k z⟩, rfl, wv (by omega) (by omega) (by omega), trivial⟩))⟩)⟩
      · obtain ⟨j1, j2, j3, j4⟩ := hJ
        have r0 : hx 6 0 = h 6 0 := j4 6 0 (by omega)
        exact ⟨_, _, hs, v_X5_survey5F_23 (fun r1 => ⟨fun c2 => (by rw [r0] at c2; exact ⟨j2, fun f t z => j3 f t (by omega), j4⟩), fun c2 => (by rw [r0] at c2; exact Or.inr (Or.inr ⟨rfl, rfl, u, 0, ⟨by omega, by omega, j2, j3, fun t z => by omega, j4⟩, rfl, rfl, rfl, trivial⟩))⟩)⟩
      · obtain ⟨j1, j2, j3, j4, j5, j6⟩ := hJ
        have r0 : hx 6 0 = h 6 0 := j6 6 0 (by omega)
        have NC : ∀ (v : Int) (i f t : Nat), nxC (uph hx 9 i v) 6 7 8 f t = nxC hx 6 7 8 f t := fun v i f t => by
          unfold nxC
          rw [lnC_c (up_ne (by omega)) (up_ne (by omega)) (fun k => up_ne (by omega)), up_ne (by omega)]
        exact ⟨_, _, hs, v_X5_survey5F_33 (fun r1 => ⟨fun c2 => (by rw [r0] at c2; exact Or.inr (Or.inl ⟨rfl, rfl, u1 + 1, ⟨by omega, j3, fun f t z y => (by (by_cases e : f = u1; (rw [e]; exact j5 t (by omega)); exact j4 f t (by omega) y)), j6⟩, rfl, wv (by omega) (by omega) (by omega), trivial⟩)), fun c2 => (fun h1 v1 p1 q1 => (fun b3 => (by rw [r0] at c2; obtain ⟨t1, w1⟩ := c_X5_leastNext5 (by rw [r0]; exact hn) (by omega) (by omega) (by rw [Int.toNat_natCast, Int.toNat_natCast, j3 u1 u2 (by omega) (by omega)]; have lb := leC_b (h := h) (r := 6) (d := 7) (a := (u1 : Int)) (t := u2) (h 6 0).toNat; omega) p1; have t1 := t1.symm; subst t1; rw [Int.toNat_natCast, Int.toNat_natCast] at w1; have ix := ix7 (a := (u1 : Int)) (k := u2) (by omega) (by omega) (by omega); rw [Int.toNat_natCast] at ix; rw [ix]; exact Or.inr (Or.inr ⟨rfl, rfl, u1, u2 + 1, ⟨by omega, by omega, fun f t z y => by rw [up_ne (by omega)]; exact j3 f t z y, fun f t z y => by rw [NC, up_ne (by omega)]; exact j4 f t z y, fun t z => (by (rw [NC]; by_cases e : t = u2; (rw [e, up_sm]; exact w1); (rw [up_ne (by omega)]; exact j5 t (by omega)))), fun c k z => by rw [up_ne (by omega)]; exact j6 c k z⟩, rfl, rfl, wv (by omega) (by omega) (by omega), trivial⟩))))⟩)⟩
  exact q
end
section
/-! 45z.7d.night -/
/-! NIGHTS on a LAND -/
def atL (L : PH) (p : Nat) : Nat := (L 11 p).toNat
noncomputable def amL (L : PH) (p : Nat) : Nat → Int
  | 0 => -1
  | q + 1 => cif (0 < L 7 (8 * p + q) ∧ WLn L (atL L p) (atL L q) < 1000000 ∧ (amL L p q = -1 ∨ WLn L (atL L p) (atL L q) < WLn L (atL L p) (atL L (amL L p q).toNat))) (q : Int) (amL L p q)
noncomputable def fwL (L : PH) (p q : Nat) : Int := if amL L p q = -1 then 7 else WLn L (atL L p) (atL L (amL L p q).toNat)
theorem amL_b {L : PH} {p : Nat} : ∀ (q : Nat), amL L p q = -1 ∨ (0 ≤ amL L p q ∧ amL L p q < q)
  | 0 => Or.inl rfl
  | q + 1 => by
    have i := amL_b (L := L) (p := p) q
    by_cases C : 0 < L 7 (8 * p + q) ∧ WLn L (atL L p) (atL L q) < 1000000 ∧ (amL L p q = -1 ∨ WLn L (atL L p) (atL L q) < WLn L (atL L p) (atL L (amL L p q).toNat))
    · have e : amL L p (q + 1) = (q : Int) := cif_p C
      rw [e]; omega
    · have e : amL L p (q + 1) = amL L p q := cif_n C
      rw [e]; omega
theorem amL_w {L : PH} {p : Nat} : ∀ (q : Nat), amL L p q ≠ -1 → 0 < L 7 (8 * p + (amL L p q).toNat) ∧ WLn L (atL L p) (atL L (amL L p q).toNat) < 1000000
  | 0, h => absurd rfl h
  | q + 1, h => by
    by_cases C : 0 < L 7 (8 * p + q) ∧ WLn L (atL L p) (atL L q) < 1000000 ∧ (amL L p q = -1 ∨ WLn L (atL L p) (atL L q) < WLn L (atL L p) (atL L (amL L p q).toNat))
    · have e : amL L p (q + 1) = (q : Int) := cif_p C
      rw [e, Int.toNat_natCast]
      exact ⟨C.1, C.2.1⟩
    · have e : amL L p (q + 1) = amL L p q := cif_n C
      rw [e] at h ⊢
      exact amL_w q h
/-- what holds of a LAND besides -/
def W9 (L : PH) : Prop := WL L ∧ (∀ p b : Nat, p < 8 → b < 8 → L 0 4 ≤ (b : Int) → L 7 (8 * p + b) = 0) ∧ (∀ p : Nat, (p : Int) < L 0 4 → (0 ≤ L 11 p ∧ L 11 p < L 1 0) ∧ 0 ≤ L 12 p ∧ L 12 p < L 1 0) ∧ TBL L ∧ (∀ p k : Nat, p < 8 → k < 3 → (k : Int) < L 14 p → 0 ≤ L 13 (3 * p + k) ∧ L 13 (3 * p + k) < L 0 4) ∧ ∀ i : Nat, i < 7 → 0 ≤ L 15 i ∧ L 15 i ≤ 9999
/-- what is said -/
def soM (L : PH) (p b : Nat) : PH := if bB (L 0 7) b = true then (if 0 < L 7 (8 * b + p) then owe (owe L b p 0) p b 0 else owe L p b (L 7 (8 * p + b) - 1)) else if bB (L 0 9) b = true then (if 9999 ≤ L 15 (atL L b) then L else uph L 15 (atL L b) (w32 (L 15 (atL L b) + 1))) else if ¬ bB (L 0 8) b = true ∨ zrem (L 0 12) 2 = 1 then owe L p b (L 7 (8 * p + b) - 1) else L
def soL (L : PH) (p b : Nat) : PH := soM (uph L 0 13 (w32 (L 0 13 + 1))) p b
noncomputable def haL (L : PH) (p : Nat) : PH := if bB (L 0 7) p = true ∧ 0 < L 8 p then (if amL L p (L 0 4).toNat = -1 then L else if L 11 (amL L p (L 0 4).toNat).toNat = L 11 p then soL L p (amL L p (L 0 4).toNat).toNat else uph L 11 p (nxT L (atL L p) (atL L (amL L p (L 0 4).toNat).toNat))) else L
noncomputable def niL (L : PH) : Nat → PH
  | 0 => uph L 0 12 (w32 (L 0 12 + 1))
  | p + 1 => haL (niL L p) p
noncomputable def nsL (L : PH) : Nat → PH
  | 0 => L
  | k + 1 => niL (nsL L k) (nsL L k 0 4).toNat
/-- the length of a WAY is below the number of HOUSES -/
theorem WLn_6 {L : PH} {f t : Nat} (h7 : L 1 0 ≤ 7) (hf : (f : Int) < L 1 0) (ht : (t : Int) < L 1 0) : WLn L f t ≤ 6 ∨ WLn L f t = 1000000 := by
  have b := lvS_n (n := (L 1 0).toNat) (f := f) (dr := fun i j => bB (L 2 i) j = true) (cl := fun j => bB (L 1 1) j = true) (by omega) (by omega) (t := t) (by omega) (7 - (L 1 0).toNat) (by omega)
  rw [show (L 1 0).toNat + (7 - (L 1 0).toNat) = 7 by omega] at b
  have c := lvS_le (n := (L 1 0).toNat) (f := f) (dr := fun i j => bB (L 2 i) j = true) (cl := fun j => bB (L 1 1) j = true) ((L 1 0).toNat - 1) t
  unfold WLn
  rw [b]
  omega
theorem ix8c {a b : Int} (h0 : 0 ≤ a) (h1 : a ≤ 8) (h2 : 0 ≤ b) (h3 : b ≤ 8) : (w32 ((w32 (a * 8)) + b)).toNat = 8 * a.toNat + b.toNat := by
  rw [w32_id (z := a * 8) (by omega) (by omega), w32_id (by omega) (by omega)]
  omega
set_option maxRecDepth 10000 in
theorem v_X0_of5 {sl : Nat} {si : Nat → Int} {K : Nat → PH → ZL → List ZV → Prop} {Q : PH → List ZV → Prop} {h : PH} {a b : Int} (H : 0 ≤ w32 ((w32 (a * 8)) + b) ∧ w32 ((w32 (a * 8)) + b) < (64 : Nat) → R32 (h 12 (w32 ((w32 (a * 8)) + b)).toNat) → Q h [(0, (h 12 (w32 ((w32 (a * 8)) + b)).toNat))]) : vc (zz sl si (7, 0)) (fun _ => false) K Q mX0_of 11 0 mX0_of.2.2.2.2.2.2 h [(0, (2, 11)), (1, (0, a)), (2, (0, b))] [] := H
set_option maxHeartbeats 600000 in
theorem c_X0_of5 {sl : Nat} {si : Nat → Int} {h h' : PH} {a b : Int} {v : Int} (ha : 0 ≤ a ∧ a < 8) (hb : 0 ≤ b ∧ b < 8) (hc : CP (zz sl si (7, 0)) mX0_of h [(2, 11), (0, a), (0, b)] h' [(0, v)]) : h' = h ∧ v = h 12 (8 * a.toNat + b.toNat) := by
  have q : (fun (xh : PH) (r : List ZV) => ∀ v : Int, r = [(0, v)] → (xh = h ∧ v = h 12 (8 * a.toNat + b.toNat))) h' [(0, v)] := by
    refine cp_vc (cut := (fun _ => false)) (K := fun p hx lv st => False) (Q := fun (xh : PH) (r : List ZV) => ∀ v : Int, r = [(0, v)] → (xh = h ∧ v = h 12 (8 * a.toNat + b.toNat))) (v_X0_of5 ?_) (fun pc hx lv st hcut hK => ?_) hc
    · exact (fun b1 r2 => (by intro v e; cases e; rw [ix8c (by omega) (by omega) (by omega) (by omega)]; exact ⟨rfl, rfl⟩))
    · exact hK.elim
  exact q v rfl
set_option maxRecDepth 10000 in
theorem v_X0_put5 {sl : Nat} {si : Nat → Int} {K : Nat → PH → ZL → List ZV → Prop} {Q : PH → List ZV → Prop} {h : PH}  {a b c : Int} (H : 0 ≤ a ∧ a < (8 : Nat) → R32 (h 13 a.toNat) → 0 ≤ w32 ((w32 (a * 8)) + b) ∧ w32 ((w32 (a * 8)) + b) < (64 : Nat) → R32 (h 12 (w32 ((w32 (a * 8)) + b)).toNat) → 0 ≤ a ∧ a < (8 : Nat) → 0 ≤ w32 ((w32 (a * 8)) + b) ∧ w32 ((w32 (a * 8)) + b) < (64 : Nat) → Q (uph (uph h 13 a.toNat (w32 ((h 13 a.toNat) + (w32 (c - (h 12 (w32 ((w32 (a * 8)) + b)).toNat)))))) 12 (w32 ((w32 (a * 8)) + b)).toNat c) []) : vc (zz sl si (7, 0)) (fun _ => false) K Q mX0_put 27 0 mX0_put.2.2.2.2.2.2 h [(0, (2, 11)), (1, (0, a)), (2, (0, b)), (3, (0, c))] [] := H
set_option maxHeartbeats 600000 in
theorem c_X0_put5 {sl : Nat} {si : Nat → Int} {h h' : PH} {L : PH} {a b c : Int} (hL : CL 5 h L) (hW : WL L) (ha : 0 ≤ a ∧ a < 8) (hb : 0 ≤ b ∧ b < 8) (hv : 0 ≤ c ∧ c ≤ 99) (hc : CP (zz sl si (7, 0)) mX0_put h [(2, 11), (0, a), (0, b), (0, c)] h' []) : CL 5 h' (owe L a b c) ∧ ∀ c k : Nat, c ≠ 12 → c ≠ 13 → h' c k = h c k := by
  have q : (fun (xh : PH) (r : List ZV) => CL 5 xh (owe L a b c) ∧ ∀ c k : Nat, c ≠ 12 → c ≠ 13 → xh c k = h c k) h' [] := by
    refine cp_vc (cut := (fun _ => false)) (K := fun p hx lv st => False) (Q := fun (xh : PH) (r : List ZV) => CL 5 xh (owe L a b c) ∧ ∀ c k : Nat, c ≠ 12 → c ≠ 13 → xh c k = h c k) (v_X0_put5 ?_) (fun pc hx lv st hcut hK => ?_) hc
    · exact (fun b1 r2 => (fun b3 r4 => (fun b5 => (fun b6 => (by have t := hW.tot (p := a.toNat) (by omega); have o := hW.2.2.2.2.1 (8 * a.toNat + b.toNat) (by omega); have e1 : h 13 a.toNat = L 8 a.toNat := hL 8 a.toNat (il8 (by omega)); have e2 : h 12 (8 * a.toNat + b.toNat) = L 7 (8 * a.toNat + b.toNat) := hL 7 _ (il7 (by omega)); rw [ix8c (by omega) (by omega) (by omega) (by omega), e1, e2, w32_id (z := c - L 7 (8 * a.toNat + b.toNat)) (by omega) (by omega), w32_id (by omega) (by omega)]; exact ⟨(hL.up 8 _ _).up 7 _ _, fun c k z1 z2 => by rw [up_ne (by omega), up_ne (by omega)]⟩)))))
    · exact hK.elim
  exact q
set_option maxRecDepth 10000 in
theorem v_X1_aimOf5 {sl : Nat} {si : Nat → Int} {K : Nat → PH → ZL → List ZV → Prop} {Q : PH → List ZV → Prop} {h : PH}  {a : Int} (H : K 8 h [(4, (0, 0)), (3, (0, 7)), (2, (0, (-1))), (0, (2, 5)), (1, (0, a))] []) : vc (zz sl si (7, 0)) (fun p => Nat.beq p 8) K Q mX1_aimOf 8 0 mX1_aimOf.2.2.2.2.2.2 h [(0, (2, 5)), (1, (0, a))] [] := H
set_option maxRecDepth 10000 in
theorem v_X1_aimOf5_8 {sl : Nat} {si : Nat → Int} {K : Nat → PH → ZL → List ZV → Prop} {Q : PH → List ZV → Prop} {h : PH}  {a : Int} {m w q : Int} (H : R32 (h 5 4) → ((h 5 4) ≤ q → Q h [(0, m)]) ∧ (¬ ((h 5 4) ≤ q) → ∀ h1 v1, CP (zz sl si (7, 0)) mX0_of h [(2, 11), (0, a), (0, q)] h1 [(0, v1)] → R32 v1 → (v1 ≤ 0 → K 8 h1 [(4, (0, w32 (q + 1))), (0, (2, 5)), (1, (0, a)), (2, (0, m)), (3, (0, w))] []) ∧ (¬ (v1 ≤ 0) → 0 ≤ a ∧ a < (8 : Nat) → R32 (h1 16 a.toNat) → 0 ≤ q ∧ q < (8 : Nat) → R32 (h1 16 q.toNat) → ∀ h2 v2, CP (zz sl si (7, 0)) mX5_distance h1 [(2, 6), (0, (h1 16 a.toNat)), (0, (h1 16 q.toNat))] h2 [(0, v2)] → R32 v2 → (v2 = (-1) → K 8 h2 [(4, (0, w32 (q + 1))), (5, (0, v2)), (0, (2, 5)), (1, (0, a)), (2, (0, m)), (3, (0, w))] []) ∧ (¬ (v2 = (-1)) → (w ≤ v2 → K 8 h2 [(4, (0, w32 (q + 1))), (5, (0, v2)), (0, (2, 5)), (1, (0, a)), (2, (0, m)), (3, (0, w))] []) ∧ (¬ (w ≤ v2) → K 8 h2 [(4, (0, w32 (q + 1))), (2, (0, q)), (3, (0, v2)), (5, (0, v2)), (0, (2, 5)), (1, (0, a))] []))))) : vc (zz sl si (7, 0)) (fun p => Nat.beq p 8) K Q mX1_aimOf 36 8 (ax_jmp mX1_aimOf.2.2.2.2.2.2 8) h [(0, (2, 5)), (1, (0, a)), (2, (0, m)), (3, (0, w)), (4, (0, q))] [] := H
set_option maxHeartbeats 600000 in
theorem c_X1_aimOf5 {sl : Nat} {si : Nat → Int} {h h' : PH} {L : PH} {a : Int} {v : Int} (hL : CL 5 h L) (hW : WL L) (hP : ∀ p : Nat, (p : Int) < L 0 4 → (0 ≤ L 11 p ∧ L 11 p < L 1 0) ∧ 0 ≤ L 12 p ∧ L 12 p < L 1 0) (hT : TBL L) (ha : 0 ≤ a ∧ a < L 0 4) (hc : CP (zz sl si (7, 0)) mX1_aimOf h [(2, 5), (0, a)] h' [(0, v)]) : h' = h ∧ v = amL L a.toNat (L 0 4).toNat := by
  have q : (fun (xh : PH) (r : List ZV) => ∀ v : Int, r = [(0, v)] → (xh = h ∧ v = amL L a.toNat (L 0 4).toNat)) h' [(0, v)] := by
    refine cp_vc (cut := (fun p => Nat.beq p 8)) (K := fun p hx lv st => (p = 8 ∧ lK (fun u : Nat => [(0, (2, 5)), (1, (0, a)), (2, (0, amL L a.toNat u)), (3, (0, fwL L a.toNat u)), (4, (0, (u : Int)))]) (fun u hx => (u : Int) ≤ L 0 4 ∧ hx = h) p hx lv st)) (Q := fun (xh : PH) (r : List ZV) => ∀ v : Int, r = [(0, v)] → (xh = h ∧ v = amL L a.toNat (L 0 4).toNat)) (v_X1_aimOf5 ?_) (fun pc hx lv st hcut hK => ?_) hc
    · exact (by exact ⟨rfl, rfl, 0, ⟨by omega, rfl⟩, rfl, rfl, rfl, rfl, rfl, trivial⟩)
    · rcases hK with ⟨rfl, rfl, u, hJ, hs⟩
      · obtain ⟨j1, j2⟩ := hJ
        subst j2
        have h8 := hW.2.1
        have h7 := hW.1
        have e04 : hx 5 4 = L 0 4 := hL 0 4 (Or.inl ⟨rfl, Or.inl rfl⟩)
        exact ⟨_, _, hs, v_X1_aimOf5_8 (fun r1 => ⟨fun c2 => (by rw [e04] at c2; intro v e; cases e; have eu : (L 0 4).toNat = u := (by omega); exact ⟨rfl, by rw [eu]⟩), fun c2 => (fun h1 v1 p1 q1 => ⟨fun c3 => (by rw [e04] at c2; obtain ⟨t1, w1⟩ := c_X0_of5 (by omega) (by omega) p1; have t1 := t1.symm; subst t1; rw [Int.toNat_natCast] at w1; have o1 : hx 12 (8 * a.toNat + u) = L 7 (8 * a.toNat + u) := hL 7 _ (il7 (by omega)); rw [o1] at w1; have hPa := (hP a.toNat (by omega)).1; have hPu := (hP u (by omega)).1; have am : amL L a.toNat (u + 1) = amL L a.toNat u := cif_n (fun z => by have := z.1; omega); have fw : fwL L a.toNat (u + 1) = fwL L a.toNat u := (by unfold fwL; rw [am]); exact ⟨rfl, rfl, u + 1, ⟨by omega, rfl⟩, rfl, rfl, (by rw [am]; rfl), (by rw [fw]; rfl), wv (by omega) (by omega) (by omega), trivial⟩), fun c3 => (fun b4 r5 => (fun b6 r7 => (fun h2 v2 p2 q2 => ⟨fun c8 => (by rw [e04] at c2; obtain ⟨t1, w1⟩ := c_X0_of5 (by omega) (by omega) p1; have t1 := t1.symm; subst t1; rw [Int.toNat_natCast] at w1; have o1 : hx 12 (8 * a.toNat + u) = L 7 (8 * a.toNat + u) := hL 7 _ (il7 (by omega)); rw [o1] at w1; have hPa := (hP a.toNat (by omega)).1; have hPu := (hP u (by omega)).1; have a1 : hx 16 a.toNat = L 11 a.toNat := hL 11 _ (il11 (by omega)); have a2 : hx 16 (u : Int).toNat = L 11 u := (by rw [Int.toNat_natCast]; exact hL 11 _ (il11 (by omega))); rw [a1, a2] at p2; obtain ⟨t2, w2⟩ := c_X5_distance5 (by omega) (by omega) p2; have t2 := t2.symm; subst t2; have l1 : hx 8 (7 * (L 11 a.toNat).toNat + (L 11 u).toNat) = L 3 (7 * (L 11 a.toNat).toNat + (L 11 u).toNat) := hL 3 _ (il3 (by omega)); have tb := (hT (L 11 a.toNat).toNat (L 11 u).toNat (by omega) (by omega)).1; rw [l1, tb] at w2; have d2 : v2 = lenW (WLn L (atL L a.toNat) (atL L u)) := w2; unfold lenW at d2; have w0 := WLn_0 (L := L) (f := atL L a.toNat) (t := atL L u); have w6 := WLn_6 (L := L) (f := atL L a.toNat) (t := atL L u) (by omega) (by unfold atL; omega) (by unfold atL; omega); have wM : WLn L (atL L a.toNat) (atL L u) = 1000000 := Classical.byContradiction (fun z => by rw [if_neg z] at d2; omega); have am : amL L a.toNat (u + 1) = amL L a.toNat u := cif_n (fun z => by have := z.2.1; omega); have fw : fwL L a.toNat (u + 1) = fwL L a.toNat u := (by unfold fwL; rw [am]); exact ⟨rfl, rfl, u + 1, ⟨by omega, rfl⟩, rfl, rfl, (by rw [am]; rfl), (by rw [fw]; rfl), wv (by omega) (by omega) (by omega), trivial⟩), fun c8 => ⟨fun c9 => (by rw [e04] at c2; obtain ⟨t1, w1⟩ := c_X0_of5 (by omega) (by omega) p1; have t1 := t1.symm; subst t1; rw [Int.toNat_natCast] at w1; have o1 : hx 12 (8 * a.toNat + u) = L 7 (8 * a.toNat + u) := hL 7 _ (il7 (by omega)); rw [o1] at w1; have hPa := (hP a.toNat (by omega)).1; have hPu := (hP u (by omega)).1; have a1 : hx 16 a.toNat = L 11 a.toNat := hL 11 _ (il11 (by omega)); have a2 : hx 16 (u : Int).toNat = L 11 u := (by rw [Int.toNat_natCast]; exact hL 11 _ (il11 (by omega))); rw [a1, a2] at p2; obtain ⟨t2, w2⟩ := c_X5_distance5 (by omega) (by omega) p2; have t2 := t2.symm; subst t2; have l1 : hx 8 (7 * (L 11 a.toNat).toNat + (L 11 u).toNat) = L 3 (7 * (L 11 a.toNat).toNat + (L 11 u).toNat) := hL 3 _ (il3 (by omega)); have tb := (hT (L 11 a.toNat).toNat (L 11 u).toNat (by omega) (by omega)).1; rw [l1, tb] at w2; have d2 : v2 = lenW (WLn L (atL L a.toNat) (atL L u)) := w2; unfold lenW at d2; have w0 := WLn_0 (L := L) (f := atL L a.toNat) (t := atL L u); have w6 := WLn_6 (L := L) (f := atL L a.toNat) (t := atL L u) (by omega) (by unfold atL; omega) (by unfold atL; omega); have wN : WLn L (atL L a.toNat) (atL L u) ≠ 1000000 := (fun z => by rw [if_pos z] at d2; omega); rw [if_neg wN] at d2; have am : amL L a.toNat (u + 1) = amL L a.toNat u := cif_n (fun z => (by (have z3 := z.2.2; unfold fwL at c9; by_cases y : amL L a.toNat u = -1; (rw [if_pos y] at c9; omega); (rw [if_neg y] at c9; exact z3.elim y (fun x => by omega))))); have fw : fwL L a.toNat (u + 1) = fwL L a.toNat u := (by unfold fwL; rw [am]); exact ⟨rfl, rfl, u + 1, ⟨by omega, rfl⟩, rfl, rfl, (by rw [am]; rfl), (by rw [fw]; rfl), wv (by omega) (by omega) (by omega), trivial⟩), fun c9 => (by rw [e04] at c2; obtain ⟨t1, w1⟩ := c_X0_of5 (by omega) (by omega) p1; have t1 := t1.symm; subst t1; rw [Int.toNat_natCast] at w1; have o1 : hx 12 (8 * a.toNat + u) = L 7 (8 * a.toNat + u) := hL 7 _ (il7 (by omega)); rw [o1] at w1; have hPa := (hP a.toNat (by omega)).1; have hPu := (hP u (by omega)).1; have a1 : hx 16 a.toNat = L 11 a.toNat := hL 11 _ (il11 (by omega)); have a2 : hx 16 (u : Int).toNat = L 11 u := (by rw [Int.toNat_natCast]; exact hL 11 _ (il11 (by omega))); rw [a1, a2] at p2; obtain ⟨t2, w2⟩ := c_X5_distance5 (by omega) (by omega) p2; have t2 := t2.symm; subst t2; have l1 : hx 8 (7 * (L 11 a.toNat).toNat + (L 11 u).toNat) = L 3 (7 * (L 11 a.toNat).toNat + (L 11 u).toNat) := hL 3 _ (il3 (by omega)); have tb := (hT (L 11 a.toNat).toNat (L 11 u).toNat (by omega) (by omega)).1; rw [l1, tb] at w2; have d2 : v2 = lenW (WLn L (atL L a.toNat) (atL L u)) := w2; unfold lenW at d2; have w0 := WLn_0 (L := L) (f := atL L a.toNat) (t := atL L u); have w6 := WLn_6 (L := L) (f := atL L a.toNat) (t := atL L u) (by omega) (by unfold atL; omega) (by unfold atL; omega); have wN : WLn L (atL L a.toNat) (atL L u) ≠ 1000000 := (fun z => by rw [if_pos z] at d2; omega); rw [if_neg wN] at d2; have am : amL L a.toNat (u + 1) = (u : Int) := cif_p ⟨by omega, by omega, by (unfold fwL at c9; by_cases y : amL L a.toNat u = -1; (exact Or.inl y); (rw [if_neg y] at c9; exact Or.inr (by omega)))⟩; have fw : fwL L a.toNat (u + 1) = v2 := (by unfold fwL; rw [am, if_neg (by omega), Int.toNat_natCast]; exact d2.symm); exact ⟨rfl, rfl, u + 1, ⟨by omega, rfl⟩, rfl, rfl, (by rw [am]; rfl), (by rw [fw]; rfl), wv (by omega) (by omega) (by omega), trivial⟩)⟩⟩)))⟩)⟩)⟩
  exact q v rfl
end
section
/-! 45z.7e.haunt -/
/-! what a NIGHT leaves to hold of a LAND -/
theorem WL.t {L : PH} (hW : WL L) {k : Nat} {v : Int} (hk : k = 12 ∨ k = 13) : WL (uph L 0 k v) := hW.kp (fun j i q => up_ne (by omega)) (by rw [up_ne (by omega)]; exact hW.1) (by rw [up_ne (by omega)]; exact hW.2.1) (WS.of (up_ne (by omega)) (up_ne (by omega)) (up_ne (by omega)) (up_ne (by omega)) (up_ne (by omega)) (up_ne (by omega)) hW.s)
theorem WL.x {L : PH} (hW : WL L) {j k : Nat} {v : Int} (hj : j = 11 ∨ j = 12 ∨ j = 15) : WL (uph L j k v) := hW.kp (fun j i q => up_ne (by omega)) (by rw [up_ne (by omega)]; exact hW.1) (by rw [up_ne (by omega)]; exact hW.2.1) (hW.s.kp (fun j i q => up_ne (by omega)))
theorem WLn_c {L L' : PH} (e0 : L' 1 0 = L 1 0) (e1 : L' 1 1 = L 1 1) (e2 : ∀ i : Nat, L' 2 i = L 2 i) {f t : Nat} : WLn L' f t = WLn L f t := by
  unfold WLn
  rw [e0, e1, show L' 2 = L 2 from funext e2]
theorem nxS_c {L L' : PH} (e0 : L' 1 0 = L 1 0) (e1 : L' 1 1 = L 1 1) (e2 : ∀ i : Nat, L' 2 i = L 2 i) {f t : Nat} : ∀ k : Nat, nxS L' f t k = nxS L f t k
  | 0 => rfl
  | k + 1 => by
    show cif _ _ _ = cif _ _ _
    rw [nxS_c e0 e1 e2 k, WLn_c e0 e1 e2, WLn_c e0 e1 e2, e1, e2]
theorem TBL.cg {L L' : PH} (h : TBL L) (e : ∀ j k : Nat, 1 ≤ j ∧ j ≤ 4 → L' j k = L j k) : TBL L' := fun f t hf ht => by
  have e0 := e 1 0 (by omega)
  have e1 := e 1 1 (by omega)
  have e2 : ∀ i : Nat, L' 2 i = L 2 i := fun i => e 2 i (by omega)
  rw [e0] at hf ht
  obtain ⟨x, y⟩ := h f t hf ht
  rw [WLn_c e0 e1 e2, e 3 _ (by omega), e 4 _ (by omega)]
  refine ⟨x, fun a b => ?_⟩
  rw [y a b]
  unfold nxT
  rw [e0, nxS_c e0 e1 e2]
theorem nxS_b {L : PH} {f t : Nat} : ∀ k : Nat, nxS L f t k = -1 ∨ (0 ≤ nxS L f t k ∧ nxS L f t k < k)
  | 0 => Or.inl rfl
  | k + 1 => by
    have i := nxS_b (L := L) (f := f) (t := t) k
    by_cases C : nxS L f t k = -1 ∧ bB (L 2 f) k = true ∧ ¬ bB (L 1 1) k = true ∧ WLn L k t = WLn L f t - 1
    · have e : nxS L f t (k + 1) = (k : Int) := cif_p C
      rw [e]; omega
    · have e : nxS L f t (k + 1) = nxS L f t k := cif_n C
      rw [e]; omega
theorem nxT_b {L : PH} {f t : Nat} (hf : (f : Int) < L 1 0) : 0 ≤ nxT L f t ∧ nxT L f t < L 1 0 := by
  have i := nxS_b (L := L) (f := f) (t := t) (L 1 0).toNat
  unfold nxT
  by_cases c : nxS L f t (L 1 0).toNat = -1
  · rw [if_pos c]; omega
  · rw [if_neg c]; omega
theorem owe_o {L : PH} {x y v : Int} {j k : Nat} (hj : j ≠ 7) (h8 : j ≠ 8) : owe L x y v j k = L j k := by
  unfold owe
  rw [up_ne (by omega), up_ne (by omega)]
theorem owe_7 {L : PH} {x y v : Int} {k : Nat} : owe L x y v 7 k = if k = 8 * x.toNat + y.toNat then v else L 7 k := by
  unfold owe
  by_cases e : k = 8 * x.toNat + y.toNat
  · rw [if_pos e, e, up_sm]
  · rw [if_neg e, up_ne (by omega), up_ne (by omega)]
/-- W9 goes over to a LAND that is the same where it speaks -/
theorem W9.kp {L L' : PH} (w : W9 L) (hW : WL L') (e0 : L' 0 4 = L 0 4) (e1 : ∀ j k : Nat, 1 ≤ j ∧ j ≤ 4 → L' j k = L j k) (e7 : ∀ p b : Nat, p < 8 → b < 8 → L 0 4 ≤ (b : Int) → L' 7 (8 * p + b) = L 7 (8 * p + b)) (e11 : ∀ p : Nat, (p : Int) < L 0 4 → (0 ≤ L' 11 p ∧ L' 11 p < L 1 0) ∧ 0 ≤ L' 12 p ∧ L' 12 p < L 1 0) (e13 : ∀ k : Nat, L' 13 k = L 13 k) (e14 : ∀ k : Nat, L' 14 k = L 14 k) (e15 : ∀ i : Nat, i < 7 → 0 ≤ L' 15 i ∧ L' 15 i ≤ 9999) : W9 L' := by
  obtain ⟨w1, w2, w3, w4, w5, w6⟩ := w
  refine ⟨hW, fun p b hp hb h => ?_, fun p hp => ?_, w4.cg e1, fun p k hp hk h => ?_, e15⟩
  · rw [e0] at h
    rw [e7 p b hp hb h]; exact w2 p b hp hb h
  · rw [e0] at hp
    rw [e1 1 0 (by omega)]; exact e11 p hp
  · rw [e14] at h
    rw [e13, e0]; exact w5 p k hp hk h
theorem W9.ow {L : PH} (w : W9 L) {x y v : Int} (hx : 0 ≤ x ∧ x < 8) (hy : 0 ≤ y ∧ y < L 0 4) (hv : 0 ≤ v ∧ v ≤ 99) : W9 (owe L x y v) := by
  have h8 := w.1.2.1
  exact w.kp (w.1.ow hx (by omega) hv) (owe_o (by omega) (by omega)) (fun j k q => owe_o (by omega) (by omega)) (fun p b hp hb h => by rw [owe_7, if_neg (by omega)]) (fun p hp => by rw [owe_o (by omega) (by omega), owe_o (by omega) (by omega)]; exact w.2.2.1 p hp) (fun k => owe_o (by omega) (by omega)) (fun k => owe_o (by omega) (by omega)) (fun i hi => by rw [owe_o (by omega) (by omega)]; exact w.2.2.2.2.2 i hi)
theorem W9.t {L : PH} (w : W9 L) {k : Nat} {v : Int} (hk : k = 12 ∨ k = 13) : W9 (uph L 0 k v) :=
  w.kp (w.1.t hk) (up_ne (by omega)) (fun j i q => up_ne (by omega)) (fun p b _ _ _ => up_ne (by omega)) (fun p hp => by rw [up_ne (by omega), up_ne (by omega)]; exact w.2.2.1 p hp) (fun k => up_ne (by omega)) (fun k => up_ne (by omega)) (fun i hi => by rw [up_ne (by omega)]; exact w.2.2.2.2.2 i hi)
theorem W9.at {L : PH} (w : W9 L) {p : Nat} {v : Int} (hv : 0 ≤ v ∧ v < L 1 0) : W9 (uph L 11 p v) :=
  w.kp (w.1.x (by omega)) (up_ne (by omega)) (fun j i q => up_ne (by omega)) (fun p b _ _ _ => up_ne (by omega)) (fun q hq => by
    rw [up_ne (c := 11) (c' := 12) (by omega)]
    refine ⟨?_, (w.2.2.1 q hq).2⟩
    by_cases e : q = p
    · rw [e, up_sm]; exact hv
    · rw [up_ne (by omega)]; exact (w.2.2.1 q hq).1) (fun k => up_ne (by omega)) (fun k => up_ne (by omega)) (fun i hi => by rw [up_ne (by omega)]; exact w.2.2.2.2.2 i hi)
theorem W9.lab {L : PH} (w : W9 L) {i : Nat} {v : Int} (hv : 0 ≤ v ∧ v ≤ 9999) : W9 (uph L 15 i v) :=
  w.kp (w.1.x (by omega)) (up_ne (by omega)) (fun j i q => up_ne (by omega)) (fun p b _ _ _ => up_ne (by omega)) (fun q hq => by rw [up_ne (by omega), up_ne (by omega)]; exact w.2.2.1 q hq) (fun k => up_ne (by omega)) (fun k => up_ne (by omega)) (fun k hk => by
    by_cases e : k = i
    · rw [e, up_sm]; exact hv
    · rw [up_ne (by omega)]; exact w.2.2.2.2.2 k hk)
theorem soM_w {L : PH} (w : W9 L) {p b : Nat} (hp : (p : Int) < L 0 4) (hb : (b : Int) < L 0 4) (ho : 0 < L 7 (8 * p + b)) : W9 (soM L p b) ∧ soM L p b 0 4 = L 0 4 ∧ soM L p b 1 0 = L 1 0 := by
  have h8 := w.1.2.1
  have d := w.1.2.2.2.2.1 (8 * p + b) (by omega)
  have wa := (w.2.2.1 b hb).1
  have w1 := w.1.1
  unfold soM
  by_cases c1 : bB (L 0 7) b = true
  · rw [if_pos c1]
    by_cases c2 : 0 < L 7 (8 * b + p)
    · rw [if_pos c2]
      exact ⟨(w.ow (x := b) (y := p) (by omega) (by omega) (by omega)).ow (by omega) (by rw [owe_o (by omega) (by omega)]; omega) (by omega), by rw [owe_o (by omega) (by omega), owe_o (by omega) (by omega)], by rw [owe_o (by omega) (by omega), owe_o (by omega) (by omega)]⟩
    · rw [if_neg c2]
      exact ⟨w.ow (by omega) (by omega) (by omega), owe_o (by omega) (by omega), owe_o (by omega) (by omega)⟩
  · rw [if_neg c1]
    by_cases c2 : bB (L 0 9) b = true
    · rw [if_pos c2]
      by_cases c3 : 9999 ≤ L 15 (atL L b)
      · rw [if_pos c3]; exact ⟨w, rfl, rfl⟩
      · rw [if_neg c3]
        have l := w.2.2.2.2.2 (atL L b) (by unfold atL; omega)
        exact ⟨w.lab (by rw [w32_id (by omega) (by omega)]; omega), up_ne (by omega), up_ne (by omega)⟩
    · rw [if_neg c2]
      by_cases c3 : ¬ bB (L 0 8) b = true ∨ zrem (L 0 12) 2 = 1
      · rw [if_pos c3]; exact ⟨w.ow (by omega) (by omega) (by omega), owe_o (by omega) (by omega), owe_o (by omega) (by omega)⟩
      · rw [if_neg c3]; exact ⟨w, rfl, rfl⟩
theorem haL_w {L : PH} (w : W9 L) {p : Nat} (hp : (p : Int) < L 0 4) : W9 (haL L p) ∧ haL L p 0 4 = L 0 4 ∧ haL L p 1 0 = L 1 0 := by
  have h8 := w.1.2.1
  unfold haL
  by_cases c1 : bB (L 0 7) p = true ∧ 0 < L 8 p
  · rw [if_pos c1]
    by_cases c2 : amL L p (L 0 4).toNat = -1
    · rw [if_pos c2]; exact ⟨w, rfl, rfl⟩
    · rw [if_neg c2]
      have ab := amL_b (L := L) (p := p) (L 0 4).toNat
      have aw := amL_w (L := L) (p := p) (L 0 4).toNat c2
      by_cases c3 : L 11 (amL L p (L 0 4).toNat).toNat = L 11 p
      · rw [if_pos c3]
        unfold soL
        have s := soM_w (w.t (k := 13) (v := w32 (L 0 13 + 1)) (by omega)) (p := p) (b := (amL L p (L 0 4).toNat).toNat) (by rw [up_ne (by omega)]; exact hp) (by rw [up_ne (by omega)]; omega) (by rw [up_ne (by omega)]; exact aw.1)
        exact ⟨s.1, by rw [s.2.1, up_ne (by omega)], by rw [s.2.2, up_ne (by omega)]⟩
      · rw [if_neg c3]
        have b := (w.2.2.1 p hp).1
        exact ⟨w.at (nxT_b (by unfold atL; omega)), up_ne (by omega), up_ne (by omega)⟩
  · rw [if_neg c1]; exact ⟨w, rfl, rfl⟩
theorem niL_w {L : PH} (w : W9 L) : ∀ p : Nat, (p : Int) ≤ L 0 4 → W9 (niL L p) ∧ niL L p 0 4 = L 0 4 ∧ niL L p 1 0 = L 1 0
  | 0, _ => ⟨w.t (by omega), up_ne (by omega), up_ne (by omega)⟩
  | p + 1, hp => by
    obtain ⟨x, y, z⟩ := niL_w w p (by omega)
    obtain ⟨x2, y2, z2⟩ := haL_w x (p := p) (by rw [y]; omega)
    exact ⟨x2, y2.trans y, z2.trans z⟩
theorem nsL_w {L : PH} (w : W9 L) : ∀ k : Nat, W9 (nsL L k) ∧ nsL L k 0 4 = L 0 4 ∧ nsL L k 1 0 = L 1 0
  | 0 => ⟨w, rfl, rfl⟩
  | k + 1 => by
    obtain ⟨x, y, z⟩ := nsL_w w k
    have h8 := x.1.2.1
    obtain ⟨x2, y2, z2⟩ := niL_w x (nsL L k 0 4).toNat (by omega)
    exact ⟨x2, y2.trans y, z2.trans z⟩
theorem bt_z {x b : Int} (h0 : 0 ≤ b) (h8 : b < 8) : zand (zshr x b) 1 = 1 ↔ bB x b.toNat = true := by
  have e := bt_1 (x := x) (i := b.toNat) (by omega)
  rw [show ((b.toNat : Nat) : Int) = b by omega] at e
  exact e
theorem WLn_z {L : PH} {f t : Nat} (h : WLn L f t = 0) : t = f := by
  have key : ∀ k : Nat, lvS (L 1 0).toNat (fun i j => bB (L 2 i) j = true) (fun j => bB (L 1 1) j = true) f k t = 0 → t = f := fun k => by
    induction k with
    | zero =>
      intro z
      have z : (if t = f then (0 : Int) else 1000000) = 0 := z
      by_cases c : t = f
      · exact c
      · rw [if_neg c] at z; omega
    | succ k i =>
      intro z
      by_cases c : lvS (L 1 0).toNat (fun i j => bB (L 2 i) j = true) (fun j => bB (L 1 1) j = true) f k t = 1000000 ∧ t < (L 1 0).toNat ∧ ¬ bB (L 1 1) t = true ∧ ∃ a, a < (L 1 0).toNat ∧ lvS (L 1 0).toNat (fun i j => bB (L 2 i) j = true) (fun j => bB (L 1 1) j = true) f k a = (k : Int) ∧ bB (L 2 a) t = true
      · have e := (cif_p (x := ((k + 1 : Nat) : Int)) (y := lvS (L 1 0).toNat (fun i j => bB (L 2 i) j = true) (fun j => bB (L 1 1) j = true) f k t) c).symm.trans z
        omega
      · exact i ((cif_n (x := ((k + 1 : Nat) : Int)) (y := lvS (L 1 0).toNat (fun i j => bB (L 2 i) j = true) (fun j => bB (L 1 1) j = true) f k t) c).symm.trans z)
  exact key 7 h
set_option maxRecDepth 10000 in
theorem v_X1_saySorry5 {sl : Nat} {si : Nat → Int} {K : Nat → PH → ZL → List ZV → Prop} {Q : PH → List ZV → Prop} {h : PH}  {a b : Int} (H : R32 (h 5 13) → R32 (h 5 7) → ∀ h1 v1, CP (zz sl si (7, 0)) mX11_has (uph h 5 13 (w32 ((h 5 13) + 1))) [(0, (h 5 7)), (0, b)] h1 [(0, v1)] → v1 = 0 ∨ v1 = 1 → (v1 = 0 → R32 (h1 5 9) → ∀ h2 v2, CP (zz sl si (7, 0)) mX11_has h1 [(0, (h1 5 9)), (0, b)] h2 [(0, v2)] → v2 = 0 ∨ v2 = 1 → (v2 = 0 → R32 (h2 5 8) → ∀ h3 v3, CP (zz sl si (7, 0)) mX11_has h2 [(0, (h2 5 8)), (0, b)] h3 [(0, v3)] → v3 = 0 ∨ v3 = 1 → (v3 = 0 → ∀ h4 v4, CP (zz sl si (7, 0)) mX0_of h3 [(2, 11), (0, a), (0, b)] h4 [(0, v4)] → R32 v4 → ∀ h5, CP (zz sl si (7, 0)) mX0_put h4 [(2, 11), (0, a), (0, b), (0, w32 (v4 - 1))] h5 [] → Q h5 []) ∧ (¬ (v3 = 0) → R32 (h3 5 12) → (2 : Int) ≠ 0 → ((zrem (h3 5 12) 2) ≠ 1 → Q h3 []) ∧ (¬ ((zrem (h3 5 12) 2) ≠ 1) → ∀ h6 v6, CP (zz sl si (7, 0)) mX0_of h3 [(2, 11), (0, a), (0, b)] h6 [(0, v6)] → R32 v6 → ∀ h7, CP (zz sl si (7, 0)) mX0_put h6 [(2, 11), (0, a), (0, b), (0, w32 (v6 - 1))] h7 [] → Q h7 []))) ∧ (¬ (v2 = 0) → 0 ≤ b ∧ b < (8 : Nat) → R32 (h2 16 b.toNat) → 0 ≤ (h2 16 b.toNat) ∧ (h2 16 b.toNat) < (7 : Nat) → R32 (h2 20 (h2 16 b.toNat).toNat) → ((9999 : Int) ≤ (h2 20 (h2 16 b.toNat).toNat) → Q h2 []) ∧ (¬ ((9999 : Int) ≤ (h2 20 (h2 16 b.toNat).toNat)) → 0 ≤ b ∧ b < (8 : Nat) → R32 (h2 16 b.toNat) → 0 ≤ (h2 16 b.toNat) ∧ (h2 16 b.toNat) < (7 : Nat) → R32 (h2 20 (h2 16 b.toNat).toNat) → 0 ≤ (h2 16 b.toNat) ∧ (h2 16 b.toNat) < (7 : Nat) → Q (uph h2 20 (h2 16 b.toNat).toNat (w32 ((h2 20 (h2 16 b.toNat).toNat) + 1))) []))) ∧ (¬ (v1 = 0) → ∀ h8 v8, CP (zz sl si (7, 0)) mX0_of h1 [(2, 11), (0, b), (0, a)] h8 [(0, v8)] → R32 v8 → (v8 ≤ 0 → ∀ h9 v9, CP (zz sl si (7, 0)) mX0_of h8 [(2, 11), (0, a), (0, b)] h9 [(0, v9)] → R32 v9 → ∀ h10, CP (zz sl si (7, 0)) mX0_put h9 [(2, 11), (0, a), (0, b), (0, w32 (v9 - 1))] h10 [] → Q h10 []) ∧ (¬ (v8 ≤ 0) → ∀ h11, CP (zz sl si (7, 0)) mX0_put h8 [(2, 11), (0, b), (0, a), (0, 0)] h11 [] → ∀ h12, CP (zz sl si (7, 0)) mX0_put h11 [(2, 11), (0, a), (0, b), (0, 0)] h12 [] → Q h12 []))) : vc (zz sl si (7, 0)) (fun _ => false) K Q mX1_saySorry 42 0 mX1_saySorry.2.2.2.2.2.2 h [(0, (2, 5)), (1, (0, a)), (2, (0, b))] [] := H
set_option maxHeartbeats 4000000 in
theorem c_X1_saySorry5 {sl : Nat} {si : Nat → Int} {h h' : PH} {L : PH} {a b : Int} (hL : CL 5 h L) (hw : W9 L) (ha : 0 ≤ a ∧ a < L 0 4) (hb : 0 ≤ b ∧ b < L 0 4) (ho : 0 < L 7 (8 * a.toNat + b.toNat)) (hc : CP (zz sl si (7, 0)) mX1_saySorry h [(2, 5), (0, a), (0, b)] h' []) : CL 5 h' (soL L a.toNat b.toNat) ∧ (∀ c k : Nat, ¬ (c = 5 ∧ (k = 12 ∨ k = 13)) → ¬ (c = 12 ∨ c = 13 ∨ c = 16 ∨ c = 20) → h' c k = h c k) := by
  have q : (fun (xh : PH) (r : List ZV) => CL 5 xh (soL L a.toNat b.toNat) ∧ (∀ c k : Nat, ¬ (c = 5 ∧ (k = 12 ∨ k = 13)) → ¬ (c = 12 ∨ c = 13 ∨ c = 16 ∨ c = 20) → xh c k = h c k)) h' [] := by
    refine cp_vc (cut := (fun _ => false)) (K := fun p hx lv st => False) (Q := fun (xh : PH) (r : List ZV) => CL 5 xh (soL L a.toNat b.toNat) ∧ (∀ c k : Nat, ¬ (c = 5 ∧ (k = 12 ∨ k = 13)) → ¬ (c = 12 ∨ c = 13 ∨ c = 16 ∨ c = 20) → xh c k = h c k)) (v_X1_saySorry5 ?_) (fun pc hx lv st hcut hK => ?_) hc
    · exact (fun r1 => (fun r2 => (fun h1 v1 p1 q1 => by obtain ⟨t1, e1⟩ := c_X11_hasB p1; have t1 := t1.symm; subst t1; exact ⟨fun c3 => (fun r4 => (fun h2 v2 p2 q2 => by obtain ⟨t2, e2⟩ := c_X11_hasB p2; have t2 := t2.symm; subst t2; exact ⟨fun c5 => (fun r6 => (fun h3 v3 p3 q3 => by obtain ⟨t3, e3⟩ := c_X11_hasB p3; have t3 := t3.symm; subst t3; exact ⟨fun c7 => (fun h4 v4 p4 q4 => (fun h5 p5 => (by unfold soL; have h8 := hw.1.2.1; have hab := (hw.2.2.1 b.toNat (by omega)).1; have h7 := hw.1.1; have e13 : h 5 13 = L 0 13 := hL 0 13 (Or.inl ⟨rfl, Or.inr (Or.inr (Or.inr (Or.inr (Or.inr rfl))))⟩); have hL1 : CL 5 (uph h 5 13 (w32 (h 5 13 + 1))) (uph L 0 13 (w32 (L 0 13 + 1))) := (by rw [e13]; exact hL.up 0 13 _); have W1 := (hw.t (k := 13) (v := w32 (L 0 13 + 1)) (by omega)).1; have F1 : ∀ c k : Nat, ¬ (c = 5 ∧ k = 13) → uph h 5 13 (w32 (h 5 13 + 1)) c k = h c k := (fun c k z => up_ne (by omega)); have o1 : 0 < uph L 0 13 (w32 (L 0 13 + 1)) 7 (8 * a.toNat + b.toNat) := (by rw [up_ne (by omega)]; exact ho); have a1 : uph L 0 13 (w32 (L 0 13 + 1)) 11 b.toNat = L 11 b.toNat := up_ne (by omega); have dd := W1.2.2.2.2.1 (8 * a.toNat + b.toNat) (by omega); have g7 := hL1 0 7 (Or.inl ⟨rfl, Or.inr (Or.inl rfl)⟩); have g8 := hL1 0 8 (Or.inl ⟨rfl, Or.inr (Or.inr (Or.inl rfl))⟩); have g9 := hL1 0 9 (Or.inl ⟨rfl, Or.inr (Or.inr (Or.inr (Or.inl rfl)))⟩); have g12 := hL1 0 12 (Or.inl ⟨rfl, Or.inr (Or.inr (Or.inr (Or.inr (Or.inl rfl))))⟩); have g11 := hL1 11 b.toNat (il11 (by omega)); have k7 : h 5 7 = uph L 0 13 (w32 (L 0 13 + 1)) 0 7 := (hL 0 7 (Or.inl ⟨rfl, Or.inr (Or.inl rfl)⟩)).trans (up_ne (by omega)).symm; rw [k7, bt_z (by omega) (by omega)] at e1; generalize uph h 5 13 (w32 (h 5 13 + 1)) = g at *; generalize uph L 0 13 (w32 (L 0 13 + 1)) = M at *; rw [show g 5 9 = M 0 9 from g9, bt_z (by omega) (by omega)] at e2; rw [show g 5 8 = M 0 8 from g8, bt_z (by omega) (by omega)] at e3; have nd : ¬ bB (M 0 7) b.toNat = true := (fun z => by have := e1.mpr z; omega); have nk : ¬ bB (M 0 9) b.toNat = true := (fun z => by have := e2.mpr z; omega); have ea : ((a.toNat : Nat) : Int) = a := (by omega); have eb : ((b.toNat : Nat) : Int) = b := (by omega); obtain ⟨t4, w4⟩ := c_X0_of5 (by omega) (by omega) p4; have t4 := t4.symm; subst t4; have z4 : g 12 (8 * a.toNat + b.toNat) = M 7 (8 * a.toNat + b.toNat) := hL1 7 _ (il7 (by omega)); rw [z4] at w4; rw [w32_id (by omega) (by omega), w4] at p5; obtain ⟨x1, x2⟩ := c_X0_put5 hL1 W1 (by omega) (by omega) (by omega) p5; have n8 : ¬ bB (M 0 8) b.toNat = true := (fun z => by have := e3.mpr z; omega); refine ⟨?_, fun c k y1 y2 => by rw [x2 c k (by omega) (by omega)]; exact F1 c k (by omega)⟩; unfold soM; rw [if_neg nd, if_neg nk, if_pos (Or.inl n8), ea, eb]; exact x1))), fun c7 => (fun r8 => (fun d9 => ⟨fun c10 => (by unfold soL; have h8 := hw.1.2.1; have hab := (hw.2.2.1 b.toNat (by omega)).1; have h7 := hw.1.1; have e13 : h 5 13 = L 0 13 := hL 0 13 (Or.inl ⟨rfl, Or.inr (Or.inr (Or.inr (Or.inr (Or.inr rfl))))⟩); have hL1 : CL 5 (uph h 5 13 (w32 (h 5 13 + 1))) (uph L 0 13 (w32 (L 0 13 + 1))) := (by rw [e13]; exact hL.up 0 13 _); have W1 := (hw.t (k := 13) (v := w32 (L 0 13 + 1)) (by omega)).1; have F1 : ∀ c k : Nat, ¬ (c = 5 ∧ k = 13) → uph h 5 13 (w32 (h 5 13 + 1)) c k = h c k := (fun c k z => up_ne (by omega)); have o1 : 0 < uph L 0 13 (w32 (L 0 13 + 1)) 7 (8 * a.toNat + b.toNat) := (by rw [up_ne (by omega)]; exact ho); have a1 : uph L 0 13 (w32 (L 0 13 + 1)) 11 b.toNat = L 11 b.toNat := up_ne (by omega); have dd := W1.2.2.2.2.1 (8 * a.toNat + b.toNat) (by omega); have g7 := hL1 0 7 (Or.inl ⟨rfl, Or.inr (Or.inl rfl)⟩); have g8 := hL1 0 8 (Or.inl ⟨rfl, Or.inr (Or.inr (Or.inl rfl))⟩); have g9 := hL1 0 9 (Or.inl ⟨rfl, Or.inr (Or.inr (Or.inr (Or.inl rfl)))⟩); have g12 := hL1 0 12 (Or.inl ⟨rfl, Or.inr (Or.inr (Or.inr (Or.inr (Or.inl rfl))))⟩); have g11 := hL1 11 b.toNat (il11 (by omega)); have k7 : h 5 7 = uph L 0 13 (w32 (L 0 13 + 1)) 0 7 := (hL 0 7 (Or.inl ⟨rfl, Or.inr (Or.inl rfl)⟩)).trans (up_ne (by omega)).symm; rw [k7, bt_z (by omega) (by omega)] at e1; generalize uph h 5 13 (w32 (h 5 13 + 1)) = g at *; generalize uph L 0 13 (w32 (L 0 13 + 1)) = M at *; rw [show g 5 9 = M 0 9 from g9, bt_z (by omega) (by omega)] at e2; rw [show g 5 8 = M 0 8 from g8, bt_z (by omega) (by omega)] at e3; have nd : ¬ bB (M 0 7) b.toNat = true := (fun z => by have := e1.mpr z; omega); have nk : ¬ bB (M 0 9) b.toNat = true := (fun z => by have := e2.mpr z; omega); have ea : ((a.toNat : Nat) : Int) = a := (by omega); have eb : ((b.toNat : Nat) : Int) = b := (by omega); have g12 : g 5 12 = M 0 12 := g12; have y8 : bB (M 0 8) b.toNat = true := e3.mp (by omega); refine ⟨?_, fun c k y1 y2 => F1 c k (by omega)⟩; unfold soM; rw [if_neg nd, if_neg nk, if_neg (fun z => z.elim (fun y => y y8) (fun y => c10 (by rw [g12]; exact y)))]; exact hL1), fun c10 => (fun h6 v6 p6 q6 => (fun h7 p7 => (by unfold soL; have h8 := hw.1.2.1; have hab := (hw.2.2.1 b.toNat (by omega)).1; have h7 := hw.1.1; have e13 : h 5 13 = L 0 13 := hL 0 13 (Or.inl ⟨rfl, Or.inr (Or.inr (Or.inr (Or.inr (Or.inr rfl))))⟩); have hL1 : CL 5 (uph h 5 13 (w32 (h 5 13 + 1))) (uph L 0 13 (w32 (L 0 13 + 1))) := (by rw [e13]; exact hL.up 0 13 _); have W1 := (hw.t (k := 13) (v := w32 (L 0 13 + 1)) (by omega)).1; have F1 : ∀ c k : Nat, ¬ (c = 5 ∧ k = 13) → uph h 5 13 (w32 (h 5 13 + 1)) c k = h c k := (fun c k z => up_ne (by omega)); have o1 : 0 < uph L 0 13 (w32 (L 0 13 + 1)) 7 (8 * a.toNat + b.toNat) := (by rw [up_ne (by omega)]; exact ho); have a1 : uph L 0 13 (w32 (L 0 13 + 1)) 11 b.toNat = L 11 b.toNat := up_ne (by omega); have dd := W1.2.2.2.2.1 (8 * a.toNat + b.toNat) (by omega); have g7 := hL1 0 7 (Or.inl ⟨rfl, Or.inr (Or.inl rfl)⟩); have g8 := hL1 0 8 (Or.inl ⟨rfl, Or.inr (Or.inr (Or.inl rfl))⟩); have g9 := hL1 0 9 (Or.inl ⟨rfl, Or.inr (Or.inr (Or.inr (Or.inl rfl)))⟩); have g12 := hL1 0 12 (Or.inl ⟨rfl, Or.inr (Or.inr (Or.inr (Or.inr (Or.inl rfl))))⟩); have g11 := hL1 11 b.toNat (il11 (by omega)); have k7 : h 5 7 = uph L 0 13 (w32 (L 0 13 + 1)) 0 7 := (hL 0 7 (Or.inl ⟨rfl, Or.inr (Or.inl rfl)⟩)).trans (up_ne (by omega)).symm; rw [k7, bt_z (by omega) (by omega)] at e1; generalize uph h 5 13 (w32 (h 5 13 + 1)) = g at *; generalize uph L 0 13 (w32 (L 0 13 + 1)) = M at *; rw [show g 5 9 = M 0 9 from g9, bt_z (by omega) (by omega)] at e2; rw [show g 5 8 = M 0 8 from g8, bt_z (by omega) (by omega)] at e3; have nd : ¬ bB (M 0 7) b.toNat = true := (fun z => by have := e1.mpr z; omega); have nk : ¬ bB (M 0 9) b.toNat = true := (fun z => by have := e2.mpr z; omega); have ea : ((a.toNat : Nat) : Int) = a := (by omega); have eb : ((b.toNat : Nat) : Int) = b := (by omega); have g12 : g 5 12 = M 0 12 := g12; obtain ⟨t6, w6⟩ := c_X0_of5 (by omega) (by omega) p6; have t6 := t6.symm; subst t6; have z6 : g 12 (8 * a.toNat + b.toNat) = M 7 (8 * a.toNat + b.toNat) := hL1 7 _ (il7 (by omega)); rw [z6] at w6; rw [w32_id (by omega) (by omega), w6] at p7; obtain ⟨x1, x2⟩ := c_X0_put5 hL1 W1 (by omega) (by omega) (by omega) p7; refine ⟨?_, fun c k y1 y2 => by rw [x2 c k (by omega) (by omega)]; exact F1 c k (by omega)⟩; unfold soM; rw [if_neg nd, if_neg nk, if_pos (Or.inr (by rw [← g12]; exact Classical.not_not.mp c10)), ea, eb]; exact x1)))⟩))⟩)), fun c5 => (fun b11 r12 => (fun b13 r14 => ⟨fun c15 => (by unfold soL; have h8 := hw.1.2.1; have hab := (hw.2.2.1 b.toNat (by omega)).1; have h7 := hw.1.1; have e13 : h 5 13 = L 0 13 := hL 0 13 (Or.inl ⟨rfl, Or.inr (Or.inr (Or.inr (Or.inr (Or.inr rfl))))⟩); have hL1 : CL 5 (uph h 5 13 (w32 (h 5 13 + 1))) (uph L 0 13 (w32 (L 0 13 + 1))) := (by rw [e13]; exact hL.up 0 13 _); have W1 := (hw.t (k := 13) (v := w32 (L 0 13 + 1)) (by omega)).1; have F1 : ∀ c k : Nat, ¬ (c = 5 ∧ k = 13) → uph h 5 13 (w32 (h 5 13 + 1)) c k = h c k := (fun c k z => up_ne (by omega)); have o1 : 0 < uph L 0 13 (w32 (L 0 13 + 1)) 7 (8 * a.toNat + b.toNat) := (by rw [up_ne (by omega)]; exact ho); have a1 : uph L 0 13 (w32 (L 0 13 + 1)) 11 b.toNat = L 11 b.toNat := up_ne (by omega); have dd := W1.2.2.2.2.1 (8 * a.toNat + b.toNat) (by omega); have g7 := hL1 0 7 (Or.inl ⟨rfl, Or.inr (Or.inl rfl)⟩); have g8 := hL1 0 8 (Or.inl ⟨rfl, Or.inr (Or.inr (Or.inl rfl))⟩); have g9 := hL1 0 9 (Or.inl ⟨rfl, Or.inr (Or.inr (Or.inr (Or.inl rfl)))⟩); have g12 := hL1 0 12 (Or.inl ⟨rfl, Or.inr (Or.inr (Or.inr (Or.inr (Or.inl rfl))))⟩); have g11 := hL1 11 b.toNat (il11 (by omega)); have k7 : h 5 7 = uph L 0 13 (w32 (L 0 13 + 1)) 0 7 := (hL 0 7 (Or.inl ⟨rfl, Or.inr (Or.inl rfl)⟩)).trans (up_ne (by omega)).symm; rw [k7, bt_z (by omega) (by omega)] at e1; generalize uph h 5 13 (w32 (h 5 13 + 1)) = g at *; generalize uph L 0 13 (w32 (L 0 13 + 1)) = M at *; rw [show g 5 9 = M 0 9 from g9, bt_z (by omega) (by omega)] at e2; have nd : ¬ bB (M 0 7) b.toNat = true := (fun z => by have := e1.mpr z; omega); have yk : bB (M 0 9) b.toNat = true := e2.mp (by omega); have ga : g 16 b.toNat = M 11 b.toNat := g11; have la : g 20 (M 11 b.toNat).toNat = M 15 (M 11 b.toNat).toNat := hL1 15 _ (il15 (by omega)); rw [ga] at c15; rw [la] at c15; refine ⟨?_, fun c k y1 y2 => F1 c k (by omega)⟩; unfold soM; rw [if_neg nd, if_pos yk, if_pos (show 9999 ≤ M 15 (atL M b.toNat) from c15)]; exact hL1), fun c15 => (fun b16 r17 => (fun b18 r19 => (fun b20 => (by unfold soL; have h8 := hw.1.2.1; have hab := (hw.2.2.1 b.toNat (by omega)).1; have h7 := hw.1.1; have e13 : h 5 13 = L 0 13 := hL 0 13 (Or.inl ⟨rfl, Or.inr (Or.inr (Or.inr (Or.inr (Or.inr rfl))))⟩); have hL1 : CL 5 (uph h 5 13 (w32 (h 5 13 + 1))) (uph L 0 13 (w32 (L 0 13 + 1))) := (by rw [e13]; exact hL.up 0 13 _); have W1 := (hw.t (k := 13) (v := w32 (L 0 13 + 1)) (by omega)).1; have F1 : ∀ c k : Nat, ¬ (c = 5 ∧ k = 13) → uph h 5 13 (w32 (h 5 13 + 1)) c k = h c k := (fun c k z => up_ne (by omega)); have o1 : 0 < uph L 0 13 (w32 (L 0 13 + 1)) 7 (8 * a.toNat + b.toNat) := (by rw [up_ne (by omega)]; exact ho); have a1 : uph L 0 13 (w32 (L 0 13 + 1)) 11 b.toNat = L 11 b.toNat := up_ne (by omega); have dd := W1.2.2.2.2.1 (8 * a.toNat + b.toNat) (by omega); have g7 := hL1 0 7 (Or.inl ⟨rfl, Or.inr (Or.inl rfl)⟩); have g8 := hL1 0 8 (Or.inl ⟨rfl, Or.inr (Or.inr (Or.inl rfl))⟩); have g9 := hL1 0 9 (Or.inl ⟨rfl, Or.inr (Or.inr (Or.inr (Or.inl rfl)))⟩); have g12 := hL1 0 12 (Or.inl ⟨rfl, Or.inr (Or.inr (Or.inr (Or.inr (Or.inl rfl))))⟩); have g11 := hL1 11 b.toNat (il11 (by omega)); have k7 : h 5 7 = uph L 0 13 (w32 (L 0 13 + 1)) 0 7 := (hL 0 7 (Or.inl ⟨rfl, Or.inr (Or.inl rfl)⟩)).trans (up_ne (by omega)).symm; rw [k7, bt_z (by omega) (by omega)] at e1; generalize uph h 5 13 (w32 (h 5 13 + 1)) = g at *; generalize uph L 0 13 (w32 (L 0 13 + 1)) = M at *; rw [show g 5 9 = M 0 9 from g9, bt_z (by omega) (by omega)] at e2; have nd : ¬ bB (M 0 7) b.toNat = true := (fun z => by have := e1.mpr z; omega); have yk : bB (M 0 9) b.toNat = true := e2.mp (by omega); have ga : g 16 b.toNat = M 11 b.toNat := g11; have la : g 20 (M 11 b.toNat).toNat = M 15 (M 11 b.toNat).toNat := hL1 15 _ (il15 (by omega)); rw [ga] at c15; rw [la] at c15; rw [ga, la]; refine ⟨?_, fun c k y1 y2 => by rw [up_ne (by omega)]; exact F1 c k (by omega)⟩; unfold soM; rw [if_neg nd, if_pos yk, if_neg (show ¬ 9999 ≤ M 15 (atL M b.toNat) from c15)]; exact hL1.up 15 _ _))))⟩))⟩)), fun c3 => (fun h8 v8 p8 q8 => ⟨fun c21 => (fun h9 v9 p9 q9 => (fun h10 p10 => (by unfold soL; have h8 := hw.1.2.1; have hab := (hw.2.2.1 b.toNat (by omega)).1; have h7 := hw.1.1; have e13 : h 5 13 = L 0 13 := hL 0 13 (Or.inl ⟨rfl, Or.inr (Or.inr (Or.inr (Or.inr (Or.inr rfl))))⟩); have hL1 : CL 5 (uph h 5 13 (w32 (h 5 13 + 1))) (uph L 0 13 (w32 (L 0 13 + 1))) := (by rw [e13]; exact hL.up 0 13 _); have W1 := (hw.t (k := 13) (v := w32 (L 0 13 + 1)) (by omega)).1; have F1 : ∀ c k : Nat, ¬ (c = 5 ∧ k = 13) → uph h 5 13 (w32 (h 5 13 + 1)) c k = h c k := (fun c k z => up_ne (by omega)); have o1 : 0 < uph L 0 13 (w32 (L 0 13 + 1)) 7 (8 * a.toNat + b.toNat) := (by rw [up_ne (by omega)]; exact ho); have a1 : uph L 0 13 (w32 (L 0 13 + 1)) 11 b.toNat = L 11 b.toNat := up_ne (by omega); have dd := W1.2.2.2.2.1 (8 * a.toNat + b.toNat) (by omega); have g7 := hL1 0 7 (Or.inl ⟨rfl, Or.inr (Or.inl rfl)⟩); have g8 := hL1 0 8 (Or.inl ⟨rfl, Or.inr (Or.inr (Or.inl rfl))⟩); have g9 := hL1 0 9 (Or.inl ⟨rfl, Or.inr (Or.inr (Or.inr (Or.inl rfl)))⟩); have g12 := hL1 0 12 (Or.inl ⟨rfl, Or.inr (Or.inr (Or.inr (Or.inr (Or.inl rfl))))⟩); have g11 := hL1 11 b.toNat (il11 (by omega)); have k7 : h 5 7 = uph L 0 13 (w32 (L 0 13 + 1)) 0 7 := (hL 0 7 (Or.inl ⟨rfl, Or.inr (Or.inl rfl)⟩)).trans (up_ne (by omega)).symm; rw [k7, bt_z (by omega) (by omega)] at e1; generalize uph h 5 13 (w32 (h 5 13 + 1)) = g at *; generalize uph L 0 13 (w32 (L 0 13 + 1)) = M at *; have yd : bB (M 0 7) b.toNat = true := e1.mp (by omega); have ea : ((a.toNat : Nat) : Int) = a := (by omega); have eb : ((b.toNat : Nat) : Int) = b := (by omega); obtain ⟨t8, w8⟩ := c_X0_of5 (by omega) (by omega) p8; have t8 := t8.symm; subst t8; have z8 : g 12 (8 * b.toNat + a.toNat) = M 7 (8 * b.toNat + a.toNat) := hL1 7 _ (il7 (by omega)); rw [z8] at w8; obtain ⟨t9, w9⟩ := c_X0_of5 (by omega) (by omega) p9; have t9 := t9.symm; subst t9; have z9 : g 12 (8 * a.toNat + b.toNat) = M 7 (8 * a.toNat + b.toNat) := hL1 7 _ (il7 (by omega)); rw [z9] at w9; rw [w32_id (by omega) (by omega), w9] at p10; obtain ⟨x1, x2⟩ := c_X0_put5 hL1 W1 (by omega) (by omega) (by omega) p10; refine ⟨?_, fun c k y1 y2 => by rw [x2 c k (by omega) (by omega)]; exact F1 c k (by omega)⟩; unfold soM; rw [if_pos yd, if_neg (by omega), ea, eb]; exact x1))), fun c21 => (fun h11 p11 => (fun h12 p12 => (by unfold soL; have h8 := hw.1.2.1; have hab := (hw.2.2.1 b.toNat (by omega)).1; have h7 := hw.1.1; have e13 : h 5 13 = L 0 13 := hL 0 13 (Or.inl ⟨rfl, Or.inr (Or.inr (Or.inr (Or.inr (Or.inr rfl))))⟩); have hL1 : CL 5 (uph h 5 13 (w32 (h 5 13 + 1))) (uph L 0 13 (w32 (L 0 13 + 1))) := (by rw [e13]; exact hL.up 0 13 _); have W1 := (hw.t (k := 13) (v := w32 (L 0 13 + 1)) (by omega)).1; have F1 : ∀ c k : Nat, ¬ (c = 5 ∧ k = 13) → uph h 5 13 (w32 (h 5 13 + 1)) c k = h c k := (fun c k z => up_ne (by omega)); have o1 : 0 < uph L 0 13 (w32 (L 0 13 + 1)) 7 (8 * a.toNat + b.toNat) := (by rw [up_ne (by omega)]; exact ho); have a1 : uph L 0 13 (w32 (L 0 13 + 1)) 11 b.toNat = L 11 b.toNat := up_ne (by omega); have dd := W1.2.2.2.2.1 (8 * a.toNat + b.toNat) (by omega); have g7 := hL1 0 7 (Or.inl ⟨rfl, Or.inr (Or.inl rfl)⟩); have g8 := hL1 0 8 (Or.inl ⟨rfl, Or.inr (Or.inr (Or.inl rfl))⟩); have g9 := hL1 0 9 (Or.inl ⟨rfl, Or.inr (Or.inr (Or.inr (Or.inl rfl)))⟩); have g12 := hL1 0 12 (Or.inl ⟨rfl, Or.inr (Or.inr (Or.inr (Or.inr (Or.inl rfl))))⟩); have g11 := hL1 11 b.toNat (il11 (by omega)); have k7 : h 5 7 = uph L 0 13 (w32 (L 0 13 + 1)) 0 7 := (hL 0 7 (Or.inl ⟨rfl, Or.inr (Or.inl rfl)⟩)).trans (up_ne (by omega)).symm; rw [k7, bt_z (by omega) (by omega)] at e1; generalize uph h 5 13 (w32 (h 5 13 + 1)) = g at *; generalize uph L 0 13 (w32 (L 0 13 + 1)) = M at *; have yd : bB (M 0 7) b.toNat = true := e1.mp (by omega); have ea : ((a.toNat : Nat) : Int) = a := (by omega); have eb : ((b.toNat : Nat) : Int) = b := (by omega); obtain ⟨t8, w8⟩ := c_X0_of5 (by omega) (by omega) p8; have t8 := t8.symm; subst t8; have z8 : g 12 (8 * b.toNat + a.toNat) = M 7 (8 * b.toNat + a.toNat) := hL1 7 _ (il7 (by omega)); rw [z8] at w8; obtain ⟨x1, x2⟩ := c_X0_put5 hL1 W1 (by omega) (by omega) (by omega) p11; obtain ⟨x3, x4⟩ := c_X0_put5 x1 (W1.ow (by omega) (by omega) (by omega)) (by omega) (by omega) (by omega) p12; refine ⟨?_, fun c k y1 y2 => by rw [x4 c k (by omega) (by omega), x2 c k (by omega) (by omega)]; exact F1 c k (by omega)⟩; unfold soM; rw [if_pos yd, if_pos (by omega), ea, eb]; exact x3)))⟩)⟩)))
    · exact hK.elim
  exact q
set_option maxRecDepth 10000 in
theorem v_X1_haunt5 {sl : Nat} {si : Nat → Int} {K : Nat → PH → ZL → List ZV → Prop} {Q : PH → List ZV → Prop} {h : PH}  {a : Int} (H : ∀ h1 v1, CP (zz sl si (7, 0)) mX1_aimOf h [(2, 5), (0, a)] h1 [(0, v1)] → R32 v1 → (v1 ≠ (-1) → 0 ≤ v1 ∧ v1 < (8 : Nat) → R32 (h1 16 v1.toNat) → 0 ≤ a ∧ a < (8 : Nat) → R32 (h1 16 a.toNat) → ((h1 16 v1.toNat) ≠ (h1 16 a.toNat) → 0 ≤ a ∧ a < (8 : Nat) → R32 (h1 16 a.toNat) → 0 ≤ v1 ∧ v1 < (8 : Nat) → R32 (h1 16 v1.toNat) → ∀ h2 v2, CP (zz sl si (7, 0)) mX5_nextHouse h1 [(2, 6), (0, (h1 16 a.toNat)), (0, (h1 16 v1.toNat))] h2 [(0, v2)] → R32 v2 → 0 ≤ a ∧ a < (8 : Nat) → Q (uph h2 16 a.toNat v2) []) ∧ (¬ ((h1 16 v1.toNat) ≠ (h1 16 a.toNat)) → ∀ h3, CP (zz sl si (7, 0)) mX1_saySorry h1 [(2, 5), (0, a), (0, v1)] h3 [] → Q h3 [])) ∧ (¬ (v1 ≠ (-1)) → Q h1 [])) : vc (zz sl si (7, 0)) (fun _ => false) K Q mX1_haunt 34 0 mX1_haunt.2.2.2.2.2.2 h [(0, (2, 5)), (1, (0, a))] [] := H
set_option maxHeartbeats 600000 in
theorem c_X1_haunt5 {sl : Nat} {si : Nat → Int} {h h' : PH} {L : PH} {a : Int} (hL : CL 5 h L) (hw : W9 L) (ha : 0 ≤ a ∧ a < L 0 4) (hc : CP (zz sl si (7, 0)) mX1_haunt h [(2, 5), (0, a)] h' []) : CL 5 h' (if amL L a.toNat (L 0 4).toNat = -1 then L else if L 11 (amL L a.toNat (L 0 4).toNat).toNat = L 11 a.toNat then soL L a.toNat (amL L a.toNat (L 0 4).toNat).toNat else uph L 11 a.toNat (nxT L (atL L a.toNat) (atL L (amL L a.toNat (L 0 4).toNat).toNat))) ∧ (∀ c k : Nat, ¬ (c = 5 ∧ (k = 12 ∨ k = 13)) → ¬ (c = 12 ∨ c = 13 ∨ c = 16 ∨ c = 20) → h' c k = h c k) := by
  have q : (fun (xh : PH) (r : List ZV) => CL 5 xh (if amL L a.toNat (L 0 4).toNat = -1 then L else if L 11 (amL L a.toNat (L 0 4).toNat).toNat = L 11 a.toNat then soL L a.toNat (amL L a.toNat (L 0 4).toNat).toNat else uph L 11 a.toNat (nxT L (atL L a.toNat) (atL L (amL L a.toNat (L 0 4).toNat).toNat))) ∧ (∀ c k : Nat, ¬ (c = 5 ∧ (k = 12 ∨ k = 13)) → ¬ (c = 12 ∨ c = 13 ∨ c = 16 ∨ c = 20) → xh c k = h c k)) h' [] := by
    refine cp_vc (cut := (fun _ => false)) (K := fun p hx lv st => False) (Q := fun (xh : PH) (r : List ZV) => CL 5 xh (if amL L a.toNat (L 0 4).toNat = -1 then L else if L 11 (amL L a.toNat (L 0 4).toNat).toNat = L 11 a.toNat then soL L a.toNat (amL L a.toNat (L 0 4).toNat).toNat else uph L 11 a.toNat (nxT L (atL L a.toNat) (atL L (amL L a.toNat (L 0 4).toNat).toNat))) ∧ (∀ c k : Nat, ¬ (c = 5 ∧ (k = 12 ∨ k = 13)) → ¬ (c = 12 ∨ c = 13 ∨ c = 16 ∨ c = 20) → xh c k = h c k)) (v_X1_haunt5 ?_) (fun pc hx lv st hcut hK => ?_) hc
    · exact (fun h1 v1 p1 q1 => ⟨fun c1 => (fun b2 r3 => (fun b4 r5 => ⟨fun c6 => (fun b7 r8 => (fun b9 r10 => (fun h2 v2 p2 q2 => (fun b11 => (by have h8 := hw.1.2.1; obtain ⟨t1, w1⟩ := c_X1_aimOf5 hL hw.1 hw.2.2.1 hw.2.2.2.1 ha p1; have t1 := t1.symm; subst t1; have bm := amL_b (L := L) (p := a.toNat) (L 0 4).toNat; rw [← w1] at bm ⊢; have am := amL_w (L := L) (p := a.toNat) (L 0 4).toNat (by rw [← w1]; exact c1); rw [← w1] at am; have hv := (hw.2.2.1 v1.toNat (by omega)).1; have hA := (hw.2.2.1 a.toNat (by omega)).1; have k1 : h 16 v1.toNat = L 11 v1.toNat := hL 11 _ (il11 (by omega)); have k2 : h 16 a.toNat = L 11 a.toNat := hL 11 _ (il11 (by omega)); rw [k1, k2] at c6; have h7 := hw.1.1; rw [k1, k2] at p2; obtain ⟨t2, w2⟩ := c_X5_nextHouse5 (by omega) (by omega) p2; have t2 := t2.symm; subst t2; have l4 : h 9 (7 * (L 11 a.toNat).toNat + (L 11 v1.toNat).toNat) = L 4 (7 * (L 11 a.toNat).toNat + (L 11 v1.toNat).toNat) := hL 4 _ (il4 (by omega)); have tb := (hw.2.2.2.1 (L 11 a.toNat).toNat (L 11 v1.toNat).toNat (by omega) (by omega)).2; have am2 : WLn L (L 11 a.toNat).toNat (L 11 v1.toNat).toNat < 1000000 := am.2; have wz : 1 ≤ WLn L (L 11 a.toNat).toNat (L 11 v1.toNat).toNat := (by have w0 := WLn_0 (L := L) (f := (L 11 a.toNat).toNat) (t := (L 11 v1.toNat).toNat); have wp := WLn_z (L := L) (f := (L 11 a.toNat).toNat) (t := (L 11 v1.toNat).toNat); have := fun z => wp z; by_cases z : WLn L (L 11 a.toNat).toNat (L 11 v1.toNat).toNat = 0; (have := wp z; exfalso; omega); omega); rw [l4, tb wz (by omega)] at w2; rw [if_neg (by omega), if_neg c6, w2]; exact ⟨hL.up 11 _ _, fun c k y1 y2 => up_ne (by omega)⟩))))), fun c6 => (fun h3 p3 => (by have h8 := hw.1.2.1; obtain ⟨t1, w1⟩ := c_X1_aimOf5 hL hw.1 hw.2.2.1 hw.2.2.2.1 ha p1; have t1 := t1.symm; subst t1; have bm := amL_b (L := L) (p := a.toNat) (L 0 4).toNat; rw [← w1] at bm ⊢; have am := amL_w (L := L) (p := a.toNat) (L 0 4).toNat (by rw [← w1]; exact c1); rw [← w1] at am; have hv := (hw.2.2.1 v1.toNat (by omega)).1; have hA := (hw.2.2.1 a.toNat (by omega)).1; have k1 : h 16 v1.toNat = L 11 v1.toNat := hL 11 _ (il11 (by omega)); have k2 : h 16 a.toNat = L 11 a.toNat := hL 11 _ (il11 (by omega)); rw [k1, k2] at c6; obtain ⟨x1, x2⟩ := c_X1_saySorry5 hL hw ha (by omega) am.1 p3; rw [if_neg (by omega), if_pos (Classical.not_not.mp c6)]; exact ⟨x1, x2⟩))⟩)), fun c1 => (by have h8 := hw.1.2.1; obtain ⟨t1, w1⟩ := c_X1_aimOf5 hL hw.1 hw.2.2.1 hw.2.2.2.1 ha p1; have t1 := t1.symm; subst t1; have bm := amL_b (L := L) (p := a.toNat) (L 0 4).toNat; rw [← w1] at bm ⊢; rw [if_pos (Classical.not_not.mp c1)]; exact ⟨hL, fun _ _ _ _ => rfl⟩)⟩)
    · exact hK.elim
  exact q
set_option maxRecDepth 10000 in
theorem v_X1_isGhost5 {sl : Nat} {si : Nat → Int} {K : Nat → PH → ZL → List ZV → Prop} {Q : PH → List ZV → Prop} {h : PH}  {a : Int} (H : R32 (h 5 7) → ∀ h1 v1, CP (zz sl si (7, 0)) mX11_has h [(0, (h 5 7)), (0, a)] h1 [(0, v1)] → v1 = 0 ∨ v1 = 1 → (v1 = 0 → Q h1 [(0, 0)]) ∧ (¬ (v1 = 0) → 0 ≤ a ∧ a < (8 : Nat) → R32 (h1 13 a.toNat) → ((h1 13 a.toNat) ≤ 0 → Q h1 [(0, 0)]) ∧ (¬ ((h1 13 a.toNat) ≤ 0) → Q h1 [(0, 1)]))) : vc (zz sl si (7, 0)) (fun _ => false) K Q mX1_isGhost 16 0 mX1_isGhost.2.2.2.2.2.2 h [(0, (2, 5)), (1, (0, a))] [] := H
set_option maxHeartbeats 600000 in
theorem c_X1_isGhost5 {sl : Nat} {si : Nat → Int} {h h' : PH} {L : PH} {a : Int} {v : Int} (hL : CL 5 h L) (ha : 0 ≤ a ∧ a < 8) (hc : CP (zz sl si (7, 0)) mX1_isGhost h [(2, 5), (0, a)] h' [(0, v)]) : h' = h ∧ (v = 1 ↔ bB (L 0 7) a.toNat = true ∧ 0 < L 8 a.toNat) := by
  have q : (fun (xh : PH) (r : List ZV) => ∀ v : Int, r = [(0, v)] → (xh = h ∧ (v = 1 ↔ bB (L 0 7) a.toNat = true ∧ 0 < L 8 a.toNat))) h' [(0, v)] := by
    refine cp_vc (cut := (fun _ => false)) (K := fun p hx lv st => False) (Q := fun (xh : PH) (r : List ZV) => ∀ v : Int, r = [(0, v)] → (xh = h ∧ (v = 1 ↔ bB (L 0 7) a.toNat = true ∧ 0 < L 8 a.toNat))) (v_X1_isGhost5 ?_) (fun pc hx lv st hcut hK => ?_) hc
    · exact (fun r1 => (fun h1 v1 p1 q1 => by obtain ⟨t1, e1⟩ := c_X11_hasB p1; have t1 := t1.symm; subst t1; exact ⟨fun c2 => (by intro v e; cases e; have k7 : h 5 7 = L 0 7 := hL 0 7 (Or.inl ⟨rfl, Or.inr (Or.inl rfl)⟩); rw [k7, bt_z (by omega) (by omega)] at e1; exact ⟨rfl, ⟨fun z => by omega, fun z => by have := e1.mpr z.1; omega⟩⟩), fun c2 => (fun b3 r4 => ⟨fun c5 => (by intro v e; cases e; have k8 : h 13 a.toNat = L 8 a.toNat := hL 8 _ (il8 (by omega)); rw [k8] at c5; exact ⟨rfl, ⟨fun z => by omega, fun z => absurd z.2 (by omega)⟩⟩), fun c5 => (by intro v e; cases e; have k7 : h 5 7 = L 0 7 := hL 0 7 (Or.inl ⟨rfl, Or.inr (Or.inl rfl)⟩); rw [k7, bt_z (by omega) (by omega)] at e1; have k8 : h 13 a.toNat = L 8 a.toNat := hL 8 _ (il8 (by omega)); rw [k8] at c5; exact ⟨rfl, ⟨fun _ => ⟨e1.mp (by omega), by omega⟩, fun _ => rfl⟩⟩)⟩)⟩))
    · exact hK.elim
  exact q v rfl
set_option maxRecDepth 10000 in
theorem v_X1_passNights5 {sl : Nat} {si : Nat → Int} {K : Nat → PH → ZL → List ZV → Prop} {Q : PH → List ZV → Prop} {h : PH}  {a : Int} (H : K 2 h [(2, (0, 0)), (0, (2, 5)), (1, (0, a))] []) : vc (zz sl si (7, 0)) (fun p => Nat.beq p 2 || Nat.beq p 19) K Q mX1_passNights 4 0 mX1_passNights.2.2.2.2.2.2 h [(0, (2, 5)), (1, (0, a))] [] := H
set_option maxRecDepth 10000 in
theorem v_X1_passNights5_2 {sl : Nat} {si : Nat → Int} {K : Nat → PH → ZL → List ZV → Prop} {Q : PH → List ZV → Prop} {h : PH}  {a : Int} {k : Int} (H : (a ≤ k → Q h []) ∧ (¬ (a ≤ k) → R32 (h 5 12) → K 19 (uph h 5 12 (w32 ((h 5 12) + 1))) [(3, (0, 0)), (0, (2, 5)), (1, (0, a)), (2, (0, k))] [])) : vc (zz sl si (7, 0)) (fun p => Nat.beq p 2 || Nat.beq p 19) K Q mX1_passNights 13 2 (ax_jmp mX1_passNights.2.2.2.2.2.2 2) h [(0, (2, 5)), (1, (0, a)), (2, (0, k))] [] := H
set_option maxRecDepth 10000 in
theorem v_X1_passNights5_19 {sl : Nat} {si : Nat → Int} {K : Nat → PH → ZL → List ZV → Prop} {Q : PH → List ZV → Prop} {h : PH}  {a : Int} {k p : Int} (H : R32 (h 5 4) → ((h 5 4) ≤ p → K 2 h [(2, (0, w32 (k + 1))), (0, (2, 5)), (1, (0, a)), (3, (0, p))] []) ∧ (¬ ((h 5 4) ≤ p) → ∀ h1 v1, CP (zz sl si (7, 0)) mX1_isGhost h [(2, 5), (0, p)] h1 [(0, v1)] → v1 = 0 ∨ v1 = 1 → (v1 = 0 → K 19 h1 [(3, (0, w32 (p + 1))), (0, (2, 5)), (1, (0, a)), (2, (0, k))] []) ∧ (¬ (v1 = 0) → ∀ h2, CP (zz sl si (7, 0)) mX1_haunt h1 [(2, 5), (0, p)] h2 [] → K 19 h2 [(3, (0, w32 (p + 1))), (0, (2, 5)), (1, (0, a)), (2, (0, k))] []))) : vc (zz sl si (7, 0)) (fun p => Nat.beq p 2 || Nat.beq p 19) K Q mX1_passNights 15 19 (ax_jmp mX1_passNights.2.2.2.2.2.2 19) h [(0, (2, 5)), (1, (0, a)), (2, (0, k)), (3, (0, p))] [] := H
set_option maxHeartbeats 600000 in
theorem c_X1_passNights5 {sl : Nat} {si : Nat → Int} {h h' : PH} {L : PH} {a : Int} (hL : CL 5 h L) (hw : W9 L) (ha : 0 ≤ a ∧ a ≤ 9999) (hc : CP (zz sl si (7, 0)) mX1_passNights h [(2, 5), (0, a)] h' []) : CL 5 h' (nsL L a.toNat) ∧ (∀ c k : Nat, ¬ (c = 5 ∧ (k = 12 ∨ k = 13)) → ¬ (c = 12 ∨ c = 13 ∨ c = 16 ∨ c = 20) → h' c k = h c k) := by
  have q : (fun (xh : PH) (r : List ZV) => CL 5 xh (nsL L a.toNat) ∧ (∀ c k : Nat, ¬ (c = 5 ∧ (k = 12 ∨ k = 13)) → ¬ (c = 12 ∨ c = 13 ∨ c = 16 ∨ c = 20) → xh c k = h c k)) h' [] := by
    refine cp_vc (cut := (fun p => Nat.beq p 2 || Nat.beq p 19)) (K := fun p hx lv st => (p = 2 ∧ lK (fun u : Nat => [(0, (2, 5)), (1, (0, a)), (2, (0, (u : Int)))]) (fun u hx => (u : Int) ≤ a ∧ CL 5 hx (nsL L u) ∧ (∀ c k : Nat, ¬ (c = 5 ∧ (k = 12 ∨ k = 13)) → ¬ (c = 12 ∨ c = 13 ∨ c = 16 ∨ c = 20) → hx c k = h c k)) p hx lv st) ∨ (p = 19 ∧ lN2 (fun u1 u2 : Nat => [(0, (2, 5)), (1, (0, a)), (2, (0, (u1 : Int))), (3, (0, (u2 : Int)))]) (fun u1 u2 hx => (u1 : Int) < a ∧ (u2 : Int) ≤ L 0 4 ∧ CL 5 hx (niL (nsL L u1) u2) ∧ (∀ c k : Nat, ¬ (c = 5 ∧ (k = 12 ∨ k = 13)) → ¬ (c = 12 ∨ c = 13 ∨ c = 16 ∨ c = 20) → hx c k = h c k)) p hx lv st)) (Q := fun (xh : PH) (r : List ZV) => CL 5 xh (nsL L a.toNat) ∧ (∀ c k : Nat, ¬ (c = 5 ∧ (k = 12 ∨ k = 13)) → ¬ (c = 12 ∨ c = 13 ∨ c = 16 ∨ c = 20) → xh c k = h c k)) (v_X1_passNights5 ?_) (fun pc hx lv st hcut hK => ?_) hc
    · exact (by exact Or.inl ⟨rfl, rfl, 0, ⟨by omega, hL, fun _ _ _ _ => rfl⟩, rfl, rfl, rfl, trivial⟩)
    · rcases hK with ⟨rfl, rfl, u, hJ, hs⟩ | ⟨rfl, rfl, u1, u2, hJ, hs⟩
      · obtain ⟨j1, j2, j3⟩ := hJ
        obtain ⟨w, w4, w0⟩ := nsL_w hw u
        have h8 := hw.1.2.1
        exact ⟨_, _, hs, v_X1_passNights5_2 ⟨fun c1 => (by have eu : a.toNat = u := (by omega); rw [eu]; exact ⟨j2, j3⟩), fun c1 => (fun r2 => (by have k12 : hx 5 12 = nsL L u 0 12 := j2 0 12 (Or.inl ⟨rfl, Or.inr (Or.inr (Or.inr (Or.inr (Or.inl rfl))))⟩); rw [k12]; exact Or.inr ⟨rfl, rfl, u, 0, ⟨by omega, by omega, j2.up 0 12 _, fun c k y1 y2 => by rw [up_ne (by omega)]; exact j3 c k y1 y2⟩, rfl, rfl, rfl, rfl, trivial⟩))⟩⟩
      · obtain ⟨j1, j2, j3, j4⟩ := hJ
        obtain ⟨w, w4, w0⟩ := nsL_w hw u1
        have h8 := hw.1.2.1
        obtain ⟨x, x4, x0⟩ := niL_w w u2 (by omega)
        have k4 : hx 5 4 = L 0 4 := ((j3 0 4 (Or.inl ⟨rfl, Or.inl rfl⟩)).trans x4).trans w4
        exact ⟨_, _, hs, v_X1_passNights5_19 (fun r1 => ⟨fun c2 => (by rw [k4] at c2; have eu : (nsL L u1 0 4).toNat = u2 := (by omega); exact Or.inl ⟨rfl, rfl, u1 + 1, ⟨by omega, (show CL 5 hx (niL (nsL L u1) (nsL L u1 0 4).toNat) by rw [eu]; exact j3), j4⟩, rfl, rfl, wv (by omega) (by omega) (by omega), trivial⟩), fun c2 => (fun h1 v1 p1 q1 => ⟨fun c3 => (by rw [k4] at c2; obtain ⟨t1, w1⟩ := c_X1_isGhost5 j3 (by omega) p1; have t1 := t1.symm; subst t1; rw [Int.toNat_natCast] at w1; have nh : haL (niL (nsL L u1) u2) u2 = niL (nsL L u1) u2 := if_neg (fun z => by have := w1.mpr z; omega); exact Or.inr ⟨rfl, rfl, u1, u2 + 1, ⟨by omega, by omega, (show CL 5 hx (haL (niL (nsL L u1) u2) u2) by rw [nh]; exact j3), j4⟩, rfl, rfl, rfl, wv (by omega) (by omega) (by omega), trivial⟩), fun c3 => (fun h2 p2 => (by rw [k4] at c2; obtain ⟨t1, w1⟩ := c_X1_isGhost5 j3 (by omega) p1; have t1 := t1.symm; subst t1; rw [Int.toNat_natCast] at w1; obtain ⟨y1, y2⟩ := c_X1_haunt5 j3 x (by omega) p2; rw [Int.toNat_natCast] at y1; exact Or.inr ⟨rfl, rfl, u1, u2 + 1, ⟨by omega, by omega, (show CL 5 h2 (haL (niL (nsL L u1) u2) u2) by unfold haL; rw [if_pos (w1.mp (by omega))]; exact y1), fun c k z1 z2 => (y2 c k z1 z2).trans (j4 c k z1 z2)⟩, rfl, rfl, rfl, wv (by omega) (by omega) (by omega), trivial⟩))⟩)⟩)⟩
  exact q
end
section
/-! 45z.7f.both -/
/-! NIGHTS: the reference does what the class does -/
theorem bt_B {x : Int} {i : Nat} (h : i < 8) : bt x i = 1 ↔ bB x i = true := bt_1 h
/-- the numbers of a LAND in the reference's row, but for the names -/
def RN9 (h L : PH) : Prop :=
  (h 170 0 = L 1 0 ∧ h 170 1 = L 0 4 ∧ h 170 2 = L 0 12 ∧ h 170 3 = L 0 13) ∧
  (∀ i : Nat, i < 7 → h 170 (6 + 3 * i) = bt (L 1 1) i ∧ h 170 (7 + 3 * i) = L 2 i ∧ h 170 (8 + 3 * i) = L 15 i) ∧
  (∀ p : Nat, p < 8 → ((p : Int) < L 0 4 → h 170 (27 + 5 * p) = L 11 p ∧ h 170 (28 + 5 * p) = L 12 p) ∧ h 170 (29 + 5 * p) = bt (L 0 7) p ∧ h 170 (30 + 5 * p) = bt (L 0 8) p ∧ h 170 (31 + 5 * p) = bt (L 0 9) p) ∧
  (∀ q : Nat, q < 64 → h 170 (67 + q) = L 7 q) ∧
  (∀ p : Nat, p < 8 → h 170 (131 + 4 * p) = L 14 p ∧ ∀ k : Nat, k < 3 → (k : Int) < L 14 p → h 170 (132 + 4 * p + k) = L 13 (3 * p + k))
theorem RLd.n9 {nb : Nat} {h L : PH} (r : RLd 0 nb h L) : RN9 h L := by
  obtain ⟨a, b, c, d, e, -, -⟩ := r
  refine ⟨a, fun i hi => ?_, fun p hp => ?_, fun q hq => ?_, fun p hp => ?_⟩
  · have z := b i hi; rw [show 0 + 6 + 3 * i = 6 + 3 * i by omega, show 0 + 7 + 3 * i = 7 + 3 * i by omega, show 0 + 8 + 3 * i = 8 + 3 * i by omega] at z; exact z
  · have z := c p hp; rw [show 0 + 27 + 5 * p = 27 + 5 * p by omega, show 0 + 28 + 5 * p = 28 + 5 * p by omega, show 0 + 29 + 5 * p = 29 + 5 * p by omega, show 0 + 30 + 5 * p = 30 + 5 * p by omega, show 0 + 31 + 5 * p = 31 + 5 * p by omega] at z; exact z
  · have z := d q hq; rw [show 0 + 67 + q = 67 + q by omega] at z; exact z
  · obtain ⟨z1, z2⟩ := e p hp
    rw [show 0 + 131 + 4 * p = 131 + 4 * p by omega] at z1
    exact ⟨z1, fun k hk q => by have z := z2 k hk q; rw [show 0 + 132 + 4 * p + k = 132 + 4 * p + k by omega] at z; exact z⟩
theorem RN9.ld {nb : Nat} {h L : PH} (r : RN9 h L) (n1 : ∀ i : Nat, (i : Int) < L 1 0 → Nm (L 9 i) (h 171 (nb + i))) (n2 : ∀ p : Nat, (p : Int) < L 0 4 → Nm (L 10 p) (h 171 (nb + 7 + p))) : RLd 0 nb h L := by
  obtain ⟨a, b, c, d, e⟩ := r
  refine ⟨a, fun i hi => ?_, fun p hp => ?_, fun q hq => ?_, fun p hp => ?_, n1, n2⟩
  · rw [show 0 + 6 + 3 * i = 6 + 3 * i by omega, show 0 + 7 + 3 * i = 7 + 3 * i by omega, show 0 + 8 + 3 * i = 8 + 3 * i by omega]; exact b i hi
  · rw [show 0 + 27 + 5 * p = 27 + 5 * p by omega, show 0 + 28 + 5 * p = 28 + 5 * p by omega, show 0 + 29 + 5 * p = 29 + 5 * p by omega, show 0 + 30 + 5 * p = 30 + 5 * p by omega, show 0 + 31 + 5 * p = 31 + 5 * p by omega]; exact c p hp
  · rw [show 0 + 67 + q = 67 + q by omega]; exact d q hq
  · rw [show 0 + 131 + 4 * p = 131 + 4 * p by omega]
    exact ⟨(e p hp).1, fun k hk q => by rw [show 0 + 132 + 4 * p + k = 132 + 4 * p + k by omega]; exact (e p hp).2 k hk q⟩
theorem RN9.e {h h' L : PH} (r : RN9 h L) (e : h' 170 = h 170) : RN9 h' L := by
  unfold RN9
  rw [e]
  exact r
theorem rs_sh {g g' : Nat → Int} {i j : Nat} : ∀ n : Nat, (∀ k : Nat, k < n → g (i + k) = g' (j + k)) → rs g i n = rs g' j n
  | 0, _ => rfl
  | n + 1, e => by
    show rs g i n + g (i + n) = rs g' j n + g' (j + n)
    rw [rs_sh n (fun k hk => e k (by omega)), e n (by omega)]
theorem RN9.u2 {h L : PH} (r : RN9 h L) {v : Int} : RN9 (uph h 170 (2) v) (uph L 0 (12) v) := by
  obtain ⟨⟨a1, a2, a3, a4⟩, b, c, d, e⟩ := r
  refine ⟨⟨?_, ?_, ?_, ?_⟩, fun i hi => ⟨?_, ?_, ?_⟩, fun p hp => ⟨fun z => ⟨?_, ?_⟩, ?_, ?_, ?_⟩, fun q hq => ?_, fun p hp => ⟨?_, fun k hk z => ?_⟩⟩
  · rw [up_ne (by omega), up_ne (by omega)]; exact a1
  · rw [up_ne (by omega), up_ne (by omega)]; exact a2
  · rw [up_sm, up_sm]
  · rw [up_ne (by omega), up_ne (by omega)]; exact a4
  · rw [up_ne (by omega), up_ne (by omega)]; exact (b i hi).1
  · rw [up_ne (by omega), up_ne (by omega)]; exact (b i hi).2.1
  · rw [up_ne (by omega), up_ne (by omega)]; exact (b i hi).2.2
  · rw [up_ne (by omega)] at z; rw [up_ne (by omega), up_ne (by omega)]; exact ((c p hp).1 z).1
  · rw [up_ne (by omega)] at z; rw [up_ne (by omega), up_ne (by omega)]; exact ((c p hp).1 z).2
  · rw [up_ne (by omega), up_ne (by omega)]; exact (c p hp).2.1
  · rw [up_ne (by omega), up_ne (by omega)]; exact (c p hp).2.2.1
  · rw [up_ne (by omega), up_ne (by omega)]; exact (c p hp).2.2.2
  · rw [up_ne (by omega), up_ne (by omega)]; exact d q hq
  · rw [up_ne (by omega), up_ne (by omega)]; exact (e p hp).1
  · rw [up_ne (by omega)] at z; rw [up_ne (by omega), up_ne (by omega)]; exact (e p hp).2 k hk z
theorem RN9.u3 {h L : PH} (r : RN9 h L) {v : Int} : RN9 (uph h 170 (3) v) (uph L 0 (13) v) := by
  obtain ⟨⟨a1, a2, a3, a4⟩, b, c, d, e⟩ := r
  refine ⟨⟨?_, ?_, ?_, ?_⟩, fun i hi => ⟨?_, ?_, ?_⟩, fun p hp => ⟨fun z => ⟨?_, ?_⟩, ?_, ?_, ?_⟩, fun q hq => ?_, fun p hp => ⟨?_, fun k hk z => ?_⟩⟩
  · rw [up_ne (by omega), up_ne (by omega)]; exact a1
  · rw [up_ne (by omega), up_ne (by omega)]; exact a2
  · rw [up_ne (by omega), up_ne (by omega)]; exact a3
  · rw [up_sm, up_sm]
  · rw [up_ne (by omega), up_ne (by omega)]; exact (b i hi).1
  · rw [up_ne (by omega), up_ne (by omega)]; exact (b i hi).2.1
  · rw [up_ne (by omega), up_ne (by omega)]; exact (b i hi).2.2
  · rw [up_ne (by omega)] at z; rw [up_ne (by omega), up_ne (by omega)]; exact ((c p hp).1 z).1
  · rw [up_ne (by omega)] at z; rw [up_ne (by omega), up_ne (by omega)]; exact ((c p hp).1 z).2
  · rw [up_ne (by omega), up_ne (by omega)]; exact (c p hp).2.1
  · rw [up_ne (by omega), up_ne (by omega)]; exact (c p hp).2.2.1
  · rw [up_ne (by omega), up_ne (by omega)]; exact (c p hp).2.2.2
  · rw [up_ne (by omega), up_ne (by omega)]; exact d q hq
  · rw [up_ne (by omega), up_ne (by omega)]; exact (e p hp).1
  · rw [up_ne (by omega)] at z; rw [up_ne (by omega), up_ne (by omega)]; exact (e p hp).2 k hk z
theorem RN9.ul {h L : PH} (r : RN9 h L) {n : Nat} {v : Int} (hn : n < 7) : RN9 (uph h 170 (8 + 3 * n) v) (uph L 15 (n) v) := by
  obtain ⟨⟨a1, a2, a3, a4⟩, b, c, d, e⟩ := r
  refine ⟨⟨?_, ?_, ?_, ?_⟩, fun i hi => ⟨?_, ?_, ?_⟩, fun p hp => ⟨fun z => ⟨?_, ?_⟩, ?_, ?_, ?_⟩, fun q hq => ?_, fun p hp => ⟨?_, fun k hk z => ?_⟩⟩
  · rw [up_ne (by omega), up_ne (by omega)]; exact a1
  · rw [up_ne (by omega), up_ne (by omega)]; exact a2
  · rw [up_ne (by omega), up_ne (by omega)]; exact a3
  · rw [up_ne (by omega), up_ne (by omega)]; exact a4
  · rw [up_ne (by omega), up_ne (by omega)]; exact (b i hi).1
  · rw [up_ne (by omega), up_ne (by omega)]; exact (b i hi).2.1
  · by_cases g : i = n
    · rw [g, up_sm, up_sm]
    · rw [up_ne (by omega), up_ne (by omega)]; exact (b i hi).2.2
  · rw [up_ne (by omega)] at z; rw [up_ne (by omega), up_ne (by omega)]; exact ((c p hp).1 z).1
  · rw [up_ne (by omega)] at z; rw [up_ne (by omega), up_ne (by omega)]; exact ((c p hp).1 z).2
  · rw [up_ne (by omega), up_ne (by omega)]; exact (c p hp).2.1
  · rw [up_ne (by omega), up_ne (by omega)]; exact (c p hp).2.2.1
  · rw [up_ne (by omega), up_ne (by omega)]; exact (c p hp).2.2.2
  · rw [up_ne (by omega), up_ne (by omega)]; exact d q hq
  · rw [up_ne (by omega), up_ne (by omega)]; exact (e p hp).1
  · rw [up_ne (by omega)] at z; rw [up_ne (by omega), up_ne (by omega)]; exact (e p hp).2 k hk z
theorem RN9.ua {h L : PH} (r : RN9 h L) {n : Nat} {v : Int} (hn : n < 8) : RN9 (uph h 170 (27 + 5 * n) v) (uph L 11 (n) v) := by
  obtain ⟨⟨a1, a2, a3, a4⟩, b, c, d, e⟩ := r
  refine ⟨⟨?_, ?_, ?_, ?_⟩, fun i hi => ⟨?_, ?_, ?_⟩, fun p hp => ⟨fun z => ⟨?_, ?_⟩, ?_, ?_, ?_⟩, fun q hq => ?_, fun p hp => ⟨?_, fun k hk z => ?_⟩⟩
  · rw [up_ne (by omega), up_ne (by omega)]; exact a1
  · rw [up_ne (by omega), up_ne (by omega)]; exact a2
  · rw [up_ne (by omega), up_ne (by omega)]; exact a3
  · rw [up_ne (by omega), up_ne (by omega)]; exact a4
  · rw [up_ne (by omega), up_ne (by omega)]; exact (b i hi).1
  · rw [up_ne (by omega), up_ne (by omega)]; exact (b i hi).2.1
  · rw [up_ne (by omega), up_ne (by omega)]; exact (b i hi).2.2
  · rw [up_ne (by omega)] at z; by_cases g : p = n
    · rw [g, up_sm, up_sm]
    · rw [up_ne (by omega), up_ne (by omega)]; exact ((c p hp).1 z).1
  · rw [up_ne (by omega)] at z; rw [up_ne (by omega), up_ne (by omega)]; exact ((c p hp).1 z).2
  · rw [up_ne (by omega), up_ne (by omega)]; exact (c p hp).2.1
  · rw [up_ne (by omega), up_ne (by omega)]; exact (c p hp).2.2.1
  · rw [up_ne (by omega), up_ne (by omega)]; exact (c p hp).2.2.2
  · rw [up_ne (by omega), up_ne (by omega)]; exact d q hq
  · rw [up_ne (by omega), up_ne (by omega)]; exact (e p hp).1
  · rw [up_ne (by omega)] at z; rw [up_ne (by omega), up_ne (by omega)]; exact (e p hp).2 k hk z
theorem RN9.uo {h L : PH} (r : RN9 h L) {n : Nat} {v : Int} (hn : n < 64) : RN9 (uph h 170 (67 + n) v) (uph L 7 (n) v) := by
  obtain ⟨⟨a1, a2, a3, a4⟩, b, c, d, e⟩ := r
  refine ⟨⟨?_, ?_, ?_, ?_⟩, fun i hi => ⟨?_, ?_, ?_⟩, fun p hp => ⟨fun z => ⟨?_, ?_⟩, ?_, ?_, ?_⟩, fun q hq => ?_, fun p hp => ⟨?_, fun k hk z => ?_⟩⟩
  · rw [up_ne (by omega), up_ne (by omega)]; exact a1
  · rw [up_ne (by omega), up_ne (by omega)]; exact a2
  · rw [up_ne (by omega), up_ne (by omega)]; exact a3
  · rw [up_ne (by omega), up_ne (by omega)]; exact a4
  · rw [up_ne (by omega), up_ne (by omega)]; exact (b i hi).1
  · rw [up_ne (by omega), up_ne (by omega)]; exact (b i hi).2.1
  · rw [up_ne (by omega), up_ne (by omega)]; exact (b i hi).2.2
  · rw [up_ne (by omega)] at z; rw [up_ne (by omega), up_ne (by omega)]; exact ((c p hp).1 z).1
  · rw [up_ne (by omega)] at z; rw [up_ne (by omega), up_ne (by omega)]; exact ((c p hp).1 z).2
  · rw [up_ne (by omega), up_ne (by omega)]; exact (c p hp).2.1
  · rw [up_ne (by omega), up_ne (by omega)]; exact (c p hp).2.2.1
  · rw [up_ne (by omega), up_ne (by omega)]; exact (c p hp).2.2.2
  · by_cases g : q = n
    · rw [g, up_sm, up_sm]
    · rw [up_ne (by omega), up_ne (by omega)]; exact d q hq
  · rw [up_ne (by omega), up_ne (by omega)]; exact (e p hp).1
  · rw [up_ne (by omega)] at z; rw [up_ne (by omega), up_ne (by omega)]; exact (e p hp).2 k hk z
theorem RN9.l8 {h L L' : PH} (r : RN9 h L) (e : ∀ j k : Nat, j ≠ 8 → L' j k = L j k) : RN9 h L' := by
  obtain ⟨⟨a1, a2, a3, a4⟩, b, c, d, e9⟩ := r
  refine ⟨⟨by rw [e _ _ (by omega)]; exact a1, by rw [e _ _ (by omega)]; exact a2, by rw [e _ _ (by omega)]; exact a3, by rw [e _ _ (by omega)]; exact a4⟩, fun i hi => ?_, fun p hp => ?_, fun q hq => by rw [e _ _ (by omega)]; exact d q hq, fun p hp => ?_⟩
  · rw [e 1 1 (by omega), e 2 i (by omega), e 15 i (by omega)]; exact b i hi
  · rw [e 0 4 (by omega), e 11 p (by omega), e 12 p (by omega), e 0 7 (by omega), e 0 8 (by omega), e 0 9 (by omega)]; exact c p hp
  · rw [e 14 p (by omega)]
    exact ⟨(e9 p hp).1, fun k hk z => by rw [e 13 _ (by omega)]; exact (e9 p hp).2 k hk z⟩
theorem RN9.ow {h L : PH} (r : RN9 h L) {x y v : Int} (hx : 0 ≤ x ∧ x < 8) (hy : 0 ≤ y ∧ y < 8) : RN9 (uph h 170 (67 + 8 * x.toNat + y.toNat) v) (owe L x y v) := by
  have a := r.uo (n := 8 * x.toNat + y.toNat) (v := v) (by omega)
  rw [show 67 + (8 * x.toNat + y.toNat) = 67 + 8 * x.toNat + y.toNat by omega] at a
  refine a.l8 (fun j k hj => ?_)
  unfold owe
  by_cases e : j = 7 ∧ k = 8 * x.toNat + y.toNat
  · rw [e.1, e.2, up_sm, up_sm]
  · rw [up_ne (by omega), up_ne (by omega), up_ne (by omega)]
section BR
variable {h L : PH}
theorem at_b (r : RN9 h L) {p : Nat} (h8 : L 0 4 ≤ 8) (hp : (p : Int) < L 0 4) : atR h p = atL L p := by
  unfold atR atL
  rw [((r.2.2.1 p (by omega)).1 hp).1]
theorem WY_l9 (r : RN9 h L) (w : W9 L) {f t : Nat} : WY h f t = WLn L f t := by
  have w1 := w.1.1
  unfold WY WLn
  rw [r.1.1]
  refine lvS_cg (fun a t ha ht => ?_) (fun t ht => ?_) 7 t
  · unfold drR
    rw [(r.2.1 a (by omega)).2.1]
    exact bt_1 (by omega)
  · unfold clR
    rw [(r.2.1 t (by omega)).1]
    exact ⟨fun z => z.elim (fun y => (bt_B (by omega)).mp y) (fun y => by omega), fun z => Or.inl ((bt_B (by omega)).mpr z)⟩
theorem am_b9 (r : RN9 h L) (w : W9 L) {p : Nat} (hp : (p : Int) < L 0 4) : ∀ q : Nat, (q : Int) ≤ L 0 4 → amR h p q = amL L p q
  | 0, _ => rfl
  | q + 1, hq => by
    have h8 := w.1.2.1
    have i := am_b9 r w hp q (by omega)
    have ab := amL_b (L := L) (p := p) q
    show cif _ _ _ = cif _ _ _
    rw [i, at_b r h8.2 hp, at_b r h8.2 (p := q) (by omega), WY_l9 r w, show 67 + 8 * p + q = 67 + (8 * p + q) by omega, r.2.2.2.1 (8 * p + q) (by omega)]
    refine cif_c ⟨?_, ?_⟩
    · rintro ⟨x, y, z⟩
      refine ⟨x, y, z.elim Or.inl (fun u => ?_)⟩
      by_cases c : amL L p q = -1
      · exact Or.inl c
      · rw [at_b r h8.2 (p := (amL L p q).toNat) (by omega), WY_l9 r w] at u; exact Or.inr u
    · rintro ⟨x, y, z⟩
      refine ⟨x, y, z.elim Or.inl (fun u => ?_)⟩
      by_cases c : amL L p q = -1
      · exact Or.inl c
      · rw [at_b r h8.2 (p := (amL L p q).toNat) (by omega), WY_l9 r w]; exact Or.inr u
theorem nx_b9 (r : RN9 h L) (w : W9 L) {f t : Nat} (hf : f < 7) : ∀ k : Nat, k ≤ 7 → nxR h f t k = nxS L f t k
  | 0, _ => rfl
  | k + 1, hk => by
    have i := nx_b9 r w (t := t) hf k (by omega)
    show cif _ _ _ = cif _ _ _
    rw [i, WY_l9 r w, WY_l9 r w]
    unfold drR
    rw [(r.2.1 f hf).2.1, (r.2.1 k (by omega)).1]
    exact cif_c ⟨fun ⟨x, y, z, u⟩ => ⟨x, (bt_1 (by omega)).mp y, fun q => z ((bt_B (by omega)).mpr q), u⟩, fun ⟨x, y, z, u⟩ => ⟨x, (bt_1 (by omega)).mpr y, fun q => z ((bt_B (by omega)).mp q), u⟩⟩
theorem wz_b9 (r : RN9 h L) (w : W9 L) {p m : Nat} (hp : (p : Int) < L 0 4) (hm : (m : Int) < L 0 4) : wzR h p m = nxT L (atL L p) (atL L m) := by
  have h8 := w.1.2.1
  have w1 := w.1.1
  have b := (w.2.2.1 p hp).1
  unfold wzR nxT
  rw [at_b r h8.2 hp, at_b r h8.2 hm, r.1.1, nx_b9 r w (by unfold atL; omega) _ (by omega), ((r.2.2.1 p (by omega)).1 hp).1]
  by_cases c : nxS L (atL L p) (atL L m) (L 1 0).toNat = -1
  · rw [if_pos c, if_pos c]; unfold atL; omega
  · rw [if_neg c, if_neg c]
theorem rs_z {g : Nat → Int} {i n : Nat} (hz : ∀ k : Nat, n ≤ k → k < 8 → g (i + k) = 0) : ∀ m : Nat, n + m ≤ 8 → rs g i (n + m) = rs g i n
  | 0, _ => rfl
  | m + 1, hm => by
    show rs g i (n + m) + g (i + (n + m)) = _
    rw [rs_z hz m (by omega), hz (n + m) (by omega) (by omega)]
    omega
theorem tot_b (r : RN9 h L) (w : W9 L) {p : Nat} (hp : p < 8) : rs (h 170) (67 + 8 * p) (h 170 1).toNat = L 8 p := by
  have h8 := w.1.2.1
  rw [r.1.2.1]
  have e : rs (h 170) (67 + 8 * p) (L 0 4).toNat = rs (L 7) (8 * p) (L 0 4).toNat := rs_sh (L 0 4).toNat (fun k hk => by rw [show 67 + 8 * p + k = 67 + (8 * p + k) by omega]; exact r.2.2.2.1 _ (by omega))
  rw [e, w.1.2.2.2.1 p hp]
  have z := rs_z (g := L 7) (i := 8 * p) (n := (L 0 4).toNat) (fun k h1 h2 => w.2.1 p k hp h2 (by omega)) (8 - (L 0 4).toNat) (by omega)
  rw [show (L 0 4).toNat + (8 - (L 0 4).toNat) = 8 by omega] at z
  exact z.symm
end BR
end
section
/-! 45z.7g.same -/
/-! SORRIES, turns, NIGHTS of both -/
theorem up_cm {h : PH} {c i j : Nat} {v w : Int} (e : i ≠ j ∨ v = w) : uph (uph h c i v) c j w = uph (uph h c j w) c i v := by
  funext a b
  simp only [up_rd]
  by_cases x : a = c ∧ b = i
  · by_cases y : a = c ∧ b = j
    · rw [if_pos y, if_pos x]; rcases e with e | e; (exact absurd (x.2.symm.trans y.2) e); exact e.symm
    · rw [if_neg y, if_pos x]
      try rw [if_pos x]
  · by_cases y : a = c ∧ b = j
    · rw [if_pos y, if_neg x]
      try rw [if_pos y]
    · rw [if_neg y, if_neg x]
      try rw [if_neg y, if_neg x]
theorem up_idv {h : PH} {c i : Nat} {v : Int} (e : h c i = v) : uph h c i v = h := by
  funext a b
  rw [up_rd]
  by_cases x : a = c ∧ b = i
  · rw [if_pos x, x.1, x.2, e]
  · rw [if_neg x]
theorem zm0 : zmin 99 0 = 0 := by decide
theorem zmi {m x : Int} (h : x ≤ m) : zmin m x = x := by
  unfold zmin
  by_cases c : x < m
  · rw [if_pos c]
  · rw [if_neg c]; omega
theorem bt_n {x : Int} {i : Nat} (h : i < 8) : bt x i = 0 ↔ ¬ bB x i = true := by
  have e : bt x i = if bB x i then 1 else 0 := bt_bB x h
  rw [e]
  cases bB x i <;> simp
theorem so_m9 {g M : PH} (r : RN9 g M) (w : W9 M) {p b : Nat} (hp : (p : Int) < M 0 4) (hb : (b : Int) < M 0 4) (ho : 0 < M 7 (8 * p + b)) : RN9 (soG g p b) (soM M p b) := by
  have h8 := w.1.2.1
  have w1 := w.1.1
  have d1 := r.2.2.2.1 (8 * p + b) (by omega)
  have d2 := r.2.2.2.1 (8 * b + p) (by omega)
  rw [show 67 + (8 * p + b) = 67 + 8 * p + b by omega] at d1
  rw [show 67 + (8 * b + p) = 67 + 8 * b + p by omega] at d2
  have q1 := w.1.2.2.2.2.1 (8 * p + b) (by omega)
  have q2 := w.1.2.2.2.2.1 (8 * b + p) (by omega)
  have ep : ((p : Int)).toNat = p := Int.toNat_natCast p
  have eb : ((b : Int)).toNat = b := Int.toNat_natCast b
  have OW : ∀ v : Int, RN9 (uph g 170 (67 + 8 * p + b) v) (owe M p b v) := fun v => by
    have z := r.ow (x := (p : Int)) (y := (b : Int)) (v := v) (by omega) (by omega)
    rw [ep, eb] at z
    exact z
  have wm : w32 (M 7 (8 * p + b) - 1) = M 7 (8 * p + b) - 1 := w32_id (by omega) (by omega)
  obtain ⟨f1, f2, f3⟩ := (r.2.2.1 b (by omega)).2
  unfold soG soM
  rw [f1, f2, f3, d1, d2, wm, r.1.2.2.1]
  by_cases c1 : bB (M 0 7) b = true
  · rw [if_pos ((bt_B (by omega)).mpr c1), if_pos c1, zm0]
    by_cases c2 : 0 < M 7 (8 * b + p)
    · rw [if_pos c2, if_pos c2, zm0, up_cm (Or.inr rfl)]
      have z := r.ow (x := (b : Int)) (y := (p : Int)) (v := 0) (by omega) (by omega)
      have z2 := z.ow (x := (p : Int)) (y := (b : Int)) (v := 0) (by omega) (by omega)
      rw [ep, eb] at z2
      exact z2
    · rw [if_neg c2, if_neg c2, zmi (by omega)]
      have ne : 8 * p + b ≠ 8 * b + p := fun z => by rw [z] at ho; exact c2 ho
      rw [up_idv (i := 67 + 8 * b + p) (v := 0) (by rw [up_ne (by omega), d2]; omega)]
      exact OW _
  · rw [if_neg (fun z => c1 ((bt_B (by omega)).mp z)), if_neg c1]
    by_cases c2 : bB (M 0 9) b = true
    · rw [if_pos ((bt_B (by omega)).mpr c2), if_pos c2, at_b r h8.2 hb]
      have ab := (w.2.2.1 b hb).1
      have a7 : atL M b < 7 := by unfold atL; omega
      have l := w.2.2.2.2.2 (atL M b) a7
      rw [(r.2.1 (atL M b) a7).2.2, w32_id (by omega) (by omega)]
      by_cases c3 : 9999 ≤ M 15 (atL M b)
      · rw [if_pos c3, up_idv (by rw [(r.2.1 (atL M b) a7).2.2]; unfold zmin; rw [if_neg (by omega)]; omega)]
        exact r
      · rw [if_neg c3, zmi (by omega)]
        exact r.ul a7
    · rw [if_neg (fun z => c2 ((bt_B (by omega)).mp z)), if_neg c2, zmi (by omega)]
      by_cases c3 : ¬ bB (M 0 8) b = true ∨ zrem (M 0 12) 2 = 1
      · rw [if_pos c3, if_pos (c3.elim (fun z => Or.inl ((bt_n (by omega)).mpr z)) Or.inr)]
        exact OW _
      · rw [if_neg c3, if_neg (fun z => c3 (z.elim (fun y => Or.inl ((bt_n (by omega)).mp y)) Or.inr))]
        exact r
theorem ha_b9 {h L : PH} (r : RN9 h L) (w : W9 L) {p : Nat} (hp : (p : Int) < L 0 4) : RN9 (haR h p) (haL L p) := by
  have h8 := w.1.2.1
  have e1 := (r.2.2.1 p (by omega)).2.1
  have eA : amR h p (h 170 1).toNat = amL L p (L 0 4).toNat := by rw [r.1.2.1]; exact am_b9 r w hp _ (by omega)
  have eT := tot_b r w (p := p) (by omega)
  have ab := amL_b (L := L) (p := p) (L 0 4).toNat
  unfold haR haL
  rw [e1, eT, eA]
  by_cases c1 : bB (L 0 7) p = true ∧ 0 < L 8 p
  · rw [if_pos ⟨(bt_B (by omega)).mpr c1.1, c1.2⟩, if_pos c1]
    by_cases c2 : amL L p (L 0 4).toNat = -1
    · rw [if_pos c2, if_pos c2]; exact r
    · rw [if_neg c2, if_neg c2]
      have aw := amL_w (L := L) (p := p) (L 0 4).toNat c2
      have k1 := ((r.2.2.1 (amL L p (L 0 4).toNat).toNat (by omega)).1 (by omega)).1
      have k2 := ((r.2.2.1 p (by omega)).1 hp).1
      rw [k1, k2]
      by_cases c3 : L 11 (amL L p (L 0 4).toNat).toNat = L 11 p
      · rw [if_pos c3, if_pos c3]
        unfold soR soL
        rw [r.1.2.2.2]
        exact so_m9 r.u3 (w.t (by omega)) (by rw [up_ne (by omega)]; exact hp) (by rw [up_ne (by omega)]; omega) (by rw [up_ne (by omega)]; exact aw.1)
      · rw [if_neg c3, if_neg c3, wz_b9 r w hp (by omega)]
        exact r.ua (by omega)
  · rw [if_neg (fun z => c1 ⟨(bt_B (by omega)).mp z.1, z.2⟩), if_neg c1]
    exact r
theorem ni_b9 {h L : PH} (r : RN9 h L) (w : W9 L) : ∀ p : Nat, (p : Int) ≤ L 0 4 → RN9 (niR h p) (niL L p)
  | 0, _ => by
    show RN9 (uph h 170 2 (w32 (h 170 2 + 1))) (uph L 0 12 (w32 (L 0 12 + 1)))
    rw [r.1.2.2.1]
    exact r.u2
  | p + 1, hp => by
    obtain ⟨x, y, z⟩ := niL_w w p (by omega)
    exact ha_b9 (ni_b9 r w p (by omega)) x (by rw [y]; omega)
theorem ns_b9 {h L : PH} (r : RN9 h L) (w : W9 L) : ∀ k : Nat, RN9 (nsR h k) (nsL L k)
  | 0 => r
  | k + 1 => by
    have i := ns_b9 r w k
    obtain ⟨x, y, z⟩ := nsL_w w k
    have h8 := x.1.2.1
    show RN9 (niR (nsR h k) (nsR h k 170 1).toNat) (niL (nsL L k) (nsL L k 0 4).toNat)
    rw [i.1.2.1]
    exact ni_b9 i x _ (by omega)
end
