/-! DEATHS: the reference's -/
def BdH (h : PH) : Prop := ∀ p : Nat, p < 8 → (0 ≤ h 170 (131 + 4 * p) ∧ h 170 (131 + 4 * p) ≤ 3) ∧ ∀ k : Nat, 1 ≤ k → k ≤ 3 → 0 ≤ h 170 (131 + 4 * p + k) ∧ h 170 (131 + 4 * p + k) ≤ 7
def hcR (g : PH) (p : Nat) : Nat := (g 170 (131 + 4 * p)).toNat
def heR (g : PH) (p k : Nat) : Nat := (g 170 (131 + 4 * p + k)).toNat
/-- how many of the first HEIRS get a part -/
noncomputable def hbR (g : PH) (p d : Nat) : Nat → Int
  | 0 => 0
  | k + 1 => hbR g p d k + cif (g 170 (29 + 5 * heR g p (k + 1)) ≠ 1 ∧ heR g p (k + 1) ≠ d) 1 0
theorem hb_b {g : PH} {p d : Nat} : ∀ k : Nat, 0 ≤ hbR g p d k ∧ hbR g p d k ≤ k
  | 0 => by
    show (0 : Int) ≤ 0 ∧ (0 : Int) ≤ _
    omega
  | k + 1 => by
    have i := hb_b (g := g) (p := p) (d := d) k
    show 0 ≤ hbR g p d k + cif _ 1 0 ∧ hbR g p d k + cif _ 1 0 ≤ _
    by_cases c : g 170 (29 + 5 * heR g p (k + 1)) ≠ 1 ∧ heR g p (k + 1) ≠ d
    · rw [cif_p c]; omega
    · rw [cif_n c]; omega
theorem hb_m {g : PH} {p d k : Nat} : ∀ j : Nat, hbR g p d k ≤ hbR g p d (k + j)
  | 0 => Int.le_refl _
  | j + 1 => by
    have i := hb_m (g := g) (p := p) (d := d) (k := k) j
    show _ ≤ hbR g p d (k + j) + cif (g 170 (29 + 5 * heR g p (k + j + 1)) ≠ 1 ∧ heR g p (k + j + 1) ≠ d) 1 0
    by_cases c : g 170 (29 + 5 * heR g p (k + j + 1)) ≠ 1 ∧ heR g p (k + j + 1) ≠ d
    · rw [cif_p c]; omega
    · rw [cif_n c]; omega
/-- the part of HEIR m + 1 -/
noncomputable def paR (g : PH) (p d m : Nat) : Int := if hbR g p d m = 0 then g 170 (67 + 8 * d + p) - (hbR g p d (hcR g p) - 1) * zdiv (g 170 (67 + 8 * d + p)) 3 else zdiv (g 170 (67 + 8 * d + p)) 3
theorem zd3a : ∀ n : Fin 100, 0 ≤ zdiv (n.val : Int) 3 ∧ 3 * zdiv (n.val : Int) 3 ≤ n.val := by decide +kernel
theorem zd3 {w : Int} (h0 : 0 ≤ w) (h1 : w ≤ 99) : 0 ≤ zdiv w 3 ∧ 3 * zdiv w 3 ≤ w := by
  have z := zd3a ⟨w.toNat, by omega⟩
  have e : ((w.toNat : Nat) : Int) = w := by omega
  have z : 0 ≤ zdiv ((w.toNat : Nat) : Int) 3 ∧ 3 * zdiv ((w.toNat : Nat) : Int) 3 ≤ ((w.toNat : Nat) : Int) := z
  rw [e] at z
  exact z
theorem n4 {n : Int} (h0 : 0 ≤ n) (h1 : n ≤ 3) : n = 0 ∨ n = 1 ∨ n = 2 ∨ n = 3 := by omega
theorem pa_w {w q n : Int} (w0 : 0 ≤ w) (w1 : w ≤ 99) (q0 : 0 ≤ q) (q1 : 3 * q ≤ w) (n0 : 0 ≤ n) (n1 : n ≤ 3) : w32 (w - w32 (w32 (n - 1) * q)) = w - (n - 1) * q := by
  rcases n4 n0 n1 with e | e | e | e <;> subst e
  · rw [show w32 ((0 : Int) - 1) = -1 by decide, w32_id (z := -1 * q) (by omega) (by omega), w32_id (by omega) (by omega)]
    rfl
  · rw [show w32 ((1 : Int) - 1) = 0 by decide, w32_id (z := 0 * q) (by omega) (by omega), w32_id (by omega) (by omega)]
    rfl
  · rw [show w32 ((2 : Int) - 1) = 1 by decide, w32_id (z := 1 * q) (by omega) (by omega), w32_id (by omega) (by omega)]
    rfl
  · rw [show w32 ((3 : Int) - 1) = 2 by decide, w32_id (z := 2 * q) (by omega) (by omega), w32_id (by omega) (by omega)]
    rfl
theorem pa_b {g : PH} {p d m : Nat} (hc : hcR g p ≤ 3) (h0 : 0 ≤ g 170 (67 + 8 * d + p)) (h1 : g 170 (67 + 8 * d + p) ≤ 99) : 0 ≤ paR g p d m ∧ paR g p d m ≤ 200 := by
  obtain ⟨q0, q1⟩ := zd3 h0 h1
  obtain ⟨b0, b1⟩ := hb_b (g := g) (p := p) (d := d) (hcR g p)
  unfold paR
  generalize zdiv (g 170 (67 + 8 * d + p)) 3 = q at *
  generalize g 170 (67 + 8 * d + p) = w at *
  by_cases c : hbR g p d m = 0
  · rw [if_pos c]
    generalize hbR g p d (hcR g p) = n at *
    rcases n4 b0 (by omega) with e | e | e | e <;> subst e <;> omega
  · rw [if_neg c]; omega
theorem ixhc {a : Int} (h0 : 0 ≤ a) (h1 : a ≤ 8) : (w32 (131 + (w32 (4 * a)))).toNat = 131 + 4 * a.toNat := by
  rw [w32_id (z := 4 * a) (by omega) (by omega), w32_id (by omega) (by omega)]
  omega
theorem ixhe {a : Int} {k : Nat} (h0 : 0 ≤ a) (h1 : a ≤ 8) (hk : k ≤ 9) : (w32 ((w32 (131 + (w32 (4 * a)))) + (k : Int))).toNat = 131 + 4 * a.toNat + k := by
  rw [w32_id (z := 4 * a) (by omega) (by omega), w32_id (z := 131 + 4 * a) (by omega) (by omega), w32_id (by omega) (by omega)]
  omega
noncomputable def diK (g : PH) (p d : Nat) : Nat → PH
  | 0 => g
  | k + 1 => if diK g p d k 170 (29 + 5 * heR (diK g p d k) p (k + 1)) ≠ 1 ∧ heR (diK g p d k) p (k + 1) ≠ d then uph (diK g p d k) 170 (67 + 8 * d + heR (diK g p d k) p (k + 1)) (zmin 99 (w32 (diK g p d k 170 (67 + 8 * d + heR (diK g p d k) p (k + 1)) + paR (diK g p d k) p d k))) else diK g p d k
noncomputable def diA (g : PH) (p : Nat) : Nat → PH
  | 0 => uph g 170 (29 + 5 * p) 1
  | d + 1 => if d = p ∨ diA g p d 170 (67 + 8 * d + p) = 0 then diA g p d else uph (diK (diA g p d) p d (hcR (diA g p d) p)) 170 (67 + 8 * d + p) (zmin 99 0)
theorem diK_b {g : PH} {p d : Nat} (hp : p < 8) (hd : d < 8) (hD : BdD g) (hH : BdH g) : ∀ k : Nat, k ≤ hcR g p → BdD (diK g p d k) ∧ ∀ c i : Nat, ¬ (c = 170 ∧ 67 ≤ i ∧ i < 131) → diK g p d k c i = g c i
  | 0, _ => ⟨hD, fun _ _ _ => rfl⟩
  | k + 1, hk => by
    obtain ⟨x, y⟩ := diK_b hp hd hD hH k (by omega)
    obtain ⟨h1, h2⟩ := hH p hp
    have hc : hcR g p ≤ 3 := by unfold hcR; omega
    have h3 := h2 (k + 1) (by omega) (by omega)
    have ee : heR (diK g p d k) p (k + 1) = heR g p (k + 1) := by unfold heR; rw [y _ _ (by omega)]
    have e7 : heR g p (k + 1) ≤ 7 := by unfold heR; omega
    show BdD (if _ then _ else _) ∧ _
    have cc : hcR (diK g p d k) p ≤ 3 := by unfold hcR; rw [y _ _ (by omega)]; exact hc
    by_cases c : diK g p d k 170 (29 + 5 * heR (diK g p d k) p (k + 1)) ≠ 1 ∧ heR (diK g p d k) p (k + 1) ≠ d
    · have e : diK g p d (k + 1) = uph (diK g p d k) 170 (67 + 8 * d + heR (diK g p d k) p (k + 1)) (zmin 99 (w32 (diK g p d k 170 (67 + 8 * d + heR (diK g p d k) p (k + 1)) + paR (diK g p d k) p d k))) := if_pos c
      have d1 := x (8 * d + p) (by omega)
      have d2 := x (8 * d + heR g p (k + 1)) (by omega)
      rw [show 67 + (8 * d + p) = 67 + 8 * d + p by omega] at d1
      rw [show 67 + (8 * d + heR g p (k + 1)) = 67 + 8 * d + heR g p (k + 1) by omega] at d2
      have pb := pa_b (m := k) cc d1.1 d1.2
      rw [if_pos c]
      refine ⟨fun i hi => ?_, fun c i q => ?_⟩
      · rw [ee]
        by_cases q : 67 + i = 67 + 8 * d + heR g p (k + 1)
        · rw [q, up_sm, w32_id (by omega) (by omega)]
          exact zm9 (by omega)
        · rw [up_ne (by omega)]
          exact x i hi
      · rw [e, ee, up_ne (by omega), y c i q]
    · have e : diK g p d (k + 1) = diK g p d k := if_neg c
      rw [if_neg c]
      exact ⟨x, fun c i q => by rw [e]; exact y c i q⟩
theorem diA_b {g : PH} {p : Nat} (hp : p < 8) (hD : BdD g) (hH : BdH g) : ∀ d : Nat, d ≤ 8 → BdD (diA g p d) ∧ ∀ c i : Nat, ¬ (c = 170 ∧ (i = 29 + 5 * p ∨ (67 ≤ i ∧ i < 131))) → diA g p d c i = g c i
  | 0, _ => ⟨fun i hi => by show 0 ≤ uph g 170 _ _ 170 (67 + i) ∧ uph g 170 _ _ 170 (67 + i) ≤ 99; rw [up_ne (by omega)]; exact hD i hi, fun c i q => up_ne (by omega)⟩
  | d + 1, hd => by
    obtain ⟨x, y⟩ := diA_b hp hD hH d (by omega)
    by_cases c : d = p ∨ diA g p d 170 (67 + 8 * d + p) = 0
    · have e : diA g p (d + 1) = diA g p d := if_pos c
      rw [e]
      exact ⟨x, y⟩
    · have e : diA g p (d + 1) = uph (diK (diA g p d) p d (hcR (diA g p d) p)) 170 (67 + 8 * d + p) (zmin 99 0) := if_neg c
      have hH2 : BdH (diA g p d) := fun r hr => by
        obtain ⟨z1, z2⟩ := hH r hr
        exact ⟨by rw [y _ _ (by omega)]; exact z1, fun k q1 q2 => by rw [y _ _ (by omega)]; exact z2 k q1 q2⟩
      obtain ⟨x2, y2⟩ := diK_b hp (by omega : d < 8) x hH2 (hcR (diA g p d) p) (Nat.le_refl _)
      rw [e]
      refine ⟨fun i hi => ?_, fun c i q => ?_⟩
      · by_cases q : 67 + i = 67 + 8 * d + p
        · rw [q, up_sm]; exact zm9 (by omega)
        · rw [up_ne (by omega)]; exact x2 i hi
      · rw [up_ne (by omega), y2 c i (by omega), y c i q]
theorem BdH.of {g g' : PH} (hH : BdH g) (e : ∀ i : Nat, 131 ≤ i → i < 163 → g' 170 i = g 170 i) : BdH g' := fun r hr => by
  obtain ⟨z1, z2⟩ := hH r hr
  exact ⟨by rw [e _ (by omega) (by omega)]; exact z1, fun k q1 q2 => by rw [e _ (by omega) (by omega)]; exact z2 k q1 q2⟩
/-- one DIES -/
noncomputable def diR (g : PH) (p : Nat) : PH := diA g p (g 170 1).toNat
set_option maxRecDepth 10000 in
theorem v_X12_isHeirOf {sl : Nat} {si : Nat → Int} {K : Nat → PH → ZL → List ZV → Prop} {Q : PH → List ZV → Prop} {h : PH} {a b : Int} (H : ∀ h1 v1, CP (zz sl si (7, 0)) mX12_isDead h [(2, 169), (0, a)] h1 [(0, v1)] → v1 = 0 ∨ v1 = 1 → (v1 ≠ 0 → Q h1 [(0, 0)]) ∧ (¬ (v1 ≠ 0) → (a = b → Q h1 [(0, 0)]) ∧ (¬ (a = b) → Q h1 [(0, 1)]))) : vc (zz sl si (7, 0)) (fun _ => false) K Q mX12_isHeirOf 12 0 mX12_isHeirOf.2.2.2.2.2.2 h [(0, (2, 169)), (1, (0, a)), (2, (0, b))] [] := H
set_option maxHeartbeats 600000 in
theorem c_X12_isHeirOf {sl : Nat} {si : Nat → Int} {h h' : PH} {a b : Int} {v : Int} (ha : 0 ≤ a ∧ a ≤ 7) (hc : CP (zz sl si (7, 0)) mX12_isHeirOf h [(2, 169), (0, a), (0, b)] h' [(0, v)]) : h' = h ∧ (v = 1 ↔ h 170 (29 + 5 * a.toNat) ≠ 1 ∧ a ≠ b) := by
  have q : (fun (xh : PH) (r : List ZV) => ∀ v : Int, r = [(0, v)] → (xh = h ∧ (v = 1 ↔ h 170 (29 + 5 * a.toNat) ≠ 1 ∧ a ≠ b))) h' [(0, v)] := by
    refine cp_vc (cut := (fun _ => false)) (K := fun p hx lv st => False) (Q := fun (xh : PH) (r : List ZV) => ∀ v : Int, r = [(0, v)] → (xh = h ∧ (v = 1 ↔ h 170 (29 + 5 * a.toNat) ≠ 1 ∧ a ≠ b))) (v_X12_isHeirOf ?_) (fun pc hx lv st hcut hK => ?_) hc
    · exact (fun h1 v1 p1 q1 => by obtain ⟨t1, e1⟩ := c_X12_isDead p1; have t1 := t1.symm; subst t1; exact ⟨fun c1 => (by intro v e; cases e; have w1 := e1 (by omega) (by omega); exact ⟨rfl, ⟨fun z => by omega, fun z => absurd (w1.mp (by omega)) z.1⟩⟩), fun c1 => ⟨fun c2 => (by intro v e; cases e; exact ⟨rfl, ⟨fun z => by omega, fun z => absurd c2 z.2⟩⟩), fun c2 => (by intro v e; cases e; have w1 := e1 (by omega) (by omega); exact ⟨rfl, ⟨fun _ => ⟨fun z => by have := w1.mpr z; omega, c2⟩, fun _ => rfl⟩⟩)⟩⟩)
    · exact hK.elim
  exact q v rfl
set_option maxRecDepth 10000 in
theorem v_X12_heirsBut {sl : Nat} {si : Nat → Int} {K : Nat → PH → ZL → List ZV → Prop} {Q : PH → List ZV → Prop} {h : PH} {a b : Int} (H : K 5 h [(4, (0, 1)), (3, (0, 0)), (0, (2, 169)), (1, (0, a)), (2, (0, b))] []) : vc (zz sl si (7, 0)) (fun p => Nat.beq p 5) K Q mX12_heirsBut 6 0 mX12_heirsBut.2.2.2.2.2.2 h [(0, (2, 169)), (1, (0, a)), (2, (0, b))] [] := H
set_option maxRecDepth 10000 in
theorem v_X12_heirsBut_5 {sl : Nat} {si : Nat → Int} {K : Nat → PH → ZL → List ZV → Prop} {Q : PH → List ZV → Prop} {h : PH} {a b : Int} {n k : Int} (H : 0 ≤ w32 (131 + (w32 (4 * a))) ∧ w32 (131 + (w32 (4 * a))) < (3696 : Nat) → R32 (h 170 (w32 (131 + (w32 (4 * a)))).toNat) → ((h 170 (w32 (131 + (w32 (4 * a)))).toNat) < k → Q h [(0, n)]) ∧ (¬ ((h 170 (w32 (131 + (w32 (4 * a)))).toNat) < k) → 0 ≤ w32 ((w32 (131 + (w32 (4 * a)))) + k) ∧ w32 ((w32 (131 + (w32 (4 * a)))) + k) < (3696 : Nat) → R32 (h 170 (w32 ((w32 (131 + (w32 (4 * a)))) + k)).toNat) → ∀ h1 v1, CP (zz sl si (7, 0)) mX12_isHeirOf h [(2, 169), (0, (h 170 (w32 ((w32 (131 + (w32 (4 * a)))) + k)).toNat)), (0, b)] h1 [(0, v1)] → v1 = 0 ∨ v1 = 1 → (v1 = 0 → K 5 h1 [(4, (0, w32 (k + 1))), (3, (0, w32 (n + 0))), (0, (2, 169)), (1, (0, a)), (2, (0, b))] []) ∧ (¬ (v1 = 0) → K 5 h1 [(4, (0, w32 (k + 1))), (3, (0, w32 (n + 1))), (0, (2, 169)), (1, (0, a)), (2, (0, b))] []))) : vc (zz sl si (7, 0)) (fun p => Nat.beq p 5) K Q mX12_heirsBut 33 5 (ax_jmp mX12_heirsBut.2.2.2.2.2.2 5) h [(0, (2, 169)), (1, (0, a)), (2, (0, b)), (3, (0, n)), (4, (0, k))] [] := H
set_option maxHeartbeats 600000 in
theorem c_X12_heirsBut {sl : Nat} {si : Nat → Int} {h h' : PH} {a b : Int} {v : Int} (hH : BdH h) (ha : 0 ≤ a ∧ a ≤ 7) (hb : 0 ≤ b ∧ b ≤ 8) (hc : CP (zz sl si (7, 0)) mX12_heirsBut h [(2, 169), (0, a), (0, b)] h' [(0, v)]) : h' = h ∧ v = hbR h a.toNat b.toNat (hcR h a.toNat) := by
  have q : (fun (xh : PH) (r : List ZV) => ∀ v : Int, r = [(0, v)] → (xh = h ∧ v = hbR h a.toNat b.toNat (hcR h a.toNat))) h' [(0, v)] := by
    refine cp_vc (cut := (fun p => Nat.beq p 5)) (K := fun p hx lv st => (p = 5 ∧ lK (fun u : Nat => [(0, (2, 169)), (1, (0, a)), (2, (0, b)), (3, (0, hbR h a.toNat b.toNat u)), (4, (0, ((u + 1 : Nat) : Int)))]) (fun u hx => u ≤ hcR h a.toNat ∧ hx = h) p hx lv st)) (Q := fun (xh : PH) (r : List ZV) => ∀ v : Int, r = [(0, v)] → (xh = h ∧ v = hbR h a.toNat b.toNat (hcR h a.toNat))) (v_X12_heirsBut ?_) (fun pc hx lv st hcut hK => ?_) hc
    · exact (by exact ⟨rfl, rfl, 0, ⟨by omega, rfl⟩, rfl, rfl, rfl, rfl, rfl, trivial⟩)
    · rcases hK with ⟨rfl, rfl, u, hJ, hs⟩
      · obtain ⟨j1, j2⟩ := hJ
        subst j2
        obtain ⟨hc, hk⟩ := hH a.toNat (by omega)
        have hb0 := hb_b (g := hx) (p := a.toNat) (d := b.toNat) u
        have h3 : hcR hx a.toNat ≤ 3 := by unfold hcR; omega
        have hcv : (hcR hx a.toNat : Int) = hx 170 (131 + 4 * a.toNat) := by unfold hcR; omega
        exact ⟨_, _, hs, v_X12_heirsBut_5 (fun b1 r2 => ⟨fun c3 => (by intro v e; cases e; rw [ixhc (a := a) (by omega) (by omega)] at c3; have eu : hcR hx a.toNat = u := (by omega); exact ⟨rfl, by rw [eu]⟩), fun c3 => (fun b4 r5 => (fun h1 v1 p1 q1 => ⟨fun c6 => (by rw [ixhc (a := a) (by omega) (by omega)] at c3; have k1 := hk (u + 1) (by omega) (by omega); rw [(ixhe (a := a) (k := u + 1) (by omega) (by omega) (by omega))] at p1; obtain ⟨t1, w1⟩ := c_X12_isHeirOf k1 p1; have t1 := t1.symm; subst t1; have am : hbR hx a.toNat b.toNat (u + 1) = hbR hx a.toNat b.toNat u + 0 := congrArg (hbR hx a.toNat b.toNat u + ·) (cif_n (fun z => by have := w1.mpr ⟨z.1, fun y => z.2 (by unfold heR; omega)⟩; omega)); exact ⟨rfl, rfl, u + 1, ⟨by omega, rfl⟩, rfl, rfl, rfl, (by rw [am, w32_id (z := hbR hx a.toNat b.toNat u + 0) (by omega) (by omega)]; rfl), wv (by omega) (by omega) (by omega), trivial⟩), fun c6 => (by rw [ixhc (a := a) (by omega) (by omega)] at c3; have k1 := hk (u + 1) (by omega) (by omega); rw [(ixhe (a := a) (k := u + 1) (by omega) (by omega) (by omega))] at p1; obtain ⟨t1, w1⟩ := c_X12_isHeirOf k1 p1; have t1 := t1.symm; subst t1; have am : hbR hx a.toNat b.toNat (u + 1) = hbR hx a.toNat b.toNat u + 1 := congrArg (hbR hx a.toNat b.toNat u + ·) (cif_p ⟨(w1.mp (by omega)).1, fun y => (w1.mp (by omega)).2 (by unfold heR at y; omega)⟩); exact ⟨rfl, rfl, u + 1, ⟨by omega, rfl⟩, rfl, rfl, rfl, (by rw [am, w32_id (z := hbR hx a.toNat b.toNat u + 1) (by omega) (by omega)]; rfl), wv (by omega) (by omega) (by omega), trivial⟩)⟩))⟩)⟩
  exact q v rfl
set_option maxRecDepth 10000 in
theorem v_X12_partOf {sl : Nat} {si : Nat → Int} {K : Nat → PH → ZL → List ZV → Prop} {Q : PH → List ZV → Prop} {h : PH} {a b : Int} {m : Nat} (H : ∀ h1 v1, CP (zz sl si (7, 0)) mX12_owes h [(2, 169), (0, b), (0, a)] h1 [(0, v1)] → R32 v1 → K 11 h1 [(5, (0, 1)), (4, (0, v1)), (0, (2, 169)), (1, (0, a)), (2, (0, b)), (3, (0, ((m + 1 : Nat) : Int)))] []) : vc (zz sl si (7, 0)) (fun p => Nat.beq p 11) K Q mX12_partOf 9 0 mX12_partOf.2.2.2.2.2.2 h [(0, (2, 169)), (1, (0, a)), (2, (0, b)), (3, (0, ((m + 1 : Nat) : Int)))] [] := H
set_option maxRecDepth 10000 in
theorem v_X12_partOf_11 {sl : Nat} {si : Nat → Int} {K : Nat → PH → ZL → List ZV → Prop} {Q : PH → List ZV → Prop} {h : PH} {a b : Int} {m : Nat} {w f : Int} (H : 0 ≤ w32 ((w32 (131 + (w32 (4 * a)))) + f) ∧ w32 ((w32 (131 + (w32 (4 * a)))) + f) < (3696 : Nat) → R32 (h 170 (w32 ((w32 (131 + (w32 (4 * a)))) + f)).toNat) → ∀ h1 v1, CP (zz sl si (7, 0)) mX12_isHeirOf h [(2, 169), (0, (h 170 (w32 ((w32 (131 + (w32 (4 * a)))) + f)).toNat)), (0, b)] h1 [(0, v1)] → v1 = 0 ∨ v1 = 1 → (v1 ≠ 0 → (((m + 1 : Nat) : Int) ≠ f → (3 : Int) ≠ 0 → Q h1 [(0, zdiv w 3)]) ∧ (¬ (((m + 1 : Nat) : Int) ≠ f) → ∀ h2 v2, CP (zz sl si (7, 0)) mX12_heirsBut h1 [(2, 169), (0, a), (0, b)] h2 [(0, v2)] → R32 v2 → (3 : Int) ≠ 0 → Q h2 [(0, w32 (w - (w32 ((w32 (v2 - 1)) * (zdiv w 3)))))])) ∧ (¬ (v1 ≠ 0) → K 11 h1 [(5, (0, w32 (f + 1))), (0, (2, 169)), (1, (0, a)), (2, (0, b)), (3, (0, ((m + 1 : Nat) : Int))), (4, (0, w))] [])) : vc (zz sl si (7, 0)) (fun p => Nat.beq p 11) K Q mX12_partOf 33 11 (ax_jmp mX12_partOf.2.2.2.2.2.2 11) h [(0, (2, 169)), (1, (0, a)), (2, (0, b)), (3, (0, ((m + 1 : Nat) : Int))), (4, (0, w)), (5, (0, f))] [] := H
set_option maxHeartbeats 600000 in
theorem c_X12_partOf {sl : Nat} {si : Nat → Int} {h h' : PH} {a b : Int} {m : Nat} {v : Int} (hH : BdH h) (ha : 0 ≤ a ∧ a ≤ 7) (hb : 0 ≤ b ∧ b ≤ 7) (hw : 0 ≤ (h 170 (67 + 8 * b.toNat + a.toNat)) ∧ (h 170 (67 + 8 * b.toNat + a.toNat)) ≤ 99) (hm : m + 1 ≤ hcR h a.toNat) (hi : h 170 (29 + 5 * heR h a.toNat (m + 1)) ≠ 1 ∧ heR h a.toNat (m + 1) ≠ b.toNat) (hc : CP (zz sl si (7, 0)) mX12_partOf h [(2, 169), (0, a), (0, b), (0, ((m + 1 : Nat) : Int))] h' [(0, v)]) : h' = h ∧ v = paR h a.toNat b.toNat m := by
  have q : (fun (xh : PH) (r : List ZV) => ∀ v : Int, r = [(0, v)] → (xh = h ∧ v = paR h a.toNat b.toNat m)) h' [(0, v)] := by
    refine cp_vc (cut := (fun p => Nat.beq p 11)) (K := fun p hx lv st => (p = 11 ∧ lK (fun u : Nat => [(0, (2, 169)), (1, (0, a)), (2, (0, b)), (3, (0, ((m + 1 : Nat) : Int))), (4, (0, (h 170 (67 + 8 * b.toNat + a.toNat)))), (5, (0, ((u + 1 : Nat) : Int)))]) (fun u hx => u ≤ m ∧ hx = h ∧ hbR h a.toNat b.toNat u = 0) p hx lv st)) (Q := fun (xh : PH) (r : List ZV) => ∀ v : Int, r = [(0, v)] → (xh = h ∧ v = paR h a.toNat b.toNat m)) (v_X12_partOf ?_) (fun pc hx lv st hcut hK => ?_) hc
    · exact (fun h1 v1 p1 q1 => by obtain ⟨t1, e1⟩ := c_X12_owes p1; have t1 := t1.symm; subst t1; exact (by exact ⟨rfl, rfl, 0, ⟨by omega, rfl, rfl⟩, rfl, rfl, rfl, rfl, (by rw [e1 (by omega) (by omega) (by omega) (by omega)]; rfl), rfl, trivial⟩))
    · rcases hK with ⟨rfl, rfl, u, hJ, hs⟩
      · obtain ⟨j1, j2, j3⟩ := hJ
        subst j2
        obtain ⟨hc, hk⟩ := hH a.toNat (by omega)
        have h3 : hcR hx a.toNat ≤ 3 := by unfold hcR; omega
        exact ⟨_, _, hs, v_X12_partOf_11 (fun b1 r2 => (fun h1 v1 p1 q1 => ⟨fun c3 => ⟨fun c4 => (fun d5 => (by intro v e; cases e; have k1 := hk (u + 1) (by omega) (by omega); rw [(ixhe (a := a) (k := u + 1) (by omega) (by omega) (by omega))] at p1; obtain ⟨t1, w1⟩ := c_X12_isHeirOf k1 p1; have t1 := t1.symm; subst t1; have am : hbR hx a.toNat b.toNat (u + 1) = hbR hx a.toNat b.toNat u + 1 := congrArg (hbR hx a.toNat b.toNat u + ·) (cif_p ⟨(w1.mp (by omega)).1, fun y => (w1.mp (by omega)).2 (by unfold heR at y; omega)⟩); have mo := hb_m (g := hx) (p := a.toNat) (d := b.toNat) (k := u + 1) (m - (u + 1)); rw [show u + 1 + (m - (u + 1)) = m by omega] at mo; exact ⟨rfl, by unfold paR; rw [if_neg (by omega)]⟩)), fun c4 => (fun h2 v2 p2 q2 => (fun d6 => (by intro v e; cases e; have k1 := hk (u + 1) (by omega) (by omega); rw [(ixhe (a := a) (k := u + 1) (by omega) (by omega) (by omega))] at p1; obtain ⟨t1, w1⟩ := c_X12_isHeirOf k1 p1; have t1 := t1.symm; subst t1; have em : m = u := (by omega); subst em; obtain ⟨t2, w2⟩ := c_X12_heirsBut hH ha (by omega) p2; have t2 := t2.symm; subst t2; have zz3 := zd3 hw.1 hw.2; have hb9 := hb_b (g := hx) (p := a.toNat) (d := b.toNat) (hcR hx a.toNat); exact ⟨rfl, by unfold paR; rw [if_pos j3, w2, pa_w hw.1 hw.2 zz3.1 zz3.2 hb9.1 (by omega)]⟩)))⟩, fun c3 => (by have k1 := hk (u + 1) (by omega) (by omega); rw [(ixhe (a := a) (k := u + 1) (by omega) (by omega) (by omega))] at p1; obtain ⟨t1, w1⟩ := c_X12_isHeirOf k1 p1; have t1 := t1.symm; subst t1; have am : hbR hx a.toNat b.toNat (u + 1) = hbR hx a.toNat b.toNat u + 0 := congrArg (hbR hx a.toNat b.toNat u + ·) (cif_n (fun z => by have := w1.mpr ⟨z.1, fun y => z.2 (by unfold heR; omega)⟩; omega)); have nu : u ≠ m := (fun z => by subst z; have := w1.mpr ⟨hi.1, fun y => hi.2 (by unfold heR; omega)⟩; omega); exact ⟨rfl, rfl, u + 1, ⟨by omega, rfl, by rw [am]; omega⟩, rfl, rfl, rfl, rfl, rfl, wv (by omega) (by omega) (by omega), trivial⟩)⟩))⟩
  exact q v rfl
set_option maxRecDepth 10000 in
theorem v_X12_dies {sl : Nat} {si : Nat → Int} {K : Nat → PH → ZL → List ZV → Prop} {Q : PH → List ZV → Prop} {h : PH} {a : Int} (H : ∀ h1 v1, CP (zz sl si (7, 0)) mX12_isDead h [(2, 169), (0, a)] h1 [(0, v1)] → v1 = 0 ∨ v1 = 1 → (v1 = 0 → ∀ h2 v2, CP (zz sl si (7, 0)) mX12_personRow h1 [(0, a)] h2 [(0, v2)] → R32 v2 → 0 ≤ w32 (v2 + 2) ∧ w32 (v2 + 2) < (3696 : Nat) → K 24 (uph h2 170 (w32 (v2 + 2)).toNat 1) [(2, (0, 0)), (0, (2, 169)), (1, (0, a))] []) ∧ (¬ (v1 = 0) → Q h1 [(0, 0)])) : vc (zz sl si (7, 0)) (fun p => Nat.beq p 24 || Nat.beq p 53) K Q mX12_dies 16 0 mX12_dies.2.2.2.2.2.2 h [(0, (2, 169)), (1, (0, a))] [] := H
set_option maxRecDepth 10000 in
theorem v_X12_dies_24 {sl : Nat} {si : Nat → Int} {K : Nat → PH → ZL → List ZV → Prop} {Q : PH → List ZV → Prop} {h : PH} {a : Int} {d : Int} (H : 0 ≤ (1 : Int) ∧ (1 : Int) < (3696 : Nat) → R32 (h 170 1) → ((h 170 1) ≤ d → Q h [(0, 1)]) ∧ (¬ ((h 170 1) ≤ d) → (d = a → K 24 h [(2, (0, w32 (d + 1))), (0, (2, 169)), (1, (0, a))] []) ∧ (¬ (d = a) → ∀ h1 v1, CP (zz sl si (7, 0)) mX12_owes h [(2, 169), (0, d), (0, a)] h1 [(0, v1)] → R32 v1 → (v1 ≠ 0 → K 53 h1 [(3, (0, 1)), (0, (2, 169)), (1, (0, a)), (2, (0, d))] []) ∧ (¬ (v1 ≠ 0) → K 24 h1 [(2, (0, w32 (d + 1))), (0, (2, 169)), (1, (0, a))] [])))) : vc (zz sl si (7, 0)) (fun p => Nat.beq p 24 || Nat.beq p 53) K Q mX12_dies 19 24 (ax_jmp mX12_dies.2.2.2.2.2.2 24) h [(0, (2, 169)), (1, (0, a)), (2, (0, d))] [] := H
set_option maxRecDepth 10000 in
theorem v_X12_dies_53 {sl : Nat} {si : Nat → Int} {K : Nat → PH → ZL → List ZV → Prop} {Q : PH → List ZV → Prop} {h : PH} {a : Int} {d k : Int} (H : 0 ≤ w32 (131 + (w32 (4 * a))) ∧ w32 (131 + (w32 (4 * a))) < (3696 : Nat) → R32 (h 170 (w32 (131 + (w32 (4 * a)))).toNat) → ((h 170 (w32 (131 + (w32 (4 * a)))).toNat) < k → ∀ h1, CP (zz sl si (7, 0)) mX12_owesNow h [(2, 169), (0, d), (0, a), (0, 0)] h1 [] → K 24 h1 [(2, (0, w32 (d + 1))), (0, (2, 169)), (1, (0, a)), (3, (0, k))] []) ∧ (¬ ((h 170 (w32 (131 + (w32 (4 * a)))).toNat) < k) → 0 ≤ w32 ((w32 (131 + (w32 (4 * a)))) + k) ∧ w32 ((w32 (131 + (w32 (4 * a)))) + k) < (3696 : Nat) → R32 (h 170 (w32 ((w32 (131 + (w32 (4 * a)))) + k)).toNat) → ∀ h2 v2, CP (zz sl si (7, 0)) mX12_isHeirOf h [(2, 169), (0, (h 170 (w32 ((w32 (131 + (w32 (4 * a)))) + k)).toNat)), (0, d)] h2 [(0, v2)] → v2 = 0 ∨ v2 = 1 → (v2 = 0 → K 53 h2 [(3, (0, w32 (k + 1))), (4, (0, (h 170 (w32 ((w32 (131 + (w32 (4 * a)))) + k)).toNat))), (0, (2, 169)), (1, (0, a)), (2, (0, d))] []) ∧ (¬ (v2 = 0) → ∀ h3 v3, CP (zz sl si (7, 0)) mX12_owes h2 [(2, 169), (0, d), (0, (h 170 (w32 ((w32 (131 + (w32 (4 * a)))) + k)).toNat))] h3 [(0, v3)] → R32 v3 → ∀ h4 v4, CP (zz sl si (7, 0)) mX12_partOf h3 [(2, 169), (0, a), (0, d), (0, k)] h4 [(0, v4)] → R32 v4 → ∀ h5, CP (zz sl si (7, 0)) mX12_owesNow h4 [(2, 169), (0, d), (0, (h 170 (w32 ((w32 (131 + (w32 (4 * a)))) + k)).toNat)), (0, w32 (v3 + v4))] h5 [] → K 53 h5 [(3, (0, w32 (k + 1))), (4, (0, (h 170 (w32 ((w32 (131 + (w32 (4 * a)))) + k)).toNat))), (0, (2, 169)), (1, (0, a)), (2, (0, d))] []))) : vc (zz sl si (7, 0)) (fun p => Nat.beq p 24 || Nat.beq p 53) K Q mX12_dies 44 53 (ax_jmp mX12_dies.2.2.2.2.2.2 53) h [(0, (2, 169)), (1, (0, a)), (2, (0, d)), (3, (0, k))] [] := H
set_option maxHeartbeats 600000 in
theorem c_X12_dies {sl : Nat} {si : Nat → Int} {h h' : PH} {a : Int} {v : Int} (hB : BdR h) (hD : BdD h) (hH : BdH h) (ha : 0 ≤ a ∧ a ≤ 7) (hc : CP (zz sl si (7, 0)) mX12_dies h [(2, 169), (0, a)] h' [(0, v)]) : (h 170 (29 + 5 * a.toNat) = 1 ∧ v = 0 ∧ h' = h) ∨ (h 170 (29 + 5 * a.toNat) ≠ 1 ∧ v = 1 ∧ h' = diR h a.toNat) := by
  have q : (fun (xh : PH) (r : List ZV) => ∀ v : Int, r = [(0, v)] → ((h 170 (29 + 5 * a.toNat) = 1 ∧ v = 0 ∧ xh = h) ∨ (h 170 (29 + 5 * a.toNat) ≠ 1 ∧ v = 1 ∧ xh = diR h a.toNat))) h' [(0, v)] := by
    refine cp_vc (cut := (fun p => Nat.beq p 24 || Nat.beq p 53)) (K := fun p hx lv st => (p = 24 ∧ lK (fun u : Nat => [(0, (2, 169)), (1, (0, a)), (2, (0, (u : Int)))]) (fun u hx => (u : Int) ≤ h 170 1 ∧ h 170 (29 + 5 * a.toNat) ≠ 1 ∧ hx = diA h a.toNat u) p hx lv st) ∨ (p = 53 ∧ lN2 (fun u1 u2 : Nat => [(0, (2, 169)), (1, (0, a)), (2, (0, (u1 : Int))), (3, (0, ((u2 + 1 : Nat) : Int)))]) (fun u1 u2 hx => h 170 (29 + 5 * a.toNat) ≠ 1 ∧ u2 ≤ hcR (diA h a.toNat u1) a.toNat ∧ (u1 : Int) < h 170 1 ∧ u1 ≠ a.toNat ∧ (diA h a.toNat u1) 170 (67 + 8 * u1 + a.toNat) ≠ 0 ∧ hx = (diK (diA h a.toNat u1) a.toNat u1 u2)) p hx lv st)) (Q := fun (xh : PH) (r : List ZV) => ∀ v : Int, r = [(0, v)] → ((h 170 (29 + 5 * a.toNat) = 1 ∧ v = 0 ∧ xh = h) ∨ (h 170 (29 + 5 * a.toNat) ≠ 1 ∧ v = 1 ∧ xh = diR h a.toNat))) (v_X12_dies ?_) (fun pc hx lv st hcut hK => ?_) hc
    · exact (fun h1 v1 p1 q1 => by obtain ⟨t1, e1⟩ := c_X12_isDead p1; have t1 := t1.symm; subst t1; exact ⟨fun c1 => (fun h2 v2 p2 q2 => by obtain ⟨t2, e2⟩ := c_X12_personRow p2; have t2 := t2.symm; subst t2; exact (fun b2 => (by have w1 := e1 (by omega) (by omega); have w2 := e2 (by omega) (by omega); have i2 : (w32 (v2 + 2)).toNat = 29 + 5 * a.toNat := (by rw [w2, w32_id (by omega) (by omega)]; omega); rw [i2]; exact Or.inl ⟨rfl, rfl, 0, ⟨by have := hB.2.1; omega, fun z => by have := w1.mpr z; omega, rfl⟩, rfl, rfl, rfl, trivial⟩))), fun c1 => (by intro v e; cases e; have w1 := e1 (by omega) (by omega); exact Or.inl ⟨w1.mp (by omega), rfl, rfl⟩)⟩)
    · rcases hK with ⟨rfl, rfl, u, hJ, hs⟩ | ⟨rfl, rfl, u1, u2, hJ, hs⟩
      · obtain ⟨j1, j2, j3⟩ := hJ
        have h8 := hB.2.1
        obtain ⟨x1, x2⟩ := diA_b (g := h) (p := a.toNat) (by omega) hD hH u (by omega)
        have en : hx 170 1 = h 170 1 := by rw [j3]; exact x2 170 1 (by omega)
        exact ⟨_, _, hs, v_X12_dies_24 (fun b1 r2 => ⟨fun c3 => (by intro v e; cases e; have eu : (h 170 1).toNat = u := (by omega); exact Or.inr ⟨j2, rfl, by unfold diR; rw [eu]; exact j3⟩), fun c3 => ⟨fun c4 => (by have ea : diA h a.toNat (u + 1) = diA h a.toNat u := if_pos (Or.inl (by omega)); exact Or.inl ⟨rfl, rfl, u + 1, ⟨by omega, j2, by rw [ea]; exact j3⟩, rfl, rfl, wv (by omega) (by omega) (by omega), trivial⟩), fun c4 => (fun h1 v1 p1 q1 => by obtain ⟨t1, e1⟩ := c_X12_owes p1; have t1 := t1.symm; subst t1; exact ⟨fun c5 => (by have w1 := e1 (by omega) (by omega) (by omega) (by omega); rw [Int.toNat_natCast, j3] at w1; exact Or.inr ⟨rfl, rfl, u, 0, ⟨j2, by omega, by omega, by omega, by omega, j3⟩, rfl, rfl, rfl, rfl, trivial⟩), fun c5 => (by have w1 := e1 (by omega) (by omega) (by omega) (by omega); rw [Int.toNat_natCast, j3] at w1; have ea : diA h a.toNat (u + 1) = diA h a.toNat u := if_pos (Or.inr (by omega)); exact Or.inl ⟨rfl, rfl, u + 1, ⟨by omega, j2, by rw [ea]; exact j3⟩, rfl, rfl, wv (by omega) (by omega) (by omega), trivial⟩)⟩)⟩⟩)⟩
      · obtain ⟨j0, j1, j2, j3, j4, j5⟩ := hJ
        have h8 := hB.2.1
        obtain ⟨x1, x2⟩ := diA_b (g := h) (p := a.toNat) (by omega) hD hH u1 (by omega)
        have hH2 : BdH (diA h a.toNat u1) := hH.of (fun i q1 q2 => x2 170 i (by omega))
        obtain ⟨y1, y2⟩ := diK_b (g := (diA h a.toNat u1)) (p := a.toNat) (d := u1) (by omega) (by omega) x1 hH2 u2 (by omega)
        have hH3 : BdH hx := by rw [j5]; exact hH2.of (fun i q1 q2 => y2 170 i (by omega))
        obtain ⟨hc, hk⟩ := hH3 a.toNat (by omega)
        have ec : hcR hx a.toNat = hcR (diA h a.toNat u1) a.toNat := by unfold hcR; rw [j5, y2 170 _ (by omega)]
        have hcv : (hcR hx a.toNat : Int) = hx 170 (131 + 4 * a.toNat) := by unfold hcR; omega
        exact ⟨_, _, hs, v_X12_dies_53 (fun b1 r2 => ⟨fun c3 => (fun h1 p1 => (by rw [ixhc (a := a) (by omega) (by omega)] at c3; have o1 := c_X12_owesNow (by omega) (by omega) (by omega) (by omega) p1; rw [Int.toNat_natCast] at o1; have e2 : hcR (diA h a.toNat u1) a.toNat = u2 := (by omega); have ea : diA h a.toNat (u1 + 1) = uph (diK (diA h a.toNat u1) a.toNat u1 u2) 170 (67 + 8 * u1 + a.toNat) (zmin 99 0) := (by rw [← e2]; exact if_neg (fun z => z.elim j3 j4)); exact Or.inl ⟨rfl, rfl, u1 + 1, ⟨by omega, j0, by rw [ea, o1, j5]⟩, rfl, rfl, wv (by omega) (by omega) (by omega), trivial⟩)), fun c3 => (fun b4 r5 => (fun h2 v2 p2 q2 => ⟨fun c6 => (by rw [ixhc (a := a) (by omega) (by omega)] at c3; have k1 := hk (u2 + 1) (by omega) (by omega); rw [ixhe (a := a) (k := u2 + 1) (by omega) (by omega) (by omega)] at p2; obtain ⟨t2, w2⟩ := c_X12_isHeirOf k1 p2; have t2 := t2.symm; subst t2; have ek : diK (diA h a.toNat u1) a.toNat u1 (u2 + 1) = (diK (diA h a.toNat u1) a.toNat u1 u2) := if_neg (fun z => by rw [← j5] at z; have := w2.mpr ⟨z.1, fun y => z.2 (by unfold heR; omega)⟩; omega); exact Or.inr ⟨rfl, rfl, u1, u2 + 1, ⟨j0, by omega, j2, j3, j4, by rw [ek]; exact j5⟩, rfl, rfl, rfl, wv (by omega) (by omega) (by omega), trivial⟩), fun c6 => (fun h3 v3 p3 q3 => by obtain ⟨t3, e3⟩ := c_X12_owes p3; have t3 := t3.symm; subst t3; exact (fun h4 v4 p4 q4 => (fun h5 p5 => (by rw [ixhc (a := a) (by omega) (by omega)] at c3; have k1 := hk (u2 + 1) (by omega) (by omega); rw [ixhe (a := a) (k := u2 + 1) (by omega) (by omega) (by omega)] at p2 e3 p5; obtain ⟨t2, w2⟩ := c_X12_isHeirOf k1 p2; have t2 := t2.symm; subst t2; have hi := w2.mp (by omega); have hi2 : hx 170 (29 + 5 * heR hx a.toNat (u2 + 1)) ≠ 1 ∧ heR hx a.toNat (u2 + 1) ≠ u1 := ⟨hi.1, fun y => hi.2 (by unfold heR at y; omega)⟩; have e3 := e3 (by omega) (by omega) (by omega) (by omega); rw [Int.toNat_natCast] at e3; have d1 := y1 (8 * u1 + a.toNat) (by omega); rw [show 67 + (8 * u1 + a.toNat) = 67 + 8 * u1 + a.toNat by omega, ← j5] at d1; obtain ⟨t4, w4⟩ := c_X12_partOf hH3 ha (by omega) (by rw [Int.toNat_natCast]; exact d1) (by omega) (by rw [Int.toNat_natCast]; exact hi2) p4; have t4 := t4.symm; subst t4; rw [Int.toNat_natCast] at w4; have o5 := c_X12_owesNow (by omega) (by omega) (by omega) (by omega) p5; rw [Int.toNat_natCast] at o5; have ek : diK (diA h a.toNat u1) a.toNat u1 (u2 + 1) = uph hx 170 (67 + 8 * u1 + heR hx a.toNat (u2 + 1)) (zmin 99 (w32 (hx 170 (67 + 8 * u1 + heR hx a.toNat (u2 + 1)) + paR hx a.toNat u1 u2))) := (by rw [j5]; exact if_pos (by rw [← j5]; exact hi2)); exact Or.inr ⟨rfl, rfl, u1, u2 + 1, ⟨j0, by omega, j2, j3, j4, by rw [o5, e3, w4, ek]; rfl⟩, rfl, rfl, rfl, wv (by omega) (by omega) (by omega), trivial⟩))))⟩))⟩)⟩
  exact q v rfl
