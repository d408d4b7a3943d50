/-! what a DIE leaves -/
def cap9 (x : Int) : Int := if x ≤ 99 then x else 99
theorem cap9_b {x : Int} (h : 0 ≤ x) : 0 ≤ cap9 x ∧ cap9 x ≤ 99 := by
  unfold cap9
  by_cases c : x ≤ 99
  · rw [if_pos c]; omega
  · rw [if_neg c]; omega
def hnL (L : PH) (p : Nat) : Nat := (L 14 p).toNat
/-- one debtor's row -/
def RWd (L : PH) (p d : Nat) (M : PH) : Prop := (L 7 (8 * d + p) ≤ 0 → ∀ x : Nat, x < 8 → M 7 (8 * d + x) = L 7 (8 * d + x)) ∧ (0 < L 7 (8 * d + p) → M 7 (8 * d + p) = 0 ∧ (∀ k : Nat, k < hnL L p → okL L p d k → M 7 (8 * d + hrL L p k) = cap9 (L 7 (8 * d + hrL L p k) + shL L p d k)) ∧ ∀ x : Nat, x < 8 → x ≠ p → (∀ k : Nat, k < hnL L p → okL L p d k → hrL L p k ≠ x) → M 7 (8 * d + x) = L 7 (8 * d + x))
def PMd (L : PH) (p d u : Nat) (M : PH) : Prop := W9 M ∧ (∀ j k : Nat, j ≠ 7 → j ≠ 8 → M j k = L j k) ∧ (∀ e x : Nat, e < 8 → x < 8 → e ≠ d → M 7 (8 * e + x) = L 7 (8 * e + x)) ∧ (∀ k : Nat, k < hnL L p → okL L p d k → hrL L p k < u → M 7 (8 * d + hrL L p k) = cap9 (L 7 (8 * d + hrL L p k) + shL L p d k)) ∧ ∀ x : Nat, x < 8 → (x < u → ∀ k : Nat, k < hnL L p → okL L p d k → hrL L p k ≠ x) → M 7 (8 * d + x) = L 7 (8 * d + x)
/-- the LAND in which one has just died -/
def ddL (L : PH) (p : Nat) : PH := uph L 0 7 (zor (L 0 7) (zshl 1 (p : Int)))
def DIn (L : PH) (p u : Nat) (M : PH) : Prop := W9 M ∧ (∀ j k : Nat, j ≠ 7 → j ≠ 8 → M j k = L j k) ∧ (∀ d : Nat, d < u → RWd L p d M) ∧ ∀ d x : Nat, u ≤ d → d < 8 → x < 8 → M 7 (8 * d + x) = L 7 (8 * d + x)
section CG
variable {L M : PH} {p d : Nat}
theorem ok_cg (e0 : M 0 7 = L 0 7) (e13 : ∀ k, M 13 k = L 13 k) {k : Nat} : okL M p d k = okL L p d k := by
  unfold okL hrL
  rw [e0, e13]
theorem cn_cg (e0 : M 0 7 = L 0 7) (e13 : ∀ k, M 13 k = L 13 k) : ∀ k : Nat, cnL M p d k = cnL L p d k
  | 0 => rfl
  | k + 1 => by
    show cnL M p d k + cif (okL M p d k) 1 0 = cnL L p d k + cif (okL L p d k) 1 0
    rw [cn_cg e0 e13 k, ok_cg e0 e13]
theorem hs_cg (e0 : M 0 7 = L 0 7) (e13 : ∀ k, M 13 k = L 13 k) : ∀ k : Nat, hsL M p d k = hsL L p d k
  | 0 => rfl
  | k + 1 => by
    show cif (okL M p d k) (zor (hsL M p d k) (zshl 1 (M 13 (3 * p + k)))) (hsL M p d k) = cif (okL L p d k) (zor (hsL L p d k) (zshl 1 (L 13 (3 * p + k)))) (hsL L p d k)
    rw [hs_cg e0 e13 k, ok_cg e0 e13, e13]
theorem sh_cg (e0 : M 0 7 = L 0 7) (e13 : ∀ k, M 13 k = L 13 k) (e14 : M 14 p = L 14 p) (e7 : M 7 (8 * d + p) = L 7 (8 * d + p)) {k : Nat} : shL M p d k = shL L p d k := by
  unfold shL
  rw [cn_cg e0 e13, cn_cg e0 e13, e14, e7]
theorem DsL.cg (hD : DsL L) (e13 : ∀ k, M 13 k = L 13 k) (e14 : ∀ p, M 14 p = L 14 p) : DsL M := fun p j k hp hj hk => by
  rw [e14] at hk
  have := hD p j k hp hj hk
  unfold hrL at this ⊢
  rw [e13, e13]
  exact this
theorem sh_b (hw : W9 L) (hp : p < 8) (hd : d < 8) {k : Nat} : 0 ≤ shL L p d k ∧ shL L p d k ≤ 200 := by
  have o := hw.1.2.2.2.2.1 (8 * d + p) (by omega)
  have z := zd3 o.1 o.2
  have h3 := hw.1.2.2.1 p hp
  have c := cn_b (L := L) (p := p) (d := d) (L 14 p).toNat
  unfold shL
  by_cases x : cnL L p d k = 0
  · rw [if_pos x]
    generalize cnL L p d (L 14 p).toNat = n at *
    rcases n4 c.1 (by omega) with q | q | q | q <;> rw [q] <;> omega
  · rw [if_neg x]
    omega
theorem SB.set {v n : Int} {p : Nat} (h : SB v n) (hp : (p : Int) < n) (h8 : p < 8) : SB (zor v (zshl 1 (p : Int))) n := by
  obtain ⟨a, b⟩ := bt_or v.toNat (by have := h.1; have := h.2.1; omega) p h8
  rw [Int.toNat_of_nonneg h.1] at a b
  refine ⟨a.1, a.2.1, fun i hi hn => ?_⟩
  rw [b i hi, if_neg (by omega)]
  exact h.2.2 i hi hn
theorem W9.dd (w : W9 L) (hp : (p : Int) < L 0 4) : W9 (ddL L p) := by
  have h8 := w.1.2.1
  have s := w.1.s
  refine w.kp (w.1.kp (fun j k q => up_ne (by omega)) (by rw [ddL, up_ne (by omega)]; exact w.1.1) (by rw [ddL, up_ne (by omega)]; exact h8) ?_) (up_ne (by omega)) (fun j k q => up_ne (by omega)) (fun p b _ _ _ => up_ne (by omega)) (fun p q => by rw [ddL, up_ne (by omega), up_ne (by omega)]; exact w.2.2.1 p q) (fun k => up_ne (by omega)) (fun k => up_ne (by omega)) (fun i hi => by rw [ddL, up_ne (by omega)]; exact w.2.2.2.2.2 i hi)
  exact WS.of (a := L 1 1) (n := L 1 0) (d := zor (L 0 7) (zshl 1 (p : Int))) (f := L 0 8) (k := L 0 9) (p := L 0 4) (up_ne (by omega)) (up_ne (by omega)) (by rw [ddL, up_rd, if_pos ⟨rfl, rfl⟩]) (up_ne (by omega)) (up_ne (by omega)) (up_ne (by omega)) ⟨s.1, s.2.1.set hp (by omega), s.2.2.1, s.2.2.2⟩
theorem dd_bit (w : W9 L) (hp : p < 8) {x : Nat} (hx : x < 8) : bB (ddL L p 0 7) x = true ↔ bB (L 0 7) x = true ∨ x = p := by
  have e : ddL L p 0 7 = zor (L 0 7) (zshl 1 (p : Int)) := by rw [ddL, up_rd, if_pos ⟨rfl, rfl⟩]
  rw [e, bB_or, bB_one (by omega) (by omega)]
  simp only [Bool.or_eq_true, decide_eq_true_eq]
/-- one more heir has its share -/
theorem PMd.st {u k : Nat} (m : PMd L p d u M) (hD : DsL L) (hp : p < 8) (hd : d < 8) (hu : u < 8) (hn : hnL L p ≤ 3) (hu4 : (u : Int) < L 0 4) (hk : k < hnL L p) (ho : okL L p d k) (he : hrL L p k = u) (hs0 : 0 ≤ shL L p d k) : PMd L p d (u + 1) (owe M (d : Int) (u : Int) (cap9 (M 7 (8 * d + u) + shL L p d k))) := by
  obtain ⟨m1, m2, m3, m4, m5⟩ := m
  have mu : M 7 (8 * d + u) = L 7 (8 * d + u) := m5 u hu (fun q => absurd q (by omega))
  have o := m1.1.2.2.2.2.1 (8 * d + u) (by omega)
  have cb := cap9_b (x := M 7 (8 * d + u) + shL L p d k) (by omega)
  refine ⟨m1.ow (by omega) ⟨by omega, by rw [m2 0 4 (by omega) (by omega)]; exact hu4⟩ cb, fun j q q7 q8 => by rw [owe_o q7 q8]; exact m2 j q q7 q8, fun e x he hx hne => ?_, fun q hq hqo hqu => ?_, fun x hx hxq => ?_⟩
  · rw [owe_7, if_neg (by omega)]; exact m3 e x he hx hne
  · by_cases z : hrL L p q = u
    · have ekq : q = k := by
        unfold hnL at hk hq
        by_cases y : q < k
        · exact absurd (z.trans he.symm) (hD p q k hp y (by omega))
        · by_cases y2 : k < q
          · exact absurd (he.trans z.symm) (hD p k q hp y2 (by omega))
          · omega
      subst ekq
      rw [owe_7, z, if_pos (by omega), mu]
    · rw [owe_7, if_neg (by omega)]; exact m4 q hq hqo (by omega)
  · by_cases z : x = u
    · subst z; exact absurd he (hxq (by omega) k hk ho)
    · rw [owe_7, if_neg (by omega)]; exact m5 x hx (fun q => hxq (by omega))
/-- none of the heirs -/
theorem PMd.no {u : Nat} (m : PMd L p d u M) (ho : ∀ k : Nat, k < hnL L p → okL L p d k → hrL L p k ≠ u) : PMd L p d (u + 1) M := by
  obtain ⟨m1, m2, m3, m4, m5⟩ := m
  refine ⟨m1, m2, m3, fun q hq hqo hqu => m4 q hq hqo (by have := ho q hq hqo; omega), fun x hx hxq => m5 x hx (fun q => hxq (by omega))⟩
theorem PMd.en {u : Nat} (m : PMd L p d u M) (hd : d < 8) (hp4 : (p : Int) < L 0 4) (h8 : L 0 4 ≤ 8) (hu : ∀ k : Nat, k < hnL L p → hrL L p k < u) (hpd : bB (L 0 7) p = true) (h0 : 0 < L 7 (8 * d + p)) : W9 (owe M (d : Int) (p : Int) 0) ∧ (∀ j k : Nat, j ≠ 7 → j ≠ 8 → owe M (d : Int) (p : Int) 0 j k = L j k) ∧ (∀ e x : Nat, e < 8 → x < 8 → e ≠ d → owe M (d : Int) (p : Int) 0 7 (8 * e + x) = L 7 (8 * e + x)) ∧ RWd L p d (owe M (d : Int) (p : Int) 0) := by
  obtain ⟨m1, m2, m3, m4, m5⟩ := m
  refine ⟨m1.ow (by omega) ⟨by omega, by rw [m2 0 4 (by omega) (by omega)]; exact hp4⟩ (by omega), fun j q q7 q8 => by rw [owe_o q7 q8]; exact m2 j q q7 q8, fun e x he hx hne => by rw [owe_7, if_neg (by omega)]; exact m3 e x he hx hne, fun q => absurd q (by omega), fun _ => ⟨by rw [owe_7, if_pos (by omega)], fun k hk ho => ?_, fun x hx hxp hxq => ?_⟩⟩
  · have ne : hrL L p k ≠ p := fun z => ho.1 (by rw [z]; exact hpd)
    rw [owe_7, if_neg (by omega)]
    exact m4 k hk ho (hu k hk)
  · rw [owe_7, if_neg (by omega)]
    exact m5 x hx (fun _ => hxq)
theorem RWd.cg {L' M' : PH} (r : RWd L p d M) (hR : ∀ k : Nat, k < hnL L p → hrL L p k < 8) (hp : p < 8) (e0 : L' 0 7 = L 0 7) (e13 : ∀ k, L' 13 k = L 13 k) (e14 : L' 14 p = L 14 p) (e7 : ∀ x : Nat, x < 8 → L' 7 (8 * d + x) = L 7 (8 * d + x)) (f7 : ∀ x : Nat, x < 8 → M' 7 (8 * d + x) = M 7 (8 * d + x)) : RWd L' p d M' := by
  have en : hnL L' p = hnL L p := by unfold hnL; rw [e14]
  have eh : ∀ k, hrL L' p k = hrL L p k := fun k => by unfold hrL; rw [e13]
  refine ⟨fun q x hx => ?_, fun q => ?_⟩
  · rw [f7 x hx, e7 x hx]; exact r.1 (by rw [← e7 p hp]; exact q) x hx
  · rw [e7 p hp] at q
    obtain ⟨r1, r2, r3⟩ := r.2 q
    refine ⟨by rw [f7 p hp]; exact r1, fun k hk ho => ?_, fun x hx hxp hxq => ?_⟩
    · rw [en] at hk
      have ho : okL L p d k := by rw [← ok_cg (M := L') (L := L) (p := p) (d := d) (k := k) e0 e13]; exact ho
      have b := hR k hk
      rw [eh, f7 _ b, e7 _ b, sh_cg e0 e13 e14 (e7 p hp)]
      exact r2 k hk ho
    · rw [f7 x hx, e7 x hx]
      refine r3 x hx hxp (fun k hk ho => ?_)
      have := hxq k (by rw [en]; exact hk) (by rw [ok_cg e0 e13]; exact ho)
      rw [eh] at this
      exact this
end CG
set_option maxRecDepth 10000 in
theorem v_X0_add5 {sl : Nat} {si : Nat → Int} {K : Nat → PH → ZL → List ZV → Prop} {Q : PH → List ZV → Prop} {h : PH}  {a b c : Int} (H : ∀ h1 v1, CP (zz sl si (7, 0)) mX0_of h [(2, 11), (0, a), (0, b)] h1 [(0, v1)] → R32 v1 → ((w32 (v1 + c)) ≤ 99 → ∀ h2, CP (zz sl si (7, 0)) mX0_put h1 [(2, 11), (0, a), (0, b), (0, w32 (v1 + c))] h2 [] → Q h2 []) ∧ (¬ ((w32 (v1 + c)) ≤ 99) → ∀ h3, CP (zz sl si (7, 0)) mX0_put h1 [(2, 11), (0, a), (0, b), (0, 99)] h3 [] → Q h3 [])) : vc (zz sl si (7, 0)) (fun _ => false) K Q mX0_add 19 0 mX0_add.2.2.2.2.2.2 h [(0, (2, 11)), (1, (0, a)), (2, (0, b)), (3, (0, c))] [] := H
set_option maxHeartbeats 600000 in
theorem c_X0_add5 {sl : Nat} {si : Nat → Int} {h h' : PH} {L : PH} {a b c : Int} (hL : CL 5 h L) (hw : W9 L) (ha : 0 ≤ a ∧ a < 8) (hb : 0 ≤ b ∧ b < 8) (hv : 0 ≤ c ∧ c ≤ 200) (hc : CP (zz sl si (7, 0)) mX0_add h [(2, 11), (0, a), (0, b), (0, c)] h' []) : CL 5 h' (owe L a b (cap9 (L 7 (8 * a.toNat + b.toNat) + c))) ∧ (∀ c k : Nat, c ≠ 12 → c ≠ 13 → h' c k = h c k) := by
  have q : (fun (xh : PH) (r : List ZV) => CL 5 xh (owe L a b (cap9 (L 7 (8 * a.toNat + b.toNat) + c))) ∧ (∀ c k : Nat, c ≠ 12 → c ≠ 13 → xh c k = h c k)) h' [] := by
    refine cp_vc (cut := (fun _ => false)) (K := fun p hx lv st => False) (Q := fun (xh : PH) (r : List ZV) => CL 5 xh (owe L a b (cap9 (L 7 (8 * a.toNat + b.toNat) + c))) ∧ (∀ c k : Nat, c ≠ 12 → c ≠ 13 → xh c k = h c k)) (v_X0_add5 ?_) (fun pc hx lv st hcut hK => ?_) hc
    · exact (fun h1 v1 p1 q1 => ⟨fun c1 => (fun h2 p2 => (by obtain ⟨t1, w1⟩ := c_X0_of5 (by omega) (by omega) p1; have t1 := t1.symm; subst t1; have o1 : h 12 (8 * a.toNat + b.toNat) = L 7 (8 * a.toNat + b.toNat) := hL 7 _ (il7 (by omega)); have o7 := hw.1.2.2.2.2.1 (8 * a.toNat + b.toNat) (by omega); rw [o1] at w1; subst w1; rw [w32_id (by omega) (by omega)] at c1 p2; have e : cap9 (L 7 (8 * a.toNat + b.toNat) + c) = L 7 (8 * a.toNat + b.toNat) + c := if_pos c1; rw [e]; exact c_X0_put5 hL hw.1 ha hb (by omega) p2)), fun c1 => (fun h3 p3 => (by obtain ⟨t1, w1⟩ := c_X0_of5 (by omega) (by omega) p1; have t1 := t1.symm; subst t1; have o1 : h 12 (8 * a.toNat + b.toNat) = L 7 (8 * a.toNat + b.toNat) := hL 7 _ (il7 (by omega)); have o7 := hw.1.2.2.2.2.1 (8 * a.toNat + b.toNat) (by omega); rw [o1] at w1; subst w1; rw [w32_id (by omega) (by omega)] at c1; have e : cap9 (L 7 (8 * a.toNat + b.toNat) + c) = 99 := if_neg c1; rw [e]; exact c_X0_put5 hL hw.1 ha hb (by omega) p3))⟩)
    · exact hK.elim
  exact q
set_option maxRecDepth 10000 in
theorem v_X1_passOn5 {sl : Nat} {si : Nat → Int} {K : Nat → PH → ZL → List ZV → Prop} {Q : PH → List ZV → Prop} {h : PH}  {a b : Int} (H : ∀ h1 v1, CP (zz sl si (7, 0)) mX1_heirSet h [(2, 5), (0, a), (0, b)] h1 [(0, v1)] → R32 v1 → K 10 h1 [(4, (0, 0)), (3, (0, v1)), (0, (2, 5)), (1, (0, a)), (2, (0, b))] []) : vc (zz sl si (7, 0)) (fun p => Nat.beq p 10) K Q mX1_passOn 9 0 mX1_passOn.2.2.2.2.2.2 h [(0, (2, 5)), (1, (0, a)), (2, (0, b))] [] := H
set_option maxRecDepth 10000 in
theorem v_X1_passOn5_10 {sl : Nat} {si : Nat → Int} {K : Nat → PH → ZL → List ZV → Prop} {Q : PH → List ZV → Prop} {h : PH}  {a b : Int} {s k : Int} (H : R32 (h 5 4) → ((h 5 4) ≤ k → ∀ h1, CP (zz sl si (7, 0)) mX0_put h [(2, 11), (0, a), (0, b), (0, 0)] h1 [] → Q h1 []) ∧ (¬ ((h 5 4) ≤ k) → ∀ h2 v2, CP (zz sl si (7, 0)) mX11_has h [(0, s), (0, k)] h2 [(0, v2)] → v2 = 0 ∨ v2 = 1 → (v2 = 0 → K 10 h2 [(4, (0, w32 (k + 1))), (0, (2, 5)), (1, (0, a)), (2, (0, b)), (3, (0, s))] []) ∧ (¬ (v2 = 0) → ∀ h3 v3, CP (zz sl si (7, 0)) mX1_shareOf h2 [(2, 5), (0, a), (0, b), (0, k), (0, s)] h3 [(0, v3)] → R32 v3 → ∀ h4, CP (zz sl si (7, 0)) mX0_add h3 [(2, 11), (0, a), (0, k), (0, v3)] h4 [] → K 10 h4 [(4, (0, w32 (k + 1))), (0, (2, 5)), (1, (0, a)), (2, (0, b)), (3, (0, s))] []))) : vc (zz sl si (7, 0)) (fun p => Nat.beq p 10) K Q mX1_passOn 23 10 (ax_jmp mX1_passOn.2.2.2.2.2.2 10) h [(0, (2, 5)), (1, (0, a)), (2, (0, b)), (3, (0, s)), (4, (0, k))] [] := H
set_option maxHeartbeats 600000 in
theorem c_X1_passOn5 {sl : Nat} {si : Nat → Int} {h h' : PH} {L : PH} {a b : Int} (hL : CL 5 h L) (hw : W9 L) (hD : DsL L) (ha : 0 ≤ a ∧ a < 8) (hb : 0 ≤ b ∧ b < L 0 4) (hpd : bB (L 0 7) b.toNat = true) (h0 : 0 < L 7 (8 * a.toNat + b.toNat)) (hc : CP (zz sl si (7, 0)) mX1_passOn h [(2, 5), (0, a), (0, b)] h' []) : (∃ M : PH, CL 5 h' M ∧ W9 M ∧ (∀ j k : Nat, j ≠ 7 → j ≠ 8 → M j k = L j k) ∧ (∀ e x : Nat, e < 8 → x < 8 → e ≠ a.toNat → M 7 (8 * e + x) = L 7 (8 * e + x)) ∧ RWd L b.toNat a.toNat M) ∧ (∀ c k : Nat, c ≠ 12 → c ≠ 13 → h' c k = h c k) := by
  have q : (fun (xh : PH) (r : List ZV) => (∃ M : PH, CL 5 xh M ∧ W9 M ∧ (∀ j k : Nat, j ≠ 7 → j ≠ 8 → M j k = L j k) ∧ (∀ e x : Nat, e < 8 → x < 8 → e ≠ a.toNat → M 7 (8 * e + x) = L 7 (8 * e + x)) ∧ RWd L b.toNat a.toNat M) ∧ (∀ c k : Nat, c ≠ 12 → c ≠ 13 → xh c k = h c k)) h' [] := by
    refine cp_vc (cut := (fun p => Nat.beq p 10)) (K := fun p hx lv st => (p = 10 ∧ lK (fun u : Nat => [(0, (2, 5)), (1, (0, a)), (2, (0, b)), (3, (0, hsL L b.toNat a.toNat (L 14 b.toNat).toNat)), (4, (0, (u : Int)))]) (fun u hx => (u : Int) ≤ L 0 4 ∧ (∃ M : PH, CL 5 hx M ∧ PMd L b.toNat a.toNat u M) ∧ (∀ c k : Nat, c ≠ 12 → c ≠ 13 → hx c k = h c k)) p hx lv st)) (Q := fun (xh : PH) (r : List ZV) => (∃ M : PH, CL 5 xh M ∧ W9 M ∧ (∀ j k : Nat, j ≠ 7 → j ≠ 8 → M j k = L j k) ∧ (∀ e x : Nat, e < 8 → x < 8 → e ≠ a.toNat → M 7 (8 * e + x) = L 7 (8 * e + x)) ∧ RWd L b.toNat a.toNat M) ∧ (∀ c k : Nat, c ≠ 12 → c ≠ 13 → xh c k = h c k)) (v_X1_passOn5 ?_) (fun pc hx lv st hcut hK => ?_) hc
    · exact (fun h1 v1 p1 q1 => (by have h8 := hw.1.2.1; have h3 := hw.1.2.2.1 b.toNat (by omega); obtain ⟨t1, w1⟩ := c_X1_heirSet5 hL hw (by omega) (by omega) p1; have t1 := t1.symm; subst t1; subst w1; exact ⟨rfl, rfl, 0, ⟨by omega, ⟨L, hL, hw, fun _ _ _ _ => rfl, fun _ _ _ _ _ => rfl, fun k _ _ q => absurd q (by omega), fun _ _ _ => rfl⟩, fun _ _ _ _ => rfl⟩, rfl, rfl, rfl, rfl, rfl, trivial⟩))
    · rcases hK with ⟨rfl, rfl, u, hJ, hs⟩
      · obtain ⟨j1, ⟨M, j2, j3⟩, j4⟩ := hJ
        have h8 := hw.1.2.1
        have h3 := hw.1.2.2.1 b.toNat (by omega)
        obtain ⟨⟨s1, s2⟩, s3, s4⟩ := hs_b (L := L) (p := b.toNat) (d := a.toNat) (by omega) hD (fun k k1 k2 => ⟨(hw.2.2.2.2.1 b.toNat k (by omega) k1 k2).1, by have := (hw.2.2.2.2.1 b.toNat k (by omega) k1 k2).2; omega⟩) h3.2 (L 14 b.toNat).toNat (by omega)
        obtain ⟨m1, m2, m3, m4, m5⟩ := id j3
        have k4 : hx 5 4 = L 0 4 := (j2 0 4 (by unfold inL; omega)).trans (m2 0 4 (by omega) (by omega))
        have hr8 : ∀ k : Nat, k < hnL L b.toNat → 0 ≤ L 13 (3 * b.toNat + k) ∧ L 13 (3 * b.toNat + k) < L 0 4 := fun k hk => hw.2.2.2.2.1 b.toNat k (by omega) (by unfold hnL at hk; omega) (by unfold hnL at hk; omega)
        exact ⟨_, _, hs, v_X1_passOn5_10 (fun r1 => ⟨fun c2 => (fun h1 p1 => (by rw [k4] at c2; obtain ⟨x1, x2⟩ := c_X0_put5 j2 m1.1 ha (by omega) (by omega) p1; have en := j3.en (by omega) (by omega) h8.2 (fun k hk => by have := hr8 k hk; unfold hrL; omega) hpd h0; rw [show ((a.toNat : Nat) : Int) = a by omega, show ((b.toNat : Nat) : Int) = b by omega] at en; exact ⟨⟨_, x1, en⟩, fun c k y1 y2 => (x2 c k y1 y2).trans (j4 c k y1 y2)⟩)), fun c2 => (fun h2 v2 p2 q2 => by obtain ⟨t2, e2⟩ := c_X11_hasB p2; have t2 := t2.symm; subst t2; exact ⟨fun c3 => (by rw [k4] at c2; rw [bt_z (by omega) (by omega), Int.toNat_natCast] at e2; exact ⟨rfl, rfl, u + 1, ⟨by omega, ⟨M, j2, j3.no (fun k hk ho z => by have := e2.mpr ((s3 u (by omega)).mpr ⟨k, hk, ho, z⟩); omega)⟩, j4⟩, rfl, rfl, rfl, rfl, wv (by omega) (by omega) (by omega), trivial⟩), fun c3 => (fun h3 v3 p3 q3 => (fun h4 p4 => (by rw [k4] at c2; rw [bt_z (by omega) (by omega), Int.toNat_natCast] at e2; obtain ⟨k, hk, ho, he⟩ := (s3 u (by omega)).mp (e2.mp (by omega)); have r13 := hr8 k hk; have c7 : M 0 7 = L 0 7 := m2 0 7 (by omega) (by omega); have c13 : ∀ k, M 13 k = L 13 k := fun k => m2 13 k (by omega) (by omega); have c14 : ∀ k, M 14 k = L 14 k := fun k => m2 14 k (by omega) (by omega); have cp : M 7 (8 * a.toNat + b.toNat) = L 7 (8 * a.toNat + b.toNat) := m5 b.toNat (by omega) (fun _ q _ qo z => qo.1 (by rw [z]; exact hpd)); obtain ⟨t3, w3⟩ := c_X1_shareOf5 (L := M) (n := k) j2 m1 (hD.cg c13 c14) ha (by omega) (by omega) (by rw [hs_cg c7 c13, c14]) (by rw [c14]; omega) (by rw [ok_cg c7 c13]; exact ho) (by rw [c13]; unfold hrL at he; omega) p3; have t3 := t3.symm; subst t3; rw [sh_cg c7 c13 (c14 _) cp] at w3; subst w3; have sb := sh_b hw (p := b.toNat) (d := a.toNat) (by omega) (by omega) (k := k); obtain ⟨x1, x2⟩ := c_X0_add5 j2 m1 ha (by omega) (by omega) p4; rw [Int.toNat_natCast] at x1; have st := j3.st hD (by omega) (by omega) (by omega) (by unfold hnL; omega) (by omega) hk ho he sb.1; rw [show ((a.toNat : Nat) : Int) = a by omega] at st; exact ⟨rfl, rfl, u + 1, ⟨by omega, ⟨_, x1, st⟩, fun c k y1 y2 => (x2 c k y1 y2).trans (j4 c k y1 y2)⟩, rfl, rfl, rfl, rfl, wv (by omega) (by omega) (by omega), trivial⟩)))⟩)⟩)⟩
  exact q
