/-! TYPES WHERE THE LAND IS COPIED TO AND FRO -/
noncomputable def py3 (T : Nat × SEG) (i : Nat) : Bool := decide (ty_at T (2640 + i) = ty_at T i) && decide (ty_at T (3168 + i) = ty_at T i)
noncomputable def py2 : Option (Nat × SEG) → Bool
  | some T => (List.range 164).all (py3 T)
  | none => false
set_option maxRecDepth 100000 in
theorem py_ok : py2 (ttq[170]?) = true := by decide +kernel
theorem ty_sl {T : Nat × SEG} (h : ttq[170]? = some T) {s i : Nat} (hs : s = 5 ∨ s = 6) (hi : i < 164) : ty_at T (528 * s + i) = ty_at T i := by
  have e := py_ok
  rw [h] at e
  have e : (List.range 164).all (py3 T) = true := e
  have a := bb_and (List.all_eq_true.mp e i (List.mem_range.mpr hi))
  rcases hs with z | z
  · rw [z]; exact of_decide_eq_true a.1
  · rw [z]; exact of_decide_eq_true a.2
def sty (k k' : Nat) : Prop := ∀ T : Nat × SEG, ttq[170]? = some T → ty_at T k' = ty_at T k
noncomputable def tz4 : Option (Nat × SEG) → Bool
  | some T => decide (ty_at T 4 = some (-1, 60))
  | none => false
noncomputable def kpc (e : CE) : Bool := e.2.1.2.isEmpty && (!(Nat.beq e.1 170) || (decide (e.2.1.1 = 4) || (decide (164 ≤ e.2.1.1) && decide (e.2.1.1 < 2640))))
set_option maxRecDepth 100000 in
theorem kp_ok : (tA U0q.2.1).2.1.1.all kpc = true := by decide +kernel
/-- there are TALES -/
noncomputable def U1q : UN := (U0q.1, (U0q.2.1.1.set 4 (0, 60), U0q.2.1.2), U0q.2.2)
set_option maxRecDepth 100000 in
theorem kp_ok1 : (tA U1q.2.1).2.1.1.all kpc = true := by decide +kernel
noncomputable def okc (p : Nat × Nat) (s : Nat) : Bool := !(Nat.beq p.1 170) || (Nat.ble 164 p.2 && Nat.ble (p.2 + s * 60) 2639)
noncomputable def gk4 : Option (Int × Int) → Bool
  | some q => decide (q.2 ≤ 60)
  | none => false
noncomputable def gk3 (σ : SG) (G : Nat × Nat × (Nat × Nat) × (Nat × Nat) × (Nat × Nat)) (f0 : Int) : List (Nat × Int) → Bool
  | [p] => decide (f0 = 0) && (decide (p.2 = 1) && (gk4 (σ[p.1]?) && (okc G.2.2.1 G.2.1 && (okc G.2.2.2.1 G.2.1 && okc G.2.2.2.2 G.2.1))))
  | _ => false
noncomputable def gk2 (σ : SG) (e : GE) : Option (Nat × Nat × (Nat × Nat) × (Nat × Nat) × (Nat × Nat)) → Bool
  | some G => gk3 σ G e.2.1 e.2.2
  | none => false
set_option maxRecDepth 100000 in
theorem gk_ok : (tA U0q.2.1).2.1.2.1.all (fun e => gk2 (tA U0q.2.1).1.1 e (gtq[e.1]?)) = true := by decide +kernel
set_option maxRecDepth 100000 in
theorem gk_ok1 : (tA U1q.2.1).2.1.2.1.all (fun e => gk2 (tA U1q.2.1).1.1 e (gtq[e.1]?)) = true := by decide +kernel
/-- a state whose known places and rows lie beside the LAND -/
def KGU (U : UN) : Prop := (tA U.2.1).2.1.1.all kpc = true ∧ (tA U.2.1).2.1.2.1.all (fun e => gk2 (tA U.2.1).1.1 e (gtq[e.1]?)) = true ∧ (tA U.2.1).2.1.2.2.1 = [] ∧ (tA U.2.1).2.1.2.2.2.2.1 = [] ∧ (tA U.2.1).2.1.2.2.2.2.2 = []
theorem kg0 : KGU U0q := ⟨kp_ok, gk_ok, rfl, rfl, rfl⟩
theorem kg1 : KGU U1q := ⟨kp_ok1, gk_ok1, rfl, rfl, rfl⟩
theorem okc_eq {p : Nat × Nat} {s k : Nat} {h h' : PH} (c : okc p s = true) (hag : ∀ c k : Nat, ¬ (c = 170 ∧ (k < 164 ∨ 2640 ≤ k)) → h' c k = h c k) (hk : (k : Int) < 60) : h' p.1 (p.2 + s * k) = h p.1 (p.2 + s * k) := by
  refine hag _ _ (fun z => ?_)
  unfold okc at c
  rcases (Bool.or_eq_true _ _).mp c with q | q
  · rw [z.1] at q
    cases q
  · have q := bb_and q
    have q1 := bb_le q.1
    have q2 := bb_le q.2
    have m : s * k ≤ s * 60 := Nat.mul_le_mul_left s (by omega)
    omega
theorem tq_cp {U : UN} (kg : KGU U) {L : LSc} {sp ad : Nat → Nat} {h h' : PH} (hT : Tq tbq L sp ad U h) (hag : ∀ c k : Nat, ¬ (c = 170 ∧ (k < 164 ∨ 2640 ≤ k)) → h' c k = h c k) (h4 : h' 170 4 = h 170 4) (hs : ∀ k : Nat, ∃ k' : Nat, sty k k' ∧ h' 170 k = h 170 k') : Tq tbq L sp ad U h' := by
  obtain ⟨ρ, hN, ⟨m1, m2, m3, m4, m5, m6⟩, ⟨t1, t2, t3⟩, hL, hS⟩ := hT
  refine ⟨ρ, hN, ⟨fun e he => ?_, fun e he => ?_, ?_, fun c k _ => rfl, ?_, ?_⟩, ⟨fun c T hc => ⟨(t1 c T hc).1, fun k q hq => ?_⟩, ?_, ?_⟩, hL, hS⟩
  · obtain ⟨i, x, a, b, c, d⟩ := m1 e he
    refine ⟨i, x, a, b, c, ?_⟩
    have z := bb_and (List.all_eq_true.mp kg.1 e he)
    have l0 : e.2.1.2 = [] := List.isEmpty_iff.mp z.1
    have le : e.2.1 = (e.2.1.1, []) := Prod.ext rfl l0
    rw [le] at a
    have ei := Lv.cn a
    rw [← d]
    rcases (Bool.or_eq_true _ _).mp z.2 with q | q
    · refine hag _ _ (fun y => ?_)
      rw [y.1] at q
      cases q
    · rcases (Bool.or_eq_true _ _).mp q with q | q
      · have q := of_decide_eq_true q
        have i4 : i.toNat = 4 := by omega
        rw [i4]
        by_cases y : e.1 = 170
        · rw [y]; exact h4
        · exact hag _ _ (fun w => y w.1)
      · have q := bb_and q
        have q1 := of_decide_eq_true q.1
        have q2 := of_decide_eq_true q.2
        exact hag _ _ (fun w => by omega)
  · obtain ⟨n, hn, G, hG, hR⟩ := m2 e he
    refine ⟨n, hn, G, hG, ?_⟩
    have z := List.all_eq_true.mp kg.2.1 e he
    have hG : gtq[e.1]? = some G := hG
    have z : gk2 (tA U.2.1).1.1 e (gtq[e.1]?) = true := z
    rw [hG] at z
    have z : gk3 (tA U.2.1).1.1 G e.2.1 e.2.2 = true := z
    obtain ⟨y, hy, hy2⟩ := hn
    match hl : e.2.2, z with
    | [p], z =>
      have z : (decide (e.2.1 = 0) && (decide (p.2 = 1) && (gk4 ((tA U.2.1).1.1[p.1]?) && (okc G.2.2.1 G.2.1 && (okc G.2.2.2.1 G.2.1 && okc G.2.2.2.2 G.2.1))))) = true := z
      obtain ⟨z1, z⟩ := bb_and z
      obtain ⟨z2, z⟩ := bb_and z
      obtain ⟨z3, z⟩ := bb_and z
      obtain ⟨z4, z⟩ := bb_and z
      obtain ⟨z5, z6⟩ := bb_and z
      have z1 := of_decide_eq_true z1
      have z2 := of_decide_eq_true z2
      rw [hl] at hy
      obtain ⟨v, y2, v1, v2, v3⟩ := hy
      have v2 : y2 = 0 := v2
      obtain ⟨q, s1, s2, s3⟩ := hN.1.2 p.1 v v1
      rw [s1] at z3
      have z3 : decide (q.2 ≤ 60) = true := z3
      have z3 := of_decide_eq_true z3
      have hn : n ≤ 60 := by
        rw [hy2, v3, z1, z2, v2]
        omega
      intro k hk
      rw [okc_eq z4 hag (by omega), okc_eq z5 hag (by omega), okc_eq z6 hag (by omega)]
      exact hR k hk
  · exact fun e he => absurd he (by rw [kg.2.2.1]; exact List.not_mem_nil)
  · exact fun e he => absurd he (by rw [kg.2.2.2.1]; exact List.not_mem_nil)
  · exact fun e he => absurd he (by rw [kg.2.2.2.2]; exact List.not_mem_nil)
  · by_cases y : c = 170
    · subst y
      obtain ⟨k', e1, e2⟩ := hs k
      rw [e2]
      exact (t1 170 T hc).2 k' q (by rw [e1 T hc]; exact hq)
    · rw [hag _ _ (fun w => y w.1)]
      exact (t1 c T hc).2 k q hq
  · rw [hag _ _ (by omega)]; exact t2
  · intro k hk
    rw [hag _ _ (by omega)]
    exact t3 k hk
theorem tq_10 {L : LSc} {sp ad : Nat → Nat} {h : PH} (hT : Tq tbq L sp ad U0q h) (h4 : 0 ≤ h 170 4) : Tq tbq L sp ad U1q h := by
  obtain ⟨ρ, hN, hM, hTh, hL, hS⟩ := hT
  refine ⟨ρ, ⟨hN.1.cut (fun z hz => ?_), hN.2⟩, hM, hTh, hL, hS⟩
  obtain ⟨i, x, a, b, c, d⟩ := hM.1 (170, (4, []), (0, [(4, 1)])) (by decide +kernel)
  have e1 : i = 4 := Lv.cn a
  have e2 : x = z := Lv.fn c (Lv.v hz)
  subst e1
  have d : h 170 4 = x := d
  obtain ⟨q, s1, s2, s3⟩ := hN.1.2 4 z hz
  have s4 : (tA U0q.2.1).1.1[4]? = some (-1, 60) := rfl
  rw [s4] at s1
  have s1 := Option.some.inj s1
  rw [← s1] at s3
  have s3 : z ≤ 60 := s3
  omega
/-- bounds of the LAND's cells -/
def bnd (k : Nat) : Int × Int := if k < 27 then (if k = 0 then (0, 7) else if k = 1 then (0, 8) else (-2147483648, 2147483647)) else if k < 67 then (0, 6) else if k < 131 then (0, 99) else if (k - 131) % 4 = 0 then (0, 3) else (0, 7)
noncomputable def by3 (k : Nat) : Option (Int × Int) → Bool
  | some q => decide ((bnd k).1 ≤ q.1) && decide (q.2 ≤ (bnd k).2)
  | none => decide (2 ≤ k) && decide (k < 27)
noncomputable def by2 (k : Nat) : Option (Nat × SEG) → Bool
  | some T => by3 k (ty_at T k)
  | none => false
set_option maxRecDepth 100000 in
theorem by_ok : (List.range 163).all (fun k => by2 k (ttq[170]?)) = true := by decide +kernel
theorem tq_bd {L : LSc} {sp ad : Nat → Nat} {h : PH} (hT : Tq tbq L sp ad U0q h) {k : Nat} (hk : k < 163) (h2 : ¬ (2 ≤ k ∧ k < 27)) : (bnd k).1 ≤ h 170 k ∧ h 170 k ≤ (bnd k).2 := by
  obtain ⟨ρ, hN, hM, ⟨t1, -, -⟩, -⟩ := hT
  have a : by2 k (ttq[170]?) = true := List.all_eq_true.mp by_ok k (List.mem_range.mpr hk)
  cases e : ttq[170]? with
  | none => rw [e] at a; cases a
  | some T =>
    rw [e] at a
    have a : by3 k (ty_at T k) = true := a
    cases e2 : ty_at T k with
    | none =>
      rw [e2] at a
      have a : (decide (2 ≤ k) && decide (k < 27)) = true := a
      have a := bb_and a
      exact absurd ⟨of_decide_eq_true a.1, of_decide_eq_true a.2⟩ h2
    | some q =>
      rw [e2] at a
      have a : (decide ((bnd k).1 ≤ q.1) && decide (q.2 ≤ (bnd k).2)) = true := a
      have a := bb_and a
      have w := (t1 170 T e).2 k q e2
      exact ⟨Int.le_trans (of_decide_eq_true a.1) w.1, Int.le_trans w.2 (of_decide_eq_true a.2)⟩
theorem u1_w : st_wf U1q.2.1.1.length U1q.2.1 = true := by decide +kernel
theorem tq_4 {L : LSc} {sp ad : Nat → Nat} {h : PH} (hT : Tq tbq L sp ad U0q h) (z : h 170 4 ≠ -1) : 0 ≤ h 170 4 := by
  obtain ⟨ρ, hN, hM, ⟨t1, -, -⟩, -⟩ := hT
  have e : tz4 (ttq[170]?) = true := by decide +kernel
  cases e1 : ttq[170]? with
  | none => rw [e1] at e; cases e
  | some T =>
    rw [e1] at e
    have e : decide (ty_at T 4 = some (-1, 60)) = true := e
    have w := (t1 170 T e1).2 4 _ (of_decide_eq_true e)
    have w1 : -1 ≤ h 170 4 := w.1
    omega
theorem tq_B {L : LSc} {sp ad : Nat → Nat} {h : PH} (hT : Tq tbq L sp ad U0q h) : BdR h ∧ BdD h ∧ BdH h := by
  refine ⟨⟨?_, ?_, fun q hq => ?_⟩, fun i hi => ?_, fun p hp => ⟨?_, fun k h1 h3 => ?_⟩⟩
  · exact tq_bd hT (k := 0) (by omega) (by omega)
  · exact tq_bd hT (k := 1) (by omega) (by omega)
  · have z := tq_bd hT (k := 27 + 5 * q) (by omega) (by omega)
    unfold bnd at z
    rw [if_neg (by omega), if_pos (by omega)] at z
    exact z
  · have z := tq_bd hT (k := 67 + i) (by omega) (by omega)
    unfold bnd at z
    rw [if_neg (by omega), if_neg (by omega), if_pos (by omega)] at z
    exact z
  · have z := tq_bd hT (k := 131 + 4 * p) (by omega) (by omega)
    unfold bnd at z
    rw [if_neg (by omega), if_neg (by omega), if_neg (by omega), if_pos (by omega)] at z
    exact z
  · have z := tq_bd hT (k := 131 + 4 * p + k) (by omega) (by omega)
    unfold bnd at z
    rw [if_neg (by omega), if_neg (by omega), if_neg (by omega), if_neg (by omega)] at z
    exact z
theorem tq_keeps {U : UN} (kg : KGU U) {L : LSc} {sp ad : Nat → Nat} {sl : Nat} {si : Nat → Int} {h h' : PH} {s : Nat} (hs : s = 5 ∨ s = 6) (hT : Tq tbq L sp ad U h) (p : CP (zz sl si (7, 0)) mX12_keeps h [(2, 169), (0, ((528 * s : Nat) : Int))] h' []) : Tq tbq L sp ad U h' := by
  obtain ⟨a1, a2⟩ := c_X12_keeps (by omega) p
  rw [Int.toNat_natCast] at a1 a2
  refine tq_cp kg hT (fun c k q => a2 c k (by omega)) (a2 170 4 (by omega)) (fun k => ?_)
  by_cases z : 528 * s ≤ k ∧ k < 528 * s + 164
  · have x := a1 (k - 528 * s) (by omega)
    rw [show 528 * s + (k - 528 * s) = k by omega] at x
    exact ⟨k - 528 * s, fun T hc => by rw [← ty_sl hc hs (i := k - 528 * s) (by omega), show 528 * s + (k - 528 * s) = k by omega], x⟩
  · exact ⟨k, fun _ _ => rfl, a2 170 k (by omega)⟩
theorem tq_restores {U : UN} (kg : KGU U) {L : LSc} {sp ad : Nat → Nat} {sl : Nat} {si : Nat → Int} {h h' : PH} {s : Nat} (hs : s = 5 ∨ s = 6) (hT : Tq tbq L sp ad U h) (h4 : h 170 (528 * s + 4) = h 170 4) (p : CP (zz sl si (7, 0)) mX12_restores h [(2, 169), (0, ((528 * s : Nat) : Int))] h' []) : Tq tbq L sp ad U h' := by
  obtain ⟨a1, a2⟩ := c_X12_restores (by omega) p
  rw [Int.toNat_natCast] at a1
  refine tq_cp kg hT (fun c k q => a2 c k (by omega)) ((a1 4 (by omega)).trans h4) (fun k => ?_)
  by_cases z : k < 164
  · exact ⟨528 * s + k, fun T hc => ty_sl hc hs z, a1 k z⟩
  · exact ⟨k, fun _ _ => rfl, a2 170 k (by omega)⟩
