/-! names: eight bits a letter -/
theorem zl8 {x b : Int} (h0 : 0 ≤ x) (h1 : x < 36028797018963968) (h2 : 0 ≤ b) (h3 : b < 256) : zlor (zlshl x 8) b = x * 256 + b := by
  have ex : (Int64.ofInt x).toInt = x := o64R ⟨by omega, by omega⟩
  have eb : (Int64.ofInt b).toInt = b := o64R ⟨by omega, by omega⟩
  have es : (Int64.ofInt x <<< ((Int32.ofInt 8).toInt64 &&& 63)).toInt = x * 2 ^ 8 := by
    rw [Kit.i64_shl (k := 8) _ _ (by decide +kernel) (by rw [ex]; omega) (by rw [ex]; omega), ex]
  have e2 : zlshl x 8 = x * 256 := es
  have ey : (Int64.ofInt (x * 256)).toInt = x * 256 := o64R ⟨by omega, by omega⟩
  unfold zlor
  rw [e2, k2_or_add (k := 8) (z := x) (by omega) h0 (by rw [ey]; rfl) (by rw [eb]; exact h2) (by rw [eb]; exact h3) (by rw [eb]; omega), ey, eb]
def c8n (g : Nat → Int) : Nat → Int
  | 0 => 0
  | m + 1 => c8n g m * 256 + g m
theorem c8n_cg {g g' : Nat → Int} : ∀ (m : Nat), (∀ i, i < m → g i = g' i) → c8n g m = c8n g' m
  | 0, _ => rfl
  | m + 1, h => by
    show c8n g m * 256 + g m = c8n g' m * 256 + g' m
    rw [c8n_cg m (fun i hi => h i (by omega)), h m (by omega)]
theorem c8n_b {g : Nat → Int} : ∀ (m : Nat), (∀ i, i < m → 97 ≤ g i ∧ g i ≤ 122) → 0 ≤ c8n g m ∧ 2 * c8n g m < 256 ^ m ∧ (1 ≤ m → 1 ≤ c8n g m)
  | 0, _ => by
    show (0 : Int) ≤ 0 ∧ 2 * (0 : Int) < 256 ^ 0 ∧ _
    omega
  | m + 1, h => by
    have a := c8n_b m (fun i hi => h i (by omega))
    have b := h m (by omega)
    have e : (256 : Int) ^ (m + 1) = 256 ^ m * 256 := Int.pow_succ _ _
    show 0 ≤ c8n g m * 256 + g m ∧ 2 * (c8n g m * 256 + g m) < 256 ^ (m + 1) ∧ _
    rw [e]
    refine ⟨by omega, by omega, fun _ => ?_⟩
    show 1 ≤ c8n g m * 256 + g m
    omega
theorem c8n_in {g g' : Nat → Int} : ∀ (m m' : Nat), (∀ i, i < m → 97 ≤ g i ∧ g i ≤ 122) → (∀ i, i < m' → 97 ≤ g' i ∧ g' i ≤ 122) → c8n g m = c8n g' m' → m = m' ∧ ∀ i, i < m → g i = g' i
  | 0, 0, _, _, _ => ⟨rfl, fun i hi => by omega⟩
  | 0, m' + 1, _, h', e => by
    have := (c8n_b (m' + 1) h').2.2 (by omega)
    rw [← e] at this
    exact absurd this (by show ¬ (1 : Int) ≤ 0; omega)
  | m + 1, 0, h, _, e => by
    have := (c8n_b (m + 1) h).2.2 (by omega)
    rw [e] at this
    exact absurd this (by show ¬ (1 : Int) ≤ 0; omega)
  | m + 1, m' + 1, h, h', e => by
    have e : c8n g m * 256 + g m = c8n g' m' * 256 + g' m' := e
    have a := h m (by omega)
    have a' := h' m' (by omega)
    obtain ⟨q1, q2⟩ := c8n_in m m' (fun i hi => h i (by omega)) (fun i hi => h' i (by omega)) (by omega)
    subst q1
    refine ⟨rfl, fun i hi => ?_⟩
    by_cases z : i = m
    · rw [z]; omega
    · exact q2 i (by omega)
theorem c8_n {T : TX} {s : Nat} : ∀ (m : Nat), m ≤ 8 → (∀ t, s ≤ t → t < s + m → ltr (T.1 t)) → c8 T s m = c8n (fun i => T.1 (s + i)) m
  | 0, _, _ => rfl
  | m + 1, hm, h => by
    have a := c8_n m (by omega) (fun t h1 h2 => h t h1 (by omega))
    have b := h (s + m) (by omega) (by omega)
    unfold ltr at b
    have d := c8n_b (g := fun i => T.1 (s + i)) m (fun i hi => by have := h (s + i) (by omega) (by omega); unfold ltr at this; exact this)
    have p : (256 : Int) ^ m ≤ 72057594037927936 := by
      rcases (show m = 0 ∨ m = 1 ∨ m = 2 ∨ m = 3 ∨ m = 4 ∨ m = 5 ∨ m = 6 ∨ m = 7 by omega) with q | q | q | q | q | q | q | q <;> rw [q] <;> decide
    show zlor (zlshl (c8 T s m) 8) (T.1 (s + m)) = c8n (fun i => T.1 (s + i)) m * 256 + T.1 (s + m)
    rw [a, zl8 (by omega) (by omega) (by omega) (by omega)]
/-- one name both ways -/
def Nm (c d : Int) : Prop := ∃ (g : Nat → Int) (m : Nat), 1 ≤ m ∧ m ≤ 8 ∧ (∀ i, i < m → 97 ≤ g i ∧ g i ≤ 122) ∧ c = c5n g m ∧ d = c8n g m
theorem Nm.iff {c d c' d' : Int} (h : Nm c d) (h' : Nm c' d') : c = c' ↔ d = d' := by
  obtain ⟨g, m, -, -, a, rfl, rfl⟩ := h
  obtain ⟨g', m', -, -, a', rfl, rfl⟩ := h'
  constructor
  · intro e
    obtain ⟨q1, q2⟩ := c5n_in m m' a a' e
    subst q1
    exact c8n_cg m q2
  · intro e
    obtain ⟨q1, q2⟩ := c8n_in m m' a a' e
    subst q1
    exact c5n_cg m q2
theorem Nm.tok {T : TX} {s : Nat} (hs : s ≤ T.2) (h : isN T s) : Nm (wc T s) (c8 T s (nx T s - s)) := by
  have w := wd_lt hs h.1
  have e := (wc_pos hs h.1).mp h.2.2
  have hp : s < nx T s := (nx_b hs).2.2 (by rw [h.1]; decide)
  have hw : ∀ t, s ≤ t → t < nx T s → ltr (T.1 t) := w.2.2.1.2.2.1
  refine ⟨fun i => T.1 (s + i), nx T s - s, by omega, e, fun i hi => hw (s + i) (by omega) (by omega), ?_, ?_⟩
  · unfold wc
    rw [if_pos e, c5_n _ e (fun t h1 h2 => hw t h1 (by omega))]
  · exact c8_n _ e (fun t h1 h2 => hw t h1 (by omega))
theorem fd_nm {g g' : Nat → Int} {x x' : Int} (hx : Nm x x') : ∀ (n : Nat), (∀ i, i < n → Nm (g i) (g' i)) → fd g' x' n = fd g x n
  | 0, _ => rfl
  | n + 1, h => by
    show (if fd g' x' n = -1 then (if g' n = x' then (n : Int) else -1) else fd g' x' n) = (if fd g x n = -1 then (if g n = x then (n : Int) else -1) else fd g x n)
    rw [fd_nm hx n (fun i hi => h i (by omega))]
    by_cases e : g n = x
    · rw [if_pos e, if_pos (((h n (by omega)).iff hx).mp e)]
    · rw [if_neg e, if_neg (fun z => e (((h n (by omega)).iff hx).mpr z))]
theorem RN.ek {T : TX} {h : PH} {s : Nat} (hN : RN T h s) : h 169 12 = kd T s := hN.1.2.2.2.2.1
theorem RN.ev {T : TX} {h : PH} {s : Nat} (hN : RN T h s) (q : kd T s = 3 ∨ kd T s = 4) : h 169 15 = vl T s := hN.1.2.2.2.2.2 q
theorem RN.es {T : TX} {h : PH} {s : Nat} (hN : RN T h s) : h 169 13 = (s : Int) := hN.1.2.2.1
theorem RN.ex {T : TX} {h : PH} {s : Nat} (hN : RN T h s) : h 169 14 = (nx T s : Int) := hN.1.2.2.2.1
theorem r_adv {sl : Nat} {si : Nat → Int} {h h' : PH} {T : TX} {s : Nat} (hN : RN T h s) (hc : CP (zz sl si (7, 0)) mX12_ahead h [(2, 169)] h' []) : RN T h' (nt T s) ∧ GTk h h' := by
  obtain ⟨a, b⟩ := c_X12_ahead hN.1.1 (nx_b hN.1.2.1).2.1 hN.ex hc
  exact ⟨⟨a, by rw [b 169 18 (by omega)]; exact hN.2.1, by rw [b 169 17 (by omega)]; exact hN.2.2⟩, fun c k q => b c k (by omega)⟩
set_option maxRecDepth 10000 in
theorem v_X12_fails {sl : Nat} {si : Nat → Int} {K : Nat → PH → ZL → List ZV → Prop} {Q : PH → List ZV → Prop} {h : PH} {a : Int} (H : R32 (h 169 18) → ((h 169 18) ≠ 0 → Q h [(0, 0)]) ∧ (¬ ((h 169 18) ≠ 0) → R32 (h 169 12) → ((h 169 12) ≠ 1 → R32 (h 169 13) → Q (uph (uph h 169 18 a) 169 17 (h 169 13)) [(0, 0)]) ∧ (¬ ((h 169 12) ≠ 1) → R32 (h 169 13) → Q (uph (uph h 169 18 1) 169 17 (h 169 13)) [(0, 0)]))) : vc (zz sl si (7, 0)) (fun _ => false) K Q mX12_fails 19 0 mX12_fails.2.2.2.2.2.2 h [(0, (2, 169)), (1, (0, a))] [] := H
theorem c_X12_fails {sl : Nat} {si : Nat → Int} {h h' : PH} {a : Int} {v : Int} (hc : CP (zz sl si (7, 0)) mX12_fails h [(2, 169), (0, a)] h' [(0, v)]) : v = 0 ∧ (h 169 18 ≠ 0 → h' = h) ∧ (h 169 18 = 0 → h' = uph (uph h 169 18 (if h 169 12 = 1 then 1 else a)) 169 17 (h 169 13)) := by
  have q := cp_vc (K := fun _ _ _ _ => True) (Q := fun (xh : PH) (r : List ZV) => ∀ v : Int, r = [(0, v)] → (v = 0 ∧ (h 169 18 ≠ 0 → xh = h) ∧ (h 169 18 = 0 → xh = uph (uph h 169 18 (if h 169 12 = 1 then 1 else a)) 169 17 (h 169 13)))) (v_X12_fails (fun r1 => ⟨fun c2 => (by (intro v e; cases e; (refine ⟨rfl, fun z => ?_, fun z => ?_⟩ <;> first | rfl | (exfalso; omega) | (rw [if_pos (by omega)]) | (rw [if_neg (by omega)])))), fun c2 => (fun r3 => ⟨fun c4 => (fun r5 => (by (intro v e; cases e; (refine ⟨rfl, fun z => ?_, fun z => ?_⟩ <;> first | rfl | (exfalso; omega) | (rw [if_pos (by omega)]) | (rw [if_neg (by omega)]))))), fun c4 => (fun r6 => (by (intro v e; cases e; (refine ⟨rfl, fun z => ?_, fun z => ?_⟩ <;> first | rfl | (exfalso; omega) | (rw [if_pos (by omega)]) | (rw [if_neg (by omega)])))))⟩)⟩)) (fun _ _ _ _ z _ => Bool.noConfusion z) hc
  exact q v rfl
theorem r_fl {sl : Nat} {si : Nat → Int} {h h' : PH} {T : TX} {s : Nat} {a v : Int} (hN : RN T h s) (ha : 0 < a) (hc : CP (zz sl si (7, 0)) mX12_fails h [(2, 169), (0, a)] h' [(0, v)]) : v = 0 ∧ RF h' (fltk T a s) s ∧ GTk h h' := by
  obtain ⟨e1, -, e2⟩ := c_X12_fails hc
  have e := e2 hN.2.1
  subst e
  refine ⟨e1, ⟨?_, ?_, ?_⟩, fun c k q => by rw [up_ne (by omega), up_ne (by omega)]⟩
  · rw [up_ne (by omega), up_sm, hN.ek]; rfl
  · rw [up_sm, hN.es]
  · unfold fltk
    split <;> omega
theorem sg_iff {T : TX} {h : PH} {s : Nat} {a : Int} (hN : RN T h s) : (h 169 12 = 4 ∧ h 169 15 = a) ↔ isG T s a := by
  rw [hN.ek]
  constructor
  · intro q
    exact ⟨q.1, by rw [← hN.ev (Or.inr q.1)]; exact q.2⟩
  · intro q
    exact ⟨q.1, by rw [hN.ev (Or.inr q.1)]; exact q.2⟩
set_option maxRecDepth 10000 in
theorem v_X12_wantSign {sl : Nat} {si : Nat → Int} {K : Nat → PH → ZL → List ZV → Prop} {Q : PH → List ZV → Prop} {h : PH}   {a : Int} (H : ∀ h1 v1, CP (zz sl si (7, 0)) mX12_isSign h [(2, 169), (0, a)] h1 [(0, v1)] → v1 = 0 ∨ v1 = 1 → (v1 ≠ 0 → ∀ h2, CP (zz sl si (7, 0)) mX12_ahead h1 [(2, 169)] h2 [] → Q h2 [(0, 1)]) ∧ (¬ (v1 ≠ 0) → ∀ h3 v3, CP (zz sl si (7, 0)) mX12_fails h1 [(2, 169), (0, 2)] h3 [(0, v3)] → v3 = 0 ∨ v3 = 1 → Q h3 [(0, v3)])) : vc (zz sl si (7, 0)) (fun _ => false) K Q mX12_wantSign 10 0 mX12_wantSign.2.2.2.2.2.2 h [(0, (2, 169)), (1, (0, a))] [] := H
set_option maxHeartbeats 600000 in
theorem c_X12_wantSign {sl : Nat} {si : Nat → Int} {h h' : PH} {T : TX} {s : Nat} {a : Int} {v : Int} (hN : RN T h s) (hc : CP (zz sl si (7, 0)) mX12_wantSign h [(2, 169), (0, a)] h' [(0, v)]) : (v = 1 → isG T s a ∧ RN T h' (nt T s)) ∧ (v = 0 → ¬ isG T s a ∧ RF h' (fltk T 2 s) s) ∧ GTk h h' := by
  have q : (fun (xh : PH) (r : List ZV) => ∀ v : Int, r = [(0, v)] → ((v = 1 → isG T s a ∧ RN T xh (nt T s)) ∧ (v = 0 → ¬ isG T s a ∧ RF xh (fltk T 2 s) s) ∧ GTk h xh)) h' [(0, v)] := by
    refine cp_vc (cut := (fun _ => false)) (K := fun p hx lv st => False) (Q := fun (xh : PH) (r : List ZV) => ∀ v : Int, r = [(0, v)] → ((v = 1 → isG T s a ∧ RN T xh (nt T s)) ∧ (v = 0 → ¬ isG T s a ∧ RF xh (fltk T 2 s) s) ∧ GTk h xh)) (v_X12_wantSign ?_) (fun pc hx lv st hcut hK => ?_) hc
    · exact (fun h1 v1 p1 q1 => by obtain ⟨t1, e1⟩ := c_X12_isSign p1; have t1 := t1.symm; subst t1; exact ⟨fun c1 => (fun h2 p2 => (by intro v e; cases e; obtain ⟨a1, a2⟩ := r_adv hN p2; exact ⟨fun _ => ⟨(sg_iff hN).mp (e1.mp (by omega)), a1⟩, fun z => by omega, a2⟩)), fun c1 => (fun h3 v3 p3 q3 => (by intro v e; cases e; obtain ⟨a1, a2, a3⟩ := r_fl hN (by omega) p3; exact ⟨fun z => by omega, fun _ => ⟨fun z => by have := e1.mpr ((sg_iff hN).mpr z); omega, a2⟩, a3⟩))⟩)
    · exact hK.elim
  exact q v rfl
set_option maxRecDepth 10000 in
theorem v_X12_wantWord {sl : Nat} {si : Nat → Int} {K : Nat → PH → ZL → List ZV → Prop} {Q : PH → List ZV → Prop} {h : PH}   {a : Int} (H : ∀ h1 v1, CP (zz sl si (7, 0)) mX12_inWords h [(2, 169), (6, 3)] h1 [(0, v1)] → R32 v1 → (v1 = a → ∀ h2, CP (zz sl si (7, 0)) mX12_ahead h1 [(2, 169)] h2 [] → Q h2 [(0, 1)]) ∧ (¬ (v1 = a) → ∀ h3 v3, CP (zz sl si (7, 0)) mX12_fails h1 [(2, 169), (0, 2)] h3 [(0, v3)] → v3 = 0 ∨ v3 = 1 → Q h3 [(0, v3)])) : vc (zz sl si (7, 0)) (fun _ => false) K Q mX12_wantWord 11 0 mX12_wantWord.2.2.2.2.2.2 h [(0, (2, 169)), (1, (6, 3)), (2, (0, a))] [] := H
set_option maxHeartbeats 600000 in
theorem c_X12_wantWord {sl : Nat} {si : Nat → Int} {h h' : PH} {T : TX} {s : Nat} {a : Int} {v : Int} (hN : RN T h s) (hc : CP (zz sl si (7, 0)) mX12_wantWord h [(2, 169), (6, 3), (0, a)] h' [(0, v)]) : (v = 1 → rk T s = a ∧ RN T h' (nt T s)) ∧ (v = 0 → rk T s ≠ a ∧ RF h' (fltk T 2 s) s) ∧ GTk h h' := by
  have q : (fun (xh : PH) (r : List ZV) => ∀ v : Int, r = [(0, v)] → ((v = 1 → rk T s = a ∧ RN T xh (nt T s)) ∧ (v = 0 → rk T s ≠ a ∧ RF xh (fltk T 2 s) s) ∧ GTk h xh)) h' [(0, v)] := by
    refine cp_vc (cut := (fun _ => false)) (K := fun p hx lv st => False) (Q := fun (xh : PH) (r : List ZV) => ∀ v : Int, r = [(0, v)] → ((v = 1 → rk T s = a ∧ RN T xh (nt T s)) ∧ (v = 0 → rk T s ≠ a ∧ RF xh (fltk T 2 s) s) ∧ GTk h xh)) (v_X12_wantWord ?_) (fun pc hx lv st hcut hK => ?_) hc
    · exact (fun h1 v1 p1 q1 => ⟨fun c1 => (fun h2 p2 => (by intro v e; cases e; obtain ⟨r1, w1⟩ := c_X12_inWords hN.1 p1; have r1 := r1.symm; subst r1; obtain ⟨a1, a2⟩ := r_adv hN p2; exact ⟨fun _ => ⟨by omega, a1⟩, fun z => by omega, a2⟩)), fun c1 => (fun h3 v3 p3 q3 => (by intro v e; cases e; obtain ⟨r1, w1⟩ := c_X12_inWords hN.1 p1; have r1 := r1.symm; subst r1; obtain ⟨a1, a2, a3⟩ := r_fl hN (by omega) p3; exact ⟨fun z => by omega, fun _ => ⟨by omega, a2⟩, a3⟩))⟩)
    · exact hK.elim
  exact q v rfl
set_option maxRecDepth 10000 in
theorem v_X12_isThere {sl : Nat} {si : Nat → Int} {K : Nat → PH → ZL → List ZV → Prop} {Q : PH → List ZV → Prop} {h : PH}   {a : Int} (H : ∀ h1 v1, CP (zz sl si (7, 0)) mX12_inWords h [(2, 169), (6, 3)] h1 [(0, v1)] → R32 v1 → (v1 = a → ∀ h2, CP (zz sl si (7, 0)) mX12_ahead h1 [(2, 169)] h2 [] → Q h2 [(0, 1)]) ∧ (¬ (v1 = a) → Q h1 [(0, 0)])) : vc (zz sl si (7, 0)) (fun _ => false) K Q mX12_isThere 11 0 mX12_isThere.2.2.2.2.2.2 h [(0, (2, 169)), (1, (0, a))] [] := H
set_option maxHeartbeats 600000 in
theorem c_X12_isThere {sl : Nat} {si : Nat → Int} {h h' : PH} {T : TX} {s : Nat} {a : Int} {v : Int} (hN : RN T h s) (hc : CP (zz sl si (7, 0)) mX12_isThere h [(2, 169), (0, a)] h' [(0, v)]) : (v = 1 ↔ rk T s = a) ∧ RN T h' (if rk T s = a then nt T s else s) ∧ GTk h h' := by
  have q : (fun (xh : PH) (r : List ZV) => ∀ v : Int, r = [(0, v)] → ((v = 1 ↔ rk T s = a) ∧ RN T xh (if rk T s = a then nt T s else s) ∧ GTk h xh)) h' [(0, v)] := by
    refine cp_vc (cut := (fun _ => false)) (K := fun p hx lv st => False) (Q := fun (xh : PH) (r : List ZV) => ∀ v : Int, r = [(0, v)] → ((v = 1 ↔ rk T s = a) ∧ RN T xh (if rk T s = a then nt T s else s) ∧ GTk h xh)) (v_X12_isThere ?_) (fun pc hx lv st hcut hK => ?_) hc
    · exact (fun h1 v1 p1 q1 => ⟨fun c1 => (fun h2 p2 => (by intro v e; cases e; obtain ⟨r1, w1⟩ := c_X12_inWords hN.1 p1; have r1 := r1.symm; subst r1; obtain ⟨a1, a2⟩ := r_adv hN p2; exact ⟨⟨fun _ => by omega, fun _ => rfl⟩, by rw [if_pos (by omega)]; exact a1, a2⟩)), fun c1 => (by intro v e; cases e; obtain ⟨r1, w1⟩ := c_X12_inWords hN.1 p1; have r1 := r1.symm; subst r1; exact ⟨⟨fun z => by omega, fun z => by omega⟩, by rw [if_neg (by omega)]; exact hN, GTk.rf _⟩)⟩)
    · exact hK.elim
  exact q v rfl
set_option maxRecDepth 10000 in
theorem v_X12_number {sl : Nat} {si : Nat → Int} {K : Nat → PH → ZL → List ZV → Prop} {Q : PH → List ZV → Prop} {h : PH}   {a b c : Int} (H : R32 (h 169 12) → ((h 169 12) = 3 → R32 (h 169 15) → ((h 169 15) < b → ∀ h1 v1, CP (zz sl si (7, 0)) mX12_fails h [(2, 169), (0, 4)] h1 [(0, v1)] → v1 = 0 ∨ v1 = 1 → Q h1 [(0, v1)]) ∧ (¬ ((h 169 15) < b) → R32 (h 169 15) → ((h 169 15) ≤ c → R32 (h 169 15) → 0 ≤ a ∧ a < (3696 : Nat) → ∀ h2, CP (zz sl si (7, 0)) mX12_ahead (uph h 170 a.toNat (h 169 15)) [(2, 169)] h2 [] → Q h2 [(0, 1)]) ∧ (¬ ((h 169 15) ≤ c) → ∀ h3 v3, CP (zz sl si (7, 0)) mX12_fails h [(2, 169), (0, 4)] h3 [(0, v3)] → v3 = 0 ∨ v3 = 1 → Q h3 [(0, v3)]))) ∧ (¬ ((h 169 12) = 3) → ∀ h4 v4, CP (zz sl si (7, 0)) mX12_fails h [(2, 169), (0, 2)] h4 [(0, v4)] → v4 = 0 ∨ v4 = 1 → Q h4 [(0, v4)])) : vc (zz sl si (7, 0)) (fun _ => false) K Q mX12_number 24 0 mX12_number.2.2.2.2.2.2 h [(0, (2, 169)), (1, (0, a)), (2, (0, b)), (3, (0, c))] [] := H
set_option maxHeartbeats 600000 in
theorem c_X12_number {sl : Nat} {si : Nat → Int} {h h' : PH} {T : TX} {s : Nat} {a b c : Int} {v : Int} (hN : RN T h s) (hc : CP (zz sl si (7, 0)) mX12_number h [(2, 169), (0, a), (0, b), (0, c)] h' [(0, v)]) : (v = 1 → kd T s = 3 ∧ b ≤ vl T s ∧ vl T s ≤ c ∧ RN T h' (nt T s) ∧ h' 170 a.toNat = vl T s) ∧ (v = 0 → (kd T s ≠ 3 ∧ RF h' (fltk T 2 s) s) ∨ (kd T s = 3 ∧ ¬ (b ≤ vl T s ∧ vl T s ≤ c) ∧ RF h' (fltk T 4 s) s)) ∧ (∀ c k : Nat, ¬ (c = 169 ∧ 12 ≤ k ∧ k ≤ 18 ∧ k ≠ 16) → ¬ (c = 170 ∧ k = a.toNat) → h' c k = h c k) := by
  have q : (fun (xh : PH) (r : List ZV) => ∀ v : Int, r = [(0, v)] → ((v = 1 → kd T s = 3 ∧ b ≤ vl T s ∧ vl T s ≤ c ∧ RN T xh (nt T s) ∧ xh 170 a.toNat = vl T s) ∧ (v = 0 → (kd T s ≠ 3 ∧ RF xh (fltk T 2 s) s) ∨ (kd T s = 3 ∧ ¬ (b ≤ vl T s ∧ vl T s ≤ c) ∧ RF xh (fltk T 4 s) s)) ∧ (∀ c k : Nat, ¬ (c = 169 ∧ 12 ≤ k ∧ k ≤ 18 ∧ k ≠ 16) → ¬ (c = 170 ∧ k = a.toNat) → xh c k = h c k))) h' [(0, v)] := by
    refine cp_vc (cut := (fun _ => false)) (K := fun p hx lv st => False) (Q := fun (xh : PH) (r : List ZV) => ∀ v : Int, r = [(0, v)] → ((v = 1 → kd T s = 3 ∧ b ≤ vl T s ∧ vl T s ≤ c ∧ RN T xh (nt T s) ∧ xh 170 a.toNat = vl T s) ∧ (v = 0 → (kd T s ≠ 3 ∧ RF xh (fltk T 2 s) s) ∨ (kd T s = 3 ∧ ¬ (b ≤ vl T s ∧ vl T s ≤ c) ∧ RF xh (fltk T 4 s) s)) ∧ (∀ c k : Nat, ¬ (c = 169 ∧ 12 ≤ k ∧ k ≤ 18 ∧ k ≠ 16) → ¬ (c = 170 ∧ k = a.toNat) → xh c k = h c k))) (v_X12_number ?_) (fun pc hx lv st hcut hK => ?_) hc
    · exact (fun r1 => ⟨fun c2 => (fun r3 => ⟨fun c4 => (fun h1 v1 p1 q1 => (by intro v e; cases e; rw [hN.ek] at c2; rw [hN.ev (Or.inl c2)] at c4; obtain ⟨a1, a2, a3⟩ := r_fl hN (by omega) p1; exact ⟨fun z => by omega, fun _ => Or.inr ⟨c2, by omega, a2⟩, fun c k z _ => a3 c k z⟩)), fun c4 => (fun r5 => ⟨fun c6 => (fun r7 => (fun b8 => (fun h2 p2 => (by intro v e; cases e; rw [hN.ek] at c2; rw [hN.ev (Or.inl c2)] at c4 c6 p2; obtain ⟨a1, a2⟩ := r_adv (hN.kp (fun c k q => by rw [up_ne (by omega)])) p2; exact ⟨fun _ => ⟨c2, by omega, by omega, a1, by rw [a2 170 _ (by omega), up_sm]⟩, fun z => by omega, fun c k z z2 => by rw [a2 c k z, up_ne z2]⟩)))), fun c6 => (fun h3 v3 p3 q3 => (by intro v e; cases e; rw [hN.ek] at c2; rw [hN.ev (Or.inl c2)] at c4 c6; obtain ⟨a1, a2, a3⟩ := r_fl hN (by omega) p3; exact ⟨fun z => by omega, fun _ => Or.inr ⟨c2, by omega, a2⟩, fun c k z _ => a3 c k z⟩))⟩)⟩), fun c2 => (fun h4 v4 p4 q4 => (by intro v e; cases e; rw [hN.ek] at c2; obtain ⟨a1, a2, a3⟩ := r_fl hN (by omega) p4; exact ⟨fun z => by omega, fun _ => Or.inl ⟨c2, a2⟩, fun c k z _ => a3 c k z⟩))⟩)
    · exact hK.elim
  exact q v rfl
set_option maxRecDepth 10000 in
theorem v_X12_isName {sl : Nat} {si : Nat → Int} {K : Nat → PH → ZL → List ZV → Prop} {Q : PH → List ZV → Prop} {h : PH}   (H : R32 (h 169 12) → ((h 169 12) ≠ 2 → Q h [(0, 0)]) ∧ (¬ ((h 169 12) ≠ 2) → R32 (h 169 14) → R32 (h 169 13) → ((8 : Int) < (w32 ((h 169 14) - (h 169 13))) → Q h [(0, 0)]) ∧ (¬ ((8 : Int) < (w32 ((h 169 14) - (h 169 13)))) → ∀ h1 v1, CP (zz sl si (7, 0)) mX12_inWords h [(2, 169), (6, 3)] h1 [(0, v1)] → R32 v1 → (v1 ≠ (-1) → Q h1 [(0, 0)]) ∧ (¬ (v1 ≠ (-1)) → Q h1 [(0, 1)])))) : vc (zz sl si (7, 0)) (fun _ => false) K Q mX12_isName 21 0 mX12_isName.2.2.2.2.2.2 h [(0, (2, 169)), (1, (6, 3))] [] := H
set_option maxHeartbeats 600000 in
theorem c_X12_isName {sl : Nat} {si : Nat → Int} {h h' : PH} {T : TX} {s : Nat} {v : Int} (hN : RN T h s) (hc : CP (zz sl si (7, 0)) mX12_isName h [(2, 169), (6, 3)] h' [(0, v)]) : h' = h ∧ (v = 1 ↔ isN T s) := by
  have q : (fun (xh : PH) (r : List ZV) => ∀ v : Int, r = [(0, v)] → (xh = h ∧ (v = 1 ↔ isN T s))) h' [(0, v)] := by
    refine cp_vc (cut := (fun _ => false)) (K := fun p hx lv st => False) (Q := fun (xh : PH) (r : List ZV) => ∀ v : Int, r = [(0, v)] → (xh = h ∧ (v = 1 ↔ isN T s))) (v_X12_isName ?_) (fun pc hx lv st hcut hK => ?_) hc
    · exact (fun r1 => ⟨fun c2 => (by intro v e; cases e; rw [hN.ek] at c2; exact ⟨rfl, fun z => by omega, fun z => absurd z.1 c2⟩), fun c2 => (fun r3 => (fun r4 => ⟨fun c5 => (by intro v e; cases e; rw [hN.ek] at c2; have k2 := Classical.not_not.mp c2; have b := nx_b hN.1.2.1; have hT := hN.1.1.1.1; rw [hN.ex, hN.es, w32_id (by omega) (by omega)] at c5; exact ⟨rfl, fun z => by omega, fun z => by have := (wc_pos hN.1.2.1 k2).mp z.2.2; omega⟩), fun c5 => (fun h1 v1 p1 q1 => ⟨fun c6 => (by intro v e; cases e; rw [hN.ek] at c2; have k2 := Classical.not_not.mp c2; obtain ⟨r1, w1⟩ := c_X12_inWords hN.1 p1; have r1 := r1.symm; subst r1; exact ⟨rfl, fun z => by omega, fun z => by have := (rk_no k2).mpr z.2.1; omega⟩), fun c6 => (by intro v e; cases e; rw [hN.ek] at c2; have k2 := Classical.not_not.mp c2; have b := nx_b hN.1.2.1; have hT := hN.1.1.1.1; rw [hN.ex, hN.es, w32_id (by omega) (by omega)] at c5; obtain ⟨r1, w1⟩ := c_X12_inWords hN.1 p1; have r1 := r1.symm; subst r1; exact ⟨rfl, fun _ => ⟨k2, (rk_no k2).mp (by omega), (wc_pos hN.1.2.1 k2).mpr (by omega)⟩, fun _ => rfl⟩)⟩)⟩))⟩)
    · exact hK.elim
  exact q v rfl
set_option maxRecDepth 10000 in
theorem v_X12_nameHere {sl : Nat} {si : Nat → Int} {K : Nat → PH → ZL → List ZV → Prop} {Q : PH → List ZV → Prop} {h : PH}   (H : R32 (h 169 13) → K 7 h [(3, (0, (h 169 13))), (1, (1, 0)), (0, (2, 169))] []) : vc (zz sl si (7, 0)) (fun p => Nat.beq p 7) K Q mX12_nameHere 7 0 mX12_nameHere.2.2.2.2.2.2 h [(0, (2, 169))] [] := H
set_option maxRecDepth 10000 in
theorem v_X12_nameHere_7 {sl : Nat} {si : Nat → Int} {K : Nat → PH → ZL → List ZV → Prop} {Q : PH → List ZV → Prop} {h : PH}   {x k : Int} (H : R32 (h 169 14) → ((h 169 14) ≤ k → Q h [(1, x)]) ∧ (¬ ((h 169 14) ≤ k) → ∀ h1 v1, CP (zz sl si (7, 0)) mX12_byteAt h [(2, 169), (0, k)] h1 [(0, v1)] → R32 v1 → K 7 h1 [(3, (0, w32 (k + 1))), (1, (1, zlor (zlshl x 8) v1)), (0, (2, 169))] [])) : vc (zz sl si (7, 0)) (fun p => Nat.beq p 7) K Q mX12_nameHere 17 7 (ax_jmp mX12_nameHere.2.2.2.2.2.2 7) h [(0, (2, 169)), (1, (1, x)), (3, (0, k))] [] := H
set_option maxHeartbeats 600000 in
theorem c_X12_nameHere {sl : Nat} {si : Nat → Int} {h h' : PH} {T : TX} {s : Nat} {v : Int} (hN : RTk T h s) (hc : CP (zz sl si (7, 0)) mX12_nameHere h [(2, 169)] h' [(1, v)]) : h' = h ∧ v = c8 T s (nx T s - s) := by
  have q : (fun (xh : PH) (r : List ZV) => ∀ v : Int, r = [(1, v)] → (xh = h ∧ v = c8 T s (nx T s - s))) h' [(1, v)] := by
    refine cp_vc (cut := (fun p => Nat.beq p 7)) (K := fun p hx lv st => (p = 7 ∧ lK (fun u : Nat => [(0, (2, 169)), (1, (1, c8 T s u)), (3, (0, ((s + u : Nat) : Int)))]) (fun u hx => hx = h ∧ s + u ≤ nx T s) p hx lv st)) (Q := fun (xh : PH) (r : List ZV) => ∀ v : Int, r = [(1, v)] → (xh = h ∧ v = c8 T s (nx T s - s))) (v_X12_nameHere ?_) (fun pc hx lv st hcut hK => ?_) hc
    · exact (fun r1 => (by have b := nx_b hN.2.1; exact ⟨rfl, rfl, 0, ⟨rfl, by omega⟩, rfl, rfl, (by rw [hN.2.2.1]; rfl), trivial⟩))
    · rcases hK with ⟨rfl, rfl, u, hJ, hs⟩
      · obtain ⟨rfl, j2⟩ := hJ
        have b := nx_b hN.2.1
        have hT := hN.1.1.1
        exact ⟨_, _, hs, v_X12_nameHere_7 (fun r1 => ⟨fun c2 => (by intro v e; cases e; rw [hN.2.2.2.1] at c2; exact ⟨rfl, by rw [show nx T s - s = u by omega]⟩), fun c2 => (fun h1 v1 p1 q1 => (by rw [hN.2.2.2.1] at c2; obtain ⟨r1, w1⟩ := c_X12_byteAt hN.1 (by omega) p1; have r1 := r1.symm; subst r1; rw [Int.toNat_natCast] at w1; have w2 : v1 = T.1 (s + u) := (by rw [w1]; exact if_pos (by omega)); exact ⟨rfl, rfl, u + 1, ⟨rfl, by omega⟩, rfl, (by rw [w2]; rfl), wv (by omega) (by omega) (by omega), trivial⟩))⟩)⟩
  exact q v rfl
set_option maxRecDepth 10000 in
theorem v_X12_findHere {sl : Nat} {si : Nat → Int} {K : Nat → PH → ZL → List ZV → Prop} {Q : PH → List ZV → Prop} {h : PH}   {a b : Int} (H : K 2 h [(3, (0, 0)), (0, (2, 169)), (1, (0, a)), (2, (0, b))] []) : vc (zz sl si (7, 0)) (fun p => Nat.beq p 2) K Q mX12_findHere 4 0 mX12_findHere.2.2.2.2.2.2 h [(0, (2, 169)), (1, (0, a)), (2, (0, b))] [] := H
set_option maxRecDepth 10000 in
theorem v_X12_findHere_2 {sl : Nat} {si : Nat → Int} {K : Nat → PH → ZL → List ZV → Prop} {Q : PH → List ZV → Prop} {h : PH}   {a b : Int} {k : Int} (H : (b ≤ k → Q h [(0, (-1))]) ∧ (¬ (b ≤ k) → 0 ≤ w32 (a + k) ∧ w32 (a + k) < (90 : Nat) → R64 (h 171 (w32 (a + k)).toNat) → ∀ h1 v1, CP (zz sl si (7, 0)) mX12_nameHere h [(2, 169)] h1 [(1, v1)] → R64 v1 → ((zcmp (h 171 (w32 (a + k)).toNat) v1) ≠ 0 → K 2 h1 [(3, (0, w32 (k + 1))), (0, (2, 169)), (1, (0, a)), (2, (0, b))] []) ∧ (¬ ((zcmp (h 171 (w32 (a + k)).toNat) v1) ≠ 0) → Q h1 [(0, k)]))) : vc (zz sl si (7, 0)) (fun p => Nat.beq p 2) K Q mX12_findHere 17 2 (ax_jmp mX12_findHere.2.2.2.2.2.2 2) h [(0, (2, 169)), (1, (0, a)), (2, (0, b)), (3, (0, k))] [] := H
set_option maxHeartbeats 600000 in
theorem c_X12_findHere {sl : Nat} {si : Nat → Int} {h h' : PH} {T : TX} {s : Nat} {a b : Int} {v : Int} (hN : RTk T h s) (ha : 0 ≤ a ∧ a ≤ 90) (hb : b ≤ 10) (hc : CP (zz sl si (7, 0)) mX12_findHere h [(2, 169), (0, a), (0, b)] h' [(0, v)]) : h' = h ∧ v = fd (fun i => h 171 (a.toNat + i)) (c8 T s (nx T s - s)) b.toNat := by
  have q : (fun (xh : PH) (r : List ZV) => ∀ v : Int, r = [(0, v)] → (xh = h ∧ v = fd (fun i => h 171 (a.toNat + i)) (c8 T s (nx T s - s)) b.toNat)) h' [(0, v)] := by
    refine cp_vc (cut := (fun p => Nat.beq p 2)) (K := fun p hx lv st => (p = 2 ∧ lK (fun u : Nat => [(0, (2, 169)), (1, (0, a)), (2, (0, b)), (3, (0, (u : Int)))]) (fun u hx => hx = h ∧ (u : Int) ≤ 10 ∧ ∀ i : Nat, i < u → h 171 (a.toNat + i) ≠ c8 T s (nx T s - s)) p hx lv st)) (Q := fun (xh : PH) (r : List ZV) => ∀ v : Int, r = [(0, v)] → (xh = h ∧ v = fd (fun i => h 171 (a.toNat + i)) (c8 T s (nx T s - s)) b.toNat)) (v_X12_findHere ?_) (fun pc hx lv st hcut hK => ?_) hc
    · exact (by exact ⟨rfl, rfl, 0, ⟨rfl, by omega, fun i q => by omega⟩, rfl, rfl, rfl, rfl, trivial⟩)
    · rcases hK with ⟨rfl, rfl, u, hJ, hs⟩
      · obtain ⟨rfl, j1, j2⟩ := hJ
        have ix : (w32 (a + (u : Int))).toNat = a.toNat + u := by rw [w32_id (by omega) (by omega)]; omega
        exact ⟨_, _, hs, v_X12_findHere_2 ⟨fun c1 => (by intro v e; cases e; exact ⟨rfl, (fd_no _ (fun i hi => j2 i (by omega))).symm⟩), fun c1 => (fun b2 r3 => (fun h1 v1 p1 q1 => ⟨fun c4 => (by obtain ⟨r1, w1⟩ := c_X12_nameHere hN p1; have r1 := r1.symm; subst r1; rw [ix, w1] at c4; refine ⟨rfl, rfl, u + 1, ⟨rfl, by omega, fun i hi => ?_⟩, rfl, rfl, rfl, wv (by omega) (by omega) (by omega), trivial⟩; by_cases e : i = u; (rw [e]; exact fun z => c4 (zcmp_0.mpr z)); exact j2 i (by omega)), fun c4 => (by obtain ⟨r1, w1⟩ := c_X12_nameHere hN p1; have r1 := r1.symm; subst r1; rw [ix, w1] at c4; intro v e; cases e; exact ⟨rfl, (fd_at _ u (by omega) j2 (zcmp_0.mp (Classical.not_not.mp c4))).symm⟩)⟩))⟩⟩
  exact q v rfl
