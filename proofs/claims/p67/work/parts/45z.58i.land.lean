/-! LAND, the calls -/
def GEp (s : Nat) (r : PR) : Prop := ∀ q, r = .inr q → s < q.1
theorem ge_bad {T : TX} {s t : Nat} {k : Int} : GEp s (bad T k t) := fun q h => by cases h
theorem ge_noN {T : TX} {s t : Nat} : GEp s (noN T t) := fun q h => by cases h
theorem ge_semi {T : TX} {s t : Nat} {L : PH} (h : s ≤ t) (ht : t ≤ T.2) : GEp s (semi T t L) := fun q hq => by
  unfold semi at hq
  by_cases e : isG T t 59
  · rw [if_pos e] at hq
    cases hq
    have := (nt_b ht).2.2 (by rw [e.1]; decide)
    show s < nt T t
    omega
  · rw [if_neg e] at hq
    cases hq
theorem ge_ite {c : Prop} [Decidable c] {s : Nat} {a b : PR} (ha : GEp s a) (hb : GEp s b) : GEp s (if c then a else b) := by
  by_cases e : c
  · rw [if_pos e]; exact ha
  · rw [if_neg e]; exact hb
theorem tk_b {T : TX} {s : Nat} (w : Int) (hs : s ≤ T.2) : s ≤ tk T s w ∧ tk T s w ≤ T.2 := by
  unfold tk
  have := nt_b hs
  by_cases e : isW T s w
  · rw [if_pos e]; omega
  · rw [if_neg e]; omega
theorem ge_part {T : TX} {s : Nat} {L : PH} (hs : s ≤ T.2) : GEp s (pPart T s L) := by
  have b1 := nt_b hs
  have b2 := nt_b b1.2.1
  have b3 := nt_b b2.2.1
  have b4 := nt_b b3.2.1
  have b5 := nt_b b4.2.1
  have t1 := tk_b 1 b2.2.1
  have p5 := tk_b 5 b4.2.1
  have p6 := tk_b 6 p5.2
  have p7 := tk_b 7 p6.2
  unfold pPart pHouse pDoor pPerson pOwes pHeir pTwo pNew pPers2
  refine ge_ite (ge_ite ge_bad (ge_ite (ge_ite ge_bad (ge_semi (by omega) (by omega))) ge_bad)) (ge_ite (ge_ite ge_noN (ge_ite ge_noN (ge_ite ge_bad (ge_semi (by omega) (by omega))))) (ge_ite (ge_ite ge_bad (ge_ite (ge_ite ge_bad (ge_ite (ge_ite ge_noN (ge_semi (by omega) (by omega))) ge_bad)) ge_bad)) (ge_ite (ge_ite ge_noN (ge_ite ge_noN (ge_ite ge_bad (ge_ite (ge_ite (ge_semi (by omega) (by omega)) ge_bad) ge_bad)))) (ge_ite (ge_ite ge_noN (ge_ite ge_noN (ge_ite ge_bad (ge_ite ge_bad (ge_ite ge_bad (ge_semi (by omega) (by omega))))))) ge_bad))))
/-- the text of a call -/
def Tx (B : Nat → Int) (a : Int) : TX := (fun k => if k < a.toNat then B k else 0, a.toNat)
theorem Tx_ok {B : Nat → Int} {a : Int} (h9 : a ≤ 900) (hB : ∀ k : Nat, k < 900 → 0 ≤ B k ∧ B k ≤ 255) : TK (Tx B a) := by
  refine ⟨by show a.toNat ≤ 900; omega, fun k => ?_⟩
  show 0 ≤ (if k < a.toNat then B k else 0) ∧ (if k < a.toNat then B k else 0) ≤ 255
  by_cases e : k < a.toNat
  · rw [if_pos e]; exact hB k (by omega)
  · rw [if_neg e]; omega
theorem Tx_at {B : Nat → Int} {a : Int} {k : Nat} (h : k < (Tx B a).2) : (Tx B a).1 k = B k := if_pos h
/-- what is answered -/
def ans (v : Int) (r : PR) : Prop := match r with
  | .inl _ => v = -1
  | .inr q => v = q.2 0 4
theorem ans_un {v w : Int} {r : PR} (h : ans v r) (h' : ans w r) : v = w := by
  cases r with
  | inl q => exact Eq.trans (show v = -1 from h) (show w = -1 from h').symm
  | inr q => exact Eq.trans (show v = q.2 0 4 from h) (show w = q.2 0 4 from h').symm
set_option maxRecDepth 10000 in
theorem v_X11_answer {sl : Nat} {si : Nat → Int} {K : Nat → PH → ZL → List ZV → Prop} {Q : PH → List ZV → Prop} {h : PH} {a : Int} (H : Q (uph h 0 0 0) [(0, a)]) : vc (zz sl si (7, 0)) (fun _ => false) K Q mX11_answer 7 0 mX11_answer.2.2.2.2.2.2 h [(0, (2, 0)), (1, (0, a))] [] := H
theorem c_X11_answer {sl : Nat} {si : Nat → Int} {h h' : PH} {a : Int} {v : Int} (hc : CP (zz sl si (7, 0)) mX11_answer h [(2, 0), (0, a)] h' [(0, v)]) : h' = uph h 0 0 0 ∧ (v = a) := by
  have q := cp_vc (K := fun _ _ _ _ => True) (Q := fun xh r => xh = uph h 0 0 0 ∧ ∀ v, r = [(0, v)] → (v = a)) (v_X11_answer (by exact ⟨rfl, fun v e => by cases e; omega⟩)) (fun _ _ _ _ z _ => Bool.noConfusion z) hc
  exact ⟨q.1, q.2 v rfl⟩
set_option maxRecDepth 10000 in
theorem v_X7_clear {sl : Nat} {si : Nat → Int} {K : Nat → PH → ZL → List ZV → Prop} {Q : PH → List ZV → Prop} {h : PH} (H : Q (uph (uph (uph h 21 0 0) 21 1 0) 21 2 0) []) : vc (zz sl si (7, 0)) (fun _ => false) K Q mX7_clear 12 0 mX7_clear.2.2.2.2.2.2 h [(0, (2, 21))] [] := H
theorem c_X7_clear {sl : Nat} {si : Nat → Int} {h h' : PH} (hc : CP (zz sl si (7, 0)) mX7_clear h [(2, 21)] h' []) : h' = uph (uph (uph h 21 0 0) 21 1 0) 21 2 0 ∧ True := by
  exact ⟨cp_vc (K := fun _ _ _ _ => True) (Q := fun xh r => xh = uph (uph (uph h 21 0 0) 21 1 0) 21 2 0) (v_X7_clear (by exact rfl)) (fun _ _ _ _ z _ => Bool.noConfusion z) hc, trivial⟩
set_option maxRecDepth 10000 in
theorem v_X11_land {sl : Nat} {si : Nat → Int} {K : Nat → PH → ZL → List ZV → Prop} {Q : PH → List ZV → Prop} {h : PH} {a : Int} (H : R32 (h 2 1) → ∀ h1 v1, CP (zz sl si (7, 0)) mX11_isWithin h [(0, a), (0, (h 2 1))] h1 [(0, v1)] → v1 = 0 ∨ v1 = 1 → (v1 ≠ 0 → ∀ h2, CP (zz sl si (7, 0)) mX2_readAll h1 [(2, 49), (0, a)] h2 [] → R32 (h2 2 10) → ((h2 2 10) = 0 → ∀ h3, CP (zz sl si (7, 0)) mX1_copyFrom (uph h2 2 1 0) [(2, 5), (2, 27)] h3 [] → ∀ h4, CP (zz sl si (7, 0)) mX7_clear h3 [(2, 21)] h4 [] → R32 (h4 5 4) → ∀ h5 v5, CP (zz sl si (7, 0)) mX11_answer h4 [(2, 0), (0, (h4 5 4))] h5 [(0, v5)] → R32 v5 → Q h5 [(0, v5)]) ∧ (¬ ((h2 2 10) = 0) → ∀ h6 v6, CP (zz sl si (7, 0)) mX11_refuse (uph h2 2 1 0) [(2, 0), (0, 9)] h6 [(0, v6)] → R32 v6 → Q h6 [(0, v6)])) ∧ (¬ (v1 ≠ 0) → ∀ h7 v7, CP (zz sl si (7, 0)) mX11_refuse h1 [(2, 0), (0, 1)] h7 [(0, v7)] → R32 v7 → Q h7 [(0, v7)])) : vc (zz sl si (7, 0)) (fun _ => false) K Q mX11_land 34 0 mX11_land.2.2.2.2.2.2 h [(0, (2, 0)), (1, (0, a))] [] := H
set_option maxHeartbeats 600000 in
theorem c_X11_land {sl : Nat} {si : Nat → Int} {h h' : PH} {a : Int} {v : Int} (hJ : J10 h) (hc : CP (zz sl si (7, 0)) mX11_land h [(2, 0), (0, a)] h' [(0, v)]) : (0 ≤ a ∧ a ≤ h 2 1 → h' 2 1 = 0 ∧ ans v (pl (Tx (fun k => h 3 k) a) 900 (sk (Tx (fun k => h 3 k) a) 0) (clr (fun j k => h (27 + j) k)))) ∧ (¬ (0 ≤ a ∧ a ≤ h 2 1) → h' 2 1 = h 2 1 ∧ v = -1) ∧ (∀ c k : Nat, c = 3 ∨ c = 4 ∨ 169 ≤ c → h' c k = h c k) := by
  have RA : ∀ {h2 : PH}, 0 ≤ a ∧ a ≤ h 2 1 → CP (zz sl si (7, 0)) mX2_readAll h [(2, 49), (0, a)] h2 [] → RES (Tx (fun k => h 3 k) a) h2 (pl (Tx (fun k => h 3 k) a) 900 (sk (Tx (fun k => h 3 k) a) 0) (clr (fun j k => h (27 + j) k))) ∧ ∀ c k : Nat, ¬ ((c = 2 ∧ 3 ≤ k ∧ k ≤ 11) ∨ (27 ≤ c ∧ c ≤ 42)) → h2 c k = h c k := fun {h2} ok p => by
    obtain ⟨ja, jb, jc, jd⟩ := hJ
    exact c_X2_readAll (T := (Tx (fun k => h 3 k) a)) (L := fun j k => h (27 + j) k) (fun j k _ => rfl) (Tx_ok (by omega) (fun k hk => (jc k hk).2)) (by show a = ((a.toNat : Nat) : Int); omega) (fun k hk => (Tx_at hk).symm) jd p
  have q : (fun (xh : PH) (r : List ZV) => ∀ v : Int, r = [(0, v)] → ((0 ≤ a ∧ a ≤ h 2 1 → xh 2 1 = 0 ∧ ans v (pl (Tx (fun k => h 3 k) a) 900 (sk (Tx (fun k => h 3 k) a) 0) (clr (fun j k => h (27 + j) k)))) ∧ (¬ (0 ≤ a ∧ a ≤ h 2 1) → xh 2 1 = h 2 1 ∧ v = -1) ∧ (∀ c k : Nat, c = 3 ∨ c = 4 ∨ 169 ≤ c → xh c k = h c k))) h' [(0, v)] := by
    refine cp_vc (cut := (fun _ => false)) (K := fun p hx lv st => False) (Q := fun (xh : PH) (r : List ZV) => ∀ v : Int, r = [(0, v)] → ((0 ≤ a ∧ a ≤ h 2 1 → xh 2 1 = 0 ∧ ans v (pl (Tx (fun k => h 3 k) a) 900 (sk (Tx (fun k => h 3 k) a) 0) (clr (fun j k => h (27 + j) k)))) ∧ (¬ (0 ≤ a ∧ a ≤ h 2 1) → xh 2 1 = h 2 1 ∧ v = -1) ∧ (∀ c k : Nat, c = 3 ∨ c = 4 ∨ 169 ≤ c → xh c k = h c k))) (v_X11_land ?_) (fun pc hx lv st hcut hK => ?_) hc
    · exact (fun r1 => (fun h1 v1 p1 q1 => by obtain ⟨t1, e1⟩ := c_X11_isWithin p1; have t1 := t1.symm; subst t1; exact ⟨fun c2 => (fun h2 p2 => (fun r3 => ⟨fun c4 => (fun h3 p3 => (fun h4 p4 => by obtain ⟨t4, e4⟩ := c_X7_clear p4; have t4 := t4.symm; subst t4; exact (fun r5 => (fun h5 v5 p5 q5 => by obtain ⟨t5, e5⟩ := c_X11_answer p5; have t5 := t5.symm; subst t5; exact (by intro v e; cases e; have ok := e1.mp (by omega); obtain ⟨d1, d2⟩ := RA ok p2; obtain ⟨f1, f2⟩ := c_X1_copyFrom p3; refine ⟨fun _ => ⟨by rw [up_ne (by omega), up_ne (by omega), up_ne (by omega), up_ne (by omega), f2 2 1 (by omega), up_sm], ?_⟩, fun z => absurd ok z, fun c k q => by rw [up_ne (by omega), up_ne (by omega), up_ne (by omega), up_ne (by omega), f2 c k (by omega), up_ne (by omega)]; exact d2 c k (by omega)⟩; have g1 : h3 5 4 = h2 27 4 := (by have := f1 0 4 (by unfold inL; omega); rw [up_ne (by omega)] at this; exact this); generalize (pl (Tx (fun k => h 3 k) a) 900 (sk (Tx (fun k => h 3 k) a) 0) (clr (fun j k => h (27 + j) k))) = r at d1; cases r with | inl q => exact absurd c4 (by have := d1.1; have := d1.2.2; omega) | inr q => (show _ = q.2 0 4; rw [e5, up_ne (by omega), up_ne (by omega), up_ne (by omega), g1]; exact d1.2.2.1 0 4 (by unfold inL; omega) (by omega) (by omega))))))), fun c4 => (fun h6 v6 p6 q6 => by obtain ⟨t6, e6⟩ := c_X11_refuse p6; have t6 := t6.symm; subst t6; exact (by intro v e; cases e; have ok := e1.mp (by omega); obtain ⟨d1, d2⟩ := RA ok p2; refine ⟨fun _ => ⟨by rw [up_ne (by omega), up_sm], ?_⟩, fun z => absurd ok z, fun c k q => by rw [up_ne (by omega), up_ne (by omega)]; exact d2 c k (by omega)⟩; generalize (pl (Tx (fun k => h 3 k) a) 900 (sk (Tx (fun k => h 3 k) a) 0) (clr (fun j k => h (27 + j) k))) = r at d1; cases r with | inl q => exact e6 | inr q => exact absurd d1.1 c4))⟩)), fun c2 => (fun h7 v7 p7 q7 => by obtain ⟨t7, e7⟩ := c_X11_refuse p7; have t7 := t7.symm; subst t7; exact (by intro v e; cases e; exact ⟨fun z => by have := e1.mpr z; omega, fun _ => ⟨by rw [up_ne (by omega)], e7⟩, fun c k q => by rw [up_ne (by omega)]⟩))⟩))
    · exact hK.elim
  exact q v rfl
set_option maxRecDepth 10000 in
theorem v_X12_plain {sl : Nat} {si : Nat → Int} {K : Nat → PH → ZL → List ZV → Prop} {Q : PH → List ZV → Prop} {h : PH} {a : Int} (H : K 2 h [(2, (0, 0)), (0, (2, 169)), (1, (0, a))] []) : vc (zz sl si (7, 0)) (fun p => Nat.beq p 2) K Q mX12_plain 4 0 mX12_plain.2.2.2.2.2.2 h [(0, (2, 169)), (1, (0, a))] [] := H
set_option maxRecDepth 10000 in
theorem v_X12_plain_2 {sl : Nat} {si : Nat → Int} {K : Nat → PH → ZL → List ZV → Prop} {Q : PH → List ZV → Prop} {h : PH} {a : Int} {k : Int} (H : ((528 : Int) ≤ k → 0 ≤ w32 (a + 4) ∧ w32 (a + 4) < (3696 : Nat) → Q (uph h 170 (w32 (a + 4)).toNat (-1)) []) ∧ (¬ ((528 : Int) ≤ k) → 0 ≤ w32 (a + k) ∧ w32 (a + k) < (3696 : Nat) → K 2 (uph h 170 (w32 (a + k)).toNat 0) [(2, (0, w32 (k + 1))), (0, (2, 169)), (1, (0, a))] [])) : vc (zz sl si (7, 0)) (fun p => Nat.beq p 2) K Q mX12_plain 14 2 (ax_jmp mX12_plain.2.2.2.2.2.2 2) h [(0, (2, 169)), (1, (0, a)), (2, (0, k))] [] := H
set_option maxHeartbeats 600000 in
theorem c_X12_plain {sl : Nat} {si : Nat → Int} {h h' : PH} {a : Int} (ha : a = 2112) (hc : CP (zz sl si (7, 0)) mX12_plain h [(2, 169), (0, a)] h' []) : (∀ k : Nat, 2112 ≤ k → k < 2640 → k ≠ 2116 → h' 170 k = 0) ∧ ∀ c k : Nat, ¬ (c = 170 ∧ 2112 ≤ k ∧ k < 2640) → h' c k = h c k := by
  have q : (fun (xh : PH) (r : List ZV) => (∀ k : Nat, 2112 ≤ k → k < 2640 → k ≠ 2116 → xh 170 k = 0) ∧ ∀ c k : Nat, ¬ (c = 170 ∧ 2112 ≤ k ∧ k < 2640) → xh c k = h c k) h' [] := by
    refine cp_vc (cut := (fun p => Nat.beq p 2)) (K := fun p hx lv st => (p = 2 ∧ lK (fun u : Nat => [(0, (2, 169)), (1, (0, a)), (2, (0, (u : Int)))]) (fun u hx => u ≤ 528 ∧ (∀ k : Nat, 2112 ≤ k → k < 2112 + u → hx 170 k = 0) ∧ ∀ c k : Nat, ¬ (c = 170 ∧ 2112 ≤ k ∧ k < 2640) → hx c k = h c k) p hx lv st)) (Q := fun (xh : PH) (r : List ZV) => (∀ k : Nat, 2112 ≤ k → k < 2640 → k ≠ 2116 → xh 170 k = 0) ∧ ∀ c k : Nat, ¬ (c = 170 ∧ 2112 ≤ k ∧ k < 2640) → xh c k = h c k) (v_X12_plain ?_) (fun pc hx lv st hcut hK => ?_) hc
    · exact (by exact ⟨rfl, rfl, 0, ⟨by omega, fun k q1 q2 => by omega, fun c k q => rfl⟩, rfl, rfl, rfl, trivial⟩)
    · rcases hK with ⟨rfl, rfl, u, hJ, hs⟩
      · obtain ⟨j1, j2, j3⟩ := hJ
        have ix : ∀ t : Int, 0 ≤ t → t ≤ 528 → (w32 (a + t)).toNat = 2112 + t.toNat := fun t z1 z2 => by rw [w32_id (by omega) (by omega)]; omega
        exact ⟨_, _, hs, v_X12_plain_2 ⟨fun c1 => (fun b2 => (by have e : u = 528 := (by omega); subst e; rw [ix 4 (by omega) (by omega)]; exact ⟨fun k q1 q2 q3 => by rw [up_ne (by omega)]; exact j2 k q1 (by omega), fun c k q => by rw [up_ne (by omega)]; exact j3 c k q⟩)), fun c1 => (fun b3 => (by rw [ix _ (by omega) (by omega), Int.toNat_natCast]; refine ⟨rfl, rfl, u + 1, ⟨by omega, fun k q1 q2 => ?_, fun c k q => by rw [up_ne (by omega)]; exact j3 c k q⟩, rfl, rfl, wv (by omega) (by omega) (by omega), trivial⟩; by_cases z : k = 2112 + u; (rw [z, up_sm]); (rw [up_ne (by omega)]; exact j2 k q1 (by omega))))⟩⟩
  exact q
set_option maxRecDepth 10000 in
theorem v_X12_begins {sl : Nat} {si : Nat → Int} {K : Nat → PH → ZL → List ZV → Prop} {Q : PH → List ZV → Prop} {h : PH} {a b : Int} (H : (a < 0 → Q h [(0, 0)]) ∧ (¬ (a < 0) → R32 (h 169 10) → ((h 169 10) < a → Q h [(0, 0)]) ∧ (¬ ((h 169 10) < a) → (a ≤ b → K 26 (uph h 169 11 a) [(3, (0, 0)), (0, (2, 169)), (1, (0, a)), (2, (0, b))] []) ∧ (¬ (a ≤ b) → Q h [(0, 0)])))) : vc (zz sl si (7, 0)) (fun p => Nat.beq p 26) K Q mX12_begins 16 0 mX12_begins.2.2.2.2.2.2 h [(0, (2, 169)), (1, (0, a)), (2, (0, b))] [] := H
set_option maxRecDepth 10000 in
theorem v_X12_begins_26 {sl : Nat} {si : Nat → Int} {K : Nat → PH → ZL → List ZV → Prop} {Q : PH → List ZV → Prop} {h : PH} {a b : Int} {k : Int} (H : (a ≤ k → ∀ h1, CP (zz sl si (7, 0)) mX12_ahead (uph (uph (uph (uph (uph h 169 10 0) 169 18 0) 169 17 (-1)) 169 14 0) 169 19 0) [(2, 169)] h1 [] → Q h1 [(0, 1)]) ∧ (¬ (a ≤ k) → 0 ≤ k ∧ k < (900 : Nat) → R32 (h 175 k.toNat) → 0 ≤ k ∧ k < (900 : Nat) → K 26 (uph h 176 k.toNat (h 175 k.toNat)) [(3, (0, w32 (k + 1))), (0, (2, 169)), (1, (0, a)), (2, (0, b))] [])) : vc (zz sl si (7, 0)) (fun p => Nat.beq p 26) K Q mX12_begins 24 26 (ax_jmp mX12_begins.2.2.2.2.2.2 26) h [(0, (2, 169)), (1, (0, a)), (2, (0, b)), (3, (0, k))] [] := H
set_option maxHeartbeats 600000 in
theorem c_X12_begins {sl : Nat} {si : Nat → Int} {h h' : PH} {a b : Int} {v : Int} {B : Nat → Int} {n : Int} (hB : ∀ k : Nat, k < 900 → zand (h 175 k) 255 = B k ∧ 0 ≤ B k ∧ B k ≤ 255) (hl : h 169 10 = n) (hn : 0 ≤ n ∧ n ≤ 900) (hc : CP (zz sl si (7, 0)) mX12_begins h [(2, 169), (0, a), (0, b)] h' [(0, v)]) : (0 ≤ a ∧ a ≤ n ∧ a ≤ b → v = 1 ∧ RN (Tx B a) h' (sk (Tx B a) 0) ∧ h' 169 10 = 0 ∧ ∀ c k : Nat, ¬ (c = 169 ∧ 10 ≤ k ∧ k ≤ 19 ∧ k ≠ 16) → c ≠ 176 → h' c k = h c k) ∧ (¬ (0 ≤ a ∧ a ≤ n ∧ a ≤ b) → v = 0 ∧ h' = h) := by
  have q : (fun (xh : PH) (r : List ZV) => ∀ v : Int, r = [(0, v)] → ((0 ≤ a ∧ a ≤ n ∧ a ≤ b → v = 1 ∧ RN (Tx B a) xh (sk (Tx B a) 0) ∧ xh 169 10 = 0 ∧ ∀ c k : Nat, ¬ (c = 169 ∧ 10 ≤ k ∧ k ≤ 19 ∧ k ≠ 16) → c ≠ 176 → xh c k = h c k) ∧ (¬ (0 ≤ a ∧ a ≤ n ∧ a ≤ b) → v = 0 ∧ xh = h))) h' [(0, v)] := by
    refine cp_vc (cut := (fun p => Nat.beq p 26)) (K := fun p hx lv st => (p = 26 ∧ lK (fun u : Nat => [(0, (2, 169)), (1, (0, a)), (2, (0, b)), (3, (0, (u : Int)))]) (fun u hx => (0 ≤ a ∧ a ≤ n ∧ a ≤ b) ∧ (u : Int) ≤ a ∧ hx 169 11 = a ∧ (∀ k : Nat, k < u → hx 176 k = h 175 k) ∧ ∀ c k : Nat, ¬ (c = 169 ∧ k = 11) → c ≠ 176 → hx c k = h c k) p hx lv st)) (Q := fun (xh : PH) (r : List ZV) => ∀ v : Int, r = [(0, v)] → ((0 ≤ a ∧ a ≤ n ∧ a ≤ b → v = 1 ∧ RN (Tx B a) xh (sk (Tx B a) 0) ∧ xh 169 10 = 0 ∧ ∀ c k : Nat, ¬ (c = 169 ∧ 10 ≤ k ∧ k ≤ 19 ∧ k ≠ 16) → c ≠ 176 → xh c k = h c k) ∧ (¬ (0 ≤ a ∧ a ≤ n ∧ a ≤ b) → v = 0 ∧ xh = h))) (v_X12_begins ?_) (fun pc hx lv st hcut hK => ?_) hc
    · exact ⟨fun c1 => (by intro v e; cases e; exact ⟨fun z => by omega, fun _ => ⟨rfl, rfl⟩⟩), fun c1 => (fun r2 => ⟨fun c3 => (by intro v e; cases e; exact ⟨fun z => by omega, fun _ => ⟨rfl, rfl⟩⟩), fun c3 => ⟨fun c4 => (by exact ⟨rfl, rfl, 0, ⟨by omega, by omega, up_sm, fun k q => by omega, fun c k q1 q2 => up_ne (by omega)⟩, rfl, rfl, rfl, rfl, trivial⟩), fun c4 => (by intro v e; cases e; exact ⟨fun z => by omega, fun _ => ⟨rfl, rfl⟩⟩)⟩⟩)⟩
    · rcases hK with ⟨rfl, rfl, u, hJ, hs⟩
      · obtain ⟨j1, j2, j3, j4, j5⟩ := hJ
        exact ⟨_, _, hs, v_X12_begins_26 ⟨fun c1 => (fun h1 p1 => (by intro v e; cases e; have e : (u : Int) = a := (by omega); have tk := Tx_ok (B := B) (a := a) (by omega) (fun k hk => (hB k hk).2); have X : RX (Tx B a) (uph (uph (uph (uph (uph hx 169 10 0) 169 18 0) 169 17 (-1)) 169 14 0) 169 19 0) := ⟨tk, by rw [up_ne (by omega), up_ne (by omega), up_ne (by omega), up_ne (by omega), up_ne (by omega), j3]; show a = ((a.toNat : Nat) : Int); omega, fun k hk => by have hk2 : k < a.toNat := hk; rw [up_ne (by omega), up_ne (by omega), up_ne (by omega), up_ne (by omega), up_ne (by omega), j4 k (by omega), Tx_at hk]; exact (hB k (by omega)).1⟩; obtain ⟨d1, d2⟩ := c_X12_ahead X (i := 0) (by omega) (by rw [up_ne (by omega), up_sm]; rfl) p1; exact ⟨fun _ => ⟨rfl, ⟨d1, by rw [d2 169 18 (by omega), up_ne (by omega), up_ne (by omega), up_ne (by omega), up_sm], by rw [d2 169 17 (by omega), up_ne (by omega), up_ne (by omega), up_sm]⟩, by rw [d2 169 10 (by omega), up_ne (by omega), up_ne (by omega), up_ne (by omega), up_ne (by omega), up_sm], fun c k q1 q2 => by rw [d2 c k (by omega), up_ne (by omega), up_ne (by omega), up_ne (by omega), up_ne (by omega), up_ne (by omega)]; exact j5 c k (by omega) q2⟩, fun z => absurd j1 z⟩)), fun c1 => (fun b2 r3 => (fun b4 => (by rw [Int.toNat_natCast]; refine ⟨rfl, rfl, u + 1, ⟨j1, by omega, by rw [up_ne (by omega)]; exact j3, fun k q => ?_, fun c k q1 q2 => by rw [up_ne (by omega)]; exact j5 c k q1 q2⟩, rfl, rfl, rfl, wv (by omega) (by omega) (by omega), trivial⟩; by_cases z : k = u; (rw [z, up_sm]; exact j5 175 u (by omega) (by omega)); (rw [up_ne (by omega)]; exact j4 k (by omega)))))⟩⟩
  exact q v rfl
set_option maxRecDepth 10000 in
theorem v_X12_refuse {sl : Nat} {si : Nat → Int} {K : Nat → PH → ZL → List ZV → Prop} {Q : PH → List ZV → Prop} {h : PH} {a : Int} (H : Q (uph h 169 2 a) [(0, (-1))]) : vc (zz sl si (7, 0)) (fun _ => false) K Q mX12_refuse 7 0 mX12_refuse.2.2.2.2.2.2 h [(0, (2, 169)), (1, (0, a))] [] := H
theorem c_X12_refuse {sl : Nat} {si : Nat → Int} {h h' : PH} {a : Int} {v : Int} (hc : CP (zz sl si (7, 0)) mX12_refuse h [(2, 169), (0, a)] h' [(0, v)]) : h' = uph h 169 2 a ∧ (v = -1) := by
  have q := cp_vc (K := fun _ _ _ _ => True) (Q := fun xh r => xh = uph h 169 2 a ∧ ∀ v, r = [(0, v)] → (v = -1)) (v_X12_refuse (by exact ⟨rfl, fun v e => by cases e; omega⟩)) (fun _ _ _ _ z _ => Bool.noConfusion z) hc
  exact ⟨q.1, q.2 v rfl⟩
set_option maxRecDepth 10000 in
theorem v_X12_gives {sl : Nat} {si : Nat → Int} {K : Nat → PH → ZL → List ZV → Prop} {Q : PH → List ZV → Prop} {h : PH} {a : Int} (H : Q (uph h 169 2 0) [(0, a)]) : vc (zz sl si (7, 0)) (fun _ => false) K Q mX12_gives 7 0 mX12_gives.2.2.2.2.2.2 h [(0, (2, 169)), (1, (0, a))] [] := H
theorem c_X12_gives {sl : Nat} {si : Nat → Int} {h h' : PH} {a : Int} {v : Int} (hc : CP (zz sl si (7, 0)) mX12_gives h [(2, 169), (0, a)] h' [(0, v)]) : h' = uph h 169 2 0 ∧ (v = a) := by
  have q := cp_vc (K := fun _ _ _ _ => True) (Q := fun xh r => xh = uph h 169 2 0 ∧ ∀ v, r = [(0, v)] → (v = a)) (v_X12_gives (by exact ⟨rfl, fun v e => by cases e; omega⟩)) (fun _ _ _ _ z _ => Bool.noConfusion z) hc
  exact ⟨q.1, q.2 v rfl⟩
set_option maxRecDepth 10000 in
theorem v_X12_taken {sl : Nat} {si : Nat → Int} {K : Nat → PH → ZL → List ZV → Prop} {Q : PH → List ZV → Prop} {h : PH} {a : Int} (H : R32 (h 169 18) → R32 (h 169 18) → ((h 169 18) ≤ 0 → ∀ h1 v1, CP (zz sl si (7, 0)) mX12_gives (uph h 169 16 (h 169 18)) [(2, 169), (0, a)] h1 [(0, v1)] → R32 v1 → Q h1 [(0, v1)]) ∧ (¬ ((h 169 18) ≤ 0) → ∀ h2 v2, CP (zz sl si (7, 0)) mX12_refuse (uph h 169 16 (h 169 18)) [(2, 169), (0, 9)] h2 [(0, v2)] → R32 v2 → Q h2 [(0, v2)])) : vc (zz sl si (7, 0)) (fun _ => false) K Q mX12_taken 14 0 mX12_taken.2.2.2.2.2.2 h [(0, (2, 169)), (1, (0, a))] [] := H
set_option maxHeartbeats 600000 in
theorem c_X12_taken {sl : Nat} {si : Nat → Int} {h h' : PH} {a : Int} {v : Int} (hc : CP (zz sl si (7, 0)) mX12_taken h [(2, 169), (0, a)] h' [(0, v)]) : ((h 169 18 ≤ 0 → v = a) ∧ (0 < h 169 18 → v = -1)) ∧ ∀ c k : Nat, ¬ (c = 169 ∧ (k = 2 ∨ k = 16)) → h' c k = h c k := by
  have q : (fun (xh : PH) (r : List ZV) => ∀ v : Int, r = [(0, v)] → (((h 169 18 ≤ 0 → v = a) ∧ (0 < h 169 18 → v = -1)) ∧ ∀ c k : Nat, ¬ (c = 169 ∧ (k = 2 ∨ k = 16)) → xh c k = h c k)) h' [(0, v)] := by
    refine cp_vc (cut := (fun _ => false)) (K := fun p hx lv st => False) (Q := fun (xh : PH) (r : List ZV) => ∀ v : Int, r = [(0, v)] → (((h 169 18 ≤ 0 → v = a) ∧ (0 < h 169 18 → v = -1)) ∧ ∀ c k : Nat, ¬ (c = 169 ∧ (k = 2 ∨ k = 16)) → xh c k = h c k)) (v_X12_taken ?_) (fun pc hx lv st hcut hK => ?_) hc
    · exact (fun r1 => (fun r2 => ⟨fun c3 => (fun h1 v1 p1 q1 => by obtain ⟨t1, e1⟩ := c_X12_gives p1; have t1 := t1.symm; subst t1; exact (by intro v e; cases e; exact ⟨⟨fun _ => e1, fun z => by omega⟩, fun c k q => by rw [up_ne (by omega), up_ne (by omega)]⟩)), fun c3 => (fun h2 v2 p2 q2 => by obtain ⟨t2, e2⟩ := c_X12_refuse p2; have t2 := t2.symm; subst t2; exact (by intro v e; cases e; exact ⟨⟨fun z => by omega, fun _ => e2⟩, fun c k q => by rw [up_ne (by omega), up_ne (by omega)]⟩))⟩))
    · exact hK.elim
  exact q v rfl
theorem RLd.nil {h L : PH} (hz : ∀ k : Nat, 2112 ≤ k → k < 2640 → k ≠ 2116 → h 170 k = 0) : RLd 2112 60 h (clr L) := by
  have b0 : ∀ i : Nat, i < 8 → bt 0 i = 0 := fun i hi => (SB.z 0).2.2 i hi (by omega)
  refine ⟨⟨by rw [hz _ (by omega) (by omega) (by omega), clr_0 (by omega)], by rw [hz _ (by omega) (by omega) (by omega), clr_0 (by omega)], by rw [hz _ (by omega) (by omega) (by omega), clr_0 (by omega)], by rw [hz _ (by omega) (by omega) (by omega), clr_0 (by omega)]⟩, fun i hi => ?_, fun p hp => ?_, fun q hq => by rw [hz _ (by omega) (by omega) (by omega), clr_0 (by omega)], fun p hp => ⟨by rw [hz _ (by omega) (by omega) (by omega), clr_0 (by omega)], fun k hk z => by rw [clr_0 (by omega)] at z; omega⟩, fun i hi => by rw [clr_0 (by omega)] at hi; omega, fun p hp => by rw [clr_0 (by omega)] at hp; omega⟩
  · rw [hz (2112 + 6 + 3 * i) (by omega) (by omega) (by omega), hz (2112 + 7 + 3 * i) (by omega) (by omega) (by omega), hz (2112 + 8 + 3 * i) (by omega) (by omega) (by omega), clr_0 (j := 1) (by omega), clr_0 (j := 2) (by omega), clr_0 (j := 15) (by omega), b0 i (by omega)]
    exact ⟨rfl, rfl, rfl⟩
  · rw [hz (2112 + 29 + 5 * p) (by omega) (by omega) (by omega), hz (2112 + 30 + 5 * p) (by omega) (by omega) (by omega), hz (2112 + 31 + 5 * p) (by omega) (by omega) (by omega), clr_0 (j := 0) (k := 4) (by omega), clr_0 (j := 0) (k := 7) (by omega), clr_0 (j := 0) (k := 8) (by omega), clr_0 (j := 0) (k := 9) (by omega), b0 p hp]
    exact ⟨fun z => by omega, rfl, rfl, rfl⟩
def JQ (T : TX) (u : Nat) (b : Int) (h : PH) (r : PR) : Prop := (b = 1 ∧ ∃ s L, RN T h s ∧ RLd 2112 60 h L ∧ WL L ∧ u ≤ s ∧ pl T (900 - u) s L = r) ∨ (b = 0 ∧ ∃ q, r = .inl q ∧ RF h q.1 q.2)
def JE (h : PH) (r : PR) : Prop := (h 169 18 = 0 ∧ ∃ q, r = .inr q ∧ RLd 2112 60 h q.2 ∧ WL q.2) ∨ ∃ q, r = .inl q ∧ RF h q.1 q.2
theorem JQ.step {T : TX} {u : Nat} {h' : PH} {r : PR} {s : Nat} {L : PH} {v : Int} (hs : s ≤ T.2) (hT : T.2 ≤ 900) (hu : u ≤ s) (hk : kd T s ≠ 0) (hp : pl T (900 - u) s L = r) (hc : ROp T v h' (pPart T s L)) : JQ T (u + 1) v h' r := by
  have h9 : s < T.2 := by
    rcases Nat.lt_or_ge s T.2 with q | q
    · exact q
    · exfalso
      apply hk
      unfold kd
      rw [if_pos q]
  rw [show 900 - u = (900 - (u + 1)) + 1 by omega] at hp
  have hp : (if kd T s = 0 then Sum.inr (s, L) else (match pPart T s L with
    | .inl q => .inl q
    | .inr q => pl T (900 - (u + 1)) q.1 q.2)) = r := hp
  rw [if_neg hk] at hp
  have hg := ge_part (T := T) (s := s) (L := L) hs
  generalize pPart T s L = z at hp hc hg
  cases z with
  | inl q => exact Or.inr ⟨hc.1, q, hp.symm, hc.2⟩
  | inr q => exact Or.inl ⟨hc.1, q.1, q.2, hc.2.1, hc.2.2.1, hc.2.2.2, by have := hg q rfl; omega, hp⟩
theorem JQ.fin {T : TX} {u : Nat} {b : Int} {h : PH} {r : PR} (hJ : JQ T u b h r) (hd : b = 0 ∨ h 169 12 = 0) : JE h r := by
  rcases hJ with ⟨hb, s, L, hN, hL, hW, hu, hp⟩ | ⟨hb, q, e, hq⟩
  · have hk : kd T s = 0 := by
      rcases hd with q | q
      · omega
      · rw [← hN.ek]; exact q
    have e : r = .inr (s, L) := by
      cases hn : 900 - u with
      | zero => rw [hn] at hp; exact hp.symm
      | succ n =>
        rw [hn] at hp
        have hp : (if kd T s = 0 then Sum.inr (s, L) else (match pPart T s L with
          | .inl q => .inl q
          | .inr q => pl T n q.1 q.2)) = r := hp
        rw [if_pos hk] at hp
        exact hp.symm
    exact Or.inl ⟨hN.2.1, (s, L), e, hL, hW⟩
  · exact Or.inr ⟨q, e, hq⟩
set_option maxRecDepth 10000 in
theorem v_X12_land {sl : Nat} {si : Nat → Int} {K : Nat → PH → ZL → List ZV → Prop} {Q : PH → List ZV → Prop} {h : PH} {a : Int}  (H : ∀ h1 v1, CP (zz sl si (7, 0)) mX12_begins h [(2, 169), (0, a), (0, 900)] h1 [(0, v1)] → v1 = 0 ∨ v1 = 1 → (v1 ≠ 0 → ∀ h2, CP (zz sl si (7, 0)) mX12_plain h1 [(2, 169), (0, 2112)] h2 [] → K 26 h2 [(2, (0, 1)), (0, (2, 169)), (1, (0, a))] []) ∧ (¬ (v1 ≠ 0) → ∀ h3 v3, CP (zz sl si (7, 0)) mX12_refuse h1 [(2, 169), (0, 1)] h3 [(0, v3)] → R32 v3 → Q h3 [(0, v3)])) : vc (zz sl si (7, 0)) (fun p => Nat.beq p 26 || Nat.beq p 45 || Nat.beq p 54 || Nat.beq p 85 || Nat.beq p 112) K Q mX12_land 12 0 mX12_land.2.2.2.2.2.2 h [(0, (2, 169)), (1, (0, a))] [] := H
set_option maxRecDepth 10000 in
theorem v_X12_land_26 {sl : Nat} {si : Nat → Int} {K : Nat → PH → ZL → List ZV → Prop} {Q : PH → List ZV → Prop} {h : PH} {a : Int}  {b : Int} (H : (b = 0 → K 45 h [(0, (2, 169)), (1, (0, a)), (2, (0, b))] []) ∧ (¬ (b = 0) → R32 (h 169 12) → ((h 169 12) = 0 → K 45 h [(0, (2, 169)), (1, (0, a)), (2, (0, b))] []) ∧ (¬ ((h 169 12) = 0) → ∀ h1 v1, CP (zz sl si (7, 0)) mX12_landPart h [(2, 169)] h1 [(0, v1)] → v1 = 0 ∨ v1 = 1 → K 26 h1 [(2, (0, v1)), (0, (2, 169)), (1, (0, a))] []))) : vc (zz sl si (7, 0)) (fun p => Nat.beq p 26 || Nat.beq p 45 || Nat.beq p 54 || Nat.beq p 85 || Nat.beq p 112) K Q mX12_land 11 26 (ax_jmp mX12_land.2.2.2.2.2.2 26) h [(0, (2, 169)), (1, (0, a)), (2, (0, b))] [] := H
set_option maxRecDepth 10000 in
theorem v_X12_land_45 {sl : Nat} {si : Nat → Int} {K : Nat → PH → ZL → List ZV → Prop} {Q : PH → List ZV → Prop} {h : PH} {a : Int}  (H : R32 (h 169 18) → ((h 169 18) ≠ 0 → K 112 h [(0, (2, 169)), (1, (0, a))] []) ∧ (¬ ((h 169 18) ≠ 0) → K 54 h [(3, (0, 0)), (0, (2, 169)), (1, (0, a))] [])) : vc (zz sl si (7, 0)) (fun p => Nat.beq p 26 || Nat.beq p 45 || Nat.beq p 54 || Nat.beq p 85 || Nat.beq p 112) K Q mX12_land 7 45 (ax_jmp mX12_land.2.2.2.2.2.2 45) h [(0, (2, 169)), (1, (0, a))] [] := H
set_option maxRecDepth 10000 in
theorem v_X12_land_54 {sl : Nat} {si : Nat → Int} {K : Nat → PH → ZL → List ZV → Prop} {Q : PH → List ZV → Prop} {h : PH} {a : Int}  {k : Int} (H : ((528 : Int) ≤ k → K 85 h [(3, (0, 0)), (0, (2, 169)), (1, (0, a))] []) ∧ (¬ ((528 : Int) ≤ k) → 0 ≤ w32 (2112 + k) ∧ w32 (2112 + k) < (3696 : Nat) → R32 (h 170 (w32 (2112 + k)).toNat) → 0 ≤ k ∧ k < (3696 : Nat) → K 54 (uph h 170 k.toNat (h 170 (w32 (2112 + k)).toNat)) [(3, (0, w32 (k + 1))), (0, (2, 169)), (1, (0, a))] [])) : vc (zz sl si (7, 0)) (fun p => Nat.beq p 26 || Nat.beq p 45 || Nat.beq p 54 || Nat.beq p 85 || Nat.beq p 112) K Q mX12_land 17 54 (ax_jmp mX12_land.2.2.2.2.2.2 54) h [(0, (2, 169)), (1, (0, a)), (3, (0, k))] [] := H
set_option maxRecDepth 10000 in
theorem v_X12_land_85 {sl : Nat} {si : Nat → Int} {K : Nat → PH → ZL → List ZV → Prop} {Q : PH → List ZV → Prop} {h : PH} {a : Int}  {k : Int} (H : ((15 : Int) ≤ k → K 112 h [(0, (2, 169)), (1, (0, a)), (3, (0, k))] []) ∧ (¬ ((15 : Int) ≤ k) → 0 ≤ w32 (60 + k) ∧ w32 (60 + k) < (90 : Nat) → R64 (h 171 (w32 (60 + k)).toNat) → 0 ≤ k ∧ k < (90 : Nat) → K 85 (uph h 171 k.toNat (h 171 (w32 (60 + k)).toNat)) [(3, (0, w32 (k + 1))), (0, (2, 169)), (1, (0, a))] [])) : vc (zz sl si (7, 0)) (fun p => Nat.beq p 26 || Nat.beq p 45 || Nat.beq p 54 || Nat.beq p 85 || Nat.beq p 112) K Q mX12_land 17 85 (ax_jmp mX12_land.2.2.2.2.2.2 85) h [(0, (2, 169)), (1, (0, a)), (3, (0, k))] [] := H
set_option maxRecDepth 10000 in
theorem v_X12_land_112 {sl : Nat} {si : Nat → Int} {K : Nat → PH → ZL → List ZV → Prop} {Q : PH → List ZV → Prop} {h : PH} {a : Int}  (H : 0 ≤ (1 : Int) ∧ (1 : Int) < (3696 : Nat) → R32 (h 170 1) → ∀ h1 v1, CP (zz sl si (7, 0)) mX12_taken h [(2, 169), (0, (h 170 1))] h1 [(0, v1)] → R32 v1 → Q h1 [(0, v1)]) : vc (zz sl si (7, 0)) (fun p => Nat.beq p 26 || Nat.beq p 45 || Nat.beq p 54 || Nat.beq p 85 || Nat.beq p 112) K Q mX12_land 9 112 (ax_jmp mX12_land.2.2.2.2.2.2 112) h [(0, (2, 169)), (1, (0, a))] [] := H
set_option maxHeartbeats 600000 in
theorem c_X12_land {sl : Nat} {si : Nat → Int} {h h' : PH} {a : Int} {L : PH} {v : Int} {B : Nat → Int} {n : Int} (hB : ∀ k : Nat, k < 900 → zand (h 175 k) 255 = B k ∧ 0 ≤ B k ∧ B k ≤ 255) (hl : h 169 10 = n) (hn : 0 ≤ n ∧ n ≤ 900) (hc : CP (zz sl si (7, 0)) mX12_land h [(2, 169), (0, a)] h' [(0, v)]) : ((0 ≤ a ∧ a ≤ n) → h' 169 10 = 0 ∧ ans v (pl (Tx B a) 900 (sk (Tx B a) 0) (clr L))) ∧ (¬ (0 ≤ a ∧ a ≤ n) → h' 169 10 = n ∧ v = -1) ∧ (∀ c k : Nat, c ≤ 168 ∨ c = 175 → h' c k = h c k) := by
  have q : (fun (xh : PH) (r : List ZV) => ∀ v : Int, r = [(0, v)] → (((0 ≤ a ∧ a ≤ n) → xh 169 10 = 0 ∧ ans v (pl (Tx B a) 900 (sk (Tx B a) 0) (clr L))) ∧ (¬ (0 ≤ a ∧ a ≤ n) → xh 169 10 = n ∧ v = -1) ∧ (∀ c k : Nat, c ≤ 168 ∨ c = 175 → xh c k = h c k))) h' [(0, v)] := by
    refine cp_vc (cut := (fun p => Nat.beq p 26 || Nat.beq p 45 || Nat.beq p 54 || Nat.beq p 85 || Nat.beq p 112)) (K := fun p hx lv st => (p = 26 ∧ lK (fun p : Nat × Int => [(0, (2, 169)), (1, (0, a)), (2, (0, p.2))]) (fun p hx => (0 ≤ a ∧ a ≤ n) ∧ (JQ (Tx B a) p.1 p.2 hx (pl (Tx B a) 900 (sk (Tx B a) 0) (clr L))) ∧ hx 169 10 = 0 ∧ (∀ c k : Nat, c ≤ 168 ∨ c = 175 → hx c k = h c k)) p hx lv st) ∨ (p = 45 ∧ lK (fun p : Unit => [(0, (2, 169)), (1, (0, a))]) (fun p hx => (0 ≤ a ∧ a ≤ n) ∧ (JE hx (pl (Tx B a) 900 (sk (Tx B a) 0) (clr L))) ∧ hx 169 10 = 0 ∧ (∀ c k : Nat, c ≤ 168 ∨ c = 175 → hx c k = h c k)) p hx lv st) ∨ (p = 54 ∧ lK (fun u : Nat => [(0, (2, 169)), (1, (0, a)), (3, (0, (u : Int)))]) (fun u hx => (0 ≤ a ∧ a ≤ n) ∧ ((∃ q, (pl (Tx B a) 900 (sk (Tx B a) 0) (clr L)) = .inr q ∧ hx 169 18 = 0 ∧ hx 170 2113 = q.2 0 4 ∧ (2 ≤ u → hx 170 1 = q.2 0 4)) ∧ u ≤ 528) ∧ hx 169 10 = 0 ∧ (∀ c k : Nat, c ≤ 168 ∨ c = 175 → hx c k = h c k)) p hx lv st) ∨ (p = 85 ∧ lK (fun u : Nat => [(0, (2, 169)), (1, (0, a)), (3, (0, (u : Int)))]) (fun u hx => (0 ≤ a ∧ a ≤ n) ∧ ((∃ q, (pl (Tx B a) 900 (sk (Tx B a) 0) (clr L)) = .inr q ∧ hx 169 18 = 0 ∧ hx 170 1 = q.2 0 4) ∧ u ≤ 15) ∧ hx 169 10 = 0 ∧ (∀ c k : Nat, c ≤ 168 ∨ c = 175 → hx c k = h c k)) p hx lv st) ∨ (p = 112 ∧ lK (fun p : Unit => [(0, (2, 169)), (1, (0, a))]) (fun p hx => (0 ≤ a ∧ a ≤ n) ∧ (((∃ q, (pl (Tx B a) 900 (sk (Tx B a) 0) (clr L)) = .inr q ∧ hx 169 18 = 0 ∧ hx 170 1 = q.2 0 4) ∨ ∃ q, (pl (Tx B a) 900 (sk (Tx B a) 0) (clr L)) = .inl q ∧ RF hx q.1 q.2)) ∧ hx 169 10 = 0 ∧ (∀ c k : Nat, c ≤ 168 ∨ c = 175 → hx c k = h c k)) p hx lv st)) (Q := fun (xh : PH) (r : List ZV) => ∀ v : Int, r = [(0, v)] → (((0 ≤ a ∧ a ≤ n) → xh 169 10 = 0 ∧ ans v (pl (Tx B a) 900 (sk (Tx B a) 0) (clr L))) ∧ (¬ (0 ≤ a ∧ a ≤ n) → xh 169 10 = n ∧ v = -1) ∧ (∀ c k : Nat, c ≤ 168 ∨ c = 175 → xh c k = h c k))) (v_X12_land ?_) (fun pc hx lv st hcut hK => ?_) hc
    · exact (fun h1 v1 p1 q1 => ⟨fun c1 => (fun h2 p2 => (by obtain ⟨y1, n1⟩ := c_X12_begins hB hl hn p1; have ok : 0 ≤ a ∧ a ≤ n ∧ a ≤ 900 := (by by_cases z : 0 ≤ a ∧ a ≤ n ∧ a ≤ 900; exact z; exact absurd (n1 z).1 (by omega)); obtain ⟨g1, g2, g3, g4⟩ := y1 ok; obtain ⟨f1, f2⟩ := c_X12_plain rfl p2; exact Or.inl ⟨rfl, rfl, (0, 1), ⟨⟨ok.1, ok.2.1⟩, Or.inl ⟨rfl, _, _, g2.kp (fun c k q => f2 c k (by omega)), RLd.nil f1, WL.clr0 L, by omega, rfl⟩, by rw [f2 169 10 (by omega)]; exact g3, fun c k q => by rw [f2 c k (by omega)]; exact g4 c k (by omega) (by omega)⟩, rfl, rfl, rfl, trivial⟩)), fun c1 => (fun h3 v3 p3 q3 => by obtain ⟨t3, e3⟩ := c_X12_refuse p3; have t3 := t3.symm; subst t3; exact (by intro v e; cases e; obtain ⟨y1, n1⟩ := c_X12_begins hB hl hn p1; have nok : ¬ (0 ≤ a ∧ a ≤ n ∧ a ≤ 900) := (fun z => by have := (y1 z).1; omega); obtain ⟨g1, g2⟩ := n1 nok; subst g2; exact ⟨fun z => by omega, fun _ => ⟨by rw [up_ne (by omega)]; exact hl, e3⟩, fun c k q => by rw [up_ne (by omega)]⟩))⟩)
    · rcases hK with ⟨rfl, rfl, p, hJ, hs⟩ | ⟨rfl, rfl, p, hJ, hs⟩ | ⟨rfl, rfl, u, hJ, hs⟩ | ⟨rfl, rfl, u, hJ, hs⟩ | ⟨rfl, rfl, p, hJ, hs⟩
      · obtain ⟨j0, j1, j2, j3⟩ := hJ
        exact ⟨_, _, hs, v_X12_land_26 ⟨fun c1 => (by exact Or.inr (Or.inl ⟨rfl, rfl, (), ⟨j0, j1.fin (Or.inl c1), j2, j3⟩, rfl, rfl, trivial⟩)), fun c1 => (fun r2 => ⟨fun c3 => (by exact Or.inr (Or.inl ⟨rfl, rfl, (), ⟨j0, j1.fin (Or.inr c3), j2, j3⟩, rfl, rfl, trivial⟩)), fun c3 => (fun h1 v1 p1 q1 => (by rcases j1 with ⟨hb, s, L1, hN, hL1, hW1, hu, hp⟩ | ⟨hb, -⟩; (obtain ⟨d1, d2⟩ := c_X12_landPart hN hL1 hW1 p1; exact Or.inl ⟨rfl, rfl, (p.1 + 1, v1), ⟨j0, JQ.step hN.1.2.1 hN.1.1.1.1 hu (by rw [← hN.ek]; exact c3) hp d1, by rw [d2 169 10 (by omega) (by omega) (by omega)]; exact j2, fun c k q => by rw [d2 c k (by omega) (by omega) (by omega)]; exact j3 c k q⟩, rfl, rfl, rfl, trivial⟩); exact absurd hb c1))⟩)⟩⟩
      · obtain ⟨j0, j1, j2, j3⟩ := hJ
        exact ⟨_, _, hs, v_X12_land_45 (fun r1 => ⟨fun c2 => (by rcases j1 with ⟨z, -⟩ | z; exact absurd z c2; exact Or.inr (Or.inr (Or.inr (Or.inr ⟨rfl, rfl, (), ⟨j0, Or.inr z, j2, j3⟩, rfl, rfl, trivial⟩)))), fun c2 => (by rcases j1 with ⟨z, q, z1, z2, z3⟩ | ⟨q, z1, z2⟩; exact Or.inr (Or.inr (Or.inl ⟨rfl, rfl, 0, ⟨j0, ⟨⟨q, z1, z, z2.1.2.1, fun y => absurd y (by omega)⟩, by omega⟩, j2, j3⟩, rfl, rfl, rfl, trivial⟩)); exact absurd (by have := z2.1; have := z2.2.2; omega) c2)⟩)⟩
      · obtain ⟨j0, ⟨⟨q, z1, z2, z3, z4⟩, ju⟩, j2, j3⟩ := hJ
        have ix : u < 528 → (w32 (2112 + (u : Int))).toNat = 2112 + u := fun z => by rw [w32_id (by omega) (by omega)]; omega
        exact ⟨_, _, hs, v_X12_land_54 ⟨fun c1 => (by exact Or.inr (Or.inr (Or.inr (Or.inl ⟨rfl, rfl, 0, ⟨j0, ⟨⟨q, z1, z2, z4 (by omega)⟩, by omega⟩, j2, j3⟩, rfl, rfl, rfl, trivial⟩)))), fun c1 => (fun b2 r3 => (fun b4 => (by rw [ix (by omega), Int.toNat_natCast]; refine Or.inr (Or.inr (Or.inl ⟨rfl, rfl, u + 1, ⟨j0, ⟨⟨q, z1, by rw [up_ne (by omega)]; exact z2, by rw [up_ne (by omega)]; exact z3, fun y => ?_⟩, by omega⟩, by rw [up_ne (by omega)]; exact j2, fun c k y => by rw [up_ne (by omega)]; exact j3 c k y⟩, rfl, rfl, wv (by omega) (by omega) (by omega), trivial⟩)); by_cases t : u = 1; (subst t; rw [up_sm]; exact z3); (rw [up_ne (by omega)]; exact z4 (by omega)))))⟩⟩
      · obtain ⟨j0, ⟨⟨q, z1, z2, z3⟩, ju⟩, j2, j3⟩ := hJ
        exact ⟨_, _, hs, v_X12_land_85 ⟨fun c1 => (by exact Or.inr (Or.inr (Or.inr (Or.inr ⟨rfl, rfl, (), ⟨j0, Or.inl ⟨q, z1, z2, z3⟩, j2, j3⟩, rfl, rfl, trivial⟩)))), fun c1 => (fun b2 r3 => (fun b4 => (by refine Or.inr (Or.inr (Or.inr (Or.inl ⟨rfl, rfl, u + 1, ⟨j0, ⟨⟨q, z1, by rw [up_ne (by omega)]; exact z2, by rw [up_ne (by omega)]; exact z3⟩, by omega⟩, by rw [up_ne (by omega)]; exact j2, fun c k y => by rw [up_ne (by omega)]; exact j3 c k y⟩, rfl, rfl, wv (by omega) (by omega) (by omega), trivial⟩))))))⟩⟩
      · obtain ⟨j0, j1, j2, j3⟩ := hJ
        exact ⟨_, _, hs, v_X12_land_112 (fun b1 r2 => (fun h1 v1 p1 q1 => (by intro v e; cases e; obtain ⟨⟨d1, d2⟩, d3⟩ := c_X12_taken p1; refine ⟨fun _ => ⟨by rw [d3 169 10 (by omega)]; exact j2, ?_⟩, fun z => absurd j0 z, fun c k q => by rw [d3 c k (by omega)]; exact j3 c k q⟩; rcases j1 with ⟨q, z1, z2, z3⟩ | ⟨q, z1, z2⟩; (rw [z1]; exact (d1 (by omega)).trans z3); (rw [z1]; exact d2 (by have := z2.1; have := z2.2.2; omega)))))⟩
  exact q v rfl
section PR
variable {sl : Nat} {si : Nat → Int} {h h1 h2 : PH} {a v w : Int}
theorem pr_land (hJ : J10 h) (p1 : CP (zz sl si (7, 0)) mX11_land h [(2, 0), (0, a)] h1 [(0, v)]) (p2 : CP (zz sl si (7, 0)) mX12_land h1 [(2, 169), (0, a)] h2 [(0, w)]) : J10 h2 ∧ v = w := by
  obtain ⟨y1, n1, k1⟩ := c_X11_land hJ p1
  obtain ⟨ja, jb, jc, jd⟩ := hJ
  obtain ⟨y2, n2, k2⟩ := c_X12_land (B := fun k => h 3 k) (n := h 2 1) (L := fun j k => h (27 + j) k) (fun k hk => by rw [k1 175 k (by omega)]; exact jc k hk) (by rw [k1 169 10 (by omega)]; exact ja.symm) jb p2
  have kc : ∀ k : Nat, k < 900 → zand (h2 175 k) 255 = h2 3 k ∧ 0 ≤ h2 3 k ∧ h2 3 k ≤ 255 := fun k hk => by
    rw [k2 175 k (by omega), k1 175 k (by omega), k2 3 k (by omega), k1 3 k (by omega)]
    exact jc k hk
  have kd : ∀ k : Nat, k < 24 → h2 4 k = kwt.getD k 0 := fun k hk => by
    rw [k2 4 k (by omega), k1 4 k (by omega)]
    exact jd k hk
  by_cases ok : 0 ≤ a ∧ a ≤ h 2 1
  · obtain ⟨a1, a2⟩ := y1 ok
    obtain ⟨b1, b2⟩ := y2 ok
    exact ⟨⟨by rw [k2 2 1 (by omega), a1, b1], by rw [k2 2 1 (by omega), a1]; omega, kc, kd⟩, ans_un a2 b2⟩
  · obtain ⟨a1, a2⟩ := n1 ok
    obtain ⟨b1, b2⟩ := n2 ok
    exact ⟨⟨by rw [k2 2 1 (by omega), a1, b1], by rw [k2 2 1 (by omega), a1]; exact jb, kc, kd⟩, by rw [a2, b2]⟩
end PR
