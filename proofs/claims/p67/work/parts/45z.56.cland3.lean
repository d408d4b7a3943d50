theorem fi_rd {h : PH} {c n : Nat} {v : Int} {c' k : Nat} : fih h c n v c' k = if c' = c ∧ k < n then v else h c' k := rfl
theorem cp_rd {h : PH} {cs cd sp dp n : Nat} {c k : Nat} : cph h cs cd sp dp n c k = if c = cd ∧ dp ≤ k ∧ k < dp + n then h cs (sp + (k - dp)) else h c k := rfl
set_option maxRecDepth 10000 in
theorem v_fl_29 {sl : Nat} {si : Nat → Int} {fm : ZV} {K : Nat → PH → ZL → List ZV → Prop} {Q : PH → List ZV → Prop} {h : PH} {a : Int} (H : K 5 h [(3, (0, 7)), (2, (0, 0)), (0, (2, 29)), (1, (0, a))] []) : vc (zz sl si fm) (fun p => Nat.beq p 5) K Q mJ7_fill_53178 7 0 mJ7_fill_53178.2.2.2.2.2.2 h [(0, (2, 29)), (1, (0, a))] [] := H
set_option maxRecDepth 10000 in
theorem v_fl_29_5 {sl : Nat} {si : Nat → Int} {fm : ZV} {K : Nat → PH → ZL → List ZV → Prop} {Q : PH → List ZV → Prop} {h : PH} {a : Int} {k : Int} (H : ((7 : Int) ≤ k → Q h []) ∧ (¬ ((7 : Int) ≤ k) → 0 ≤ k ∧ k < (7 : Nat) → K 5 (uph h 29 k.toNat a) [(2, (0, w32 (k + 1))), (0, (2, 29)), (1, (0, a)), (3, (0, 7))] [])) : vc (zz sl si fm) (fun p => Nat.beq p 5) K Q mJ7_fill_53178 11 5 (ax_jmp mJ7_fill_53178.2.2.2.2.2.2 5) h [(0, (2, 29)), (1, (0, a)), (2, (0, k)), (3, (0, 7))] [] := H
set_option maxHeartbeats 600000 in
theorem c_fl_29 {sl : Nat} {si : Nat → Int} {fm : ZV} {h h' : PH} {a : Int} (hc : CP (zz sl si fm) mJ7_fill_53178 h [(2, 29), (0, a)] h' []) : h' = fih h 29 7 a ∧ True := by
  have q : (fun (xh : PH) (r : List ZV) => xh = fih h 29 7 a ∧ True) h' [] := by
    refine cp_vc (cut := (fun p => Nat.beq p 5)) (K := fun p hx lv st => (p = 5 ∧ lK (fun u : Nat => [(0, (2, 29)), (1, (0, a)), (2, (0, (u : Int))), (3, (0, 7))]) (fun u hx => u ≤ 7 ∧ hx = fih h 29 u a) p hx lv st)) (Q := fun (xh : PH) (r : List ZV) => xh = fih h 29 7 a ∧ True) (v_fl_29 ?_) (fun pc hx lv st hcut hK => ?_) hc
    · exact (by exact ⟨rfl, rfl, 0, ⟨by omega, fih_0.symm⟩, rfl, rfl, rfl, rfl, trivial⟩)
    · rcases hK with ⟨rfl, rfl, u, hJ, hs⟩
      · obtain ⟨j1, j2⟩ := hJ
        exact ⟨_, _, hs, v_fl_29_5 ⟨fun c1 => (by have e : u = 7 := (by omega); subst e; exact ⟨j2, trivial⟩), fun c1 => (fun b2 => (by refine ⟨rfl, rfl, u + 1, ⟨by omega, ?_⟩, rfl, rfl, wv (by omega) (by omega) (by omega), rfl, trivial⟩; rw [j2, Int.toNat_natCast, fih_s]))⟩⟩
  exact q
set_option maxRecDepth 10000 in
theorem v_fl_34 {sl : Nat} {si : Nat → Int} {fm : ZV} {K : Nat → PH → ZL → List ZV → Prop} {Q : PH → List ZV → Prop} {h : PH} {a : Int} (H : K 5 h [(3, (0, 64)), (2, (0, 0)), (0, (2, 34)), (1, (0, a))] []) : vc (zz sl si fm) (fun p => Nat.beq p 5) K Q mJ7_fill_53178 7 0 mJ7_fill_53178.2.2.2.2.2.2 h [(0, (2, 34)), (1, (0, a))] [] := H
set_option maxRecDepth 10000 in
theorem v_fl_34_5 {sl : Nat} {si : Nat → Int} {fm : ZV} {K : Nat → PH → ZL → List ZV → Prop} {Q : PH → List ZV → Prop} {h : PH} {a : Int} {k : Int} (H : ((64 : Int) ≤ k → Q h []) ∧ (¬ ((64 : Int) ≤ k) → 0 ≤ k ∧ k < (64 : Nat) → K 5 (uph h 34 k.toNat a) [(2, (0, w32 (k + 1))), (0, (2, 34)), (1, (0, a)), (3, (0, 64))] [])) : vc (zz sl si fm) (fun p => Nat.beq p 5) K Q mJ7_fill_53178 11 5 (ax_jmp mJ7_fill_53178.2.2.2.2.2.2 5) h [(0, (2, 34)), (1, (0, a)), (2, (0, k)), (3, (0, 64))] [] := H
set_option maxHeartbeats 600000 in
theorem c_fl_34 {sl : Nat} {si : Nat → Int} {fm : ZV} {h h' : PH} {a : Int} (hc : CP (zz sl si fm) mJ7_fill_53178 h [(2, 34), (0, a)] h' []) : h' = fih h 34 64 a ∧ True := by
  have q : (fun (xh : PH) (r : List ZV) => xh = fih h 34 64 a ∧ True) h' [] := by
    refine cp_vc (cut := (fun p => Nat.beq p 5)) (K := fun p hx lv st => (p = 5 ∧ lK (fun u : Nat => [(0, (2, 34)), (1, (0, a)), (2, (0, (u : Int))), (3, (0, 64))]) (fun u hx => u ≤ 64 ∧ hx = fih h 34 u a) p hx lv st)) (Q := fun (xh : PH) (r : List ZV) => xh = fih h 34 64 a ∧ True) (v_fl_34 ?_) (fun pc hx lv st hcut hK => ?_) hc
    · exact (by exact ⟨rfl, rfl, 0, ⟨by omega, fih_0.symm⟩, rfl, rfl, rfl, rfl, trivial⟩)
    · rcases hK with ⟨rfl, rfl, u, hJ, hs⟩
      · obtain ⟨j1, j2⟩ := hJ
        exact ⟨_, _, hs, v_fl_34_5 ⟨fun c1 => (by have e : u = 64 := (by omega); subst e; exact ⟨j2, trivial⟩), fun c1 => (fun b2 => (by refine ⟨rfl, rfl, u + 1, ⟨by omega, ?_⟩, rfl, rfl, wv (by omega) (by omega) (by omega), rfl, trivial⟩; rw [j2, Int.toNat_natCast, fih_s]))⟩⟩
  exact q
set_option maxRecDepth 10000 in
theorem v_fl_35 {sl : Nat} {si : Nat → Int} {fm : ZV} {K : Nat → PH → ZL → List ZV → Prop} {Q : PH → List ZV → Prop} {h : PH} {a : Int} (H : K 5 h [(3, (0, 8)), (2, (0, 0)), (0, (2, 35)), (1, (0, a))] []) : vc (zz sl si fm) (fun p => Nat.beq p 5) K Q mJ7_fill_53178 7 0 mJ7_fill_53178.2.2.2.2.2.2 h [(0, (2, 35)), (1, (0, a))] [] := H
set_option maxRecDepth 10000 in
theorem v_fl_35_5 {sl : Nat} {si : Nat → Int} {fm : ZV} {K : Nat → PH → ZL → List ZV → Prop} {Q : PH → List ZV → Prop} {h : PH} {a : Int} {k : Int} (H : ((8 : Int) ≤ k → Q h []) ∧ (¬ ((8 : Int) ≤ k) → 0 ≤ k ∧ k < (8 : Nat) → K 5 (uph h 35 k.toNat a) [(2, (0, w32 (k + 1))), (0, (2, 35)), (1, (0, a)), (3, (0, 8))] [])) : vc (zz sl si fm) (fun p => Nat.beq p 5) K Q mJ7_fill_53178 11 5 (ax_jmp mJ7_fill_53178.2.2.2.2.2.2 5) h [(0, (2, 35)), (1, (0, a)), (2, (0, k)), (3, (0, 8))] [] := H
set_option maxHeartbeats 600000 in
theorem c_fl_35 {sl : Nat} {si : Nat → Int} {fm : ZV} {h h' : PH} {a : Int} (hc : CP (zz sl si fm) mJ7_fill_53178 h [(2, 35), (0, a)] h' []) : h' = fih h 35 8 a ∧ True := by
  have q : (fun (xh : PH) (r : List ZV) => xh = fih h 35 8 a ∧ True) h' [] := by
    refine cp_vc (cut := (fun p => Nat.beq p 5)) (K := fun p hx lv st => (p = 5 ∧ lK (fun u : Nat => [(0, (2, 35)), (1, (0, a)), (2, (0, (u : Int))), (3, (0, 8))]) (fun u hx => u ≤ 8 ∧ hx = fih h 35 u a) p hx lv st)) (Q := fun (xh : PH) (r : List ZV) => xh = fih h 35 8 a ∧ True) (v_fl_35 ?_) (fun pc hx lv st hcut hK => ?_) hc
    · exact (by exact ⟨rfl, rfl, 0, ⟨by omega, fih_0.symm⟩, rfl, rfl, rfl, rfl, trivial⟩)
    · rcases hK with ⟨rfl, rfl, u, hJ, hs⟩
      · obtain ⟨j1, j2⟩ := hJ
        exact ⟨_, _, hs, v_fl_35_5 ⟨fun c1 => (by have e : u = 8 := (by omega); subst e; exact ⟨j2, trivial⟩), fun c1 => (fun b2 => (by refine ⟨rfl, rfl, u + 1, ⟨by omega, ?_⟩, rfl, rfl, wv (by omega) (by omega) (by omega), rfl, trivial⟩; rw [j2, Int.toNat_natCast, fih_s]))⟩⟩
  exact q
set_option maxRecDepth 10000 in
theorem v_fl_41 {sl : Nat} {si : Nat → Int} {fm : ZV} {K : Nat → PH → ZL → List ZV → Prop} {Q : PH → List ZV → Prop} {h : PH} {a : Int} (H : K 5 h [(3, (0, 8)), (2, (0, 0)), (0, (2, 41)), (1, (0, a))] []) : vc (zz sl si fm) (fun p => Nat.beq p 5) K Q mJ7_fill_53178 7 0 mJ7_fill_53178.2.2.2.2.2.2 h [(0, (2, 41)), (1, (0, a))] [] := H
set_option maxRecDepth 10000 in
theorem v_fl_41_5 {sl : Nat} {si : Nat → Int} {fm : ZV} {K : Nat → PH → ZL → List ZV → Prop} {Q : PH → List ZV → Prop} {h : PH} {a : Int} {k : Int} (H : ((8 : Int) ≤ k → Q h []) ∧ (¬ ((8 : Int) ≤ k) → 0 ≤ k ∧ k < (8 : Nat) → K 5 (uph h 41 k.toNat a) [(2, (0, w32 (k + 1))), (0, (2, 41)), (1, (0, a)), (3, (0, 8))] [])) : vc (zz sl si fm) (fun p => Nat.beq p 5) K Q mJ7_fill_53178 11 5 (ax_jmp mJ7_fill_53178.2.2.2.2.2.2 5) h [(0, (2, 41)), (1, (0, a)), (2, (0, k)), (3, (0, 8))] [] := H
set_option maxHeartbeats 600000 in
theorem c_fl_41 {sl : Nat} {si : Nat → Int} {fm : ZV} {h h' : PH} {a : Int} (hc : CP (zz sl si fm) mJ7_fill_53178 h [(2, 41), (0, a)] h' []) : h' = fih h 41 8 a ∧ True := by
  have q : (fun (xh : PH) (r : List ZV) => xh = fih h 41 8 a ∧ True) h' [] := by
    refine cp_vc (cut := (fun p => Nat.beq p 5)) (K := fun p hx lv st => (p = 5 ∧ lK (fun u : Nat => [(0, (2, 41)), (1, (0, a)), (2, (0, (u : Int))), (3, (0, 8))]) (fun u hx => u ≤ 8 ∧ hx = fih h 41 u a) p hx lv st)) (Q := fun (xh : PH) (r : List ZV) => xh = fih h 41 8 a ∧ True) (v_fl_41 ?_) (fun pc hx lv st hcut hK => ?_) hc
    · exact (by exact ⟨rfl, rfl, 0, ⟨by omega, fih_0.symm⟩, rfl, rfl, rfl, rfl, trivial⟩)
    · rcases hK with ⟨rfl, rfl, u, hJ, hs⟩
      · obtain ⟨j1, j2⟩ := hJ
        exact ⟨_, _, hs, v_fl_41_5 ⟨fun c1 => (by have e : u = 8 := (by omega); subst e; exact ⟨j2, trivial⟩), fun c1 => (fun b2 => (by refine ⟨rfl, rfl, u + 1, ⟨by omega, ?_⟩, rfl, rfl, wv (by omega) (by omega) (by omega), rfl, trivial⟩; rw [j2, Int.toNat_natCast, fih_s]))⟩⟩
  exact q
set_option maxRecDepth 10000 in
theorem v_fl_42 {sl : Nat} {si : Nat → Int} {fm : ZV} {K : Nat → PH → ZL → List ZV → Prop} {Q : PH → List ZV → Prop} {h : PH} {a : Int} (H : K 5 h [(3, (0, 7)), (2, (0, 0)), (0, (2, 42)), (1, (0, a))] []) : vc (zz sl si fm) (fun p => Nat.beq p 5) K Q mJ7_fill_53178 7 0 mJ7_fill_53178.2.2.2.2.2.2 h [(0, (2, 42)), (1, (0, a))] [] := H
set_option maxRecDepth 10000 in
theorem v_fl_42_5 {sl : Nat} {si : Nat → Int} {fm : ZV} {K : Nat → PH → ZL → List ZV → Prop} {Q : PH → List ZV → Prop} {h : PH} {a : Int} {k : Int} (H : ((7 : Int) ≤ k → Q h []) ∧ (¬ ((7 : Int) ≤ k) → 0 ≤ k ∧ k < (7 : Nat) → K 5 (uph h 42 k.toNat a) [(2, (0, w32 (k + 1))), (0, (2, 42)), (1, (0, a)), (3, (0, 7))] [])) : vc (zz sl si fm) (fun p => Nat.beq p 5) K Q mJ7_fill_53178 11 5 (ax_jmp mJ7_fill_53178.2.2.2.2.2.2 5) h [(0, (2, 42)), (1, (0, a)), (2, (0, k)), (3, (0, 7))] [] := H
set_option maxHeartbeats 600000 in
theorem c_fl_42 {sl : Nat} {si : Nat → Int} {fm : ZV} {h h' : PH} {a : Int} (hc : CP (zz sl si fm) mJ7_fill_53178 h [(2, 42), (0, a)] h' []) : h' = fih h 42 7 a ∧ True := by
  have q : (fun (xh : PH) (r : List ZV) => xh = fih h 42 7 a ∧ True) h' [] := by
    refine cp_vc (cut := (fun p => Nat.beq p 5)) (K := fun p hx lv st => (p = 5 ∧ lK (fun u : Nat => [(0, (2, 42)), (1, (0, a)), (2, (0, (u : Int))), (3, (0, 7))]) (fun u hx => u ≤ 7 ∧ hx = fih h 42 u a) p hx lv st)) (Q := fun (xh : PH) (r : List ZV) => xh = fih h 42 7 a ∧ True) (v_fl_42 ?_) (fun pc hx lv st hcut hK => ?_) hc
    · exact (by exact ⟨rfl, rfl, 0, ⟨by omega, fih_0.symm⟩, rfl, rfl, rfl, rfl, trivial⟩)
    · rcases hK with ⟨rfl, rfl, u, hJ, hs⟩
      · obtain ⟨j1, j2⟩ := hJ
        exact ⟨_, _, hs, v_fl_42_5 ⟨fun c1 => (by have e : u = 7 := (by omega); subst e; exact ⟨j2, trivial⟩), fun c1 => (fun b2 => (by refine ⟨rfl, rfl, u + 1, ⟨by omega, ?_⟩, rfl, rfl, wv (by omega) (by omega) (by omega), rfl, trivial⟩; rw [j2, Int.toNat_natCast, fih_s]))⟩⟩
  exact q
set_option maxRecDepth 10000 in
theorem v_X5_clear {sl : Nat} {si : Nat → Int} {fm : ZV} {K : Nat → PH → ZL → List ZV → Prop} {Q : PH → List ZV → Prop} {h : PH} (H : ∀ h1, CP (zz sl si fm) mJ7_fill_53178 (uph (uph h 28 0 0) 28 1 0) [(2, 29), (0, 0)] h1 [] → Q h1 []) : vc (zz sl si fm) (fun _ => false) K Q mX5_clear 13 0 mX5_clear.2.2.2.2.2.2 h [(0, (2, 28))] [] := H
theorem c_X5_clear {sl : Nat} {si : Nat → Int} {fm : ZV} {h h' : PH} (hc : CP (zz sl si fm) mX5_clear h [(2, 28)] h' []) : h' = fih (uph (uph h 28 0 0) 28 1 0) 29 7 0 ∧ True := by
  exact ⟨cp_vc (K := fun _ _ _ _ => True) (Q := fun xh r => xh = fih (uph (uph h 28 0 0) 28 1 0) 29 7 0) (v_X5_clear (fun h1 p1 => by obtain ⟨t1, e1⟩ := c_fl_29 p1; have t1 := t1.symm; subst t1; exact (by exact rfl))) (fun _ _ _ _ z _ => Bool.noConfusion z) hc, trivial⟩
set_option maxRecDepth 10000 in
theorem v_X0_clear {sl : Nat} {si : Nat → Int} {fm : ZV} {K : Nat → PH → ZL → List ZV → Prop} {Q : PH → List ZV → Prop} {h : PH} (H : ∀ h1, CP (zz sl si fm) mJ7_fill_53178 h [(2, 34), (0, 0)] h1 [] → ∀ h2, CP (zz sl si fm) mJ7_fill_53178 h1 [(2, 35), (0, 0)] h2 [] → Q h2 []) : vc (zz sl si fm) (fun _ => false) K Q mX0_clear 11 0 mX0_clear.2.2.2.2.2.2 h [(0, (2, 33))] [] := H
theorem c_X0_clear {sl : Nat} {si : Nat → Int} {fm : ZV} {h h' : PH} (hc : CP (zz sl si fm) mX0_clear h [(2, 33)] h' []) : h' = fih (fih h 34 64 0) 35 8 0 ∧ True := by
  exact ⟨cp_vc (K := fun _ _ _ _ => True) (Q := fun xh r => xh = fih (fih h 34 64 0) 35 8 0) (v_X0_clear (fun h1 p1 => by obtain ⟨t1, e1⟩ := c_fl_34 p1; have t1 := t1.symm; subst t1; exact (fun h2 p2 => by obtain ⟨t2, e2⟩ := c_fl_35 p2; have t2 := t2.symm; subst t2; exact (by exact rfl)))) (fun _ _ _ _ z _ => Bool.noConfusion z) hc, trivial⟩
set_option maxRecDepth 10000 in
theorem v_X1_clear {sl : Nat} {si : Nat → Int} {fm : ZV} {K : Nat → PH → ZL → List ZV → Prop} {Q : PH → List ZV → Prop} {h : PH} (H : ∀ h1, CP (zz sl si fm) mX5_clear h [(2, 28)] h1 [] → ∀ h2, CP (zz sl si fm) mX0_clear h1 [(2, 33)] h2 [] → ∀ h3, CP (zz sl si fm) mJ7_fill_53178 (uph (uph (uph (uph (uph (uph h2 27 4 0) 27 7 0) 27 8 0) 27 9 0) 27 12 0) 27 13 0) [(2, 41), (0, 0)] h3 [] → ∀ h4, CP (zz sl si fm) mJ7_fill_53178 h3 [(2, 42), (0, 0)] h4 [] → Q h4 []) : vc (zz sl si fm) (fun _ => false) K Q mX1_clear 35 0 mX1_clear.2.2.2.2.2.2 h [(0, (2, 27))] [] := H
theorem c_X1_clear {sl : Nat} {si : Nat → Int} {fm : ZV} {h h' : PH} (hc : CP (zz sl si fm) mX1_clear h [(2, 27)] h' []) : h' = fih (fih (uph (uph (uph (uph (uph (uph (fih (fih (fih (uph (uph h 28 0 0) 28 1 0) 29 7 0) 34 64 0) 35 8 0) 27 4 0) 27 7 0) 27 8 0) 27 9 0) 27 12 0) 27 13 0) 41 8 0) 42 7 0 ∧ True := by
  exact ⟨cp_vc (K := fun _ _ _ _ => True) (Q := fun xh r => xh = fih (fih (uph (uph (uph (uph (uph (uph (fih (fih (fih (uph (uph h 28 0 0) 28 1 0) 29 7 0) 34 64 0) 35 8 0) 27 4 0) 27 7 0) 27 8 0) 27 9 0) 27 12 0) 27 13 0) 41 8 0) 42 7 0) (v_X1_clear (fun h1 p1 => by obtain ⟨t1, e1⟩ := c_X5_clear p1; have t1 := t1.symm; subst t1; exact (fun h2 p2 => by obtain ⟨t2, e2⟩ := c_X0_clear p2; have t2 := t2.symm; subst t2; exact (fun h3 p3 => by obtain ⟨t3, e3⟩ := c_fl_41 p3; have t3 := t3.symm; subst t3; exact (fun h4 p4 => by obtain ⟨t4, e4⟩ := c_fl_42 p4; have t4 := t4.symm; subst t4; exact (by exact rfl)))))) (fun _ _ _ _ z _ => Bool.noConfusion z) hc, trivial⟩
/-- a LAND without anything -/
def clr (L : PH) : PH := fun j k => if j = 0 ∨ j = 1 ∨ j = 2 ∨ j = 7 ∨ j = 8 ∨ j = 14 ∨ j = 15 then 0 else L j k
theorem clr_0 {L : PH} {j k : Nat} (h : j = 0 ∨ j = 1 ∨ j = 2 ∨ j = 7 ∨ j = 8 ∨ j = 14 ∨ j = 15) : clr L j k = 0 := if_pos h
theorem WL.clr0 (L : PH) : WL (clr L) := ⟨by rw [clr_0 (by omega)]; omega, by rw [clr_0 (by omega)]; omega, fun p _ => by rw [clr_0 (by omega)]; omega, fun p _ => by
  rw [clr_0 (by omega), rs_cg (g' := fun _ => 0) 8 (fun k _ _ => clr_0 (by omega))]
  rfl, fun a _ => by rw [clr_0 (by omega)]; omega, by unfold WS; rw [clr_0 (by omega), clr_0 (j := 0) (k := 7) (by omega), clr_0 (j := 0) (k := 8) (by omega), clr_0 (j := 0) (k := 9) (by omega)]; exact ⟨SB.z _, SB.z _, SB.z _, SB.z _⟩⟩
theorem c_clr {sl : Nat} {si : Nat → Int} {fm : ZV} {h h' : PH} {L : PH} (hL : CL 27 h L) (hc : CP (zz sl si fm) mX1_clear h [(2, 27)] h' []) : CL 27 h' (clr L) ∧ ∀ c k : Nat, ¬ (27 ≤ c ∧ c ≤ 42) → h' c k = h c k := by
  obtain ⟨e, -⟩ := c_X1_clear hc
  subst e
  refine ⟨fun j k hi => ?_, fun c k q => ?_⟩
  · have hl := hL j k hi
    unfold inL at hi
    rcases hi with ⟨rfl, rfl | rfl | rfl | rfl | rfl | rfl⟩ | ⟨rfl, hk⟩ | ⟨rfl, hk⟩ | ⟨rfl, hk⟩ | ⟨rfl, hk⟩ | ⟨rfl, hk⟩ | ⟨rfl, hk⟩ | ⟨rfl, hk⟩ | ⟨rfl, hk⟩ | ⟨rfl, hk⟩ | ⟨rfl, hk⟩ | ⟨rfl, hk⟩ | ⟨rfl, hk⟩ | ⟨rfl, hk⟩
    all_goals (try simp only [clr, fi_rd, up_rd, Nat.reduceAdd, Nat.reduceEqDiff, Nat.reduceSub, Nat.zero_add, Nat.zero_le, Nat.sub_zero, eq_self, false_and, and_false, true_and, and_true, reduceIte, or_self, or_true, true_or, or_false, false_or])
    all_goals first | rfl | exact hl | exact if_pos hk | (rcases (show k = 0 ∨ k = 1 by omega) with rfl | rfl <;> rfl)
  · simp only [fi_rd, up_rd]
    repeat rw [if_neg (by omega)]
set_option maxRecDepth 10000 in
theorem v_X9_begin {sl : Nat} {si : Nat → Int} {fm : ZV} {K : Nat → PH → ZL → List ZV → Prop} {Q : PH → List ZV → Prop} {h : PH}  {a : Int} (H : ∀ h1, CP (zz sl si fm) mX9_advance (uph (uph (uph (uph h 2 3 (zmin a 900)) 2 4 0) 2 10 0) 2 11 (-1)) [(2, 2)] h1 [] → Q h1 []) : vc (zz sl si fm) (fun _ => false) K Q mX9_begin 19 0 mX9_begin.2.2.2.2.2.2 h [(0, (2, 2)), (1, (0, a))] [] := H
set_option maxHeartbeats 600000 in
theorem c_X9_begin {sl : Nat} {si : Nat → Int} {fm : ZV} {h h' : PH} {T : TX} {a : Int} (hT : TK T) (hn : a = (T.2 : Int)) (hB : ∀ k : Nat, k < T.2 → h 3 k = T.1 k) (hK : ∀ k : Nat, k < 24 → h 4 k = kwt.getD k 0) (hc : CP (zz sl si fm) mX9_begin h [(2, 2), (0, a)] h' []) : CN T h' (sk T 0) ∧ ∀ c k : Nat, ¬ (c = 2 ∧ 3 ≤ k ∧ k ≤ 11) → h' c k = h c k := by
  have q : (fun (xh : PH) (r : List ZV) => CN T xh (sk T 0) ∧ ∀ c k : Nat, ¬ (c = 2 ∧ 3 ≤ k ∧ k ≤ 11) → xh c k = h c k) h' [] := by
    refine cp_vc (cut := (fun _ => false)) (K := fun p hx lv st => False) (Q := fun (xh : PH) (r : List ZV) => CN T xh (sk T 0) ∧ ∀ c k : Nat, ¬ (c = 2 ∧ 3 ≤ k ∧ k ≤ 11) → xh c k = h c k) (v_X9_begin ?_) (fun pc hx lv st hcut hK => ?_) hc
    · exact (fun h1 p1 => (by have z : zmin a 900 = a := (by unfold zmin; rw [if_neg (by have := hT.1; omega)]); rw [z] at p1; have X : CXt T (uph (uph (uph (uph h 2 3 a) 2 4 0) 2 10 0) 2 11 (-1)) := ⟨hT, by rw [up_ne (by omega), up_ne (by omega), up_ne (by omega), up_sm, hn], fun k q => by rw [up_ne (by omega), up_ne (by omega), up_ne (by omega), up_ne (by omega)]; exact hB k q, fun k q => by rw [up_ne (by omega), up_ne (by omega), up_ne (by omega), up_ne (by omega)]; exact hK k q⟩; obtain ⟨d1, d2⟩ := c_X9_advance X (i := 0) (by omega) (by rw [up_ne (by omega), up_ne (by omega), up_sm]; rfl) p1; exact ⟨⟨d1, by rw [d2 2 10 (by omega), up_ne (by omega), up_sm], by rw [d2 2 11 (by omega), up_sm]⟩, fun c k q => by rw [d2 c k (by omega), up_ne (by omega), up_ne (by omega), up_ne (by omega), up_ne (by omega)]⟩))
    · exact hK.elim
  exact q
set_option maxRecDepth 10000 in
theorem v_X11_has {sl : Nat} {si : Nat → Int} {fm : ZV} {K : Nat → PH → ZL → List ZV → Prop} {Q : PH → List ZV → Prop} {h : PH} {a b : Int} (H : ((zand (zshr a b) 1) ≠ 1 → Q h [(0, 0)]) ∧ (¬ ((zand (zshr a b) 1) ≠ 1) → Q h [(0, 1)])) : vc (zz sl si fm) (fun _ => false) K Q mX11_has 12 0 mX11_has.2.2.2.2.2.2 h [(0, (0, a)), (1, (0, b))] [] := H
theorem c_X11_has {sl : Nat} {si : Nat → Int} {fm : ZV} {h h' : PH} {a b : Int} {v : Int} (hc : CP (zz sl si fm) mX11_has h [(0, a), (0, b)] h' [(0, v)]) : h' = h ∧ (True) := by
  have q := cp_vc (K := fun _ _ _ _ => True) (Q := fun xh r => xh = h ∧ ∀ v, r = [(0, v)] → (True)) (v_X11_has ⟨fun c1 => (by exact ⟨rfl, fun v e => by cases e; trivial⟩), fun c1 => (by exact ⟨rfl, fun v e => by cases e; trivial⟩)⟩) (fun _ _ _ _ z _ => Bool.noConfusion z) hc
  exact ⟨q.1, q.2 v rfl⟩
set_option maxRecDepth 10000 in
theorem v_X5_distance {sl : Nat} {si : Nat → Int} {fm : ZV} {K : Nat → PH → ZL → List ZV → Prop} {Q : PH → List ZV → Prop} {h : PH} {a b : Int} (H : 0 ≤ w32 ((w32 (a * 7)) + b) ∧ w32 ((w32 (a * 7)) + b) < (49 : Nat) → R32 (h 30 (w32 ((w32 (a * 7)) + b)).toNat) → Q h [(0, (h 30 (w32 ((w32 (a * 7)) + b)).toNat))]) : vc (zz sl si fm) (fun _ => false) K Q mX5_distance 11 0 mX5_distance.2.2.2.2.2.2 h [(0, (2, 28)), (1, (0, a)), (2, (0, b))] [] := H
theorem c_X5_distance {sl : Nat} {si : Nat → Int} {fm : ZV} {h h' : PH} {a b : Int} {v : Int} (hc : CP (zz sl si fm) mX5_distance h [(2, 28), (0, a), (0, b)] h' [(0, v)]) : h' = h ∧ (True) := by
  have q := cp_vc (K := fun _ _ _ _ => True) (Q := fun xh r => xh = h ∧ ∀ v, r = [(0, v)] → (True)) (v_X5_distance (fun b1 r2 => (by exact ⟨rfl, fun v e => by cases e; trivial⟩))) (fun _ _ _ _ z _ => Bool.noConfusion z) hc
  exact ⟨q.1, q.2 v rfl⟩
def lK2 (A : Int → Int → ZL) (J : Int → Int → PH → Prop) : Nat → PH → ZL → List ZV → Prop := fun _ h lv st => st = [] ∧ ∃ a b, J a b h ∧ zsb (A a b) lv
def lK3 (A : Int → Int → Int → ZL) (J : Int → Int → Int → PH → Prop) : Nat → PH → ZL → List ZV → Prop := fun _ h lv st => st = [] ∧ ∃ a b c, J a b c h ∧ zsb (A a b c) lv
def lK4 (A : Int → Int → Int → Int → ZL) (J : Int → Int → Int → Int → PH → Prop) : Nat → PH → ZL → List ZV → Prop := fun _ h lv st => st = [] ∧ ∃ a b c d, J a b c d h ∧ zsb (A a b c d) lv
set_option maxRecDepth 10000 in
theorem v_aroundF {sl : Nat} {si : Nat → Int} {fm : ZV} {K : Nat → PH → ZL → List ZV → Prop} {Q : PH → List ZV → Prop} {h : PH} {a : Int} (H : K 4 h [(3, (0, 0)), (2, (0, 0)), (0, (2, 28)), (1, (0, a))] []) : vc (zz sl si fm) (fun p => Nat.beq p 4) K Q mX5_around 6 0 mX5_around.2.2.2.2.2.2 h [(0, (2, 28)), (1, (0, a))] [] := H
set_option maxRecDepth 10000 in
theorem v_aroundF_4 {sl : Nat} {si : Nat → Int} {fm : ZV} {K : Nat → PH → ZL → List ZV → Prop} {Q : PH → List ZV → Prop} {h : PH} {a : Int} {f k : Int} (H : R32 (h 28 0) → ((h 28 0) ≤ k → Q h [(0, f)]) ∧ (¬ ((h 28 0) ≤ k) → ((zand (zshr a k) 1) ≠ 1 → K 4 h [(3, (0, w32 (k + 1))), (0, (2, 28)), (1, (0, a)), (2, (0, f))] []) ∧ (¬ ((zand (zshr a k) 1) ≠ 1) → 0 ≤ k ∧ k < (7 : Nat) → R32 (h 29 k.toNat) → K 4 h [(3, (0, w32 (k + 1))), (2, (0, zor f (h 29 k.toNat))), (0, (2, 28)), (1, (0, a))] []))) : vc (zz sl si fm) (fun p => Nat.beq p 4) K Q mX5_around 22 4 (ax_jmp mX5_around.2.2.2.2.2.2 4) h [(0, (2, 28)), (1, (0, a)), (2, (0, f)), (3, (0, k))] [] := H
set_option maxHeartbeats 600000 in
theorem c_aroundF {sl : Nat} {si : Nat → Int} {fm : ZV} {h h' : PH} {a : Int} {v : Int} (hc : CP (zz sl si fm) mX5_around h [(2, 28), (0, a)] h' [(0, v)]) : h' = h ∧ True := by
  have q : (fun (xh : PH) (r : List ZV) => ∀ v : Int, r = [(0, v)] → (xh = h ∧ True)) h' [(0, v)] := by
    refine cp_vc (cut := (fun p => Nat.beq p 4)) (K := fun p hx lv st => (p = 4 ∧ lK2 (fun u1 u2 : Int => [(0, (2, 28)), (1, (0, a)), (2, (0, u1)), (3, (0, u2))]) (fun u1 u2 hx => hx = h) p hx lv st)) (Q := fun (xh : PH) (r : List ZV) => ∀ v : Int, r = [(0, v)] → (xh = h ∧ True)) (v_aroundF ?_) (fun pc hx lv st hcut hK => ?_) hc
    · exact (by exact ⟨rfl, rfl, _, _, rfl, rfl, rfl, rfl, rfl, trivial⟩)
    · rcases hK with ⟨rfl, rfl, u1, u2, hJ, hs⟩
      · have hJ : hx = h := hJ
        subst hJ
        exact ⟨_, _, hs, v_aroundF_4 (fun r1 => ⟨fun c2 => (by intro v e; cases e; exact ⟨rfl, trivial⟩), fun c2 => ⟨fun c3 => (by exact ⟨rfl, rfl, _, _, rfl, rfl, rfl, rfl, rfl, trivial⟩), fun c3 => (fun b4 r5 => (by exact ⟨rfl, rfl, _, _, rfl, rfl, rfl, rfl, rfl, trivial⟩))⟩⟩)⟩
  exact q v rfl
set_option maxRecDepth 10000 in
theorem v_measureF {sl : Nat} {si : Nat → Int} {fm : ZV} {K : Nat → PH → ZL → List ZV → Prop} {Q : PH → List ZV → Prop} {h : PH} {a : Int} (H : K 9 h [(4, (0, 0)), (3, (0, zshl 1 a)), (2, (0, zshl 1 a)), (0, (2, 28)), (1, (0, a))] []) : vc (zz sl si fm) (fun p => Nat.beq p 9 || Nat.beq p 40 || Nat.beq p 52) K Q mX5_measureFrom 10 0 mX5_measureFrom.2.2.2.2.2.2 h [(0, (2, 28)), (1, (0, a))] [] := H
set_option maxRecDepth 10000 in
theorem v_measureF_9 {sl : Nat} {si : Nat → Int} {fm : ZV} {K : Nat → PH → ZL → List ZV → Prop} {Q : PH → List ZV → Prop} {h : PH} {a : Int} {e s k : Int} (H : R32 (h 28 0) → ((h 28 0) ≤ k → K 40 h [(4, (0, 0)), (0, (2, 28)), (1, (0, a)), (2, (0, e)), (3, (0, s))] []) ∧ (¬ ((h 28 0) ≤ k) → 0 ≤ w32 ((w32 (a * 7)) + k) ∧ w32 ((w32 (a * 7)) + k) < (49 : Nat) → K 9 (uph h 30 (w32 ((w32 (a * 7)) + k)).toNat (-1)) [(4, (0, w32 (k + 1))), (0, (2, 28)), (1, (0, a)), (2, (0, e)), (3, (0, s))] [])) : vc (zz sl si fm) (fun p => Nat.beq p 9 || Nat.beq p 40 || Nat.beq p 52) K Q mX5_measureFrom 17 9 (ax_jmp mX5_measureFrom.2.2.2.2.2.2 9) h [(0, (2, 28)), (1, (0, a)), (2, (0, e)), (3, (0, s)), (4, (0, k))] [] := H
set_option maxRecDepth 10000 in
theorem v_measureF_40 {sl : Nat} {si : Nat → Int} {fm : ZV} {K : Nat → PH → ZL → List ZV → Prop} {Q : PH → List ZV → Prop} {h : PH} {a : Int} {e s k : Int} (H : R32 (h 28 0) → ((h 28 0) ≤ k → Q h []) ∧ (¬ ((h 28 0) ≤ k) → K 52 h [(5, (0, 0)), (0, (2, 28)), (1, (0, a)), (2, (0, e)), (3, (0, s)), (4, (0, k))] [])) : vc (zz sl si fm) (fun p => Nat.beq p 9 || Nat.beq p 40 || Nat.beq p 52) K Q mX5_measureFrom 8 40 (ax_jmp mX5_measureFrom.2.2.2.2.2.2 40) h [(0, (2, 28)), (1, (0, a)), (2, (0, e)), (3, (0, s)), (4, (0, k))] [] := H
set_option maxRecDepth 10000 in
theorem v_measureF_52 {sl : Nat} {si : Nat → Int} {fm : ZV} {K : Nat → PH → ZL → List ZV → Prop} {Q : PH → List ZV → Prop} {h : PH} {a : Int} {e s k m : Int} (H : R32 (h 28 0) → ((h 28 0) ≤ m → ∀ h1 v1, CP (zz sl si fm) mX5_around h [(2, 28), (0, e)] h1 [(0, v1)] → R32 v1 → R32 (h1 28 1) → K 40 h1 [(4, (0, w32 (k + 1))), (3, (0, zor s (zand (zand v1 (zxor s (-1))) (zxor (h1 28 1) (-1))))), (2, (0, zand (zand v1 (zxor s (-1))) (zxor (h1 28 1) (-1)))), (0, (2, 28)), (1, (0, a)), (5, (0, m))] []) ∧ (¬ ((h 28 0) ≤ m) → ∀ h2 v2, CP (zz sl si fm) mX11_has h [(0, e), (0, m)] h2 [(0, v2)] → v2 = 0 ∨ v2 = 1 → (v2 = 0 → K 52 h2 [(5, (0, w32 (m + 1))), (0, (2, 28)), (1, (0, a)), (2, (0, e)), (3, (0, s)), (4, (0, k))] []) ∧ (¬ (v2 = 0) → 0 ≤ w32 ((w32 (a * 7)) + m) ∧ w32 ((w32 (a * 7)) + m) < (49 : Nat) → K 52 (uph h2 30 (w32 ((w32 (a * 7)) + m)).toNat k) [(5, (0, w32 (m + 1))), (0, (2, 28)), (1, (0, a)), (2, (0, e)), (3, (0, s)), (4, (0, k))] []))) : vc (zz sl si fm) (fun p => Nat.beq p 9 || Nat.beq p 40 || Nat.beq p 52) K Q mX5_measureFrom 25 52 (ax_jmp mX5_measureFrom.2.2.2.2.2.2 52) h [(0, (2, 28)), (1, (0, a)), (2, (0, e)), (3, (0, s)), (4, (0, k)), (5, (0, m))] [] := H
set_option maxHeartbeats 600000 in
theorem c_measureF {sl : Nat} {si : Nat → Int} {fm : ZV} {h h' : PH} {a : Int} (hc : CP (zz sl si fm) mX5_measureFrom h [(2, 28), (0, a)] h' []) : (∀ c k : Nat, ¬ (c = 30 ∨ c = 31) → h' c k = h c k) ∧ True := by
  have q : (fun (xh : PH) (r : List ZV) => (∀ c k : Nat, ¬ (c = 30 ∨ c = 31) → xh c k = h c k) ∧ True) h' [] := by
    refine cp_vc (cut := (fun p => Nat.beq p 9 || Nat.beq p 40 || Nat.beq p 52)) (K := fun p hx lv st => (p = 9 ∧ lK3 (fun u1 u2 u3 : Int => [(0, (2, 28)), (1, (0, a)), (2, (0, u1)), (3, (0, u2)), (4, (0, u3))]) (fun u1 u2 u3 hx => (∀ c k : Nat, ¬ (c = 30 ∨ c = 31) → hx c k = h c k)) p hx lv st) ∨ (p = 40 ∧ lK3 (fun u1 u2 u3 : Int => [(0, (2, 28)), (1, (0, a)), (2, (0, u1)), (3, (0, u2)), (4, (0, u3))]) (fun u1 u2 u3 hx => (∀ c k : Nat, ¬ (c = 30 ∨ c = 31) → hx c k = h c k)) p hx lv st) ∨ (p = 52 ∧ lK4 (fun u1 u2 u3 u4 : Int => [(0, (2, 28)), (1, (0, a)), (2, (0, u1)), (3, (0, u2)), (4, (0, u3)), (5, (0, u4))]) (fun u1 u2 u3 u4 hx => (∀ c k : Nat, ¬ (c = 30 ∨ c = 31) → hx c k = h c k)) p hx lv st)) (Q := fun (xh : PH) (r : List ZV) => (∀ c k : Nat, ¬ (c = 30 ∨ c = 31) → xh c k = h c k) ∧ True) (v_measureF ?_) (fun pc hx lv st hcut hK => ?_) hc
    · exact (by exact Or.inl ⟨rfl, rfl, _, _, _, fun _ _ _ => rfl, rfl, rfl, rfl, rfl, rfl, trivial⟩)
    · rcases hK with ⟨rfl, rfl, u1, u2, u3, hJ, hs⟩ | ⟨rfl, rfl, u1, u2, u3, hJ, hs⟩ | ⟨rfl, rfl, u1, u2, u3, u4, hJ, hs⟩
      · exact ⟨_, _, hs, v_measureF_9 (fun r1 => ⟨fun c2 => (by exact Or.inr (Or.inl ⟨rfl, rfl, _, _, _, hJ, rfl, rfl, rfl, rfl, rfl, trivial⟩)), fun c2 => (fun b3 => (by exact Or.inl ⟨rfl, rfl, _, _, _, fun c k q => by rw [up_ne (by omega)]; exact hJ c k q, rfl, rfl, rfl, rfl, rfl, trivial⟩))⟩)⟩
      · exact ⟨_, _, hs, v_measureF_40 (fun r1 => ⟨fun c2 => (by exact ⟨hJ, trivial⟩), fun c2 => (by exact Or.inr (Or.inr ⟨rfl, rfl, _, _, _, _, hJ, rfl, rfl, rfl, rfl, rfl, rfl, trivial⟩))⟩)⟩
      · exact ⟨_, _, hs, v_measureF_52 (fun r1 => ⟨fun c2 => (fun h1 v1 p1 q1 => by obtain ⟨t1, e1⟩ := c_aroundF p1; have t1 := t1.symm; subst t1; exact (fun r3 => (by exact Or.inr (Or.inl ⟨rfl, rfl, _, _, _, hJ, rfl, rfl, rfl, rfl, rfl, trivial⟩)))), fun c2 => (fun h2 v2 p2 q2 => by obtain ⟨t2, e2⟩ := c_X11_has p2; have t2 := t2.symm; subst t2; exact ⟨fun c4 => (by first | exact Or.inr (Or.inr ⟨rfl, rfl, _, _, _, _, hJ, rfl, rfl, rfl, rfl, rfl, rfl, trivial⟩) | exact Or.inr (Or.inr ⟨rfl, rfl, _, _, _, _, (fun c k q => by rw [up_ne (by omega)]; exact hJ c k q), rfl, rfl, rfl, rfl, rfl, rfl, trivial⟩)), fun c4 => (fun b5 => (by first | exact Or.inr (Or.inr ⟨rfl, rfl, _, _, _, _, hJ, rfl, rfl, rfl, rfl, rfl, rfl, trivial⟩) | exact Or.inr (Or.inr ⟨rfl, rfl, _, _, _, _, (fun c k q => by rw [up_ne (by omega)]; exact hJ c k q), rfl, rfl, rfl, rfl, rfl, rfl, trivial⟩)))⟩)⟩)⟩
  exact q
set_option maxRecDepth 10000 in
theorem v_leastF {sl : Nat} {si : Nat → Int} {fm : ZV} {K : Nat → PH → ZL → List ZV → Prop} {Q : PH → List ZV → Prop} {h : PH} {a b : Int} (H : ∀ h1 v1, CP (zz sl si fm) mX5_distance h [(2, 28), (0, a), (0, b)] h1 [(0, v1)] → R32 v1 → K 10 h1 [(4, (0, 0)), (3, (0, v1)), (0, (2, 28)), (1, (0, a)), (2, (0, b))] []) : vc (zz sl si fm) (fun p => Nat.beq p 10) K Q mX5_leastNext 9 0 mX5_leastNext.2.2.2.2.2.2 h [(0, (2, 28)), (1, (0, a)), (2, (0, b))] [] := H
set_option maxRecDepth 10000 in
theorem v_leastF_10 {sl : Nat} {si : Nat → Int} {fm : ZV} {K : Nat → PH → ZL → List ZV → Prop} {Q : PH → List ZV → Prop} {h : PH} {a b : Int} {e k : Int} (H : R32 (h 28 0) → ((h 28 0) ≤ k → Q h [(0, a)]) ∧ (¬ ((h 28 0) ≤ k) → (e ≤ 0 → Q h [(0, a)]) ∧ (¬ (e ≤ 0) → 0 ≤ a ∧ a < (7 : Nat) → R32 (h 29 a.toNat) → R32 (h 28 1) → ∀ h1 v1, CP (zz sl si fm) mX11_has h [(0, zand (h 29 a.toNat) (zxor (h 28 1) (-1))), (0, k)] h1 [(0, v1)] → v1 = 0 ∨ v1 = 1 → (v1 = 0 → K 10 h1 [(4, (0, w32 (k + 1))), (0, (2, 28)), (1, (0, a)), (2, (0, b)), (3, (0, e))] []) ∧ (¬ (v1 = 0) → ∀ h2 v2, CP (zz sl si fm) mX5_distance h1 [(2, 28), (0, k), (0, b)] h2 [(0, v2)] → R32 v2 → (v2 ≠ (w32 (e - 1)) → K 10 h2 [(4, (0, w32 (k + 1))), (0, (2, 28)), (1, (0, a)), (2, (0, b)), (3, (0, e))] []) ∧ (¬ (v2 ≠ (w32 (e - 1))) → Q h2 [(0, k)]))))) : vc (zz sl si fm) (fun p => Nat.beq p 10) K Q mX5_leastNext 30 10 (ax_jmp mX5_leastNext.2.2.2.2.2.2 10) h [(0, (2, 28)), (1, (0, a)), (2, (0, b)), (3, (0, e)), (4, (0, k))] [] := H
set_option maxHeartbeats 600000 in
theorem c_leastF {sl : Nat} {si : Nat → Int} {fm : ZV} {h h' : PH} {a b : Int} {v : Int} (hc : CP (zz sl si fm) mX5_leastNext h [(2, 28), (0, a), (0, b)] h' [(0, v)]) : h' = h ∧ True := by
  have q : (fun (xh : PH) (r : List ZV) => ∀ v : Int, r = [(0, v)] → (xh = h ∧ True)) h' [(0, v)] := by
    refine cp_vc (cut := (fun p => Nat.beq p 10)) (K := fun p hx lv st => (p = 10 ∧ lK2 (fun u1 u2 : Int => [(0, (2, 28)), (1, (0, a)), (2, (0, b)), (3, (0, u1)), (4, (0, u2))]) (fun u1 u2 hx => hx = h) p hx lv st)) (Q := fun (xh : PH) (r : List ZV) => ∀ v : Int, r = [(0, v)] → (xh = h ∧ True)) (v_leastF ?_) (fun pc hx lv st hcut hK => ?_) hc
    · exact (fun h1 v1 p1 q1 => by obtain ⟨t1, e1⟩ := c_X5_distance p1; have t1 := t1.symm; subst t1; exact (by exact ⟨rfl, rfl, _, _, rfl, rfl, rfl, rfl, rfl, rfl, trivial⟩))
    · rcases hK with ⟨rfl, rfl, u1, u2, hJ, hs⟩
      · have hJ : hx = h := hJ
        subst hJ
        exact ⟨_, _, hs, v_leastF_10 (fun r1 => ⟨fun c2 => (by intro v e; cases e; exact ⟨rfl, trivial⟩), fun c2 => ⟨fun c3 => (by intro v e; cases e; exact ⟨rfl, trivial⟩), fun c3 => (fun b4 r5 => (fun r6 => (fun h1 v1 p1 q1 => by obtain ⟨t1, e1⟩ := c_X11_has p1; have t1 := t1.symm; subst t1; exact ⟨fun c7 => (by exact ⟨rfl, rfl, _, _, rfl, rfl, rfl, rfl, rfl, rfl, trivial⟩), fun c7 => (fun h2 v2 p2 q2 => by obtain ⟨t2, e2⟩ := c_X5_distance p2; have t2 := t2.symm; subst t2; exact ⟨fun c8 => (by exact ⟨rfl, rfl, _, _, rfl, rfl, rfl, rfl, rfl, rfl, trivial⟩), fun c8 => (by intro v e; cases e; exact ⟨rfl, trivial⟩)⟩)⟩)))⟩⟩)⟩
  exact q v rfl
set_option maxRecDepth 10000 in
theorem v_surveyF {sl : Nat} {si : Nat → Int} {fm : ZV} {K : Nat → PH → ZL → List ZV → Prop} {Q : PH → List ZV → Prop} {h : PH} (H : K 2 h [(1, (0, 0)), (0, (2, 28))] []) : vc (zz sl si fm) (fun p => Nat.beq p 2 || Nat.beq p 23 || Nat.beq p 33) K Q mX5_survey 4 0 mX5_survey.2.2.2.2.2.2 h [(0, (2, 28))] [] := H
set_option maxRecDepth 10000 in
theorem v_surveyF_2 {sl : Nat} {si : Nat → Int} {fm : ZV} {K : Nat → PH → ZL → List ZV → Prop} {Q : PH → List ZV → Prop} {h : PH} {k : Int} (H : R32 (h 28 0) → ((h 28 0) ≤ k → K 23 h [(1, (0, 0)), (0, (2, 28))] []) ∧ (¬ ((h 28 0) ≤ k) → ∀ h1, CP (zz sl si fm) mX5_measureFrom h [(2, 28), (0, k)] h1 [] → K 2 h1 [(1, (0, w32 (k + 1))), (0, (2, 28))] [])) : vc (zz sl si fm) (fun p => Nat.beq p 2 || Nat.beq p 23 || Nat.beq p 33) K Q mX5_survey 11 2 (ax_jmp mX5_survey.2.2.2.2.2.2 2) h [(0, (2, 28)), (1, (0, k))] [] := H
set_option maxRecDepth 10000 in
theorem v_surveyF_23 {sl : Nat} {si : Nat → Int} {fm : ZV} {K : Nat → PH → ZL → List ZV → Prop} {Q : PH → List ZV → Prop} {h : PH} {k : Int} (H : R32 (h 28 0) → ((h 28 0) ≤ k → Q h []) ∧ (¬ ((h 28 0) ≤ k) → K 33 h [(2, (0, 0)), (0, (2, 28)), (1, (0, k))] [])) : vc (zz sl si fm) (fun p => Nat.beq p 2 || Nat.beq p 23 || Nat.beq p 33) K Q mX5_survey 8 23 (ax_jmp mX5_survey.2.2.2.2.2.2 23) h [(0, (2, 28)), (1, (0, k))] [] := H
set_option maxRecDepth 10000 in
theorem v_surveyF_33 {sl : Nat} {si : Nat → Int} {fm : ZV} {K : Nat → PH → ZL → List ZV → Prop} {Q : PH → List ZV → Prop} {h : PH} {k m : Int} (H : R32 (h 28 0) → ((h 28 0) ≤ m → K 23 h [(1, (0, w32 (k + 1))), (0, (2, 28)), (2, (0, m))] []) ∧ (¬ ((h 28 0) ≤ m) → ∀ h1 v1, CP (zz sl si fm) mX5_leastNext h [(2, 28), (0, k), (0, m)] h1 [(0, v1)] → R32 v1 → 0 ≤ w32 ((w32 (k * 7)) + m) ∧ w32 ((w32 (k * 7)) + m) < (49 : Nat) → K 33 (uph h1 31 (w32 ((w32 (k * 7)) + m)).toNat v1) [(2, (0, w32 (m + 1))), (0, (2, 28)), (1, (0, k))] [])) : vc (zz sl si fm) (fun p => Nat.beq p 2 || Nat.beq p 23 || Nat.beq p 33) K Q mX5_survey 20 33 (ax_jmp mX5_survey.2.2.2.2.2.2 33) h [(0, (2, 28)), (1, (0, k)), (2, (0, m))] [] := H
set_option maxHeartbeats 600000 in
theorem c_surveyF {sl : Nat} {si : Nat → Int} {fm : ZV} {h h' : PH} (hc : CP (zz sl si fm) mX5_survey h [(2, 28)] h' []) : (∀ c k : Nat, ¬ (c = 30 ∨ c = 31) → h' c k = h c k) ∧ True := by
  have q : (fun (xh : PH) (r : List ZV) => (∀ c k : Nat, ¬ (c = 30 ∨ c = 31) → xh c k = h c k) ∧ True) h' [] := by
    refine cp_vc (cut := (fun p => Nat.beq p 2 || Nat.beq p 23 || Nat.beq p 33)) (K := fun p hx lv st => (p = 2 ∧ lK (fun u : Int => [(0, (2, 28)), (1, (0, u))]) (fun u hx => (∀ c k : Nat, ¬ (c = 30 ∨ c = 31) → hx c k = h c k)) p hx lv st) ∨ (p = 23 ∧ lK (fun u : Int => [(0, (2, 28)), (1, (0, u))]) (fun u hx => (∀ c k : Nat, ¬ (c = 30 ∨ c = 31) → hx c k = h c k)) p hx lv st) ∨ (p = 33 ∧ lK2 (fun u1 u2 : Int => [(0, (2, 28)), (1, (0, u1)), (2, (0, u2))]) (fun u1 u2 hx => (∀ c k : Nat, ¬ (c = 30 ∨ c = 31) → hx c k = h c k)) p hx lv st)) (Q := fun (xh : PH) (r : List ZV) => (∀ c k : Nat, ¬ (c = 30 ∨ c = 31) → xh c k = h c k) ∧ True) (v_surveyF ?_) (fun pc hx lv st hcut hK => ?_) hc
    · exact (by exact Or.inl ⟨rfl, rfl, _, fun _ _ _ => rfl, rfl, rfl, trivial⟩)
    · rcases hK with ⟨rfl, rfl, u, hJ, hs⟩ | ⟨rfl, rfl, u, hJ, hs⟩ | ⟨rfl, rfl, u1, u2, hJ, hs⟩
      · exact ⟨_, _, hs, v_surveyF_2 (fun r1 => ⟨fun c2 => (by exact Or.inr (Or.inl ⟨rfl, rfl, _, hJ, rfl, rfl, trivial⟩)), fun c2 => (fun h1 p1 => (by exact Or.inl ⟨rfl, rfl, _, (fun c k q => by rw [(c_measureF p1).1 c k q]; exact hJ c k q), rfl, rfl, trivial⟩))⟩)⟩
      · exact ⟨_, _, hs, v_surveyF_23 (fun r1 => ⟨fun c2 => (by exact ⟨hJ, trivial⟩), fun c2 => (by exact Or.inr (Or.inr ⟨rfl, rfl, _, _, hJ, rfl, rfl, rfl, trivial⟩))⟩)⟩
      · exact ⟨_, _, hs, v_surveyF_33 (fun r1 => ⟨fun c2 => (by exact Or.inr (Or.inl ⟨rfl, rfl, _, hJ, rfl, rfl, trivial⟩)), fun c2 => (fun h1 v1 p1 q1 => by obtain ⟨t1, e1⟩ := c_leastF p1; have t1 := t1.symm; subst t1; exact (fun b3 => (by exact Or.inr (Or.inr ⟨rfl, rfl, _, _, (fun c k q => by rw [up_ne (by omega)]; exact hJ c k q), rfl, rfl, rfl, trivial⟩))))⟩)⟩
  exact q
/-- a LAND but for its WAYS' lengths -/
def CLx (b : Nat) (h L : PH) : Prop := ∀ j k : Nat, inL j k → j ≠ 3 → j ≠ 4 → h (b + j) k = L j k
/-- what is read -/
def RES (T : TX) (h : PH) (r : PR) : Prop := match r with
  | .inl q => CF h q.1 q.2
  | .inr q => h 2 10 = 0 ∧ h 2 11 = -1 ∧ CLx 27 h q.2 ∧ WL q.2
def JR (T : TX) (u : Nat) (h : PH) (r : PR) : Prop := (∃ s L, CN T h s ∧ CL 27 h L ∧ WL L ∧ pl T (900 - u) s L = r) ∨ (∃ q, r = .inl q ∧ CF h q.1 q.2)
theorem JR.step {T : TX} {u : Nat} {h' : PH} {r : PR} {s : Nat} {L : PH} {v : Int} (hu : u < 900) (hk : kd T s ≠ 0) (hp : pl T (900 - u) s L = r) (hc : CO T 27 v h' (pPart T s L)) : JR T (u + 1) h' r := by
  rw [show 900 - u = (900 - (u + 1)) + 1 by omega] at hp
  have hp : (if kd T s = 0 then Sum.inr (s, L) else (match pPart T s L with
    | .inl q => .inl q
    | .inr q => pl T (900 - (u + 1)) q.1 q.2)) = r := hp
  rw [if_neg hk] at hp
  generalize pPart T s L = z at hp hc
  cases z with
  | inl q => exact Or.inr ⟨q, hp.symm, hc.2⟩
  | inr q => exact Or.inl ⟨q.1, q.2, hc.2.1, hc.2.2.1, hc.2.2.2, hp⟩
theorem JR.fin {T : TX} {u : Nat} {h : PH} {r : PR} (hJ : JR T u h r) (hd : 900 ≤ u ∨ ¬ (h 2 10 = 0 ∧ h 2 5 ≠ 0)) : RES T h r := by
  rcases hJ with ⟨s, L, hN, hL, hW, hp⟩ | ⟨q, rfl, hq⟩
  · have e : r = .inr (s, L) := by
      rcases hd with hd | hd
      · rw [show 900 - u = 0 by omega] at hp
        exact hp.symm
      · have hk : kd T s = 0 := by
          rw [← hN.ek]
          have := hN.2.1
          omega
        cases hn : 900 - u with
        | zero => rw [hn] at hp; exact hp.symm
        | succ n =>
          rw [hn] at hp
          have hp : (if kd T s = 0 then Sum.inr (s, L) else (match pPart T s L with
            | .inl q => .inl q
            | .inr q => pl T n q.1 q.2)) = r := hp
          rw [if_pos hk] at hp
          exact hp.symm
    rw [e]
    exact ⟨hN.2.1, hN.2.2, fun j k hi _ _ => hL j k hi, hW⟩
  · exact hq
set_option maxRecDepth 10000 in
theorem v_X2_readAll {sl : Nat} {si : Nat → Int} {fm : ZV} {K : Nat → PH → ZL → List ZV → Prop} {Q : PH → List ZV → Prop} {h : PH}   {a : Int} (H : ∀ h1, CP (zz sl si fm) mX1_clear h [(2, 27)] h1 [] → ∀ h2, CP (zz sl si fm) mX9_begin h1 [(2, 2), (0, a)] h2 [] → K 17 h2 [(2, (0, 0)), (0, (2, 49)), (1, (0, a))] []) : vc (zz sl si fm) (fun p => Nat.beq p 17 || Nat.beq p 45) K Q mX2_readAll 11 0 mX2_readAll.2.2.2.2.2.2 h [(0, (2, 49)), (1, (0, a))] [] := H
set_option maxRecDepth 10000 in
theorem v_X2_readAll_17 {sl : Nat} {si : Nat → Int} {fm : ZV} {K : Nat → PH → ZL → List ZV → Prop} {Q : PH → List ZV → Prop} {h : PH}   {a : Int} {k : Int} (H : ((900 : Int) ≤ k → K 45 h [(0, (2, 49)), (1, (0, a)), (2, (0, k))] []) ∧ (¬ ((900 : Int) ≤ k) → ∀ h1 v1, CP (zz sl si fm) mX9_goesOn h [(2, 2)] h1 [(0, v1)] → v1 = 0 ∨ v1 = 1 → (v1 = 0 → K 45 h1 [(0, (2, 49)), (1, (0, a)), (2, (0, k))] []) ∧ (¬ (v1 = 0) → ∀ h2 v2, CP (zz sl si fm) mX2_readPart h1 [(2, 49)] h2 [(0, v2)] → v2 = 0 ∨ v2 = 1 → K 17 h2 [(2, (0, w32 (k + 1))), (0, (2, 49)), (1, (0, a))] []))) : vc (zz sl si fm) (fun p => Nat.beq p 17 || Nat.beq p 45) K Q mX2_readAll 14 17 (ax_jmp mX2_readAll.2.2.2.2.2.2 17) h [(0, (2, 49)), (1, (0, a)), (2, (0, k))] [] := H
set_option maxRecDepth 10000 in
theorem v_X2_readAll_45 {sl : Nat} {si : Nat → Int} {fm : ZV} {K : Nat → PH → ZL → List ZV → Prop} {Q : PH → List ZV → Prop} {h : PH}    (H : ∀ h1, CP (zz sl si fm) mX5_survey h [(2, 28)] h1 [] → Q h1 []) : vc (zz sl si fm) (fun p => Nat.beq p 17 || Nat.beq p 45) K Q mX2_readAll 7 45 (ax_jmp mX2_readAll.2.2.2.2.2.2 45) h [(0, (2, 49))] [] := H
set_option maxHeartbeats 600000 in
theorem c_X2_readAll {sl : Nat} {si : Nat → Int} {fm : ZV} {h h' : PH} {T : TX} {L : PH} {a : Int} (hL : CL 27 h L) (hT : TK T) (hn : a = (T.2 : Int)) (hB : ∀ k : Nat, k < T.2 → h 3 k = T.1 k) (hK : ∀ k : Nat, k < 24 → h 4 k = kwt.getD k 0) (hc : CP (zz sl si fm) mX2_readAll h [(2, 49), (0, a)] h' []) : RES T h' (pl T 900 (sk T 0) (clr L)) ∧ (∀ c k : Nat, ¬ ((c = 2 ∧ 3 ≤ k ∧ k ≤ 11) ∨ (27 ≤ c ∧ c ≤ 42)) → h' c k = h c k) := by
  have q : (fun (xh : PH) (r : List ZV) => RES T xh (pl T 900 (sk T 0) (clr L)) ∧ (∀ c k : Nat, ¬ ((c = 2 ∧ 3 ≤ k ∧ k ≤ 11) ∨ (27 ≤ c ∧ c ≤ 42)) → xh c k = h c k)) h' [] := by
    refine cp_vc (cut := (fun p => Nat.beq p 17 || Nat.beq p 45)) (K := fun p hx lv st => (p = 17 ∧ lK (fun u : Nat => [(0, (2, 49)), (1, (0, a)), (2, (0, (u : Int)))]) (fun u hx => JR T u hx (pl T 900 (sk T 0) (clr L)) ∧ u ≤ 900 ∧ (∀ c k : Nat, ¬ ((c = 2 ∧ 3 ≤ k ∧ k ≤ 11) ∨ (27 ≤ c ∧ c ≤ 42)) → hx c k = h c k)) p hx lv st) ∨ (p = 45 ∧ lK (fun u : Unit => [(0, (2, 49))]) (fun u hx => RES T hx (pl T 900 (sk T 0) (clr L)) ∧ (∀ c k : Nat, ¬ ((c = 2 ∧ 3 ≤ k ∧ k ≤ 11) ∨ (27 ≤ c ∧ c ≤ 42)) → hx c k = h c k)) p hx lv st)) (Q := fun (xh : PH) (r : List ZV) => RES T xh (pl T 900 (sk T 0) (clr L)) ∧ (∀ c k : Nat, ¬ ((c = 2 ∧ 3 ≤ k ∧ k ≤ 11) ∨ (27 ≤ c ∧ c ≤ 42)) → xh c k = h c k)) (v_X2_readAll ?_) (fun pc hx lv st hcut hK => ?_) hc
    · exact (fun h1 p1 => by obtain ⟨t1, e1⟩ := c_X1_clear p1; have t1 := t1.symm; subst t1; exact (fun h2 p2 => (by obtain ⟨a1, a2⟩ := c_clr hL p1; obtain ⟨b1, b2⟩ := c_X9_begin hT hn (fun k q => by rw [a2 3 k (by omega)]; exact hB k q) (fun k q => by rw [a2 4 k (by omega)]; exact hK k q) p2; exact Or.inl ⟨rfl, rfl, 0, ⟨Or.inl ⟨_, _, b1, a1.fr (fun c k z1 z2 => b2 c k (by omega)), WL.clr0 L, rfl⟩, by omega, fun c k q => by rw [b2 c k (by omega), a2 c k (by omega)]⟩, rfl, rfl, rfl, trivial⟩)))
    · rcases hK with ⟨rfl, rfl, u, hJ, hs⟩ | ⟨rfl, rfl, u, hJ, hs⟩
      · obtain ⟨j1, j2, j3⟩ := hJ
        exact ⟨_, _, hs, v_X2_readAll_17 ⟨fun c1 => (by exact Or.inr ⟨rfl, rfl, (), ⟨j1.fin (Or.inl (by omega)), j3⟩, rfl, trivial⟩), fun c1 => (fun h1 v1 p1 q1 => by obtain ⟨t1, e1⟩ := c_X9_goesOn p1; have t1 := t1.symm; subst t1; exact ⟨fun c2 => (by exact Or.inr ⟨rfl, rfl, (), ⟨j1.fin (Or.inr (fun z => by have := e1.mpr z; omega)), j3⟩, rfl, trivial⟩), fun c2 => (fun h2 v2 p2 q2 => (by have g := e1.mp (by omega); rcases j1 with ⟨s, L1, hN, hL1, hW, hp⟩ | ⟨q, w1, w2⟩; (obtain ⟨d1, d2⟩ := c_X2_readPart hN hL1 hW p2; exact Or.inl ⟨rfl, rfl, u + 1, ⟨JR.step (by omega) (by rw [← hN.ek]; exact g.2) hp d1, by omega, fun c k q => by rw [d2 c k (by omega)]; exact j3 c k q⟩, rfl, rfl, wv (by omega) (by omega) (by omega), trivial⟩); (exfalso; have := w2.1; have := w2.2.2; omega)))⟩)⟩⟩
      · obtain ⟨j1, j2⟩ := hJ
        exact ⟨_, _, hs, v_X2_readAll_45 (fun h1 p1 => (by obtain ⟨d1, -⟩ := c_surveyF p1; refine ⟨?_, fun c k q => by rw [d1 c k (by omega)]; exact j2 c k q⟩; generalize pl T 900 (sk T 0) (clr L) = r at j1; cases r with | inl q => exact ⟨by rw [d1 2 10 (by omega)]; exact j1.1, by rw [d1 2 11 (by omega)]; exact j1.2.1, j1.2.2⟩ | inr q => exact ⟨by rw [d1 2 10 (by omega)]; exact j1.1, by rw [d1 2 11 (by omega)]; exact j1.2.1, fun j k hi z1 z2 => by rw [d1 (27 + j) k (by omega)]; exact j1.2.2.1 j k hi z1 z2, j1.2.2.2⟩))⟩
  exact q
set_option maxRecDepth 10000 in
theorem v_X5_copyFrom {sl : Nat} {si : Nat → Int} {fm : ZV} {K : Nat → PH → ZL → List ZV → Prop} {Q : PH → List ZV → Prop} {h : PH} (H : R32 (h 28 0) → R32 (h 28 1) → 0 ≤ (0 : Int) ∧ 0 ≤ (0 : Int) ∧ 0 ≤ (7 : Int) → 0 ≤ (0 : Int) ∧ 0 ≤ (0 : Int) ∧ 0 ≤ (49 : Int) → 0 ≤ (0 : Int) ∧ 0 ≤ (0 : Int) ∧ 0 ≤ (49 : Int) → Q (cph (cph (cph (uph (uph h 6 0 (h 28 0)) 6 1 (h 28 1)) 29 7 0 0 7) 30 8 0 0 49) 31 9 0 0 49) []) : vc (zz sl si fm) (fun _ => false) K Q mX5_copyFrom 41 0 mX5_copyFrom.2.2.2.2.2.2 h [(0, (2, 6)), (1, (2, 28))] [] := H
theorem c_X5_copyFrom {sl : Nat} {si : Nat → Int} {fm : ZV} {h h' : PH} (hc : CP (zz sl si fm) mX5_copyFrom h [(2, 6), (2, 28)] h' []) : h' = cph (cph (cph (uph (uph h 6 0 (h 28 0)) 6 1 (h 28 1)) 29 7 0 0 7) 30 8 0 0 49) 31 9 0 0 49 ∧ True := by
  exact ⟨cp_vc (K := fun _ _ _ _ => True) (Q := fun xh r => xh = cph (cph (cph (uph (uph h 6 0 (h 28 0)) 6 1 (h 28 1)) 29 7 0 0 7) 30 8 0 0 49) 31 9 0 0 49) (v_X5_copyFrom (fun r1 => (fun r2 => (fun b3 => (fun b4 => (fun b5 => (by exact rfl))))))) (fun _ _ _ _ z _ => Bool.noConfusion z) hc, trivial⟩
set_option maxRecDepth 10000 in
theorem v_X0_copyFrom {sl : Nat} {si : Nat → Int} {fm : ZV} {K : Nat → PH → ZL → List ZV → Prop} {Q : PH → List ZV → Prop} {h : PH} (H : 0 ≤ (0 : Int) ∧ 0 ≤ (0 : Int) ∧ 0 ≤ (64 : Int) → 0 ≤ (0 : Int) ∧ 0 ≤ (0 : Int) ∧ 0 ≤ (8 : Int) → Q (cph (cph h 34 12 0 0 64) 35 13 0 0 8) []) : vc (zz sl si fm) (fun _ => false) K Q mX0_copyFrom 23 0 mX0_copyFrom.2.2.2.2.2.2 h [(0, (2, 11)), (1, (2, 33))] [] := H
theorem c_X0_copyFrom {sl : Nat} {si : Nat → Int} {fm : ZV} {h h' : PH} (hc : CP (zz sl si fm) mX0_copyFrom h [(2, 11), (2, 33)] h' []) : h' = cph (cph h 34 12 0 0 64) 35 13 0 0 8 ∧ True := by
  exact ⟨cp_vc (K := fun _ _ _ _ => True) (Q := fun xh r => xh = cph (cph h 34 12 0 0 64) 35 13 0 0 8) (v_X0_copyFrom (fun b1 => (fun b2 => (by exact rfl)))) (fun _ _ _ _ z _ => Bool.noConfusion z) hc, trivial⟩
set_option maxRecDepth 10000 in
theorem v_X1_copyFrom {sl : Nat} {si : Nat → Int} {fm : ZV} {K : Nat → PH → ZL → List ZV → Prop} {Q : PH → List ZV → Prop} {h : PH} (H : ∀ h1, CP (zz sl si fm) mX5_copyFrom h [(2, 6), (2, 28)] h1 [] → ∀ h2, CP (zz sl si fm) mX0_copyFrom h1 [(2, 11), (2, 33)] h2 [] → R32 (h2 27 4) → R32 (h2 27 7) → R32 (h2 27 8) → R32 (h2 27 9) → R32 (h2 27 12) → R32 (h2 27 13) → 0 ≤ (0 : Int) ∧ 0 ≤ (0 : Int) ∧ 0 ≤ (7 : Int) → 0 ≤ (0 : Int) ∧ 0 ≤ (0 : Int) ∧ 0 ≤ (8 : Int) → 0 ≤ (0 : Int) ∧ 0 ≤ (0 : Int) ∧ 0 ≤ (8 : Int) → 0 ≤ (0 : Int) ∧ 0 ≤ (0 : Int) ∧ 0 ≤ (8 : Int) → 0 ≤ (0 : Int) ∧ 0 ≤ (0 : Int) ∧ 0 ≤ (24 : Int) → 0 ≤ (0 : Int) ∧ 0 ≤ (0 : Int) ∧ 0 ≤ (8 : Int) → 0 ≤ (0 : Int) ∧ 0 ≤ (0 : Int) ∧ 0 ≤ (7 : Int) → Q (cph (cph (cph (cph (cph (cph (cph (uph (uph (uph (uph (uph (uph h2 5 4 (h2 27 4)) 5 7 (h2 27 7)) 5 8 (h2 27 8)) 5 9 (h2 27 9)) 5 12 (h2 27 12)) 5 13 (h2 27 13)) 36 14 0 0 7) 37 15 0 0 8) 38 16 0 0 8) 39 17 0 0 8) 40 18 0 0 24) 41 19 0 0 8) 42 20 0 0 7) []) : vc (zz sl si fm) (fun _ => false) K Q mX1_copyFrom 107 0 mX1_copyFrom.2.2.2.2.2.2 h [(0, (2, 5)), (1, (2, 27))] [] := H
theorem c_X1_copyFrom {sl : Nat} {si : Nat → Int} {fm : ZV} {h h' : PH} {r : List ZV} (hc : CP (zz sl si fm) mX1_copyFrom h [(2, 5), (2, 27)] h' r) : (∀ j k : Nat, inL j k → h' (5 + j) k = h (27 + j) k) ∧ ∀ c k : Nat, ¬ (5 ≤ c ∧ c ≤ 20) → h' c k = h c k :=
  cp_vc (K := fun _ _ _ _ => True) (Q := fun xh r => (∀ j k : Nat, inL j k → xh (5 + j) k = h (27 + j) k) ∧ ∀ c k : Nat, ¬ (5 ≤ c ∧ c ≤ 20) → xh c k = h c k) (v_X1_copyFrom (fun h1 p1 => by obtain ⟨t1, e1⟩ := c_X5_copyFrom p1; have t1 := t1.symm; subst t1; exact (fun h2 p2 => by obtain ⟨t2, e2⟩ := c_X0_copyFrom p2; have t2 := t2.symm; subst t2; exact (fun r1 => (fun r2 => (fun r3 => (fun r4 => (fun r5 => (fun r6 => (fun b7 => (fun b8 => (fun b9 => (fun b10 => (fun b11 => (fun b12 => (fun b13 => (by (refine ⟨fun j k hi => (by (unfold inL at hi; rcases hi with ⟨rfl, rfl | rfl | rfl | rfl | rfl | rfl⟩ | ⟨rfl, hk⟩ | ⟨rfl, hk⟩ | ⟨rfl, hk⟩ | ⟨rfl, hk⟩ | ⟨rfl, hk⟩ | ⟨rfl, hk⟩ | ⟨rfl, hk⟩ | ⟨rfl, hk⟩ | ⟨rfl, hk⟩ | ⟨rfl, hk⟩ | ⟨rfl, hk⟩ | ⟨rfl, hk⟩ | ⟨rfl, hk⟩; all_goals (try simp only [up_rd, cp_rd, Nat.reduceAdd, Nat.reduceEqDiff, Nat.reduceSub, Nat.zero_add, Nat.zero_le, Nat.sub_zero, eq_self, false_and, and_false, true_and, and_true, reduceIte]); all_goals first | rfl | exact if_pos hk | (rcases (show k = 0 ∨ k = 1 by omega) with rfl | rfl <;> rfl))), fun c k q => (by (simp only [cp_rd, up_rd]; repeat rw [if_neg (by omega)]))⟩)))))))))))))))))) (fun _ _ _ _ z _ => Bool.noConfusion z) hc
