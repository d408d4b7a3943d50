section LAW
variable {dC : Nat → ClassId} {dI : Nat → Nat → Nat} {dA : Nat → ClassId} {sp : Nat → Nat} {H0 : Heap} {l : Launch} {ρ0 : List Nat} {ad : Nat → Nat} {rf : Nat → Nat → Option Nat} {L : LSc}
set_option maxRecDepth 100000 in
theorem ck_328 : cse tbq U0q un635 2296 = true := by decide +kernel
set_option maxRecDepth 100000 in
theorem wf_328 : wfr F7 un635.2.2.2.1 = true := by decide +kernel
set_option maxRecDepth 100000 in
theorem ck_341 : cse tbq U0q un634 2296 = true := by decide +kernel
set_option maxRecDepth 100000 in
theorem wf_341 : wfr F7 un634.2.2.2.1 = true := by decide +kernel
set_option maxRecDepth 100000 in
theorem ck_354 : cse tbq U0q un633 2296 = true := by decide +kernel
set_option maxRecDepth 100000 in
theorem wf_354 : wfr F7 un633.2.2.2.1 = true := by decide +kernel
set_option maxRecDepth 100000 in
theorem fk_X11_tray : frk tbq U0q un629 [(2, 0), (0, 0), (0, 0), (0, 0)] = true := by decide +kernel
theorem fr_X11_tray (hX : CTX dC dI dA sp H0 l ρ0 ad rf L) {h h' : PH} {as r : List ZV} (hT : Tq tbq L sp ad U0q h) (has : asok [(2, 0), (0, 0), (0, 0), (0, 0)] as) (hc : CP (zq sp ρ0) mX11_tray h as h' r) : Tq tbq L sp ad U0q h' :=
  (fr_ok u0_n u0_w u0_l u0_f (ug629 dC dI dA sp H0 l ρ0 ad rf L hX.1 (by have := hX.2.1; omega) hX.2.2.1) (show mqq 7 2 = some mX11_tray from rfl) (mth_gd (a := 7) (b := 2) rfl) hX.2.2.2.1 fk_X11_tray hT has hc).1
set_option maxRecDepth 100000 in
theorem fk_X12_tray : frk tbq U0q un631 [(2, 169), (0, 0), (0, 0), (0, 0)] = true := by decide +kernel
theorem fr_X12_tray (hX : CTX dC dI dA sp H0 l ρ0 ad rf L) {h h' : PH} {as r : List ZV} (hT : Tq tbq L sp ad U0q h) (has : asok [(2, 169), (0, 0), (0, 0), (0, 0)] as) (hc : CP (zq sp ρ0) mX12_tray h as h' r) : Tq tbq L sp ad U0q h' :=
  (fr_ok u0_n u0_w u0_l u0_f (ug631 dC dI dA sp H0 l ρ0 ad rf L hX.1 (by have := hX.2.1; omega) hX.2.2.1) (show mqq 11 16 = some mX12_tray from rfl) (mth_gd (a := 11) (b := 16) rfl) hX.2.2.2.1 fk_X12_tray hT has hc).1
set_option maxRecDepth 40000 in
set_option maxHeartbeats 1600000 in
theorem v_c_tray {sl : Nat} {si : Nat → Int} {fm : ZV} {K : Nat → PH → ZL → List ZV → Prop} {Q : PH → List ZV → Prop} {h : PH} {i : Int} (H : 0 ≤ w32 (i + 1) ∧ w32 (i + 1) < sl → R32 (si (w32 (i + 1)).toNat) → 0 ≤ w32 (i + 2) ∧ w32 (i + 2) < sl → R32 (si (w32 (i + 2)).toNat) → 0 ≤ w32 (i + 3) ∧ w32 (i + 3) < sl → R32 (si (w32 (i + 3)).toNat) → ∀ h1 v1, CP (zz sl si fm) mX11_tray h [(2, 0), (0, (si (w32 (i + 1)).toNat)), (0, (si (w32 (i + 2)).toNat)), (0, (si (w32 (i + 3)).toNat))] h1 [(0, v1)] → v1 = 0 ∨ v1 = 1 → 0 ≤ w32 (i + 1) ∧ w32 (i + 1) < sl → R32 (si (w32 (i + 1)).toNat) → 0 ≤ w32 (i + 2) ∧ w32 (i + 2) < sl → R32 (si (w32 (i + 2)).toNat) → 0 ≤ w32 (i + 3) ∧ w32 (i + 3) < sl → R32 (si (w32 (i + 3)).toNat) → ∀ h2 v2, CP (zz sl si fm) mX12_tray h1 [(2, 169), (0, (si (w32 (i + 1)).toNat)), (0, (si (w32 (i + 2)).toNat)), (0, (si (w32 (i + 3)).toNat))] h2 [(0, v2)] → v2 = 0 ∨ v2 = 1 → K 2296 h2 [(3, (0, i)), (2, (2, 169)), (1, (2, 0)), (0, (6, 0))] []) : vc (zz sl si fm) (fun p => Nat.beq p 2296) K Q mL_law 39 367 (ax_jmp mL_law.2.2.2.2.2.2 367) h [(3, (0, i)), (2, (2, 169)), (1, (2, 0)), (0, (6, 0))] [] := H
theorem gv_tray (hX : CTX dC dI dA sp H0 l ρ0 ad rf L) : GC J7 L sp ad ρ0 367 := gc_vc (fun h i hT hJ => v_c_tray (fun b1 r2 => (fun b3 r4 => (fun b5 r6 => (fun h1 v1 p1 q1 => (fun b7 r8 => (fun b9 r10 => (fun b11 r12 => (fun h2 v2 p2 q2 => (by exact ⟨rfl, fr_X12_tray hX (fr_X11_tray hX hT (by exact (And.intro rfl (And.intro (And.intro rfl r2) (And.intro (And.intro rfl r4) (And.intro (And.intro rfl r6) trivial))))) p1) (by exact (And.intro rfl (And.intro (And.intro rfl r2) (And.intro (And.intro rfl r4) (And.intro (And.intro rfl r6) trivial))))) p2, pr_tray hJ  p1 p2, rfl, rfl, rfl, rfl, trivial⟩))))))))))
set_option maxRecDepth 100000 in
theorem fk_X11_write : frk tbq U0q un618 [(2, 0), (0, 0), (0, 0), (1, 0)] = true := by decide +kernel
theorem fr_X11_write (hX : CTX dC dI dA sp H0 l ρ0 ad rf L) {h h' : PH} {as r : List ZV} (hT : Tq tbq L sp ad U0q h) (has : asok [(2, 0), (0, 0), (0, 0), (1, 0)] as) (hc : CP (zq sp ρ0) mX11_write h as h' r) : Tq tbq L sp ad U0q h' :=
  (fr_ok u0_n u0_w u0_l u0_f (ug618 dC dI dA sp H0 l ρ0 ad rf L hX.1 (by have := hX.2.1; omega) hX.2.2.1) (show mqq 7 3 = some mX11_write from rfl) (mth_gd (a := 7) (b := 3) rfl) hX.2.2.2.1 fk_X11_write hT has hc).1
set_option maxRecDepth 100000 in
theorem fk_X12_write : frk tbq U0q un619 [(2, 169), (0, 0), (0, 0), (1, 0)] = true := by decide +kernel
theorem fr_X12_write (hX : CTX dC dI dA sp H0 l ρ0 ad rf L) {h h' : PH} {as r : List ZV} (hT : Tq tbq L sp ad U0q h) (has : asok [(2, 169), (0, 0), (0, 0), (1, 0)] as) (hc : CP (zq sp ρ0) mX12_write h as h' r) : Tq tbq L sp ad U0q h' :=
  (fr_ok u0_n u0_w u0_l u0_f (ug619 dC dI dA sp H0 l ρ0 ad rf L hX.1 (by have := hX.2.1; omega) hX.2.2.1) (show mqq 11 18 = some mX12_write from rfl) (mth_gd (a := 11) (b := 18) rfl) hX.2.2.2.1 fk_X12_write hT has hc).1
set_option maxRecDepth 40000 in
set_option maxHeartbeats 1600000 in
theorem v_c_write_a {sl : Nat} {si : Nat → Int} {fm : ZV} {K : Nat → PH → ZL → List ZV → Prop} {Q : PH → List ZV → Prop} {h : PH} {i : Int}  (H : 0 ≤ w32 (i + 1) ∧ w32 (i + 1) < sl → R32 (si (w32 (i + 1)).toNat) → 0 ≤ w32 (i + 2) ∧ w32 (i + 2) < sl → R32 (si (w32 (i + 2)).toNat) → 0 ≤ w32 (i + 3) ∧ w32 (i + 3) < sl → R32 (si (w32 (i + 3)).toNat) → 0 ≤ w32 (i + 4) ∧ w32 (i + 4) < sl → R32 (si (w32 (i + 4)).toNat) → K 440 h [(3, (0, i)), (2, (2, 169)), (1, (2, 0)), (0, (6, 0))] [(1, zland (si (w32 (i + 4)).toNat) (z64 4294967295)), (1, zlshl (si (w32 (i + 3)).toNat) 32), (0, (si (w32 (i + 2)).toNat)), (0, (si (w32 (i + 1)).toNat)), (2, 0)]) : vc (zz sl si fm) (fun p => Nat.beq p 440 || Nat.beq p 2296) K Q mL_law 29 410 (ax_jmp mL_law.2.2.2.2.2.2 410) h [(3, (0, i)), (2, (2, 169)), (1, (2, 0)), (0, (6, 0))] [] := H
set_option maxRecDepth 40000 in
set_option maxHeartbeats 1600000 in
theorem v_c_write_b {sl : Nat} {si : Nat → Int} {fm : ZV} {K : Nat → PH → ZL → List ZV → Prop} {Q : PH → List ZV → Prop} {h : PH} {i : Int} {a b x y : Int} (H : ∀ h1 v1, CP (zz sl si fm) mX11_write h [(2, 0), (0, a), (0, b), (1, zlor x y)] h1 [(0, v1)] → v1 = 0 ∨ v1 = 1 → 0 ≤ w32 (i + 1) ∧ w32 (i + 1) < sl → R32 (si (w32 (i + 1)).toNat) → 0 ≤ w32 (i + 2) ∧ w32 (i + 2) < sl → R32 (si (w32 (i + 2)).toNat) → 0 ≤ w32 (i + 3) ∧ w32 (i + 3) < sl → R32 (si (w32 (i + 3)).toNat) → 0 ≤ w32 (i + 4) ∧ w32 (i + 4) < sl → R32 (si (w32 (i + 4)).toNat) → K 475 h1 [(3, (0, i)), (2, (2, 169)), (1, (2, 0)), (0, (6, 0))] [(1, zland (si (w32 (i + 4)).toNat) (z64 4294967295)), (1, zlshl (si (w32 (i + 3)).toNat) 32), (0, (si (w32 (i + 2)).toNat)), (0, (si (w32 (i + 1)).toNat)), (2, 169)]) : vc (zz sl si fm) (fun p => Nat.beq p 2296 || Nat.beq p 475) K Q mL_law 32 440 (ax_jmp mL_law.2.2.2.2.2.2 440) h [(3, (0, i)), (2, (2, 169)), (1, (2, 0)), (0, (6, 0))] [(1, y), (1, x), (0, b), (0, a), (2, 0)] := H
set_option maxRecDepth 40000 in
set_option maxHeartbeats 1600000 in
theorem v_c_write_c {sl : Nat} {si : Nat → Int} {fm : ZV} {K : Nat → PH → ZL → List ZV → Prop} {Q : PH → List ZV → Prop} {h : PH} {i : Int} {a b x y : Int} (H : ∀ h1 v1, CP (zz sl si fm) mX12_write h [(2, 169), (0, a), (0, b), (1, zlor x y)] h1 [(0, v1)] → v1 = 0 ∨ v1 = 1 → K 2296 h1 [(3, (0, i)), (2, (2, 169)), (1, (2, 0)), (0, (6, 0))] []) : vc (zz sl si fm) (fun p => Nat.beq p 2296) K Q mL_law 6 475 (ax_jmp mL_law.2.2.2.2.2.2 475) h [(3, (0, i)), (2, (2, 169)), (1, (2, 0)), (0, (6, 0))] [(1, y), (1, x), (0, b), (0, a), (2, 169)] := H
theorem gv_write (hX : CTX dC dI dA sp H0 l ρ0 ad rf L) : GC J7 L sp ad ρ0 410 := gc_wp (fun h i hT hJ => wp_vc law_gd (v_c_write_a (fun b1 r2 => fun b3 r4 => fun b5 r6 => fun b7 r8 => wp_vc law_gd (v_c_write_b (fun h1 v1 p1 q1 b9 r10 b11 r12 b13 r14 b15 r16 => wp_vc law_gd (v_c_write_c (fun h2 v2 p2 q2 => wp_k rfl (by exact ⟨rfl, fr_X12_write hX (fr_X11_write hX hT (by exact (And.intro rfl (And.intro (And.intro rfl r2) (And.intro (And.intro rfl r4) (And.intro (And.intro rfl (r64_t _)) trivial))))) p1) (by exact (And.intro rfl (And.intro (And.intro rfl r2) (And.intro (And.intro rfl r4) (And.intro (And.intro rfl (r64_t _)) trivial))))) p2, pr_write hJ  p1 p2, rfl, rfl, rfl, rfl, trivial⟩))))))))
set_option maxRecDepth 100000 in
theorem fk_X11_read : frk tbq U0q un615 [(2, 0), (0, 0), (0, 0)] = true := by decide +kernel
theorem fr_X11_read (hX : CTX dC dI dA sp H0 l ρ0 ad rf L) {h h' : PH} {as r : List ZV} (hT : Tq tbq L sp ad U0q h) (has : asok [(2, 0), (0, 0), (0, 0)] as) (hc : CP (zq sp ρ0) mX11_read h as h' r) : Tq tbq L sp ad U0q h' :=
  (fr_ok u0_n u0_w u0_l u0_f (ug615 dC dI dA sp H0 l ρ0 ad rf L hX.1 (by have := hX.2.1; omega) hX.2.2.1) (show mqq 7 4 = some mX11_read from rfl) (mth_gd (a := 7) (b := 4) rfl) hX.2.2.2.1 fk_X11_read hT has hc).1
set_option maxRecDepth 100000 in
theorem fk_X12_read : frk tbq U0q un616 [(2, 169), (0, 0), (0, 0)] = true := by decide +kernel
theorem fr_X12_read (hX : CTX dC dI dA sp H0 l ρ0 ad rf L) {h h' : PH} {as r : List ZV} (hT : Tq tbq L sp ad U0q h) (has : asok [(2, 169), (0, 0), (0, 0)] as) (hc : CP (zq sp ρ0) mX12_read h as h' r) : Tq tbq L sp ad U0q h' :=
  (fr_ok u0_n u0_w u0_l u0_f (ug616 dC dI dA sp H0 l ρ0 ad rf L hX.1 (by have := hX.2.1; omega) hX.2.2.1) (show mqq 11 19 = some mX12_read from rfl) (mth_gd (a := 11) (b := 19) rfl) hX.2.2.2.1 fk_X12_read hT has hc).1
set_option maxRecDepth 40000 in
set_option maxHeartbeats 1600000 in
theorem v_c_read {sl : Nat} {si : Nat → Int} {fm : ZV} {K : Nat → PH → ZL → List ZV → Prop} {Q : PH → List ZV → Prop} {h : PH} {i : Int} (H : 0 ≤ w32 (i + 1) ∧ w32 (i + 1) < sl → R32 (si (w32 (i + 1)).toNat) → 0 ≤ w32 (i + 2) ∧ w32 (i + 2) < sl → R32 (si (w32 (i + 2)).toNat) → ∀ h1 v1, CP (zz sl si fm) mX11_read h [(2, 0), (0, (si (w32 (i + 1)).toNat)), (0, (si (w32 (i + 2)).toNat))] h1 [(1, v1)] → R64 v1 → 0 ≤ w32 (i + 1) ∧ w32 (i + 1) < sl → R32 (si (w32 (i + 1)).toNat) → 0 ≤ w32 (i + 2) ∧ w32 (i + 2) < sl → R32 (si (w32 (i + 2)).toNat) → ∀ h2 v2, CP (zz sl si fm) mX12_read h1 [(2, 169), (0, (si (w32 (i + 1)).toNat)), (0, (si (w32 (i + 2)).toNat))] h2 [(1, v2)] → R64 v2 → K 2296 h2 [(3, (0, i)), (2, (2, 169)), (1, (2, 0)), (0, (6, 0))] []) : vc (zz sl si fm) (fun p => Nat.beq p 2296) K Q mL_law 29 483 (ax_jmp mL_law.2.2.2.2.2.2 483) h [(3, (0, i)), (2, (2, 169)), (1, (2, 0)), (0, (6, 0))] [] := H
theorem gv_read (hX : CTX dC dI dA sp H0 l ρ0 ad rf L) : GC J7 L sp ad ρ0 483 := gc_vc (fun h i hT hJ => v_c_read (fun b1 r2 => (fun b3 r4 => (fun h1 v1 p1 q1 => (fun b5 r6 => (fun b7 r8 => (fun h2 v2 p2 q2 => (by exact ⟨rfl, fr_X12_read hX (fr_X11_read hX hT (by exact (And.intro rfl (And.intro (And.intro rfl r2) (And.intro (And.intro rfl r4) trivial)))) p1) (by exact (And.intro rfl (And.intro (And.intro rfl r2) (And.intro (And.intro rfl r4) trivial)))) p2, pr_read7 hJ  p1 p2, rfl, rfl, rfl, rfl, trivial⟩))))))))
set_option maxRecDepth 100000 in
theorem fk_X11_pour : frk tbq U0q un611 [(2, 0), (0, 0), (0, 0), (0, 0), (0, 0), (0, 0)] = true := by decide +kernel
theorem fr_X11_pour (hX : CTX dC dI dA sp H0 l ρ0 ad rf L) {h h' : PH} {as r : List ZV} (hT : Tq tbq L sp ad U0q h) (has : asok [(2, 0), (0, 0), (0, 0), (0, 0), (0, 0), (0, 0)] as) (hc : CP (zq sp ρ0) mX11_pour h as h' r) : Tq tbq L sp ad U0q h' :=
  (fr_ok u0_n u0_w u0_l u0_f (ug611 dC dI dA sp H0 l ρ0 ad rf L hX.1 (by have := hX.2.1; omega) hX.2.2.1) (show mqq 7 5 = some mX11_pour from rfl) (mth_gd (a := 7) (b := 5) rfl) hX.2.2.2.1 fk_X11_pour hT has hc).1
set_option maxRecDepth 100000 in
theorem fk_X12_pour : frk tbq U0q un613 [(2, 169), (0, 0), (0, 0), (0, 0), (0, 0), (0, 0)] = true := by decide +kernel
theorem fr_X12_pour (hX : CTX dC dI dA sp H0 l ρ0 ad rf L) {h h' : PH} {as r : List ZV} (hT : Tq tbq L sp ad U0q h) (has : asok [(2, 169), (0, 0), (0, 0), (0, 0), (0, 0), (0, 0)] as) (hc : CP (zq sp ρ0) mX12_pour h as h' r) : Tq tbq L sp ad U0q h' :=
  (fr_ok u0_n u0_w u0_l u0_f (ug613 dC dI dA sp H0 l ρ0 ad rf L hX.1 (by have := hX.2.1; omega) hX.2.2.1) (show mqq 12 0 = some mX12_pour from rfl) (mth_gd (a := 12) (b := 0) rfl) hX.2.2.2.1 fk_X12_pour hT has hc).1
set_option maxRecDepth 40000 in
set_option maxHeartbeats 1600000 in
theorem v_c_pour {sl : Nat} {si : Nat → Int} {fm : ZV} {K : Nat → PH → ZL → List ZV → Prop} {Q : PH → List ZV → Prop} {h : PH} {i : Int} (H : 0 ≤ w32 (i + 1) ∧ w32 (i + 1) < sl → R32 (si (w32 (i + 1)).toNat) → 0 ≤ w32 (i + 2) ∧ w32 (i + 2) < sl → R32 (si (w32 (i + 2)).toNat) → 0 ≤ w32 (i + 3) ∧ w32 (i + 3) < sl → R32 (si (w32 (i + 3)).toNat) → 0 ≤ w32 (i + 4) ∧ w32 (i + 4) < sl → R32 (si (w32 (i + 4)).toNat) → 0 ≤ w32 (i + 5) ∧ w32 (i + 5) < sl → R32 (si (w32 (i + 5)).toNat) → ∀ h1 v1, CP (zz sl si fm) mX11_pour h [(2, 0), (0, (si (w32 (i + 1)).toNat)), (0, (si (w32 (i + 2)).toNat)), (0, (si (w32 (i + 3)).toNat)), (0, (si (w32 (i + 4)).toNat)), (0, (si (w32 (i + 5)).toNat))] h1 [(0, v1)] → v1 = 0 ∨ v1 = 1 → 0 ≤ w32 (i + 1) ∧ w32 (i + 1) < sl → R32 (si (w32 (i + 1)).toNat) → 0 ≤ w32 (i + 2) ∧ w32 (i + 2) < sl → R32 (si (w32 (i + 2)).toNat) → 0 ≤ w32 (i + 3) ∧ w32 (i + 3) < sl → R32 (si (w32 (i + 3)).toNat) → 0 ≤ w32 (i + 4) ∧ w32 (i + 4) < sl → R32 (si (w32 (i + 4)).toNat) → 0 ≤ w32 (i + 5) ∧ w32 (i + 5) < sl → R32 (si (w32 (i + 5)).toNat) → ∀ h2 v2, CP (zz sl si fm) mX12_pour h1 [(2, 169), (0, (si (w32 (i + 1)).toNat)), (0, (si (w32 (i + 2)).toNat)), (0, (si (w32 (i + 3)).toNat)), (0, (si (w32 (i + 4)).toNat)), (0, (si (w32 (i + 5)).toNat))] h2 [(0, v2)] → v2 = 0 ∨ v2 = 1 → (v1 = v2 → K 2296 h2 [(3, (0, i)), (2, (2, 169)), (1, (2, 0)), (0, (6, 0))] []) ∧ (¬ (v1 = v2) → Q h2 [(0, 0)])) : vc (zz sl si fm) (fun p => Nat.beq p 2296) K Q mL_law 59 516 (ax_jmp mL_law.2.2.2.2.2.2 516) h [(3, (0, i)), (2, (2, 169)), (1, (2, 0)), (0, (6, 0))] [] := H
theorem gv_pour (hX : CTX dC dI dA sp H0 l ρ0 ad rf L) : GC J7 L sp ad ρ0 516 := gc_vc (fun h i hT hJ => v_c_pour (fun b1 r2 => (fun b3 r4 => (fun b5 r6 => (fun b7 r8 => (fun b9 r10 => (fun h1 v1 p1 q1 => (fun b11 r12 => (fun b13 r14 => (fun b15 r16 => (fun b17 r18 => (fun b19 r20 => (fun h2 v2 p2 q2 => ⟨fun c21 => (by exact ⟨rfl, fr_X12_pour hX (fr_X11_pour hX hT (by exact (And.intro rfl (And.intro (And.intro rfl r2) (And.intro (And.intro rfl r4) (And.intro (And.intro rfl r6) (And.intro (And.intro rfl r8) (And.intro (And.intro rfl r10) trivial))))))) p1) (by exact (And.intro rfl (And.intro (And.intro rfl r2) (And.intro (And.intro rfl r4) (And.intro (And.intro rfl r6) (And.intro (And.intro rfl r8) (And.intro (And.intro rfl r10) trivial))))))) p2, (pr_pour8 hJ r4.2 r8.2 r10.2 p1 p2).1, rfl, rfl, rfl, rfl, trivial⟩), fun c21 => (by exact absurd ((pr_pour8 hJ r4.2 r8.2 r10.2 p1 p2).2) (by assumption))⟩)))))))))))))
set_option maxRecDepth 100000 in
theorem ck_579 : cse tbq U0q un610 2296 = true := by decide +kernel
set_option maxRecDepth 100000 in
theorem wf_579 : wfr F7 un610.2.2.2.1 = true := by decide +kernel
set_option maxRecDepth 100000 in
theorem ck_642 : cse tbq U0q un606 2296 = true := by decide +kernel
set_option maxRecDepth 100000 in
theorem wf_642 : wfr F7 un606.2.2.2.1 = true := by decide +kernel
set_option maxRecDepth 100000 in
theorem ck_665 : cse tbq U0q un534 2296 = true := by decide +kernel
set_option maxRecDepth 100000 in
theorem wf_665 : wfr F7 un534.2.2.2.1 = true := by decide +kernel
set_option maxRecDepth 100000 in
theorem ck_688 : cse tbq U0q un478 2296 = true := by decide +kernel
set_option maxRecDepth 100000 in
theorem wf_688 : wfr F7 un478.2.2.2.1 = true := by decide +kernel
set_option maxRecDepth 100000 in
theorem ck_711 : cse tbq U0q un477 2296 = true := by decide +kernel
set_option maxRecDepth 100000 in
theorem wf_711 : wfr F7 un477.2.2.2.1 = true := by decide +kernel
set_option maxRecDepth 100000 in
theorem ck_734 : cse tbq U0q un468 2296 = true := by decide +kernel
set_option maxRecDepth 100000 in
theorem wf_734 : wfr F7 un468.2.2.2.1 = true := by decide +kernel
set_option maxRecDepth 100000 in
theorem ck_767 : cse tbq U0q un465 2296 = true := by decide +kernel
set_option maxRecDepth 100000 in
theorem wf_767 : wfr F7 un465.2.2.2.1 = true := by decide +kernel
set_option maxRecDepth 100000 in
theorem ck_800 : cse tbq U0q un462 2296 = true := by decide +kernel
set_option maxRecDepth 100000 in
theorem wf_800 : wfr F7 un462.2.2.2.1 = true := by decide +kernel
set_option maxRecDepth 100000 in
theorem ck_833 : cse tbq U0q un460 2296 = true := by decide +kernel
set_option maxRecDepth 100000 in
theorem wf_833 : wfr F7 un460.2.2.2.1 = true := by decide +kernel
set_option maxRecDepth 100000 in
theorem ck_866 : cse tbq U0q un457 2296 = true := by decide +kernel
set_option maxRecDepth 100000 in
theorem wf_866 : wfr F7 un457.2.2.2.1 = true := by decide +kernel
set_option maxRecDepth 100000 in
theorem ck_889 : cse tbq U0q un456 2296 = true := by decide +kernel
set_option maxRecDepth 100000 in
theorem wf_889 : wfr F7 un456.2.2.2.1 = true := by decide +kernel
set_option maxRecDepth 100000 in
theorem ck_922 : cse tbq U0q un450 2296 = true := by decide +kernel
set_option maxRecDepth 100000 in
theorem wf_922 : wfr F7 un450.2.2.2.1 = true := by decide +kernel
set_option maxRecDepth 100000 in
theorem ck_945 : cse tbq U0q un447 2296 = true := by decide +kernel
set_option maxRecDepth 100000 in
theorem wf_945 : wfr F7 un447.2.2.2.1 = true := by decide +kernel
set_option maxRecDepth 100000 in
theorem ck_968 : cse tbq U0q un446 2296 = true := by decide +kernel
set_option maxRecDepth 100000 in
theorem wf_968 : wfr F7 un446.2.2.2.1 = true := by decide +kernel
set_option maxRecDepth 100000 in
theorem ck_1001 : cse tbq U0q un443 2296 = true := by decide +kernel
set_option maxRecDepth 100000 in
theorem wf_1001 : wfr F7 un443.2.2.2.1 = true := by decide +kernel
set_option maxRecDepth 100000 in
theorem ck_1044 : cse tbq U0q un438 2296 = true := by decide +kernel
set_option maxRecDepth 100000 in
theorem wf_1044 : wfr F7 un438.2.2.2.1 = true := by decide +kernel
set_option maxRecDepth 100000 in
theorem ck_1093 : cse tbq U0q un435 2296 = true := by decide +kernel
set_option maxRecDepth 100000 in
theorem wf_1093 : wfr F7 un435.2.2.2.1 = true := by decide +kernel
set_option maxRecDepth 100000 in
theorem ck_1142 : cse tbq U0q un432 2296 = true := by decide +kernel
set_option maxRecDepth 100000 in
theorem wf_1142 : wfr F7 un432.2.2.2.1 = true := by decide +kernel
set_option maxRecDepth 100000 in
theorem ck_1201 : cse tbq U0q un429 2296 = true := by decide +kernel
set_option maxRecDepth 100000 in
theorem wf_1201 : wfr F7 un429.2.2.2.1 = true := by decide +kernel
set_option maxRecDepth 100000 in
theorem ck_1234 : cse tbq U0q un426 2296 = true := by decide +kernel
set_option maxRecDepth 100000 in
theorem wf_1234 : wfr F7 un426.2.2.2.1 = true := by decide +kernel
set_option maxRecDepth 100000 in
theorem ck_1267 : cse tbq U0q un423 2296 = true := by decide +kernel
set_option maxRecDepth 100000 in
theorem wf_1267 : wfr F7 un423.2.2.2.1 = true := by decide +kernel
set_option maxRecDepth 100000 in
theorem ck_1290 : cse tbq U0q un420 2296 = true := by decide +kernel
set_option maxRecDepth 100000 in
theorem wf_1290 : wfr F7 un420.2.2.2.1 = true := by decide +kernel
set_option maxRecDepth 100000 in
theorem ck_1313 : cse tbq U0q un417 2296 = true := by decide +kernel
set_option maxRecDepth 100000 in
theorem wf_1313 : wfr F7 un417.2.2.2.1 = true := by decide +kernel
set_option maxRecDepth 100000 in
theorem ck_1346 : cse tbq U0q un414 2296 = true := by decide +kernel
set_option maxRecDepth 100000 in
theorem wf_1346 : wfr F7 un414.2.2.2.1 = true := by decide +kernel
set_option maxRecDepth 100000 in
theorem ck_1379 : cse tbq U0q un411 2296 = true := by decide +kernel
set_option maxRecDepth 100000 in
theorem wf_1379 : wfr F7 un411.2.2.2.1 = true := by decide +kernel
set_option maxRecDepth 100000 in
theorem ck_1402 : cse tbq U0q un403 2296 = true := by decide +kernel
set_option maxRecDepth 100000 in
theorem wf_1402 : wfr F7 un403.2.2.2.1 = true := by decide +kernel
set_option maxRecDepth 100000 in
theorem ck_1425 : cse tbq U0q un396 2296 = true := by decide +kernel
set_option maxRecDepth 100000 in
theorem wf_1425 : wfr F7 un396.2.2.2.1 = true := by decide +kernel
set_option maxRecDepth 100000 in
theorem ck_1458 : cse tbq U0q un388 2296 = true := by decide +kernel
set_option maxRecDepth 100000 in
theorem wf_1458 : wfr F7 un388.2.2.2.1 = true := by decide +kernel
set_option maxRecDepth 100000 in
theorem ck_1491 : cse tbq U0q un379 2296 = true := by decide +kernel
set_option maxRecDepth 100000 in
theorem wf_1491 : wfr F7 un379.2.2.2.1 = true := by decide +kernel
set_option maxRecDepth 100000 in
theorem ck_1534 : cse tbq U0q un373 2296 = true := by decide +kernel
set_option maxRecDepth 100000 in
theorem wf_1534 : wfr F7 un373.2.2.2.1 = true := by decide +kernel
set_option maxRecDepth 100000 in
theorem ck_1567 : cse tbq U0q un362 2296 = true := by decide +kernel
set_option maxRecDepth 100000 in
theorem wf_1567 : wfr F7 un362.2.2.2.1 = true := by decide +kernel
set_option maxRecDepth 100000 in
theorem ck_1590 : cse tbq U0q un359 2296 = true := by decide +kernel
set_option maxRecDepth 100000 in
theorem wf_1590 : wfr F7 un359.2.2.2.1 = true := by decide +kernel
set_option maxRecDepth 100000 in
theorem ck_1623 : cse tbq U0q un353 2296 = true := by decide +kernel
set_option maxRecDepth 100000 in
theorem wf_1623 : wfr F7 un353.2.2.2.1 = true := by decide +kernel
set_option maxRecDepth 100000 in
theorem ck_1656 : cse tbq U0q un347 2296 = true := by decide +kernel
set_option maxRecDepth 100000 in
theorem wf_1656 : wfr F7 un347.2.2.2.1 = true := by decide +kernel
set_option maxRecDepth 100000 in
theorem ck_1669 : cse tbq U0q un344 2296 = true := by decide +kernel
set_option maxRecDepth 100000 in
theorem wf_1669 : wfr F7 un344.2.2.2.1 = true := by decide +kernel
set_option maxRecDepth 100000 in
theorem ck_1692 : cse tbq U0q un328 2296 = true := by decide +kernel
set_option maxRecDepth 100000 in
theorem wf_1692 : wfr F7 un328.2.2.2.1 = true := by decide +kernel
set_option maxRecDepth 100000 in
theorem ck_1705 : cse tbq U0q un324 2296 = true := by decide +kernel
set_option maxRecDepth 100000 in
theorem wf_1705 : wfr F7 un324.2.2.2.1 = true := by decide +kernel
set_option maxRecDepth 100000 in
theorem ck_1738 : cse tbq U0q un318 2296 = true := by decide +kernel
set_option maxRecDepth 100000 in
theorem wf_1738 : wfr F7 un318.2.2.2.1 = true := by decide +kernel
set_option maxRecDepth 100000 in
theorem ck_1771 : cse tbq U0q un305 2296 = true := by decide +kernel
set_option maxRecDepth 100000 in
theorem wf_1771 : wfr F7 un305.2.2.2.1 = true := by decide +kernel
set_option maxRecDepth 100000 in
theorem ck_1804 : cse tbq U0q un301 2296 = true := by decide +kernel
set_option maxRecDepth 100000 in
theorem wf_1804 : wfr F7 un301.2.2.2.1 = true := by decide +kernel
set_option maxRecDepth 100000 in
theorem ck_1827 : cse tbq U0q un298 2296 = true := by decide +kernel
set_option maxRecDepth 100000 in
theorem wf_1827 : wfr F7 un298.2.2.2.1 = true := by decide +kernel
set_option maxRecDepth 100000 in
theorem ck_1840 : cse tbq U0q un283 2296 = true := by decide +kernel
set_option maxRecDepth 100000 in
theorem wf_1840 : wfr F7 un283.2.2.2.1 = true := by decide +kernel
set_option maxRecDepth 100000 in
theorem ck_1853 : cse tbq U0q un274 2296 = true := by decide +kernel
set_option maxRecDepth 100000 in
theorem wf_1853 : wfr F7 un274.2.2.2.1 = true := by decide +kernel
set_option maxRecDepth 100000 in
theorem ck_1866 : cse tbq U0q un269 2296 = true := by decide +kernel
set_option maxRecDepth 100000 in
theorem wf_1866 : wfr F7 un269.2.2.2.1 = true := by decide +kernel
set_option maxRecDepth 100000 in
theorem ck_1889 : cse tbq U0q un264 2296 = true := by decide +kernel
set_option maxRecDepth 100000 in
theorem wf_1889 : wfr F7 un264.2.2.2.1 = true := by decide +kernel
set_option maxRecDepth 100000 in
theorem ck_1912 : cse tbq U0q un263 2296 = true := by decide +kernel
set_option maxRecDepth 100000 in
theorem wf_1912 : wfr F7 un263.2.2.2.1 = true := by decide +kernel
set_option maxRecDepth 100000 in
theorem ck_1935 : cse tbq U0q un262 2296 = true := by decide +kernel
set_option maxRecDepth 100000 in
theorem wf_1935 : wfr F7 un262.2.2.2.1 = true := by decide +kernel
set_option maxRecDepth 100000 in
theorem ck_1958 : cse tbq U0q un251 2296 = true := by decide +kernel
set_option maxRecDepth 100000 in
theorem wf_1958 : wfr F7 un251.2.2.2.1 = true := by decide +kernel
set_option maxRecDepth 100000 in
theorem ck_1991 : cse tbq U0q un248 2296 = true := by decide +kernel
set_option maxRecDepth 100000 in
theorem wf_1991 : wfr F7 un248.2.2.2.1 = true := by decide +kernel
set_option maxRecDepth 100000 in
theorem ck_2024 : cse tbq U0q un215 2296 = true := by decide +kernel
set_option maxRecDepth 100000 in
theorem wf_2024 : wfr F7 un215.2.2.2.1 = true := by decide +kernel
set_option maxRecDepth 100000 in
theorem ck_2047 : cse tbq U0q un207 2296 = true := by decide +kernel
set_option maxRecDepth 100000 in
theorem wf_2047 : wfr F7 un207.2.2.2.1 = true := by decide +kernel
set_option maxRecDepth 100000 in
theorem ck_2090 : cse tbq U0q un203 2296 = true := by decide +kernel
set_option maxRecDepth 100000 in
theorem wf_2090 : wfr F7 un203.2.2.2.1 = true := by decide +kernel
set_option maxRecDepth 100000 in
theorem ck_2103 : cse tbq U0q un194 2296 = true := by decide +kernel
set_option maxRecDepth 100000 in
theorem wf_2103 : wfr F7 un194.2.2.2.1 = true := by decide +kernel
set_option maxRecDepth 100000 in
theorem ck_2116 : cse tbq U0q un189 2296 = true := by decide +kernel
set_option maxRecDepth 100000 in
theorem wf_2116 : wfr F7 un189.2.2.2.1 = true := by decide +kernel
set_option maxRecDepth 100000 in
theorem ck_2129 : cse tbq U0q un182 2296 = true := by decide +kernel
set_option maxRecDepth 100000 in
theorem wf_2129 : wfr F7 un182.2.2.2.1 = true := by decide +kernel
set_option maxRecDepth 100000 in
theorem ck_2142 : cse tbq U0q un175 2296 = true := by decide +kernel
set_option maxRecDepth 100000 in
theorem wf_2142 : wfr F7 un175.2.2.2.1 = true := by decide +kernel
set_option maxRecDepth 100000 in
theorem ck_2155 : cse tbq U0q un161 2296 = true := by decide +kernel
set_option maxRecDepth 100000 in
theorem wf_2155 : wfr F7 un161.2.2.2.1 = true := by decide +kernel
set_option maxRecDepth 100000 in
theorem ck_2178 : cse tbq U0q un150 2296 = true := by decide +kernel
set_option maxRecDepth 100000 in
theorem wf_2178 : wfr F7 un150.2.2.2.1 = true := by decide +kernel
set_option maxRecDepth 100000 in
theorem ck_2191 : cse tbq U0q un138 2296 = true := by decide +kernel
set_option maxRecDepth 100000 in
theorem wf_2191 : wfr F7 un138.2.2.2.1 = true := by decide +kernel
set_option maxRecDepth 100000 in
theorem ck_2214 : cse tbq U0q un103 2296 = true := by decide +kernel
set_option maxRecDepth 100000 in
theorem wf_2214 : wfr F7 un103.2.2.2.1 = true := by decide +kernel
set_option maxRecDepth 100000 in
theorem ck_2237 : cse tbq U0q un101 2296 = true := by decide +kernel
set_option maxRecDepth 100000 in
theorem wf_2237 : wfr F7 un101.2.2.2.1 = true := by decide +kernel
set_option maxRecDepth 100000 in
theorem ck_2270 : cse tbq U0q un30 2296 = true := by decide +kernel
set_option maxRecDepth 100000 in
theorem wf_2270 : wfr F7 un30.2.2.2.1 = true := by decide +kernel
set_option maxRecDepth 100000 in
theorem ck_2283 : cse tbq U0q un20 2296 = true := by decide +kernel
set_option maxRecDepth 100000 in
theorem wf_2283 : wfr F7 un20.2.2.2.1 = true := by decide +kernel
theorem cs_all (hX : CTX dC dI dA sp H0 l ρ0 ad rf L) : ∀ p ∈ csL, GC J7 L sp ad ρ0 p := by
  unfold csL
  refine List.forall_mem_cons.mpr ⟨gc_cse hX (fun _ _ => J7_frm) ug635 ck_328 wf_328, ?_⟩
  refine List.forall_mem_cons.mpr ⟨gc_cse hX (fun _ _ => J7_frm) ug634 ck_341 wf_341, ?_⟩
  refine List.forall_mem_cons.mpr ⟨gc_cse hX (fun _ _ => J7_frm) ug633 ck_354 wf_354, ?_⟩
  refine List.forall_mem_cons.mpr ⟨gv_tray hX, ?_⟩
  refine List.forall_mem_cons.mpr ⟨gv_write hX, ?_⟩
  refine List.forall_mem_cons.mpr ⟨gv_read hX, ?_⟩
  refine List.forall_mem_cons.mpr ⟨gv_pour hX, ?_⟩
  refine List.forall_mem_cons.mpr ⟨gc_cse hX (fun _ _ => J7_frm) ug610 ck_579 wf_579, ?_⟩
  refine List.forall_mem_cons.mpr ⟨gc_cse hX (fun _ _ => J7_frm) ug606 ck_642 wf_642, ?_⟩
  refine List.forall_mem_cons.mpr ⟨gc_cse hX (fun _ _ => J7_frm) ug534 ck_665 wf_665, ?_⟩
  refine List.forall_mem_cons.mpr ⟨gc_cse hX (fun _ _ => J7_frm) ug478 ck_688 wf_688, ?_⟩
  refine List.forall_mem_cons.mpr ⟨gc_cse hX (fun _ _ => J7_frm) ug477 ck_711 wf_711, ?_⟩
  refine List.forall_mem_cons.mpr ⟨gc_cse hX (fun _ _ => J7_frm) ug468 ck_734 wf_734, ?_⟩
  refine List.forall_mem_cons.mpr ⟨gc_cse hX (fun _ _ => J7_frm) ug465 ck_767 wf_767, ?_⟩
  refine List.forall_mem_cons.mpr ⟨gc_cse hX (fun _ _ => J7_frm) ug462 ck_800 wf_800, ?_⟩
  refine List.forall_mem_cons.mpr ⟨gc_cse hX (fun _ _ => J7_frm) ug460 ck_833 wf_833, ?_⟩
  refine List.forall_mem_cons.mpr ⟨gc_cse hX (fun _ _ => J7_frm) ug457 ck_866 wf_866, ?_⟩
  refine List.forall_mem_cons.mpr ⟨gc_cse hX (fun _ _ => J7_frm) ug456 ck_889 wf_889, ?_⟩
  refine List.forall_mem_cons.mpr ⟨gc_cse hX (fun _ _ => J7_frm) ug450 ck_922 wf_922, ?_⟩
  refine List.forall_mem_cons.mpr ⟨gc_cse hX (fun _ _ => J7_frm) ug447 ck_945 wf_945, ?_⟩
  refine List.forall_mem_cons.mpr ⟨gc_cse hX (fun _ _ => J7_frm) ug446 ck_968 wf_968, ?_⟩
  refine List.forall_mem_cons.mpr ⟨gc_cse hX (fun _ _ => J7_frm) ug443 ck_1001 wf_1001, ?_⟩
  refine List.forall_mem_cons.mpr ⟨gc_cse hX (fun _ _ => J7_frm) ug438 ck_1044 wf_1044, ?_⟩
  refine List.forall_mem_cons.mpr ⟨gc_cse hX (fun _ _ => J7_frm) ug435 ck_1093 wf_1093, ?_⟩
  refine List.forall_mem_cons.mpr ⟨gc_cse hX (fun _ _ => J7_frm) ug432 ck_1142 wf_1142, ?_⟩
  refine List.forall_mem_cons.mpr ⟨gc_cse hX (fun _ _ => J7_frm) ug429 ck_1201 wf_1201, ?_⟩
  refine List.forall_mem_cons.mpr ⟨gc_cse hX (fun _ _ => J7_frm) ug426 ck_1234 wf_1234, ?_⟩
  refine List.forall_mem_cons.mpr ⟨gc_cse hX (fun _ _ => J7_frm) ug423 ck_1267 wf_1267, ?_⟩
  refine List.forall_mem_cons.mpr ⟨gc_cse hX (fun _ _ => J7_frm) ug420 ck_1290 wf_1290, ?_⟩
  refine List.forall_mem_cons.mpr ⟨gc_cse hX (fun _ _ => J7_frm) ug417 ck_1313 wf_1313, ?_⟩
  refine List.forall_mem_cons.mpr ⟨gc_cse hX (fun _ _ => J7_frm) ug414 ck_1346 wf_1346, ?_⟩
  refine List.forall_mem_cons.mpr ⟨gc_cse hX (fun _ _ => J7_frm) ug411 ck_1379 wf_1379, ?_⟩
  refine List.forall_mem_cons.mpr ⟨gc_cse hX (fun _ _ => J7_frm) ug403 ck_1402 wf_1402, ?_⟩
  refine List.forall_mem_cons.mpr ⟨gc_cse hX (fun _ _ => J7_frm) ug396 ck_1425 wf_1425, ?_⟩
  refine List.forall_mem_cons.mpr ⟨gc_cse hX (fun _ _ => J7_frm) ug388 ck_1458 wf_1458, ?_⟩
  refine List.forall_mem_cons.mpr ⟨gc_cse hX (fun _ _ => J7_frm) ug379 ck_1491 wf_1491, ?_⟩
  refine List.forall_mem_cons.mpr ⟨gc_cse hX (fun _ _ => J7_frm) ug373 ck_1534 wf_1534, ?_⟩
  refine List.forall_mem_cons.mpr ⟨gc_cse hX (fun _ _ => J7_frm) ug362 ck_1567 wf_1567, ?_⟩
  refine List.forall_mem_cons.mpr ⟨gc_cse hX (fun _ _ => J7_frm) ug359 ck_1590 wf_1590, ?_⟩
  refine List.forall_mem_cons.mpr ⟨gc_cse hX (fun _ _ => J7_frm) ug353 ck_1623 wf_1623, ?_⟩
  refine List.forall_mem_cons.mpr ⟨gc_cse hX (fun _ _ => J7_frm) ug347 ck_1656 wf_1656, ?_⟩
  refine List.forall_mem_cons.mpr ⟨gc_cse hX (fun _ _ => J7_frm) ug344 ck_1669 wf_1669, ?_⟩
  refine List.forall_mem_cons.mpr ⟨gc_cse hX (fun _ _ => J7_frm) ug328 ck_1692 wf_1692, ?_⟩
  refine List.forall_mem_cons.mpr ⟨gc_cse hX (fun _ _ => J7_frm) ug324 ck_1705 wf_1705, ?_⟩
  refine List.forall_mem_cons.mpr ⟨gc_cse hX (fun _ _ => J7_frm) ug318 ck_1738 wf_1738, ?_⟩
  refine List.forall_mem_cons.mpr ⟨gc_cse hX (fun _ _ => J7_frm) ug305 ck_1771 wf_1771, ?_⟩
  refine List.forall_mem_cons.mpr ⟨gc_cse hX (fun _ _ => J7_frm) ug301 ck_1804 wf_1804, ?_⟩
  refine List.forall_mem_cons.mpr ⟨gc_cse hX (fun _ _ => J7_frm) ug298 ck_1827 wf_1827, ?_⟩
  refine List.forall_mem_cons.mpr ⟨gc_cse hX (fun _ _ => J7_frm) ug283 ck_1840 wf_1840, ?_⟩
  refine List.forall_mem_cons.mpr ⟨gc_cse hX (fun _ _ => J7_frm) ug274 ck_1853 wf_1853, ?_⟩
  refine List.forall_mem_cons.mpr ⟨gc_cse hX (fun _ _ => J7_frm) ug269 ck_1866 wf_1866, ?_⟩
  refine List.forall_mem_cons.mpr ⟨gc_cse hX (fun _ _ => J7_frm) ug264 ck_1889 wf_1889, ?_⟩
  refine List.forall_mem_cons.mpr ⟨gc_cse hX (fun _ _ => J7_frm) ug263 ck_1912 wf_1912, ?_⟩
  refine List.forall_mem_cons.mpr ⟨gc_cse hX (fun _ _ => J7_frm) ug262 ck_1935 wf_1935, ?_⟩
  refine List.forall_mem_cons.mpr ⟨gc_cse hX (fun _ _ => J7_frm) ug251 ck_1958 wf_1958, ?_⟩
  refine List.forall_mem_cons.mpr ⟨gc_cse hX (fun _ _ => J7_frm) ug248 ck_1991 wf_1991, ?_⟩
  refine List.forall_mem_cons.mpr ⟨gc_cse hX (fun _ _ => J7_frm) ug215 ck_2024 wf_2024, ?_⟩
  refine List.forall_mem_cons.mpr ⟨gc_cse hX (fun _ _ => J7_frm) ug207 ck_2047 wf_2047, ?_⟩
  refine List.forall_mem_cons.mpr ⟨gc_cse hX (fun _ _ => J7_frm) ug203 ck_2090 wf_2090, ?_⟩
  refine List.forall_mem_cons.mpr ⟨gc_cse hX (fun _ _ => J7_frm) ug194 ck_2103 wf_2103, ?_⟩
  refine List.forall_mem_cons.mpr ⟨gc_cse hX (fun _ _ => J7_frm) ug189 ck_2116 wf_2116, ?_⟩
  refine List.forall_mem_cons.mpr ⟨gc_cse hX (fun _ _ => J7_frm) ug182 ck_2129 wf_2129, ?_⟩
  refine List.forall_mem_cons.mpr ⟨gc_cse hX (fun _ _ => J7_frm) ug175 ck_2142 wf_2142, ?_⟩
  refine List.forall_mem_cons.mpr ⟨gc_cse hX (fun _ _ => J7_frm) ug161 ck_2155 wf_2155, ?_⟩
  refine List.forall_mem_cons.mpr ⟨gc_cse hX (fun _ _ => J7_frm) ug150 ck_2178 wf_2178, ?_⟩
  refine List.forall_mem_cons.mpr ⟨gc_cse hX (fun _ _ => J7_frm) ug138 ck_2191 wf_2191, ?_⟩
  refine List.forall_mem_cons.mpr ⟨gc_cse hX (fun _ _ => J7_frm) ug103 ck_2214 wf_2214, ?_⟩
  refine List.forall_mem_cons.mpr ⟨gc_cse hX (fun _ _ => J7_frm) ug101 ck_2237 wf_2237, ?_⟩
  refine List.forall_mem_cons.mpr ⟨gc_cse hX (fun _ _ => J7_frm) ug30 ck_2270 wf_2270, ?_⟩
  refine List.forall_mem_cons.mpr ⟨gc_cse hX (fun _ _ => J7_frm) ug20 ck_2283 wf_2283, ?_⟩
  exact fun _ h => absurd h List.not_mem_nil
end LAW
