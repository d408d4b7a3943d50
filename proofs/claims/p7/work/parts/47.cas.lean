section LAW
variable {dC : Nat → ClassId} {dI : Nat → Nat → Nat} {dA : Nat → ClassId} {sp : Nat → Nat} {H0 : Heap} {l : Launch} {ρ0 : List Nat} {ad : Nat → Nat} {rf : Nat → Nat → Option Nat} {L : LSc}
set_option maxRecDepth 100000 in
theorem ck_328 : cse tbq U0q un635 2297 = true := by decide +kernel
set_option maxRecDepth 100000 in
theorem wf_328 : wfr F7 un635.2.2.2.1 = true := by decide +kernel
set_option maxRecDepth 100000 in
theorem ck_341 : cse tbq U0q un634 2297 = true := by decide +kernel
set_option maxRecDepth 100000 in
theorem wf_341 : wfr F7 un634.2.2.2.1 = true := by decide +kernel
set_option maxRecDepth 100000 in
theorem ck_354 : cse tbq U0q un633 2297 = true := by decide +kernel
set_option maxRecDepth 100000 in
theorem wf_354 : wfr F7 un633.2.2.2.1 = true := by decide +kernel
set_option maxRecDepth 100000 in
theorem fk_X11_tray : frk tbq U0q un629 [(2, 0), (0, 0), (0, 0), (0, 0)] = true := by decide +kernel
theorem fr_X11_tray (hX : CTX dC dI dA sp H0 l ρ0 ad rf L) {h h' : PH} {as r : List ZV} (hT : Tq tbq L sp ad U0q h) (has : asok [(2, 0), (0, 0), (0, 0), (0, 0)] as) (hc : CP (zq sp ρ0) mX11_tray h as h' r) : Tq tbq L sp ad U0q h' :=
  (fr_ok u0_n u0_w u0_l u0_f (ug629 dC dI dA sp H0 l ρ0 ad rf L hX.1 (by have := hX.2.1; omega) hX.2.2.1) (show mqq 7 2 = some mX11_tray from rfl) (mth_gd (a := 7) (b := 2) rfl) hX.2.2.2.1 fk_X11_tray hT has hc).1
set_option maxRecDepth 100000 in
theorem fk_X12_tray : frk tbq U0q un631 [(2, 169), (0, 0), (0, 0), (0, 0)] = true := by decide +kernel
theorem fr_X12_tray (hX : CTX dC dI dA sp H0 l ρ0 ad rf L) {h h' : PH} {as r : List ZV} (hT : Tq tbq L sp ad U0q h) (has : asok [(2, 169), (0, 0), (0, 0), (0, 0)] as) (hc : CP (zq sp ρ0) mX12_tray h as h' r) : Tq tbq L sp ad U0q h' :=
  (fr_ok u0_n u0_w u0_l u0_f (ug631 dC dI dA sp H0 l ρ0 ad rf L hX.1 (by have := hX.2.1; omega) hX.2.2.1) (show mqq 11 16 = some mX12_tray from rfl) (mth_gd (a := 11) (b := 16) rfl) hX.2.2.2.1 fk_X12_tray hT has hc).1
set_option maxRecDepth 40000 in
set_option maxHeartbeats 1600000 in
theorem v_c_tray {sl : Nat} {si : Nat → Int} {fm : ZV} {K : Nat → PH → ZL → List ZV → Prop} {Q : PH → List ZV → Prop} {h : PH} {i : Int} (H : 0 ≤ w32 (i + 1) ∧ w32 (i + 1) < sl → R32 (si (w32 (i + 1)).toNat) → 0 ≤ w32 (i + 2) ∧ w32 (i + 2) < sl → R32 (si (w32 (i + 2)).toNat) → 0 ≤ w32 (i + 3) ∧ w32 (i + 3) < sl → R32 (si (w32 (i + 3)).toNat) → ∀ h1 v1, CP (zz sl si fm) mX11_tray h [(2, 0), (0, (si (w32 (i + 1)).toNat)), (0, (si (w32 (i + 2)).toNat)), (0, (si (w32 (i + 3)).toNat))] h1 [(0, v1)] → v1 = 0 ∨ v1 = 1 → 0 ≤ w32 (i + 1) ∧ w32 (i + 1) < sl → R32 (si (w32 (i + 1)).toNat) → 0 ≤ w32 (i + 2) ∧ w32 (i + 2) < sl → R32 (si (w32 (i + 2)).toNat) → 0 ≤ w32 (i + 3) ∧ w32 (i + 3) < sl → R32 (si (w32 (i + 3)).toNat) → ∀ h2 v2, CP (zz sl si fm) mX12_tray h1 [(2, 169), (0, (si (w32 (i + 1)).toNat)), (0, (si (w32 (i + 2)).toNat)), (0, (si (w32 (i + 3)).toNat))] h2 [(0, v2)] → v2 = 0 ∨ v2 = 1 → K 2297 h2 [(3, (0, i)), (2, (2, 169)), (1, (2, 0)), (0, (6, 0))] []) : vc (zz sl si fm) (fun p => Nat.beq p 2297) K Q mL_law 39 367 (ax_jmp mL_law.2.2.2.2.2.2 367) h [(3, (0, i)), (2, (2, 169)), (1, (2, 0)), (0, (6, 0))] [] := H
theorem gv_tray (hX : CTX dC dI dA sp H0 l ρ0 ad rf L) : GC J7 L sp ad ρ0 367 := gc_vc (fun h i hT hJ => v_c_tray (fun b1 r2 => (fun b3 r4 => (fun b5 r6 => (fun h1 v1 p1 q1 => (fun b7 r8 => (fun b9 r10 => (fun b11 r12 => (fun h2 v2 p2 q2 => (by exact ⟨rfl, fr_X12_tray hX (fr_X11_tray hX hT (by exact (And.intro rfl (And.intro (And.intro rfl r2) (And.intro (And.intro rfl r4) (And.intro (And.intro rfl r6) trivial))))) p1) (by exact (And.intro rfl (And.intro (And.intro rfl r2) (And.intro (And.intro rfl r4) (And.intro (And.intro rfl r6) trivial))))) p2, pr_tray hJ  p1 p2, rfl, rfl, rfl, rfl, trivial⟩))))))))))
set_option maxRecDepth 100000 in
theorem fk_X11_write : frk tbq U0q un618 [(2, 0), (0, 0), (0, 0), (1, 0)] = true := by decide +kernel
theorem fr_X11_write (hX : CTX dC dI dA sp H0 l ρ0 ad rf L) {h h' : PH} {as r : List ZV} (hT : Tq tbq L sp ad U0q h) (has : asok [(2, 0), (0, 0), (0, 0), (1, 0)] as) (hc : CP (zq sp ρ0) mX11_write h as h' r) : Tq tbq L sp ad U0q h' :=
  (fr_ok u0_n u0_w u0_l u0_f (ug618 dC dI dA sp H0 l ρ0 ad rf L hX.1 (by have := hX.2.1; omega) hX.2.2.1) (show mqq 7 3 = some mX11_write from rfl) (mth_gd (a := 7) (b := 3) rfl) hX.2.2.2.1 fk_X11_write hT has hc).1
set_option maxRecDepth 100000 in
theorem fk_X12_write : frk tbq U0q un619 [(2, 169), (0, 0), (0, 0), (1, 0)] = true := by decide +kernel
theorem fr_X12_write (hX : CTX dC dI dA sp H0 l ρ0 ad rf L) {h h' : PH} {as r : List ZV} (hT : Tq tbq L sp ad U0q h) (has : asok [(2, 169), (0, 0), (0, 0), (1, 0)] as) (hc : CP (zq sp ρ0) mX12_write h as h' r) : Tq tbq L sp ad U0q h' :=
  (fr_ok u0_n u0_w u0_l u0_f (ug619 dC dI dA sp H0 l ρ0 ad rf L hX.1 (by have := hX.2.1; omega) hX.2.2.1) (show mqq 11 18 = some mX12_write from rfl) (mth_gd (a := 11) (b := 18) rfl) hX.2.2.2.1 fk_X12_write hT has hc).1
set_option maxRecDepth 40000 in
set_option maxHeartbeats 1600000 in
theorem v_c_write_a {sl : Nat} {si : Nat → Int} {fm : ZV} {K : Nat → PH → ZL → List ZV → Prop} {Q : PH → List ZV → Prop} {h : PH} {i : Int}  (H : 0 ≤ w32 (i + 1) ∧ w32 (i + 1) < sl → R32 (si (w32 (i + 1)).toNat) → 0 ≤ w32 (i + 2) ∧ w32 (i + 2) < sl → R32 (si (w32 (i + 2)).toNat) → 0 ≤ w32 (i + 3) ∧ w32 (i + 3) < sl → R32 (si (w32 (i + 3)).toNat) → 0 ≤ w32 (i + 4) ∧ w32 (i + 4) < sl → R32 (si (w32 (i + 4)).toNat) → K 440 h [(3, (0, i)), (2, (2, 169)), (1, (2, 0)), (0, (6, 0))] [(1, zland (si (w32 (i + 4)).toNat) (z64 4294967295)), (1, zlshl (si (w32 (i + 3)).toNat) 32), (0, (si (w32 (i + 2)).toNat)), (0, (si (w32 (i + 1)).toNat)), (2, 0)]) : vc (zz sl si fm) (fun p => Nat.beq p 440 || Nat.beq p 2297) K Q mL_law 29 410 (ax_jmp mL_law.2.2.2.2.2.2 410) h [(3, (0, i)), (2, (2, 169)), (1, (2, 0)), (0, (6, 0))] [] := H
set_option maxRecDepth 40000 in
set_option maxHeartbeats 1600000 in
theorem v_c_write_b {sl : Nat} {si : Nat → Int} {fm : ZV} {K : Nat → PH → ZL → List ZV → Prop} {Q : PH → List ZV → Prop} {h : PH} {i : Int} {a b x y : Int} (H : ∀ h1 v1, CP (zz sl si fm) mX11_write h [(2, 0), (0, a), (0, b), (1, zlor x y)] h1 [(0, v1)] → v1 = 0 ∨ v1 = 1 → 0 ≤ w32 (i + 1) ∧ w32 (i + 1) < sl → R32 (si (w32 (i + 1)).toNat) → 0 ≤ w32 (i + 2) ∧ w32 (i + 2) < sl → R32 (si (w32 (i + 2)).toNat) → 0 ≤ w32 (i + 3) ∧ w32 (i + 3) < sl → R32 (si (w32 (i + 3)).toNat) → 0 ≤ w32 (i + 4) ∧ w32 (i + 4) < sl → R32 (si (w32 (i + 4)).toNat) → K 475 h1 [(3, (0, i)), (2, (2, 169)), (1, (2, 0)), (0, (6, 0))] [(1, zland (si (w32 (i + 4)).toNat) (z64 4294967295)), (1, zlshl (si (w32 (i + 3)).toNat) 32), (0, (si (w32 (i + 2)).toNat)), (0, (si (w32 (i + 1)).toNat)), (2, 169)]) : vc (zz sl si fm) (fun p => Nat.beq p 2297 || Nat.beq p 475) K Q mL_law 32 440 (ax_jmp mL_law.2.2.2.2.2.2 440) h [(3, (0, i)), (2, (2, 169)), (1, (2, 0)), (0, (6, 0))] [(1, y), (1, x), (0, b), (0, a), (2, 0)] := H
set_option maxRecDepth 40000 in
set_option maxHeartbeats 1600000 in
theorem v_c_write_c {sl : Nat} {si : Nat → Int} {fm : ZV} {K : Nat → PH → ZL → List ZV → Prop} {Q : PH → List ZV → Prop} {h : PH} {i : Int} {a b x y : Int} (H : ∀ h1 v1, CP (zz sl si fm) mX12_write h [(2, 169), (0, a), (0, b), (1, zlor x y)] h1 [(0, v1)] → v1 = 0 ∨ v1 = 1 → K 2297 h1 [(3, (0, i)), (2, (2, 169)), (1, (2, 0)), (0, (6, 0))] []) : vc (zz sl si fm) (fun p => Nat.beq p 2297) K Q mL_law 6 475 (ax_jmp mL_law.2.2.2.2.2.2 475) h [(3, (0, i)), (2, (2, 169)), (1, (2, 0)), (0, (6, 0))] [(1, y), (1, x), (0, b), (0, a), (2, 169)] := H
theorem gv_write (hX : CTX dC dI dA sp H0 l ρ0 ad rf L) : GC J7 L sp ad ρ0 410 := gc_wp (fun h i hT hJ => wp_vc law_gd (v_c_write_a (fun b1 r2 => fun b3 r4 => fun b5 r6 => fun b7 r8 => wp_vc law_gd (v_c_write_b (fun h1 v1 p1 q1 b9 r10 b11 r12 b13 r14 b15 r16 => wp_vc law_gd (v_c_write_c (fun h2 v2 p2 q2 => wp_k rfl (by exact ⟨rfl, fr_X12_write hX (fr_X11_write hX hT (by exact (And.intro rfl (And.intro (And.intro rfl r2) (And.intro (And.intro rfl r4) (And.intro (And.intro rfl (r64_t _)) trivial))))) p1) (by exact (And.intro rfl (And.intro (And.intro rfl r2) (And.intro (And.intro rfl r4) (And.intro (And.intro rfl (r64_t _)) trivial))))) p2, pr_write hJ  p1 p2, rfl, rfl, rfl, rfl, trivial⟩))))))))
set_option maxRecDepth 100000 in
theorem fk_X11_read : frk tbq U0q un615 [(2, 0), (0, 0), (0, 0)] = true := by decide +kernel
theorem fr_X11_read (hX : CTX dC dI dA sp H0 l ρ0 ad rf L) {h h' : PH} {as r : List ZV} (hT : Tq tbq L sp ad U0q h) (has : asok [(2, 0), (0, 0), (0, 0)] as) (hc : CP (zq sp ρ0) mX11_read h as h' r) : Tq tbq L sp ad U0q h' :=
  (fr_ok u0_n u0_w u0_l u0_f (ug615 dC dI dA sp H0 l ρ0 ad rf L hX.1 (by have := hX.2.1; omega) hX.2.2.1) (show mqq 7 4 = some mX11_read from rfl) (mth_gd (a := 7) (b := 4) rfl) hX.2.2.2.1 fk_X11_read hT has hc).1
set_option maxRecDepth 100000 in
theorem fk_X12_read : frk tbq U0q un616 [(2, 169), (0, 0), (0, 0)] = true := by decide +kernel
theorem fr_X12_read (hX : CTX dC dI dA sp H0 l ρ0 ad rf L) {h h' : PH} {as r : List ZV} (hT : Tq tbq L sp ad U0q h) (has : asok [(2, 169), (0, 0), (0, 0)] as) (hc : CP (zq sp ρ0) mX12_read h as h' r) : Tq tbq L sp ad U0q h' :=
  (fr_ok u0_n u0_w u0_l u0_f (ug616 dC dI dA sp H0 l ρ0 ad rf L hX.1 (by have := hX.2.1; omega) hX.2.2.1) (show mqq 11 19 = some mX12_read from rfl) (mth_gd (a := 11) (b := 19) rfl) hX.2.2.2.1 fk_X12_read hT has hc).1
set_option maxRecDepth 40000 in
set_option maxHeartbeats 1600000 in
theorem v_c_read {sl : Nat} {si : Nat → Int} {fm : ZV} {K : Nat → PH → ZL → List ZV → Prop} {Q : PH → List ZV → Prop} {h : PH} {i : Int} (H : 0 ≤ w32 (i + 1) ∧ w32 (i + 1) < sl → R32 (si (w32 (i + 1)).toNat) → 0 ≤ w32 (i + 2) ∧ w32 (i + 2) < sl → R32 (si (w32 (i + 2)).toNat) → ∀ h1 v1, CP (zz sl si fm) mX11_read h [(2, 0), (0, (si (w32 (i + 1)).toNat)), (0, (si (w32 (i + 2)).toNat))] h1 [(1, v1)] → R64 v1 → 0 ≤ w32 (i + 1) ∧ w32 (i + 1) < sl → R32 (si (w32 (i + 1)).toNat) → 0 ≤ w32 (i + 2) ∧ w32 (i + 2) < sl → R32 (si (w32 (i + 2)).toNat) → ∀ h2 v2, CP (zz sl si fm) mX12_read h1 [(2, 169), (0, (si (w32 (i + 1)).toNat)), (0, (si (w32 (i + 2)).toNat))] h2 [(1, v2)] → R64 v2 → ((zcmp v1 v2) = 0 → K 2297 h2 [(3, (0, i)), (2, (2, 169)), (1, (2, 0)), (0, (6, 0))] []) ∧ (¬ ((zcmp v1 v2) = 0) → Q h2 [(0, 0)])) : vc (zz sl si fm) (fun p => Nat.beq p 2297) K Q mL_law 30 483 (ax_jmp mL_law.2.2.2.2.2.2 483) h [(3, (0, i)), (2, (2, 169)), (1, (2, 0)), (0, (6, 0))] [] := H
theorem gv_read (hX : CTX dC dI dA sp H0 l ρ0 ad rf L) : GC J7 L sp ad ρ0 483 := gc_vc (fun h i hT hJ => v_c_read (fun b1 r2 => (fun b3 r4 => (fun h1 v1 p1 q1 => (fun b5 r6 => (fun b7 r8 => (fun h2 v2 p2 q2 => ⟨fun c9 => (by exact ⟨rfl, fr_X12_read hX (fr_X11_read hX hT (by exact (And.intro rfl (And.intro (And.intro rfl r2) (And.intro (And.intro rfl r4) trivial)))) p1) (by exact (And.intro rfl (And.intro (And.intro rfl r2) (And.intro (And.intro rfl r4) trivial)))) p2, (pr_read hJ  p1 p2).1, rfl, rfl, rfl, rfl, trivial⟩), fun c9 => (by exact absurd (zcmp_0.mpr (pr_read hJ  p1 p2).2) (by assumption))⟩)))))))
set_option maxRecDepth 100000 in
theorem fk_X11_pour : frk tbq U0q un611 [(2, 0), (0, 0), (0, 0), (0, 0), (0, 0), (0, 0)] = true := by decide +kernel
theorem fr_X11_pour (hX : CTX dC dI dA sp H0 l ρ0 ad rf L) {h h' : PH} {as r : List ZV} (hT : Tq tbq L sp ad U0q h) (has : asok [(2, 0), (0, 0), (0, 0), (0, 0), (0, 0), (0, 0)] as) (hc : CP (zq sp ρ0) mX11_pour h as h' r) : Tq tbq L sp ad U0q h' :=
  (fr_ok u0_n u0_w u0_l u0_f (ug611 dC dI dA sp H0 l ρ0 ad rf L hX.1 (by have := hX.2.1; omega) hX.2.2.1) (show mqq 7 5 = some mX11_pour from rfl) (mth_gd (a := 7) (b := 5) rfl) hX.2.2.2.1 fk_X11_pour hT has hc).1
set_option maxRecDepth 100000 in
theorem fk_X12_pour : frk tbq U0q un613 [(2, 169), (0, 0), (0, 0), (0, 0), (0, 0), (0, 0)] = true := by decide +kernel
theorem fr_X12_pour (hX : CTX dC dI dA sp H0 l ρ0 ad rf L) {h h' : PH} {as r : List ZV} (hT : Tq tbq L sp ad U0q h) (has : asok [(2, 169), (0, 0), (0, 0), (0, 0), (0, 0), (0, 0)] as) (hc : CP (zq sp ρ0) mX12_pour h as h' r) : Tq tbq L sp ad U0q h' :=
  (fr_ok u0_n u0_w u0_l u0_f (ug613 dC dI dA sp H0 l ρ0 ad rf L hX.1 (by have := hX.2.1; omega) hX.2.2.1) (show mqq 12 0 = some mX12_pour from rfl) (mth_gd (a := 12) (b := 0) rfl) hX.2.2.2.1 fk_X12_pour hT has hc).1
set_option maxRecDepth 40000 in
set_option maxHeartbeats 1600000 in
theorem v_c_pour {sl : Nat} {si : Nat → Int} {fm : ZV} {K : Nat → PH → ZL → List ZV → Prop} {Q : PH → List ZV → Prop} {h : PH} {i : Int} (H : 0 ≤ w32 (i + 1) ∧ w32 (i + 1) < sl → R32 (si (w32 (i + 1)).toNat) → 0 ≤ w32 (i + 2) ∧ w32 (i + 2) < sl → R32 (si (w32 (i + 2)).toNat) → 0 ≤ w32 (i + 3) ∧ w32 (i + 3) < sl → R32 (si (w32 (i + 3)).toNat) → 0 ≤ w32 (i + 4) ∧ w32 (i + 4) < sl → R32 (si (w32 (i + 4)).toNat) → 0 ≤ w32 (i + 5) ∧ w32 (i + 5) < sl → R32 (si (w32 (i + 5)).toNat) → ∀ h1 v1, CP (zz sl si fm) mX11_pour h [(2, 0), (0, (si (w32 (i + 1)).toNat)), (0, (si (w32 (i + 2)).toNat)), (0, (si (w32 (i + 3)).toNat)), (0, (si (w32 (i + 4)).toNat)), (0, (si (w32 (i + 5)).toNat))] h1 [(0, v1)] → v1 = 0 ∨ v1 = 1 → 0 ≤ w32 (i + 1) ∧ w32 (i + 1) < sl → R32 (si (w32 (i + 1)).toNat) → 0 ≤ w32 (i + 2) ∧ w32 (i + 2) < sl → R32 (si (w32 (i + 2)).toNat) → 0 ≤ w32 (i + 3) ∧ w32 (i + 3) < sl → R32 (si (w32 (i + 3)).toNat) → 0 ≤ w32 (i + 4) ∧ w32 (i + 4) < sl → R32 (si (w32 (i + 4)).toNat) → 0 ≤ w32 (i + 5) ∧ w32 (i + 5) < sl → R32 (si (w32 (i + 5)).toNat) → ∀ h2 v2, CP (zz sl si fm) mX12_pour h1 [(2, 169), (0, (si (w32 (i + 1)).toNat)), (0, (si (w32 (i + 2)).toNat)), (0, (si (w32 (i + 3)).toNat)), (0, (si (w32 (i + 4)).toNat)), (0, (si (w32 (i + 5)).toNat))] h2 [(0, v2)] → v2 = 0 ∨ v2 = 1 → K 2297 h2 [(3, (0, i)), (2, (2, 169)), (1, (2, 0)), (0, (6, 0))] []) : vc (zz sl si fm) (fun p => Nat.beq p 2297) K Q mL_law 59 517 (ax_jmp mL_law.2.2.2.2.2.2 517) h [(3, (0, i)), (2, (2, 169)), (1, (2, 0)), (0, (6, 0))] [] := H
theorem gv_pour (hX : CTX dC dI dA sp H0 l ρ0 ad rf L) : GC J7 L sp ad ρ0 517 := gc_vc (fun h i hT hJ => v_c_pour (fun b1 r2 => (fun b3 r4 => (fun b5 r6 => (fun b7 r8 => (fun b9 r10 => (fun h1 v1 p1 q1 => (fun b11 r12 => (fun b13 r14 => (fun b15 r16 => (fun b17 r18 => (fun b19 r20 => (fun h2 v2 p2 q2 => (by exact ⟨rfl, fr_X12_pour hX (fr_X11_pour hX hT (by exact (And.intro rfl (And.intro (And.intro rfl r2) (And.intro (And.intro rfl r4) (And.intro (And.intro rfl r6) (And.intro (And.intro rfl r8) (And.intro (And.intro rfl r10) trivial))))))) p1) (by exact (And.intro rfl (And.intro (And.intro rfl r2) (And.intro (And.intro rfl r4) (And.intro (And.intro rfl r6) (And.intro (And.intro rfl r8) (And.intro (And.intro rfl r10) trivial))))))) p2, pr_pour hJ r4.2 r8.2 r10.2 p1 p2, rfl, rfl, rfl, rfl, trivial⟩))))))))))))))
set_option maxRecDepth 100000 in
theorem ck_580 : cse tbq U0q un610 2297 = true := by decide +kernel
set_option maxRecDepth 100000 in
theorem wf_580 : wfr F7 un610.2.2.2.1 = true := by decide +kernel
set_option maxRecDepth 100000 in
theorem ck_643 : cse tbq U0q un606 2297 = true := by decide +kernel
set_option maxRecDepth 100000 in
theorem wf_643 : wfr F7 un606.2.2.2.1 = true := by decide +kernel
set_option maxRecDepth 100000 in
theorem ck_666 : cse tbq U0q un534 2297 = true := by decide +kernel
set_option maxRecDepth 100000 in
theorem wf_666 : wfr F7 un534.2.2.2.1 = true := by decide +kernel
set_option maxRecDepth 100000 in
theorem ck_689 : cse tbq U0q un478 2297 = true := by decide +kernel
set_option maxRecDepth 100000 in
theorem wf_689 : wfr F7 un478.2.2.2.1 = true := by decide +kernel
set_option maxRecDepth 100000 in
theorem ck_712 : cse tbq U0q un477 2297 = true := by decide +kernel
set_option maxRecDepth 100000 in
theorem wf_712 : wfr F7 un477.2.2.2.1 = true := by decide +kernel
set_option maxRecDepth 100000 in
theorem ck_735 : cse tbq U0q un468 2297 = true := by decide +kernel
set_option maxRecDepth 100000 in
theorem wf_735 : wfr F7 un468.2.2.2.1 = true := by decide +kernel
set_option maxRecDepth 100000 in
theorem ck_768 : cse tbq U0q un465 2297 = true := by decide +kernel
set_option maxRecDepth 100000 in
theorem wf_768 : wfr F7 un465.2.2.2.1 = true := by decide +kernel
set_option maxRecDepth 100000 in
theorem ck_801 : cse tbq U0q un462 2297 = true := by decide +kernel
set_option maxRecDepth 100000 in
theorem wf_801 : wfr F7 un462.2.2.2.1 = true := by decide +kernel
set_option maxRecDepth 100000 in
theorem ck_834 : cse tbq U0q un460 2297 = true := by decide +kernel
set_option maxRecDepth 100000 in
theorem wf_834 : wfr F7 un460.2.2.2.1 = true := by decide +kernel
set_option maxRecDepth 100000 in
theorem ck_867 : cse tbq U0q un457 2297 = true := by decide +kernel
set_option maxRecDepth 100000 in
theorem wf_867 : wfr F7 un457.2.2.2.1 = true := by decide +kernel
set_option maxRecDepth 100000 in
theorem ck_890 : cse tbq U0q un456 2297 = true := by decide +kernel
set_option maxRecDepth 100000 in
theorem wf_890 : wfr F7 un456.2.2.2.1 = true := by decide +kernel
set_option maxRecDepth 100000 in
theorem ck_923 : cse tbq U0q un450 2297 = true := by decide +kernel
set_option maxRecDepth 100000 in
theorem wf_923 : wfr F7 un450.2.2.2.1 = true := by decide +kernel
set_option maxRecDepth 100000 in
theorem ck_946 : cse tbq U0q un447 2297 = true := by decide +kernel
set_option maxRecDepth 100000 in
theorem wf_946 : wfr F7 un447.2.2.2.1 = true := by decide +kernel
set_option maxRecDepth 100000 in
theorem ck_969 : cse tbq U0q un446 2297 = true := by decide +kernel
set_option maxRecDepth 100000 in
theorem wf_969 : wfr F7 un446.2.2.2.1 = true := by decide +kernel
set_option maxRecDepth 100000 in
theorem ck_1002 : cse tbq U0q un443 2297 = true := by decide +kernel
set_option maxRecDepth 100000 in
theorem wf_1002 : wfr F7 un443.2.2.2.1 = true := by decide +kernel
set_option maxRecDepth 100000 in
theorem ck_1045 : cse tbq U0q un438 2297 = true := by decide +kernel
set_option maxRecDepth 100000 in
theorem wf_1045 : wfr F7 un438.2.2.2.1 = true := by decide +kernel
set_option maxRecDepth 100000 in
theorem ck_1094 : cse tbq U0q un435 2297 = true := by decide +kernel
set_option maxRecDepth 100000 in
theorem wf_1094 : wfr F7 un435.2.2.2.1 = true := by decide +kernel
set_option maxRecDepth 100000 in
theorem ck_1143 : cse tbq U0q un432 2297 = true := by decide +kernel
set_option maxRecDepth 100000 in
theorem wf_1143 : wfr F7 un432.2.2.2.1 = true := by decide +kernel
set_option maxRecDepth 100000 in
theorem ck_1202 : cse tbq U0q un429 2297 = true := by decide +kernel
set_option maxRecDepth 100000 in
theorem wf_1202 : wfr F7 un429.2.2.2.1 = true := by decide +kernel
set_option maxRecDepth 100000 in
theorem ck_1235 : cse tbq U0q un426 2297 = true := by decide +kernel
set_option maxRecDepth 100000 in
theorem wf_1235 : wfr F7 un426.2.2.2.1 = true := by decide +kernel
set_option maxRecDepth 100000 in
theorem ck_1268 : cse tbq U0q un423 2297 = true := by decide +kernel
set_option maxRecDepth 100000 in
theorem wf_1268 : wfr F7 un423.2.2.2.1 = true := by decide +kernel
set_option maxRecDepth 100000 in
theorem ck_1291 : cse tbq U0q un420 2297 = true := by decide +kernel
set_option maxRecDepth 100000 in
theorem wf_1291 : wfr F7 un420.2.2.2.1 = true := by decide +kernel
set_option maxRecDepth 100000 in
theorem ck_1314 : cse tbq U0q un417 2297 = true := by decide +kernel
set_option maxRecDepth 100000 in
theorem wf_1314 : wfr F7 un417.2.2.2.1 = true := by decide +kernel
set_option maxRecDepth 100000 in
theorem ck_1347 : cse tbq U0q un414 2297 = true := by decide +kernel
set_option maxRecDepth 100000 in
theorem wf_1347 : wfr F7 un414.2.2.2.1 = true := by decide +kernel
set_option maxRecDepth 100000 in
theorem ck_1380 : cse tbq U0q un411 2297 = true := by decide +kernel
set_option maxRecDepth 100000 in
theorem wf_1380 : wfr F7 un411.2.2.2.1 = true := by decide +kernel
set_option maxRecDepth 100000 in
theorem ck_1403 : cse tbq U0q un403 2297 = true := by decide +kernel
set_option maxRecDepth 100000 in
theorem wf_1403 : wfr F7 un403.2.2.2.1 = true := by decide +kernel
set_option maxRecDepth 100000 in
theorem ck_1426 : cse tbq U0q un396 2297 = true := by decide +kernel
set_option maxRecDepth 100000 in
theorem wf_1426 : wfr F7 un396.2.2.2.1 = true := by decide +kernel
set_option maxRecDepth 100000 in
theorem ck_1459 : cse tbq U0q un388 2297 = true := by decide +kernel
set_option maxRecDepth 100000 in
theorem wf_1459 : wfr F7 un388.2.2.2.1 = true := by decide +kernel
set_option maxRecDepth 100000 in
theorem ck_1492 : cse tbq U0q un379 2297 = true := by decide +kernel
set_option maxRecDepth 100000 in
theorem wf_1492 : wfr F7 un379.2.2.2.1 = true := by decide +kernel
set_option maxRecDepth 100000 in
theorem ck_1535 : cse tbq U0q un373 2297 = true := by decide +kernel
set_option maxRecDepth 100000 in
theorem wf_1535 : wfr F7 un373.2.2.2.1 = true := by decide +kernel
set_option maxRecDepth 100000 in
theorem ck_1568 : cse tbq U0q un362 2297 = true := by decide +kernel
set_option maxRecDepth 100000 in
theorem wf_1568 : wfr F7 un362.2.2.2.1 = true := by decide +kernel
set_option maxRecDepth 100000 in
theorem ck_1591 : cse tbq U0q un359 2297 = true := by decide +kernel
set_option maxRecDepth 100000 in
theorem wf_1591 : wfr F7 un359.2.2.2.1 = true := by decide +kernel
set_option maxRecDepth 100000 in
theorem ck_1624 : cse tbq U0q un353 2297 = true := by decide +kernel
set_option maxRecDepth 100000 in
theorem wf_1624 : wfr F7 un353.2.2.2.1 = true := by decide +kernel
set_option maxRecDepth 100000 in
theorem ck_1657 : cse tbq U0q un347 2297 = true := by decide +kernel
set_option maxRecDepth 100000 in
theorem wf_1657 : wfr F7 un347.2.2.2.1 = true := by decide +kernel
set_option maxRecDepth 100000 in
theorem ck_1670 : cse tbq U0q un344 2297 = true := by decide +kernel
set_option maxRecDepth 100000 in
theorem wf_1670 : wfr F7 un344.2.2.2.1 = true := by decide +kernel
set_option maxRecDepth 100000 in
theorem ck_1693 : cse tbq U0q un328 2297 = true := by decide +kernel
set_option maxRecDepth 100000 in
theorem wf_1693 : wfr F7 un328.2.2.2.1 = true := by decide +kernel
set_option maxRecDepth 100000 in
theorem ck_1706 : cse tbq U0q un324 2297 = true := by decide +kernel
set_option maxRecDepth 100000 in
theorem wf_1706 : wfr F7 un324.2.2.2.1 = true := by decide +kernel
set_option maxRecDepth 100000 in
theorem ck_1739 : cse tbq U0q un318 2297 = true := by decide +kernel
set_option maxRecDepth 100000 in
theorem wf_1739 : wfr F7 un318.2.2.2.1 = true := by decide +kernel
set_option maxRecDepth 100000 in
theorem ck_1772 : cse tbq U0q un305 2297 = true := by decide +kernel
set_option maxRecDepth 100000 in
theorem wf_1772 : wfr F7 un305.2.2.2.1 = true := by decide +kernel
set_option maxRecDepth 100000 in
theorem ck_1805 : cse tbq U0q un301 2297 = true := by decide +kernel
set_option maxRecDepth 100000 in
theorem wf_1805 : wfr F7 un301.2.2.2.1 = true := by decide +kernel
set_option maxRecDepth 100000 in
theorem ck_1828 : cse tbq U0q un298 2297 = true := by decide +kernel
set_option maxRecDepth 100000 in
theorem wf_1828 : wfr F7 un298.2.2.2.1 = true := by decide +kernel
set_option maxRecDepth 100000 in
theorem ck_1841 : cse tbq U0q un283 2297 = true := by decide +kernel
set_option maxRecDepth 100000 in
theorem wf_1841 : wfr F7 un283.2.2.2.1 = true := by decide +kernel
set_option maxRecDepth 100000 in
theorem ck_1854 : cse tbq U0q un274 2297 = true := by decide +kernel
set_option maxRecDepth 100000 in
theorem wf_1854 : wfr F7 un274.2.2.2.1 = true := by decide +kernel
set_option maxRecDepth 100000 in
theorem ck_1867 : cse tbq U0q un269 2297 = true := by decide +kernel
set_option maxRecDepth 100000 in
theorem wf_1867 : wfr F7 un269.2.2.2.1 = true := by decide +kernel
set_option maxRecDepth 100000 in
theorem ck_1890 : cse tbq U0q un264 2297 = true := by decide +kernel
set_option maxRecDepth 100000 in
theorem wf_1890 : wfr F7 un264.2.2.2.1 = true := by decide +kernel
set_option maxRecDepth 100000 in
theorem ck_1913 : cse tbq U0q un263 2297 = true := by decide +kernel
set_option maxRecDepth 100000 in
theorem wf_1913 : wfr F7 un263.2.2.2.1 = true := by decide +kernel
set_option maxRecDepth 100000 in
theorem ck_1936 : cse tbq U0q un262 2297 = true := by decide +kernel
set_option maxRecDepth 100000 in
theorem wf_1936 : wfr F7 un262.2.2.2.1 = true := by decide +kernel
set_option maxRecDepth 100000 in
theorem ck_1959 : cse tbq U0q un251 2297 = true := by decide +kernel
set_option maxRecDepth 100000 in
theorem wf_1959 : wfr F7 un251.2.2.2.1 = true := by decide +kernel
set_option maxRecDepth 100000 in
theorem ck_1992 : cse tbq U0q un248 2297 = true := by decide +kernel
set_option maxRecDepth 100000 in
theorem wf_1992 : wfr F7 un248.2.2.2.1 = true := by decide +kernel
set_option maxRecDepth 100000 in
theorem ck_2025 : cse tbq U0q un215 2297 = true := by decide +kernel
set_option maxRecDepth 100000 in
theorem wf_2025 : wfr F7 un215.2.2.2.1 = true := by decide +kernel
set_option maxRecDepth 100000 in
theorem ck_2048 : cse tbq U0q un207 2297 = true := by decide +kernel
set_option maxRecDepth 100000 in
theorem wf_2048 : wfr F7 un207.2.2.2.1 = true := by decide +kernel
set_option maxRecDepth 100000 in
theorem ck_2091 : cse tbq U0q un203 2297 = true := by decide +kernel
set_option maxRecDepth 100000 in
theorem wf_2091 : wfr F7 un203.2.2.2.1 = true := by decide +kernel
set_option maxRecDepth 100000 in
theorem ck_2104 : cse tbq U0q un194 2297 = true := by decide +kernel
set_option maxRecDepth 100000 in
theorem wf_2104 : wfr F7 un194.2.2.2.1 = true := by decide +kernel
set_option maxRecDepth 100000 in
theorem ck_2117 : cse tbq U0q un189 2297 = true := by decide +kernel
set_option maxRecDepth 100000 in
theorem wf_2117 : wfr F7 un189.2.2.2.1 = true := by decide +kernel
set_option maxRecDepth 100000 in
theorem ck_2130 : cse tbq U0q un182 2297 = true := by decide +kernel
set_option maxRecDepth 100000 in
theorem wf_2130 : wfr F7 un182.2.2.2.1 = true := by decide +kernel
set_option maxRecDepth 100000 in
theorem ck_2143 : cse tbq U0q un175 2297 = true := by decide +kernel
set_option maxRecDepth 100000 in
theorem wf_2143 : wfr F7 un175.2.2.2.1 = true := by decide +kernel
set_option maxRecDepth 100000 in
theorem ck_2156 : cse tbq U0q un161 2297 = true := by decide +kernel
set_option maxRecDepth 100000 in
theorem wf_2156 : wfr F7 un161.2.2.2.1 = true := by decide +kernel
set_option maxRecDepth 100000 in
theorem ck_2179 : cse tbq U0q un150 2297 = true := by decide +kernel
set_option maxRecDepth 100000 in
theorem wf_2179 : wfr F7 un150.2.2.2.1 = true := by decide +kernel
set_option maxRecDepth 100000 in
theorem ck_2192 : cse tbq U0q un138 2297 = true := by decide +kernel
set_option maxRecDepth 100000 in
theorem wf_2192 : wfr F7 un138.2.2.2.1 = true := by decide +kernel
set_option maxRecDepth 100000 in
theorem ck_2215 : cse tbq U0q un103 2297 = true := by decide +kernel
set_option maxRecDepth 100000 in
theorem wf_2215 : wfr F7 un103.2.2.2.1 = true := by decide +kernel
set_option maxRecDepth 100000 in
theorem ck_2238 : cse tbq U0q un101 2297 = true := by decide +kernel
set_option maxRecDepth 100000 in
theorem wf_2238 : wfr F7 un101.2.2.2.1 = true := by decide +kernel
set_option maxRecDepth 100000 in
theorem ck_2271 : cse tbq U0q un30 2297 = true := by decide +kernel
set_option maxRecDepth 100000 in
theorem wf_2271 : wfr F7 un30.2.2.2.1 = true := by decide +kernel
set_option maxRecDepth 100000 in
theorem ck_2284 : cse tbq U0q un20 2297 = true := by decide +kernel
set_option maxRecDepth 100000 in
theorem wf_2284 : wfr F7 un20.2.2.2.1 = true := by decide +kernel
theorem cs_all (hX : CTX dC dI dA sp H0 l ρ0 ad rf L) : ∀ p ∈ csL, GC J7 L sp ad ρ0 p := by
  unfold csL
  refine List.forall_mem_cons.mpr ⟨gc_cse hX (fun _ _ => J7_frm) ug635 ck_328 wf_328, ?_⟩
  refine List.forall_mem_cons.mpr ⟨gc_cse hX (fun _ _ => J7_frm) ug634 ck_341 wf_341, ?_⟩
  refine List.forall_mem_cons.mpr ⟨gc_cse hX (fun _ _ => J7_frm) ug633 ck_354 wf_354, ?_⟩
  refine List.forall_mem_cons.mpr ⟨gv_tray hX, ?_⟩
  refine List.forall_mem_cons.mpr ⟨gv_write hX, ?_⟩
  refine List.forall_mem_cons.mpr ⟨gv_read hX, ?_⟩
  refine List.forall_mem_cons.mpr ⟨gv_pour hX, ?_⟩
  refine List.forall_mem_cons.mpr ⟨gc_cse hX (fun _ _ => J7_frm) ug610 ck_580 wf_580, ?_⟩
  refine List.forall_mem_cons.mpr ⟨gc_cse hX (fun _ _ => J7_frm) ug606 ck_643 wf_643, ?_⟩
  refine List.forall_mem_cons.mpr ⟨gc_cse hX (fun _ _ => J7_frm) ug534 ck_666 wf_666, ?_⟩
  refine List.forall_mem_cons.mpr ⟨gc_cse hX (fun _ _ => J7_frm) ug478 ck_689 wf_689, ?_⟩
  refine List.forall_mem_cons.mpr ⟨gc_cse hX (fun _ _ => J7_frm) ug477 ck_712 wf_712, ?_⟩
  refine List.forall_mem_cons.mpr ⟨gc_cse hX (fun _ _ => J7_frm) ug468 ck_735 wf_735, ?_⟩
  refine List.forall_mem_cons.mpr ⟨gc_cse hX (fun _ _ => J7_frm) ug465 ck_768 wf_768, ?_⟩
  refine List.forall_mem_cons.mpr ⟨gc_cse hX (fun _ _ => J7_frm) ug462 ck_801 wf_801, ?_⟩
  refine List.forall_mem_cons.mpr ⟨gc_cse hX (fun _ _ => J7_frm) ug460 ck_834 wf_834, ?_⟩
  refine List.forall_mem_cons.mpr ⟨gc_cse hX (fun _ _ => J7_frm) ug457 ck_867 wf_867, ?_⟩
  refine List.forall_mem_cons.mpr ⟨gc_cse hX (fun _ _ => J7_frm) ug456 ck_890 wf_890, ?_⟩
  refine List.forall_mem_cons.mpr ⟨gc_cse hX (fun _ _ => J7_frm) ug450 ck_923 wf_923, ?_⟩
  refine List.forall_mem_cons.mpr ⟨gc_cse hX (fun _ _ => J7_frm) ug447 ck_946 wf_946, ?_⟩
  refine List.forall_mem_cons.mpr ⟨gc_cse hX (fun _ _ => J7_frm) ug446 ck_969 wf_969, ?_⟩
  refine List.forall_mem_cons.mpr ⟨gc_cse hX (fun _ _ => J7_frm) ug443 ck_1002 wf_1002, ?_⟩
  refine List.forall_mem_cons.mpr ⟨gc_cse hX (fun _ _ => J7_frm) ug438 ck_1045 wf_1045, ?_⟩
  refine List.forall_mem_cons.mpr ⟨gc_cse hX (fun _ _ => J7_frm) ug435 ck_1094 wf_1094, ?_⟩
  refine List.forall_mem_cons.mpr ⟨gc_cse hX (fun _ _ => J7_frm) ug432 ck_1143 wf_1143, ?_⟩
  refine List.forall_mem_cons.mpr ⟨gc_cse hX (fun _ _ => J7_frm) ug429 ck_1202 wf_1202, ?_⟩
  refine List.forall_mem_cons.mpr ⟨gc_cse hX (fun _ _ => J7_frm) ug426 ck_1235 wf_1235, ?_⟩
  refine List.forall_mem_cons.mpr ⟨gc_cse hX (fun _ _ => J7_frm) ug423 ck_1268 wf_1268, ?_⟩
  refine List.forall_mem_cons.mpr ⟨gc_cse hX (fun _ _ => J7_frm) ug420 ck_1291 wf_1291, ?_⟩
  refine List.forall_mem_cons.mpr ⟨gc_cse hX (fun _ _ => J7_frm) ug417 ck_1314 wf_1314, ?_⟩
  refine List.forall_mem_cons.mpr ⟨gc_cse hX (fun _ _ => J7_frm) ug414 ck_1347 wf_1347, ?_⟩
  refine List.forall_mem_cons.mpr ⟨gc_cse hX (fun _ _ => J7_frm) ug411 ck_1380 wf_1380, ?_⟩
  refine List.forall_mem_cons.mpr ⟨gc_cse hX (fun _ _ => J7_frm) ug403 ck_1403 wf_1403, ?_⟩
  refine List.forall_mem_cons.mpr ⟨gc_cse hX (fun _ _ => J7_frm) ug396 ck_1426 wf_1426, ?_⟩
  refine List.forall_mem_cons.mpr ⟨gc_cse hX (fun _ _ => J7_frm) ug388 ck_1459 wf_1459, ?_⟩
  refine List.forall_mem_cons.mpr ⟨gc_cse hX (fun _ _ => J7_frm) ug379 ck_1492 wf_1492, ?_⟩
  refine List.forall_mem_cons.mpr ⟨gc_cse hX (fun _ _ => J7_frm) ug373 ck_1535 wf_1535, ?_⟩
  refine List.forall_mem_cons.mpr ⟨gc_cse hX (fun _ _ => J7_frm) ug362 ck_1568 wf_1568, ?_⟩
  refine List.forall_mem_cons.mpr ⟨gc_cse hX (fun _ _ => J7_frm) ug359 ck_1591 wf_1591, ?_⟩
  refine List.forall_mem_cons.mpr ⟨gc_cse hX (fun _ _ => J7_frm) ug353 ck_1624 wf_1624, ?_⟩
  refine List.forall_mem_cons.mpr ⟨gc_cse hX (fun _ _ => J7_frm) ug347 ck_1657 wf_1657, ?_⟩
  refine List.forall_mem_cons.mpr ⟨gc_cse hX (fun _ _ => J7_frm) ug344 ck_1670 wf_1670, ?_⟩
  refine List.forall_mem_cons.mpr ⟨gc_cse hX (fun _ _ => J7_frm) ug328 ck_1693 wf_1693, ?_⟩
  refine List.forall_mem_cons.mpr ⟨gc_cse hX (fun _ _ => J7_frm) ug324 ck_1706 wf_1706, ?_⟩
  refine List.forall_mem_cons.mpr ⟨gc_cse hX (fun _ _ => J7_frm) ug318 ck_1739 wf_1739, ?_⟩
  refine List.forall_mem_cons.mpr ⟨gc_cse hX (fun _ _ => J7_frm) ug305 ck_1772 wf_1772, ?_⟩
  refine List.forall_mem_cons.mpr ⟨gc_cse hX (fun _ _ => J7_frm) ug301 ck_1805 wf_1805, ?_⟩
  refine List.forall_mem_cons.mpr ⟨gc_cse hX (fun _ _ => J7_frm) ug298 ck_1828 wf_1828, ?_⟩
  refine List.forall_mem_cons.mpr ⟨gc_cse hX (fun _ _ => J7_frm) ug283 ck_1841 wf_1841, ?_⟩
  refine List.forall_mem_cons.mpr ⟨gc_cse hX (fun _ _ => J7_frm) ug274 ck_1854 wf_1854, ?_⟩
  refine List.forall_mem_cons.mpr ⟨gc_cse hX (fun _ _ => J7_frm) ug269 ck_1867 wf_1867, ?_⟩
  refine List.forall_mem_cons.mpr ⟨gc_cse hX (fun _ _ => J7_frm) ug264 ck_1890 wf_1890, ?_⟩
  refine List.forall_mem_cons.mpr ⟨gc_cse hX (fun _ _ => J7_frm) ug263 ck_1913 wf_1913, ?_⟩
  refine List.forall_mem_cons.mpr ⟨gc_cse hX (fun _ _ => J7_frm) ug262 ck_1936 wf_1936, ?_⟩
  refine List.forall_mem_cons.mpr ⟨gc_cse hX (fun _ _ => J7_frm) ug251 ck_1959 wf_1959, ?_⟩
  refine List.forall_mem_cons.mpr ⟨gc_cse hX (fun _ _ => J7_frm) ug248 ck_1992 wf_1992, ?_⟩
  refine List.forall_mem_cons.mpr ⟨gc_cse hX (fun _ _ => J7_frm) ug215 ck_2025 wf_2025, ?_⟩
  refine List.forall_mem_cons.mpr ⟨gc_cse hX (fun _ _ => J7_frm) ug207 ck_2048 wf_2048, ?_⟩
  refine List.forall_mem_cons.mpr ⟨gc_cse hX (fun _ _ => J7_frm) ug203 ck_2091 wf_2091, ?_⟩
  refine List.forall_mem_cons.mpr ⟨gc_cse hX (fun _ _ => J7_frm) ug194 ck_2104 wf_2104, ?_⟩
  refine List.forall_mem_cons.mpr ⟨gc_cse hX (fun _ _ => J7_frm) ug189 ck_2117 wf_2117, ?_⟩
  refine List.forall_mem_cons.mpr ⟨gc_cse hX (fun _ _ => J7_frm) ug182 ck_2130 wf_2130, ?_⟩
  refine List.forall_mem_cons.mpr ⟨gc_cse hX (fun _ _ => J7_frm) ug175 ck_2143 wf_2143, ?_⟩
  refine List.forall_mem_cons.mpr ⟨gc_cse hX (fun _ _ => J7_frm) ug161 ck_2156 wf_2156, ?_⟩
  refine List.forall_mem_cons.mpr ⟨gc_cse hX (fun _ _ => J7_frm) ug150 ck_2179 wf_2179, ?_⟩
  refine List.forall_mem_cons.mpr ⟨gc_cse hX (fun _ _ => J7_frm) ug138 ck_2192 wf_2192, ?_⟩
  refine List.forall_mem_cons.mpr ⟨gc_cse hX (fun _ _ => J7_frm) ug103 ck_2215 wf_2215, ?_⟩
  refine List.forall_mem_cons.mpr ⟨gc_cse hX (fun _ _ => J7_frm) ug101 ck_2238 wf_2238, ?_⟩
  refine List.forall_mem_cons.mpr ⟨gc_cse hX (fun _ _ => J7_frm) ug30 ck_2271 wf_2271, ?_⟩
  refine List.forall_mem_cons.mpr ⟨gc_cse hX (fun _ _ => J7_frm) ug20 ck_2284 wf_2284, ?_⟩
  exact fun _ h => absurd h List.not_mem_nil
end LAW
