section LAW
variable {dC : Nat → ClassId} {dI : Nat → Nat → Nat} {dA : Nat → ClassId} {sp : Nat → Nat} {H0 : Heap} {l : Launch} {ρ0 : List Nat} {ad : Nat → Nat} {rf : Nat → Nat → Option Nat} {L : LSc}
set_option maxRecDepth 100000 in
theorem ck_328 : cse tbq U0q un665 2296 = true := by decide +kernel
set_option maxRecDepth 100000 in
theorem wf_328 : wfr F9 un665.2.2.2.1 = true := by decide +kernel
set_option maxRecDepth 100000 in
theorem ck_341 : cse tbq U0q un664 2296 = true := by decide +kernel
set_option maxRecDepth 100000 in
theorem wf_341 : wfr F9 un664.2.2.2.1 = true := by decide +kernel
set_option maxRecDepth 100000 in
theorem ck_354 : cse tbq U0q un663 2296 = true := by decide +kernel
set_option maxRecDepth 100000 in
theorem wf_354 : wfr F9 un663.2.2.2.1 = true := by decide +kernel
set_option maxRecDepth 100000 in
theorem ck_367 : cse tbq U0q un662 2296 = true := by decide +kernel
set_option maxRecDepth 100000 in
theorem wf_367 : wfr F9 un662.2.2.2.1 = true := by decide +kernel
set_option maxRecDepth 100000 in
theorem ck_410 : cse tbq U0q un652 2296 = true := by decide +kernel
set_option maxRecDepth 100000 in
theorem wf_410 : wfr F9 un652.2.2.2.1 = true := by decide +kernel
set_option maxRecDepth 100000 in
theorem ck_483 : cse tbq U0q un649 2296 = true := by decide +kernel
set_option maxRecDepth 100000 in
theorem wf_483 : wfr F9 un649.2.2.2.1 = true := by decide +kernel
set_option maxRecDepth 100000 in
theorem ck_516 : cse tbq U0q un647 2296 = true := by decide +kernel
set_option maxRecDepth 100000 in
theorem wf_516 : wfr F9 un647.2.2.2.1 = true := by decide +kernel
set_option maxRecDepth 100000 in
theorem fk_X11_feed : frk tbq U0q un641 [(2, 0), (0, 0), (0, 0), (0, 0), (0, 0), (0, 0)] = true := by decide +kernel
theorem fr_X11_feed (hX : CTX dC dI dA sp H0 l ρ0 ad rf L) {h h' : PH} {as r : List ZV} (hT : Tq tbq L sp ad U0q h) (has : asok [(2, 0), (0, 0), (0, 0), (0, 0), (0, 0), (0, 0)] as) (hc : CP (zq sp ρ0) mX11_feed h as h' r) : Tq tbq L sp ad U0q h' :=
  (fr_ok u0_n u0_w u0_l u0_f (ug641 dC dI dA sp H0 l ρ0 ad rf L hX.1 (by have := hX.2.1; omega) hX.2.2.1) (show mqq 7 6 = some mX11_feed from rfl) (mth_gd (a := 7) (b := 6) rfl) hX.2.2.2.1 fk_X11_feed hT has hc).1
set_option maxRecDepth 100000 in
theorem fww_X11_feed : wfr FC9 un641.2.2.2.1 = true := by decide +kernel
theorem fw_X11_feed (hX : CTX dC dI dA sp H0 l ρ0 ad rf L) {h h' : PH} {as r : List ZV} (hT : Tq tbq L sp ad U0q h) (has : asok [(2, 0), (0, 0), (0, 0), (0, 0), (0, 0), (0, 0)] as) (hc : CP (zq sp ρ0) mX11_feed h as h' r) : Frm FC9 h h' := fun g hg k h1 h2 =>
  (fr_ok u0_n u0_w u0_l u0_f (ug641 dC dI dA sp H0 l ρ0 ad rf L hX.1 (by have := hX.2.1; omega) hX.2.2.1) (show mqq 7 6 = some mX11_feed from rfl) (mth_gd (a := 7) (b := 6) rfl) hX.2.2.2.1 fk_X11_feed hT has hc).2 _ _ (wfr_ok fww_X11_feed hg h1 h2)
set_option maxRecDepth 100000 in
theorem fk_X12_feed : frk tbq U0q un642 [(2, 169), (0, 0), (0, 0), (0, 0), (0, 0), (0, 0)] = true := by decide +kernel
theorem fr_X12_feed (hX : CTX dC dI dA sp H0 l ρ0 ad rf L) {h h' : PH} {as r : List ZV} (hT : Tq tbq L sp ad U0q h) (has : asok [(2, 169), (0, 0), (0, 0), (0, 0), (0, 0), (0, 0)] as) (hc : CP (zq sp ρ0) mX12_feed h as h' r) : Tq tbq L sp ad U0q h' :=
  (fr_ok u0_n u0_w u0_l u0_f (ug642 dC dI dA sp H0 l ρ0 ad rf L hX.1 (by have := hX.2.1; omega) hX.2.2.1) (show mqq 12 2 = some mX12_feed from rfl) (mth_gd (a := 12) (b := 2) rfl) hX.2.2.2.1 fk_X12_feed hT has hc).1
set_option maxRecDepth 100000 in
theorem fww_X12_feed : wfr FD9 un642.2.2.2.1 = true := by decide +kernel
theorem fw_X12_feed (hX : CTX dC dI dA sp H0 l ρ0 ad rf L) {h h' : PH} {as r : List ZV} (hT : Tq tbq L sp ad U0q h) (has : asok [(2, 169), (0, 0), (0, 0), (0, 0), (0, 0), (0, 0)] as) (hc : CP (zq sp ρ0) mX12_feed h as h' r) : Frm FD9 h h' := fun g hg k h1 h2 =>
  (fr_ok u0_n u0_w u0_l u0_f (ug642 dC dI dA sp H0 l ρ0 ad rf L hX.1 (by have := hX.2.1; omega) hX.2.2.1) (show mqq 12 2 = some mX12_feed from rfl) (mth_gd (a := 12) (b := 2) rfl) hX.2.2.2.1 fk_X12_feed hT has hc).2 _ _ (wfr_ok fww_X12_feed hg h1 h2)
set_option maxRecDepth 40000 in
set_option maxHeartbeats 1600000 in
theorem v_c_feed {sl : Nat} {si : Nat → Int} {fm : ZV} {K : Nat → PH → ZL → List ZV → Prop} {Q : PH → List ZV → Prop} {h : PH} {i : Int} (H : 0 ≤ w32 (i + 1) ∧ w32 (i + 1) < sl → R32 (si (w32 (i + 1)).toNat) → 0 ≤ w32 (i + 2) ∧ w32 (i + 2) < sl → R32 (si (w32 (i + 2)).toNat) → 0 ≤ w32 (i + 3) ∧ w32 (i + 3) < sl → R32 (si (w32 (i + 3)).toNat) → 0 ≤ w32 (i + 4) ∧ w32 (i + 4) < sl → R32 (si (w32 (i + 4)).toNat) → 0 ≤ w32 (i + 5) ∧ w32 (i + 5) < sl → R32 (si (w32 (i + 5)).toNat) → ∀ h1 v1, CP (zz sl si fm) mX11_feed h [(2, 0), (0, (si (w32 (i + 1)).toNat)), (0, (si (w32 (i + 2)).toNat)), (0, (si (w32 (i + 3)).toNat)), (0, (si (w32 (i + 4)).toNat)), (0, (si (w32 (i + 5)).toNat))] h1 [(0, v1)] → R32 v1 → 0 ≤ w32 (i + 1) ∧ w32 (i + 1) < sl → R32 (si (w32 (i + 1)).toNat) → 0 ≤ w32 (i + 2) ∧ w32 (i + 2) < sl → R32 (si (w32 (i + 2)).toNat) → 0 ≤ w32 (i + 3) ∧ w32 (i + 3) < sl → R32 (si (w32 (i + 3)).toNat) → 0 ≤ w32 (i + 4) ∧ w32 (i + 4) < sl → R32 (si (w32 (i + 4)).toNat) → 0 ≤ w32 (i + 5) ∧ w32 (i + 5) < sl → R32 (si (w32 (i + 5)).toNat) → ∀ h2 v2, CP (zz sl si fm) mX12_feed h1 [(2, 169), (0, (si (w32 (i + 1)).toNat)), (0, (si (w32 (i + 2)).toNat)), (0, (si (w32 (i + 3)).toNat)), (0, (si (w32 (i + 4)).toNat)), (0, (si (w32 (i + 5)).toNat))] h2 [(0, v2)] → R32 v2 → K 2296 h2 [(3, (0, i)), (2, (2, 169)), (1, (2, 0)), (0, (6, 0))] []) : vc (zz sl si fm) (fun p => Nat.beq p 2296) K Q mL_law 59 579 (ax_jmp mL_law.2.2.2.2.2.2 579) h [(3, (0, i)), (2, (2, 169)), (1, (2, 0)), (0, (6, 0))] [] := H
set_option maxRecDepth 100000 in
theorem gv_feed (hX : CTX dC dI dA sp H0 l ρ0 ad rf L) : GC J9 L sp ad ρ0 579 := gc_vc (fun h i hT hJ => v_c_feed (fun b1 r2 => (fun b3 r4 => (fun b5 r6 => (fun b7 r8 => (fun b9 r10 => (fun h1 v1 p1 q1 => (fun b11 r12 => (fun b13 r14 => (fun b15 r16 => (fun b17 r18 => (fun b19 r20 => (fun h2 v2 p2 q2 => (by exact ⟨rfl, fr_X12_feed hX (fr_X11_feed hX hT (by exact (And.intro rfl (And.intro (And.intro rfl r2) (And.intro (And.intro rfl r4) (And.intro (And.intro rfl r6) (And.intro (And.intro rfl r8) (And.intro (And.intro rfl r10) trivial))))))) p1) (by exact (And.intro rfl (And.intro (And.intro rfl r2) (And.intro (And.intro rfl r4) (And.intro (And.intro rfl r6) (And.intro (And.intro rfl r8) (And.intro (And.intro rfl r10) trivial))))))) p2, pr_feed9 hJ (fw_X11_feed hX hT (by exact (And.intro rfl (And.intro (And.intro rfl r2) (And.intro (And.intro rfl r4) (And.intro (And.intro rfl r6) (And.intro (And.intro rfl r8) (And.intro (And.intro rfl r10) trivial))))))) p1) (fw_X12_feed hX (fr_X11_feed hX hT (by exact (And.intro rfl (And.intro (And.intro rfl r2) (And.intro (And.intro rfl r4) (And.intro (And.intro rfl r6) (And.intro (And.intro rfl r8) (And.intro (And.intro rfl r10) trivial))))))) p1) (by exact (And.intro rfl (And.intro (And.intro rfl r2) (And.intro (And.intro rfl r4) (And.intro (And.intro rfl r6) (And.intro (And.intro rfl r8) (And.intro (And.intro rfl r10) trivial))))))) p2) p1 p2, rfl, rfl, rfl, rfl, trivial⟩))))))))))))))
set_option maxRecDepth 100000 in
theorem fk_X11_land : frk tbq U0q un603 [(2, 0), (0, 0)] = true := by decide +kernel
theorem fr_X11_land (hX : CTX dC dI dA sp H0 l ρ0 ad rf L) {h h' : PH} {as r : List ZV} (hT : Tq tbq L sp ad U0q h) (has : asok [(2, 0), (0, 0)] as) (hc : CP (zq sp ρ0) mX11_land h as h' r) : Tq tbq L sp ad U0q h' :=
  (fr_ok u0_n u0_w u0_l u0_f (ug603 dC dI dA sp H0 l ρ0 ad rf L hX.1 (by have := hX.2.1; omega) hX.2.2.1) (show mqq 7 7 = some mX11_land from rfl) (mth_gd (a := 7) (b := 7) rfl) hX.2.2.2.1 fk_X11_land hT has hc).1
set_option maxRecDepth 100000 in
theorem fww_X11_land : wfr FLV un603.2.2.2.1 = true := by decide +kernel
theorem fw_X11_land (hX : CTX dC dI dA sp H0 l ρ0 ad rf L) {h h' : PH} {as r : List ZV} (hT : Tq tbq L sp ad U0q h) (has : asok [(2, 0), (0, 0)] as) (hc : CP (zq sp ρ0) mX11_land h as h' r) : Frm FLV h h' := fun g hg k h1 h2 =>
  (fr_ok u0_n u0_w u0_l u0_f (ug603 dC dI dA sp H0 l ρ0 ad rf L hX.1 (by have := hX.2.1; omega) hX.2.2.1) (show mqq 7 7 = some mX11_land from rfl) (mth_gd (a := 7) (b := 7) rfl) hX.2.2.2.1 fk_X11_land hT has hc).2 _ _ (wfr_ok fww_X11_land hg h1 h2)
set_option maxRecDepth 100000 in
theorem fk_X12_land : frk tbq U0q un636 [(2, 169), (0, 0)] = true := by decide +kernel
theorem fr_X12_land (hX : CTX dC dI dA sp H0 l ρ0 ad rf L) {h h' : PH} {as r : List ZV} (hT : Tq tbq L sp ad U0q h) (has : asok [(2, 169), (0, 0)] as) (hc : CP (zq sp ρ0) mX12_land h as h' r) : Tq tbq L sp ad U0q h' :=
  (fr_ok u0_n u0_w u0_l u0_f (ug636 dC dI dA sp H0 l ρ0 ad rf L hX.1 (by have := hX.2.1; omega) hX.2.2.1) (show mqq 13 10 = some mX12_land from rfl) (mth_gd (a := 13) (b := 10) rfl) hX.2.2.2.1 fk_X12_land hT has hc).1
set_option maxRecDepth 100000 in
theorem fww_X12_land : wfr FLV un636.2.2.2.1 = true := by decide +kernel
theorem fw_X12_land (hX : CTX dC dI dA sp H0 l ρ0 ad rf L) {h h' : PH} {as r : List ZV} (hT : Tq tbq L sp ad U0q h) (has : asok [(2, 169), (0, 0)] as) (hc : CP (zq sp ρ0) mX12_land h as h' r) : Frm FLV h h' := fun g hg k h1 h2 =>
  (fr_ok u0_n u0_w u0_l u0_f (ug636 dC dI dA sp H0 l ρ0 ad rf L hX.1 (by have := hX.2.1; omega) hX.2.2.1) (show mqq 13 10 = some mX12_land from rfl) (mth_gd (a := 13) (b := 10) rfl) hX.2.2.2.1 fk_X12_land hT has hc).2 _ _ (wfr_ok fww_X12_land hg h1 h2)
set_option maxRecDepth 40000 in
set_option maxHeartbeats 1600000 in
theorem v_c_land {sl : Nat} {si : Nat → Int} {fm : ZV} {K : Nat → PH → ZL → List ZV → Prop} {Q : PH → List ZV → Prop} {h : PH} {i : Int} (H : 0 ≤ w32 (i + 1) ∧ w32 (i + 1) < sl → R32 (si (w32 (i + 1)).toNat) → ∀ h1 v1, CP (zz sl si fm) mX11_land h [(2, 0), (0, (si (w32 (i + 1)).toNat))] h1 [(0, v1)] → R32 v1 → 0 ≤ w32 (i + 1) ∧ w32 (i + 1) < sl → R32 (si (w32 (i + 1)).toNat) → ∀ h2 v2, CP (zz sl si fm) mX12_land h1 [(2, 169), (0, (si (w32 (i + 1)).toNat))] h2 [(0, v2)] → R32 v2 → K 2296 h2 [(3, (0, i)), (2, (2, 169)), (1, (2, 0)), (0, (6, 0))] []) : vc (zz sl si fm) (fun p => Nat.beq p 2296) K Q mL_law 19 642 (ax_jmp mL_law.2.2.2.2.2.2 642) h [(3, (0, i)), (2, (2, 169)), (1, (2, 0)), (0, (6, 0))] [] := H
set_option maxRecDepth 100000 in
theorem gv_land (hX : CTX dC dI dA sp H0 l ρ0 ad rf L) : GC J9 L sp ad ρ0 642 := gc_vc (fun h i hT hJ => v_c_land (fun b1 r2 => (fun h1 v1 p1 q1 => (fun b3 r4 => (fun h2 v2 p2 q2 => (by exact ⟨rfl, fr_X12_land hX (fr_X11_land hX hT (by exact (And.intro rfl (And.intro (And.intro rfl r2) trivial))) p1) (by exact (And.intro rfl (And.intro (And.intro rfl r2) trivial))) p2, (pr_land9 hJ (fw_X11_land hX hT (by exact (And.intro rfl (And.intro (And.intro rfl r2) trivial))) p1) (fw_X12_land hX (fr_X11_land hX hT (by exact (And.intro rfl (And.intro (And.intro rfl r2) trivial))) p1) (by exact (And.intro rfl (And.intro (And.intro rfl r2) trivial))) p2) p1 p2).1, rfl, rfl, rfl, rfl, trivial⟩))))))
set_option maxRecDepth 100000 in
theorem fk_X11_tales : frk tbq U0q un519 [(2, 0), (0, 0)] = true := by decide +kernel
theorem fr_X11_tales (hX : CTX dC dI dA sp H0 l ρ0 ad rf L) {h h' : PH} {as r : List ZV} (hT : Tq tbq L sp ad U0q h) (has : asok [(2, 0), (0, 0)] as) (hc : CP (zq sp ρ0) mX11_tales h as h' r) : Tq tbq L sp ad U0q h' :=
  (fr_ok u0_n u0_w u0_l u0_f (ug519 dC dI dA sp H0 l ρ0 ad rf L hX.1 (by have := hX.2.1; omega) hX.2.2.1) (show mqq 7 8 = some mX11_tales from rfl) (mth_gd (a := 7) (b := 8) rfl) hX.2.2.2.1 fk_X11_tales hT has hc).1
set_option maxRecDepth 100000 in
theorem fww_X11_tales : wfr FA9 un519.2.2.2.1 = true := by decide +kernel
theorem fw_X11_tales (hX : CTX dC dI dA sp H0 l ρ0 ad rf L) {h h' : PH} {as r : List ZV} (hT : Tq tbq L sp ad U0q h) (has : asok [(2, 0), (0, 0)] as) (hc : CP (zq sp ρ0) mX11_tales h as h' r) : Frm FA9 h h' := fun g hg k h1 h2 =>
  (fr_ok u0_n u0_w u0_l u0_f (ug519 dC dI dA sp H0 l ρ0 ad rf L hX.1 (by have := hX.2.1; omega) hX.2.2.1) (show mqq 7 8 = some mX11_tales from rfl) (mth_gd (a := 7) (b := 8) rfl) hX.2.2.2.1 fk_X11_tales hT has hc).2 _ _ (wfr_ok fww_X11_tales hg h1 h2)
set_option maxRecDepth 100000 in
theorem fk_X12_tales : frk tbq U0q un562 [(2, 169), (0, 0)] = true := by decide +kernel
theorem fr_X12_tales (hX : CTX dC dI dA sp H0 l ρ0 ad rf L) {h h' : PH} {as r : List ZV} (hT : Tq tbq L sp ad U0q h) (has : asok [(2, 169), (0, 0)] as) (hc : CP (zq sp ρ0) mX12_tales h as h' r) : Tq tbq L sp ad U0q h' :=
  (fr_ok u0_n u0_w u0_l u0_f (ug562 dC dI dA sp H0 l ρ0 ad rf L hX.1 (by have := hX.2.1; omega) hX.2.2.1) (show mqq 13 16 = some mX12_tales from rfl) (mth_gd (a := 13) (b := 16) rfl) hX.2.2.2.1 fk_X12_tales hT has hc).1
set_option maxRecDepth 100000 in
theorem fww_X12_tales : wfr FB9 un562.2.2.2.1 = true := by decide +kernel
theorem fw_X12_tales (hX : CTX dC dI dA sp H0 l ρ0 ad rf L) {h h' : PH} {as r : List ZV} (hT : Tq tbq L sp ad U0q h) (has : asok [(2, 169), (0, 0)] as) (hc : CP (zq sp ρ0) mX12_tales h as h' r) : Frm FB9 h h' := fun g hg k h1 h2 =>
  (fr_ok u0_n u0_w u0_l u0_f (ug562 dC dI dA sp H0 l ρ0 ad rf L hX.1 (by have := hX.2.1; omega) hX.2.2.1) (show mqq 13 16 = some mX12_tales from rfl) (mth_gd (a := 13) (b := 16) rfl) hX.2.2.2.1 fk_X12_tales hT has hc).2 _ _ (wfr_ok fww_X12_tales hg h1 h2)
set_option maxRecDepth 40000 in
set_option maxHeartbeats 1600000 in
theorem v_c_tales {sl : Nat} {si : Nat → Int} {fm : ZV} {K : Nat → PH → ZL → List ZV → Prop} {Q : PH → List ZV → Prop} {h : PH} {i : Int} (H : 0 ≤ w32 (i + 1) ∧ w32 (i + 1) < sl → R32 (si (w32 (i + 1)).toNat) → ∀ h1 v1, CP (zz sl si fm) mX11_tales h [(2, 0), (0, (si (w32 (i + 1)).toNat))] h1 [(0, v1)] → R32 v1 → 0 ≤ w32 (i + 1) ∧ w32 (i + 1) < sl → R32 (si (w32 (i + 1)).toNat) → ∀ h2 v2, CP (zz sl si fm) mX12_tales h1 [(2, 169), (0, (si (w32 (i + 1)).toNat))] h2 [(0, v2)] → R32 v2 → K 2296 h2 [(3, (0, i)), (2, (2, 169)), (1, (2, 0)), (0, (6, 0))] []) : vc (zz sl si fm) (fun p => Nat.beq p 2296) K Q mL_law 19 665 (ax_jmp mL_law.2.2.2.2.2.2 665) h [(3, (0, i)), (2, (2, 169)), (1, (2, 0)), (0, (6, 0))] [] := H
set_option maxRecDepth 100000 in
theorem gv_tales (hX : CTX dC dI dA sp H0 l ρ0 ad rf L) : GC J9 L sp ad ρ0 665 := gc_vc (fun h i hT hJ => v_c_tales (fun b1 r2 => (fun h1 v1 p1 q1 => (fun b3 r4 => (fun h2 v2 p2 q2 => (by exact ⟨rfl, fr_X12_tales hX (fr_X11_tales hX hT (by exact (And.intro rfl (And.intro (And.intro rfl r2) trivial))) p1) (by exact (And.intro rfl (And.intro (And.intro rfl r2) trivial))) p2, (pr_tales9 hJ (fw_X11_tales hX hT (by exact (And.intro rfl (And.intro (And.intro rfl r2) trivial))) p1) (fw_X12_tales hX (fr_X11_tales hX hT (by exact (And.intro rfl (And.intro (And.intro rfl r2) trivial))) p1) (by exact (And.intro rfl (And.intro (And.intro rfl r2) trivial))) p2) p1 p2).1, rfl, rfl, rfl, rfl, trivial⟩))))))
set_option maxRecDepth 100000 in
theorem ck_688 : cse tbq U0q un506 2296 = true := by decide +kernel
set_option maxRecDepth 100000 in
theorem wf_688 : wfr F9 un506.2.2.2.1 = true := by decide +kernel
set_option maxRecDepth 100000 in
theorem ck_711 : cse tbq U0q un505 2296 = true := by decide +kernel
set_option maxRecDepth 100000 in
theorem wf_711 : wfr F9 un505.2.2.2.1 = true := by decide +kernel
set_option maxRecDepth 100000 in
theorem ck_734 : cse tbq U0q un496 2296 = true := by decide +kernel
set_option maxRecDepth 100000 in
theorem wf_734 : wfr F9 un496.2.2.2.1 = true := by decide +kernel
set_option maxRecDepth 100000 in
theorem ck_767 : cse tbq U0q un493 2296 = true := by decide +kernel
set_option maxRecDepth 100000 in
theorem wf_767 : wfr F9 un493.2.2.2.1 = true := by decide +kernel
set_option maxRecDepth 100000 in
theorem ck_800 : cse tbq U0q un490 2296 = true := by decide +kernel
set_option maxRecDepth 100000 in
theorem wf_800 : wfr F9 un490.2.2.2.1 = true := by decide +kernel
set_option maxRecDepth 100000 in
theorem ck_833 : cse tbq U0q un488 2296 = true := by decide +kernel
set_option maxRecDepth 100000 in
theorem wf_833 : wfr F9 un488.2.2.2.1 = true := by decide +kernel
set_option maxRecDepth 100000 in
theorem ck_866 : cse tbq U0q un485 2296 = true := by decide +kernel
set_option maxRecDepth 100000 in
theorem wf_866 : wfr F9 un485.2.2.2.1 = true := by decide +kernel
set_option maxRecDepth 100000 in
theorem ck_889 : cse tbq U0q un484 2296 = true := by decide +kernel
set_option maxRecDepth 100000 in
theorem wf_889 : wfr F9 un484.2.2.2.1 = true := by decide +kernel
set_option maxRecDepth 100000 in
theorem fk_X11_night : frk tbq U0q un475 [(2, 0), (0, 0)] = true := by decide +kernel
theorem fr_X11_night (hX : CTX dC dI dA sp H0 l ρ0 ad rf L) {h h' : PH} {as r : List ZV} (hT : Tq tbq L sp ad U0q h) (has : asok [(2, 0), (0, 0)] as) (hc : CP (zq sp ρ0) mX11_night h as h' r) : Tq tbq L sp ad U0q h' :=
  (fr_ok u0_n u0_w u0_l u0_f (ug475 dC dI dA sp H0 l ρ0 ad rf L hX.1 (by have := hX.2.1; omega) hX.2.2.1) (show mqq 7 17 = some mX11_night from rfl) (mth_gd (a := 7) (b := 17) rfl) hX.2.2.2.1 fk_X11_night hT has hc).1
set_option maxRecDepth 100000 in
theorem fww_X11_night : wfr FLV un475.2.2.2.1 = true := by decide +kernel
theorem fw_X11_night (hX : CTX dC dI dA sp H0 l ρ0 ad rf L) {h h' : PH} {as r : List ZV} (hT : Tq tbq L sp ad U0q h) (has : asok [(2, 0), (0, 0)] as) (hc : CP (zq sp ρ0) mX11_night h as h' r) : Frm FLV h h' := fun g hg k h1 h2 =>
  (fr_ok u0_n u0_w u0_l u0_f (ug475 dC dI dA sp H0 l ρ0 ad rf L hX.1 (by have := hX.2.1; omega) hX.2.2.1) (show mqq 7 17 = some mX11_night from rfl) (mth_gd (a := 7) (b := 17) rfl) hX.2.2.2.1 fk_X11_night hT has hc).2 _ _ (wfr_ok fww_X11_night hg h1 h2)
set_option maxRecDepth 100000 in
theorem fk_X12_night : frk tbq U0q un477 [(2, 169), (0, 0)] = true := by decide +kernel
theorem fr_X12_night (hX : CTX dC dI dA sp H0 l ρ0 ad rf L) {h h' : PH} {as r : List ZV} (hT : Tq tbq L sp ad U0q h) (has : asok [(2, 169), (0, 0)] as) (hc : CP (zq sp ρ0) mX12_night h as h' r) : Tq tbq L sp ad U0q h' :=
  (fr_ok u0_n u0_w u0_l u0_f (ug477 dC dI dA sp H0 l ρ0 ad rf L hX.1 (by have := hX.2.1; omega) hX.2.2.1) (show mqq 15 9 = some mX12_night from rfl) (mth_gd (a := 15) (b := 9) rfl) hX.2.2.2.1 fk_X12_night hT has hc).1
set_option maxRecDepth 100000 in
theorem fww_X12_night : wfr FLV un477.2.2.2.1 = true := by decide +kernel
theorem fw_X12_night (hX : CTX dC dI dA sp H0 l ρ0 ad rf L) {h h' : PH} {as r : List ZV} (hT : Tq tbq L sp ad U0q h) (has : asok [(2, 169), (0, 0)] as) (hc : CP (zq sp ρ0) mX12_night h as h' r) : Frm FLV h h' := fun g hg k h1 h2 =>
  (fr_ok u0_n u0_w u0_l u0_f (ug477 dC dI dA sp H0 l ρ0 ad rf L hX.1 (by have := hX.2.1; omega) hX.2.2.1) (show mqq 15 9 = some mX12_night from rfl) (mth_gd (a := 15) (b := 9) rfl) hX.2.2.2.1 fk_X12_night hT has hc).2 _ _ (wfr_ok fww_X12_night hg h1 h2)
set_option maxRecDepth 40000 in
set_option maxHeartbeats 1600000 in
theorem v_c_night {sl : Nat} {si : Nat → Int} {fm : ZV} {K : Nat → PH → ZL → List ZV → Prop} {Q : PH → List ZV → Prop} {h : PH} {i : Int} (H : 0 ≤ w32 (i + 1) ∧ w32 (i + 1) < sl → R32 (si (w32 (i + 1)).toNat) → ∀ h1 v1, CP (zz sl si fm) mX11_night h [(2, 0), (0, (si (w32 (i + 1)).toNat))] h1 [(0, v1)] → R32 v1 → 0 ≤ w32 (i + 1) ∧ w32 (i + 1) < sl → R32 (si (w32 (i + 1)).toNat) → ∀ h2 v2, CP (zz sl si fm) mX12_night h1 [(2, 169), (0, (si (w32 (i + 1)).toNat))] h2 [(0, v2)] → R32 v2 → K 2296 h2 [(3, (0, i)), (2, (2, 169)), (1, (2, 0)), (0, (6, 0))] []) : vc (zz sl si fm) (fun p => Nat.beq p 2296) K Q mL_law 19 922 (ax_jmp mL_law.2.2.2.2.2.2 922) h [(3, (0, i)), (2, (2, 169)), (1, (2, 0)), (0, (6, 0))] [] := H
set_option maxRecDepth 100000 in
theorem gv_night (hX : CTX dC dI dA sp H0 l ρ0 ad rf L) : GC J9 L sp ad ρ0 922 := gc_vc (fun h i hT hJ => v_c_night (fun b1 r2 => (fun h1 v1 p1 q1 => (fun b3 r4 => (fun h2 v2 p2 q2 => (by exact ⟨rfl, fr_X12_night hX (fr_X11_night hX hT (by exact (And.intro rfl (And.intro (And.intro rfl r2) trivial))) p1) (by exact (And.intro rfl (And.intro (And.intro rfl r2) trivial))) p2, (pr_night9 hJ (tq_B (fr_X11_night hX hT (by exact (And.intro rfl (And.intro (And.intro rfl r2) trivial))) p1)).1 (tq_B (fr_X11_night hX hT (by exact (And.intro rfl (And.intro (And.intro rfl r2) trivial))) p1)).2.1 (fw_X11_night hX hT (by exact (And.intro rfl (And.intro (And.intro rfl r2) trivial))) p1) (fw_X12_night hX (fr_X11_night hX hT (by exact (And.intro rfl (And.intro (And.intro rfl r2) trivial))) p1) (by exact (And.intro rfl (And.intro (And.intro rfl r2) trivial))) p2) p1 p2).1, rfl, rfl, rfl, rfl, trivial⟩))))))
set_option maxRecDepth 100000 in
theorem fk_X11_die : frk tbq U0q un470 [(2, 0), (0, 0)] = true := by decide +kernel
theorem fr_X11_die (hX : CTX dC dI dA sp H0 l ρ0 ad rf L) {h h' : PH} {as r : List ZV} (hT : Tq tbq L sp ad U0q h) (has : asok [(2, 0), (0, 0)] as) (hc : CP (zq sp ρ0) mX11_die h as h' r) : Tq tbq L sp ad U0q h' :=
  (fr_ok u0_n u0_w u0_l u0_f (ug470 dC dI dA sp H0 l ρ0 ad rf L hX.1 (by have := hX.2.1; omega) hX.2.2.1) (show mqq 7 18 = some mX11_die from rfl) (mth_gd (a := 7) (b := 18) rfl) hX.2.2.2.1 fk_X11_die hT has hc).1
set_option maxRecDepth 100000 in
theorem fww_X11_die : wfr FLV un470.2.2.2.1 = true := by decide +kernel
theorem fw_X11_die (hX : CTX dC dI dA sp H0 l ρ0 ad rf L) {h h' : PH} {as r : List ZV} (hT : Tq tbq L sp ad U0q h) (has : asok [(2, 0), (0, 0)] as) (hc : CP (zq sp ρ0) mX11_die h as h' r) : Frm FLV h h' := fun g hg k h1 h2 =>
  (fr_ok u0_n u0_w u0_l u0_f (ug470 dC dI dA sp H0 l ρ0 ad rf L hX.1 (by have := hX.2.1; omega) hX.2.2.1) (show mqq 7 18 = some mX11_die from rfl) (mth_gd (a := 7) (b := 18) rfl) hX.2.2.2.1 fk_X11_die hT has hc).2 _ _ (wfr_ok fww_X11_die hg h1 h2)
set_option maxRecDepth 100000 in
theorem fk_X12_die : frk tbq U0q un6 [(2, 169), (0, 0)] = true := by decide +kernel
theorem fr_X12_die (hX : CTX dC dI dA sp H0 l ρ0 ad rf L) {h h' : PH} {as r : List ZV} (hT : Tq tbq L sp ad U0q h) (has : asok [(2, 169), (0, 0)] as) (hc : CP (zq sp ρ0) mX12_die h as h' r) : Tq tbq L sp ad U0q h' :=
  (fr_ok u0_n u0_w u0_l u0_f (ug6 dC dI dA sp H0 l ρ0 ad rf L hX.1 (by have := hX.2.1; omega) hX.2.2.1) (show mqq 15 14 = some mX12_die from rfl) (mth_gd (a := 15) (b := 14) rfl) hX.2.2.2.1 fk_X12_die hT has hc).1
set_option maxRecDepth 100000 in
theorem fww_X12_die : wfr FLV un6.2.2.2.1 = true := by decide +kernel
theorem fw_X12_die (hX : CTX dC dI dA sp H0 l ρ0 ad rf L) {h h' : PH} {as r : List ZV} (hT : Tq tbq L sp ad U0q h) (has : asok [(2, 169), (0, 0)] as) (hc : CP (zq sp ρ0) mX12_die h as h' r) : Frm FLV h h' := fun g hg k h1 h2 =>
  (fr_ok u0_n u0_w u0_l u0_f (ug6 dC dI dA sp H0 l ρ0 ad rf L hX.1 (by have := hX.2.1; omega) hX.2.2.1) (show mqq 15 14 = some mX12_die from rfl) (mth_gd (a := 15) (b := 14) rfl) hX.2.2.2.1 fk_X12_die hT has hc).2 _ _ (wfr_ok fww_X12_die hg h1 h2)
set_option maxRecDepth 40000 in
set_option maxHeartbeats 1600000 in
theorem v_c_die {sl : Nat} {si : Nat → Int} {fm : ZV} {K : Nat → PH → ZL → List ZV → Prop} {Q : PH → List ZV → Prop} {h : PH} {i : Int} (H : 0 ≤ w32 (i + 1) ∧ w32 (i + 1) < sl → R32 (si (w32 (i + 1)).toNat) → ∀ h1 v1, CP (zz sl si fm) mX11_die h [(2, 0), (0, (si (w32 (i + 1)).toNat))] h1 [(0, v1)] → R32 v1 → 0 ≤ w32 (i + 1) ∧ w32 (i + 1) < sl → R32 (si (w32 (i + 1)).toNat) → ∀ h2 v2, CP (zz sl si fm) mX12_die h1 [(2, 169), (0, (si (w32 (i + 1)).toNat))] h2 [(0, v2)] → R32 v2 → K 2296 h2 [(3, (0, i)), (2, (2, 169)), (1, (2, 0)), (0, (6, 0))] []) : vc (zz sl si fm) (fun p => Nat.beq p 2296) K Q mL_law 19 945 (ax_jmp mL_law.2.2.2.2.2.2 945) h [(3, (0, i)), (2, (2, 169)), (1, (2, 0)), (0, (6, 0))] [] := H
set_option maxRecDepth 100000 in
theorem gv_die (hX : CTX dC dI dA sp H0 l ρ0 ad rf L) : GC J9 L sp ad ρ0 945 := gc_vc (fun h i hT hJ => v_c_die (fun b1 r2 => (fun h1 v1 p1 q1 => (fun b3 r4 => (fun h2 v2 p2 q2 => (by exact ⟨rfl, fr_X12_die hX (fr_X11_die hX hT (by exact (And.intro rfl (And.intro (And.intro rfl r2) trivial))) p1) (by exact (And.intro rfl (And.intro (And.intro rfl r2) trivial))) p2, (pr_die9 hJ (tq_B (fr_X11_die hX hT (by exact (And.intro rfl (And.intro (And.intro rfl r2) trivial))) p1)).1 (tq_B (fr_X11_die hX hT (by exact (And.intro rfl (And.intro (And.intro rfl r2) trivial))) p1)).2.1 (tq_B (fr_X11_die hX hT (by exact (And.intro rfl (And.intro (And.intro rfl r2) trivial))) p1)).2.2 (fw_X11_die hX hT (by exact (And.intro rfl (And.intro (And.intro rfl r2) trivial))) p1) (fw_X12_die hX (fr_X11_die hX hT (by exact (And.intro rfl (And.intro (And.intro rfl r2) trivial))) p1) (by exact (And.intro rfl (And.intro (And.intro rfl r2) trivial))) p2) p1 p2).1, rfl, rfl, rfl, rfl, trivial⟩))))))
set_option maxRecDepth 100000 in
theorem fk_X11_forgive : frk tbq U0q un467 [(2, 0), (0, 0), (0, 0)] = true := by decide +kernel
theorem fr_X11_forgive (hX : CTX dC dI dA sp H0 l ρ0 ad rf L) {h h' : PH} {as r : List ZV} (hT : Tq tbq L sp ad U0q h) (has : asok [(2, 0), (0, 0), (0, 0)] as) (hc : CP (zq sp ρ0) mX11_forgive h as h' r) : Tq tbq L sp ad U0q h' :=
  (fr_ok u0_n u0_w u0_l u0_f (ug467 dC dI dA sp H0 l ρ0 ad rf L hX.1 (by have := hX.2.1; omega) hX.2.2.1) (show mqq 7 19 = some mX11_forgive from rfl) (mth_gd (a := 7) (b := 19) rfl) hX.2.2.2.1 fk_X11_forgive hT has hc).1
set_option maxRecDepth 100000 in
theorem fww_X11_forgive : wfr FLV un467.2.2.2.1 = true := by decide +kernel
theorem fw_X11_forgive (hX : CTX dC dI dA sp H0 l ρ0 ad rf L) {h h' : PH} {as r : List ZV} (hT : Tq tbq L sp ad U0q h) (has : asok [(2, 0), (0, 0), (0, 0)] as) (hc : CP (zq sp ρ0) mX11_forgive h as h' r) : Frm FLV h h' := fun g hg k h1 h2 =>
  (fr_ok u0_n u0_w u0_l u0_f (ug467 dC dI dA sp H0 l ρ0 ad rf L hX.1 (by have := hX.2.1; omega) hX.2.2.1) (show mqq 7 19 = some mX11_forgive from rfl) (mth_gd (a := 7) (b := 19) rfl) hX.2.2.2.1 fk_X11_forgive hT has hc).2 _ _ (wfr_ok fww_X11_forgive hg h1 h2)
set_option maxRecDepth 100000 in
theorem fk_X12_forgive : frk tbq U0q un468 [(2, 169), (0, 0), (0, 0)] = true := by decide +kernel
theorem fr_X12_forgive (hX : CTX dC dI dA sp H0 l ρ0 ad rf L) {h h' : PH} {as r : List ZV} (hT : Tq tbq L sp ad U0q h) (has : asok [(2, 169), (0, 0), (0, 0)] as) (hc : CP (zq sp ρ0) mX12_forgive h as h' r) : Tq tbq L sp ad U0q h' :=
  (fr_ok u0_n u0_w u0_l u0_f (ug468 dC dI dA sp H0 l ρ0 ad rf L hX.1 (by have := hX.2.1; omega) hX.2.2.1) (show mqq 15 16 = some mX12_forgive from rfl) (mth_gd (a := 15) (b := 16) rfl) hX.2.2.2.1 fk_X12_forgive hT has hc).1
set_option maxRecDepth 100000 in
theorem fww_X12_forgive : wfr FLV un468.2.2.2.1 = true := by decide +kernel
theorem fw_X12_forgive (hX : CTX dC dI dA sp H0 l ρ0 ad rf L) {h h' : PH} {as r : List ZV} (hT : Tq tbq L sp ad U0q h) (has : asok [(2, 169), (0, 0), (0, 0)] as) (hc : CP (zq sp ρ0) mX12_forgive h as h' r) : Frm FLV h h' := fun g hg k h1 h2 =>
  (fr_ok u0_n u0_w u0_l u0_f (ug468 dC dI dA sp H0 l ρ0 ad rf L hX.1 (by have := hX.2.1; omega) hX.2.2.1) (show mqq 15 16 = some mX12_forgive from rfl) (mth_gd (a := 15) (b := 16) rfl) hX.2.2.2.1 fk_X12_forgive hT has hc).2 _ _ (wfr_ok fww_X12_forgive hg h1 h2)
set_option maxRecDepth 40000 in
set_option maxHeartbeats 1600000 in
theorem v_c_forgive {sl : Nat} {si : Nat → Int} {fm : ZV} {K : Nat → PH → ZL → List ZV → Prop} {Q : PH → List ZV → Prop} {h : PH} {i : Int} (H : 0 ≤ w32 (i + 1) ∧ w32 (i + 1) < sl → R32 (si (w32 (i + 1)).toNat) → 0 ≤ w32 (i + 2) ∧ w32 (i + 2) < sl → R32 (si (w32 (i + 2)).toNat) → ∀ h1 v1, CP (zz sl si fm) mX11_forgive h [(2, 0), (0, (si (w32 (i + 1)).toNat)), (0, (si (w32 (i + 2)).toNat))] h1 [(0, v1)] → R32 v1 → 0 ≤ w32 (i + 1) ∧ w32 (i + 1) < sl → R32 (si (w32 (i + 1)).toNat) → 0 ≤ w32 (i + 2) ∧ w32 (i + 2) < sl → R32 (si (w32 (i + 2)).toNat) → ∀ h2 v2, CP (zz sl si fm) mX12_forgive h1 [(2, 169), (0, (si (w32 (i + 1)).toNat)), (0, (si (w32 (i + 2)).toNat))] h2 [(0, v2)] → R32 v2 → K 2296 h2 [(3, (0, i)), (2, (2, 169)), (1, (2, 0)), (0, (6, 0))] []) : vc (zz sl si fm) (fun p => Nat.beq p 2296) K Q mL_law 29 968 (ax_jmp mL_law.2.2.2.2.2.2 968) h [(3, (0, i)), (2, (2, 169)), (1, (2, 0)), (0, (6, 0))] [] := H
set_option maxRecDepth 100000 in
theorem gv_forgive (hX : CTX dC dI dA sp H0 l ρ0 ad rf L) : GC J9 L sp ad ρ0 968 := gc_vc (fun h i hT hJ => v_c_forgive (fun b1 r2 => (fun b3 r4 => (fun h1 v1 p1 q1 => (fun b5 r6 => (fun b7 r8 => (fun h2 v2 p2 q2 => (by exact ⟨rfl, fr_X12_forgive hX (fr_X11_forgive hX hT (by exact (And.intro rfl (And.intro (And.intro rfl r2) (And.intro (And.intro rfl r4) trivial)))) p1) (by exact (And.intro rfl (And.intro (And.intro rfl r2) (And.intro (And.intro rfl r4) trivial)))) p2, (pr_forgive9 hJ (fw_X11_forgive hX hT (by exact (And.intro rfl (And.intro (And.intro rfl r2) (And.intro (And.intro rfl r4) trivial)))) p1) (fw_X12_forgive hX (fr_X11_forgive hX hT (by exact (And.intro rfl (And.intro (And.intro rfl r2) (And.intro (And.intro rfl r4) trivial)))) p1) (by exact (And.intro rfl (And.intro (And.intro rfl r2) (And.intro (And.intro rfl r4) trivial)))) p2) p1 p2).1, rfl, rfl, rfl, rfl, trivial⟩))))))))
set_option maxRecDepth 100000 in
theorem fk_X11_forge : frk tbq U0q un463 [(2, 0), (0, 0), (0, 0), (0, 0)] = true := by decide +kernel
theorem fr_X11_forge (hX : CTX dC dI dA sp H0 l ρ0 ad rf L) {h h' : PH} {as r : List ZV} (hT : Tq tbq L sp ad U0q h) (has : asok [(2, 0), (0, 0), (0, 0), (0, 0)] as) (hc : CP (zq sp ρ0) mX11_forge h as h' r) : Tq tbq L sp ad U0q h' :=
  (fr_ok u0_n u0_w u0_l u0_f (ug463 dC dI dA sp H0 l ρ0 ad rf L hX.1 (by have := hX.2.1; omega) hX.2.2.1) (show mqq 8 0 = some mX11_forge from rfl) (mth_gd (a := 8) (b := 0) rfl) hX.2.2.2.1 fk_X11_forge hT has hc).1
set_option maxRecDepth 100000 in
theorem fww_X11_forge : wfr FLV un463.2.2.2.1 = true := by decide +kernel
theorem fw_X11_forge (hX : CTX dC dI dA sp H0 l ρ0 ad rf L) {h h' : PH} {as r : List ZV} (hT : Tq tbq L sp ad U0q h) (has : asok [(2, 0), (0, 0), (0, 0), (0, 0)] as) (hc : CP (zq sp ρ0) mX11_forge h as h' r) : Frm FLV h h' := fun g hg k h1 h2 =>
  (fr_ok u0_n u0_w u0_l u0_f (ug463 dC dI dA sp H0 l ρ0 ad rf L hX.1 (by have := hX.2.1; omega) hX.2.2.1) (show mqq 8 0 = some mX11_forge from rfl) (mth_gd (a := 8) (b := 0) rfl) hX.2.2.2.1 fk_X11_forge hT has hc).2 _ _ (wfr_ok fww_X11_forge hg h1 h2)
set_option maxRecDepth 100000 in
theorem fk_X12_forge : frk tbq U0q un465 [(2, 169), (0, 0), (0, 0), (0, 0)] = true := by decide +kernel
theorem fr_X12_forge (hX : CTX dC dI dA sp H0 l ρ0 ad rf L) {h h' : PH} {as r : List ZV} (hT : Tq tbq L sp ad U0q h) (has : asok [(2, 169), (0, 0), (0, 0), (0, 0)] as) (hc : CP (zq sp ρ0) mX12_forge h as h' r) : Tq tbq L sp ad U0q h' :=
  (fr_ok u0_n u0_w u0_l u0_f (ug465 dC dI dA sp H0 l ρ0 ad rf L hX.1 (by have := hX.2.1; omega) hX.2.2.1) (show mqq 15 18 = some mX12_forge from rfl) (mth_gd (a := 15) (b := 18) rfl) hX.2.2.2.1 fk_X12_forge hT has hc).1
set_option maxRecDepth 100000 in
theorem fww_X12_forge : wfr FLV un465.2.2.2.1 = true := by decide +kernel
theorem fw_X12_forge (hX : CTX dC dI dA sp H0 l ρ0 ad rf L) {h h' : PH} {as r : List ZV} (hT : Tq tbq L sp ad U0q h) (has : asok [(2, 169), (0, 0), (0, 0), (0, 0)] as) (hc : CP (zq sp ρ0) mX12_forge h as h' r) : Frm FLV h h' := fun g hg k h1 h2 =>
  (fr_ok u0_n u0_w u0_l u0_f (ug465 dC dI dA sp H0 l ρ0 ad rf L hX.1 (by have := hX.2.1; omega) hX.2.2.1) (show mqq 15 18 = some mX12_forge from rfl) (mth_gd (a := 15) (b := 18) rfl) hX.2.2.2.1 fk_X12_forge hT has hc).2 _ _ (wfr_ok fww_X12_forge hg h1 h2)
set_option maxRecDepth 40000 in
set_option maxHeartbeats 1600000 in
theorem v_c_forge {sl : Nat} {si : Nat → Int} {fm : ZV} {K : Nat → PH → ZL → List ZV → Prop} {Q : PH → List ZV → Prop} {h : PH} {i : Int} (H : 0 ≤ w32 (i + 1) ∧ w32 (i + 1) < sl → R32 (si (w32 (i + 1)).toNat) → 0 ≤ w32 (i + 2) ∧ w32 (i + 2) < sl → R32 (si (w32 (i + 2)).toNat) → 0 ≤ w32 (i + 3) ∧ w32 (i + 3) < sl → R32 (si (w32 (i + 3)).toNat) → ∀ h1 v1, CP (zz sl si fm) mX11_forge h [(2, 0), (0, (si (w32 (i + 1)).toNat)), (0, (si (w32 (i + 2)).toNat)), (0, (si (w32 (i + 3)).toNat))] h1 [(0, v1)] → R32 v1 → 0 ≤ w32 (i + 1) ∧ w32 (i + 1) < sl → R32 (si (w32 (i + 1)).toNat) → 0 ≤ w32 (i + 2) ∧ w32 (i + 2) < sl → R32 (si (w32 (i + 2)).toNat) → 0 ≤ w32 (i + 3) ∧ w32 (i + 3) < sl → R32 (si (w32 (i + 3)).toNat) → ∀ h2 v2, CP (zz sl si fm) mX12_forge h1 [(2, 169), (0, (si (w32 (i + 1)).toNat)), (0, (si (w32 (i + 2)).toNat)), (0, (si (w32 (i + 3)).toNat))] h2 [(0, v2)] → R32 v2 → K 2296 h2 [(3, (0, i)), (2, (2, 169)), (1, (2, 0)), (0, (6, 0))] []) : vc (zz sl si fm) (fun p => Nat.beq p 2296) K Q mL_law 39 1001 (ax_jmp mL_law.2.2.2.2.2.2 1001) h [(3, (0, i)), (2, (2, 169)), (1, (2, 0)), (0, (6, 0))] [] := H
set_option maxRecDepth 100000 in
theorem gv_forge (hX : CTX dC dI dA sp H0 l ρ0 ad rf L) : GC J9 L sp ad ρ0 1001 := gc_vc (fun h i hT hJ => v_c_forge (fun b1 r2 => (fun b3 r4 => (fun b5 r6 => (fun h1 v1 p1 q1 => (fun b7 r8 => (fun b9 r10 => (fun b11 r12 => (fun h2 v2 p2 q2 => (by exact ⟨rfl, fr_X12_forge hX (fr_X11_forge hX hT (by exact (And.intro rfl (And.intro (And.intro rfl r2) (And.intro (And.intro rfl r4) (And.intro (And.intro rfl r6) trivial))))) p1) (by exact (And.intro rfl (And.intro (And.intro rfl r2) (And.intro (And.intro rfl r4) (And.intro (And.intro rfl r6) trivial))))) p2, (pr_forge9 hJ (fw_X11_forge hX hT (by exact (And.intro rfl (And.intro (And.intro rfl r2) (And.intro (And.intro rfl r4) (And.intro (And.intro rfl r6) trivial))))) p1) (fw_X12_forge hX (fr_X11_forge hX hT (by exact (And.intro rfl (And.intro (And.intro rfl r2) (And.intro (And.intro rfl r4) (And.intro (And.intro rfl r6) trivial))))) p1) (by exact (And.intro rfl (And.intro (And.intro rfl r2) (And.intro (And.intro rfl r4) (And.intro (And.intro rfl r6) trivial))))) p2) p1 p2).1, rfl, rfl, rfl, rfl, trivial⟩))))))))))
set_option maxRecDepth 100000 in
theorem fk_X11_salt : frk tbq U0q un459 [(2, 0), (0, 0), (3, 0)] = true := by decide +kernel
theorem fr_X11_salt (hX : CTX dC dI dA sp H0 l ρ0 ad rf L) {h h' : PH} {as r : List ZV} (hT : Tq tbq L sp ad U0q h) (has : asok [(2, 0), (0, 0), (3, 0)] as) (hc : CP (zq sp ρ0) mX11_salt h as h' r) : Tq tbq L sp ad U0q h' :=
  (fr_ok u0_n u0_w u0_l u0_f (ug459 dC dI dA sp H0 l ρ0 ad rf L hX.1 (by have := hX.2.1; omega) hX.2.2.1) (show mqq 8 1 = some mX11_salt from rfl) (mth_gd (a := 8) (b := 1) rfl) hX.2.2.2.1 fk_X11_salt hT has hc).1
set_option maxRecDepth 100000 in
theorem fww_X11_salt : wfr FLV un459.2.2.2.1 = true := by decide +kernel
theorem fw_X11_salt (hX : CTX dC dI dA sp H0 l ρ0 ad rf L) {h h' : PH} {as r : List ZV} (hT : Tq tbq L sp ad U0q h) (has : asok [(2, 0), (0, 0), (3, 0)] as) (hc : CP (zq sp ρ0) mX11_salt h as h' r) : Frm FLV h h' := fun g hg k h1 h2 =>
  (fr_ok u0_n u0_w u0_l u0_f (ug459 dC dI dA sp H0 l ρ0 ad rf L hX.1 (by have := hX.2.1; omega) hX.2.2.1) (show mqq 8 1 = some mX11_salt from rfl) (mth_gd (a := 8) (b := 1) rfl) hX.2.2.2.1 fk_X11_salt hT has hc).2 _ _ (wfr_ok fww_X11_salt hg h1 h2)
set_option maxRecDepth 100000 in
theorem fk_X12_salt : frk tbq U0q un460 [(2, 169), (0, 0), (3, 0)] = true := by decide +kernel
theorem fr_X12_salt (hX : CTX dC dI dA sp H0 l ρ0 ad rf L) {h h' : PH} {as r : List ZV} (hT : Tq tbq L sp ad U0q h) (has : asok [(2, 169), (0, 0), (3, 0)] as) (hc : CP (zq sp ρ0) mX12_salt h as h' r) : Tq tbq L sp ad U0q h' :=
  (fr_ok u0_n u0_w u0_l u0_f (ug460 dC dI dA sp H0 l ρ0 ad rf L hX.1 (by have := hX.2.1; omega) hX.2.2.1) (show mqq 16 0 = some mX12_salt from rfl) (mth_gd (a := 16) (b := 0) rfl) hX.2.2.2.1 fk_X12_salt hT has hc).1
set_option maxRecDepth 100000 in
theorem fww_X12_salt : wfr FLV un460.2.2.2.1 = true := by decide +kernel
theorem fw_X12_salt (hX : CTX dC dI dA sp H0 l ρ0 ad rf L) {h h' : PH} {as r : List ZV} (hT : Tq tbq L sp ad U0q h) (has : asok [(2, 169), (0, 0), (3, 0)] as) (hc : CP (zq sp ρ0) mX12_salt h as h' r) : Frm FLV h h' := fun g hg k h1 h2 =>
  (fr_ok u0_n u0_w u0_l u0_f (ug460 dC dI dA sp H0 l ρ0 ad rf L hX.1 (by have := hX.2.1; omega) hX.2.2.1) (show mqq 16 0 = some mX12_salt from rfl) (mth_gd (a := 16) (b := 0) rfl) hX.2.2.2.1 fk_X12_salt hT has hc).2 _ _ (wfr_ok fww_X12_salt hg h1 h2)
set_option maxRecDepth 40000 in
set_option maxHeartbeats 1600000 in
theorem v_c_salt {sl : Nat} {si : Nat → Int} {fm : ZV} {K : Nat → PH → ZL → List ZV → Prop} {Q : PH → List ZV → Prop} {h : PH} {i : Int} (H : 0 ≤ w32 (i + 1) ∧ w32 (i + 1) < sl → R32 (si (w32 (i + 1)).toNat) → 0 ≤ w32 (i + 2) ∧ w32 (i + 2) < sl → R32 (si (w32 (i + 2)).toNat) → ((si (w32 (i + 2)).toNat) = 0 → ∀ h1 v1, CP (zz sl si fm) mX11_salt h [(2, 0), (0, (si (w32 (i + 1)).toNat)), (0, 0)] h1 [(0, v1)] → v1 = 0 ∨ v1 = 1 → 0 ≤ w32 (i + 1) ∧ w32 (i + 1) < sl → R32 (si (w32 (i + 1)).toNat) → 0 ≤ w32 (i + 2) ∧ w32 (i + 2) < sl → R32 (si (w32 (i + 2)).toNat) → ((si (w32 (i + 2)).toNat) = 0 → ∀ h2 v2, CP (zz sl si fm) mX12_salt h1 [(2, 169), (0, (si (w32 (i + 1)).toNat)), (0, 0)] h2 [(0, v2)] → v2 = 0 ∨ v2 = 1 → K 2296 h2 [(3, (0, i)), (2, (2, 169)), (1, (2, 0)), (0, (6, 0))] []) ∧ (¬ ((si (w32 (i + 2)).toNat) = 0) → ∀ h3 v3, CP (zz sl si fm) mX12_salt h1 [(2, 169), (0, (si (w32 (i + 1)).toNat)), (0, 1)] h3 [(0, v3)] → v3 = 0 ∨ v3 = 1 → K 2296 h3 [(3, (0, i)), (2, (2, 169)), (1, (2, 0)), (0, (6, 0))] [])) ∧ (¬ ((si (w32 (i + 2)).toNat) = 0) → ∀ h4 v4, CP (zz sl si fm) mX11_salt h [(2, 0), (0, (si (w32 (i + 1)).toNat)), (0, 1)] h4 [(0, v4)] → v4 = 0 ∨ v4 = 1 → 0 ≤ w32 (i + 1) ∧ w32 (i + 1) < sl → R32 (si (w32 (i + 1)).toNat) → 0 ≤ w32 (i + 2) ∧ w32 (i + 2) < sl → R32 (si (w32 (i + 2)).toNat) → ((si (w32 (i + 2)).toNat) = 0 → ∀ h5 v5, CP (zz sl si fm) mX12_salt h4 [(2, 169), (0, (si (w32 (i + 1)).toNat)), (0, 0)] h5 [(0, v5)] → v5 = 0 ∨ v5 = 1 → K 2296 h5 [(3, (0, i)), (2, (2, 169)), (1, (2, 0)), (0, (6, 0))] []) ∧ (¬ ((si (w32 (i + 2)).toNat) = 0) → ∀ h6 v6, CP (zz sl si fm) mX12_salt h4 [(2, 169), (0, (si (w32 (i + 1)).toNat)), (0, 1)] h6 [(0, v6)] → v6 = 0 ∨ v6 = 1 → K 2296 h6 [(3, (0, i)), (2, (2, 169)), (1, (2, 0)), (0, (6, 0))] []))) : vc (zz sl si fm) (fun p => Nat.beq p 2296) K Q mL_law 35 1044 (ax_jmp mL_law.2.2.2.2.2.2 1044) h [(3, (0, i)), (2, (2, 169)), (1, (2, 0)), (0, (6, 0))] [] := H
set_option maxRecDepth 100000 in
theorem gv_salt (hX : CTX dC dI dA sp H0 l ρ0 ad rf L) : GC J9 L sp ad ρ0 1044 := gc_vc (fun h i hT hJ => v_c_salt (fun b1 r2 => (fun b3 r4 => ⟨fun c5 => (fun h1 v1 p1 q1 => (fun b6 r7 => (fun b8 r9 => ⟨fun c10 => (fun h2 v2 p2 q2 => (by exact ⟨rfl, fr_X12_salt hX (fr_X11_salt hX hT (by exact (And.intro rfl (And.intro (And.intro rfl r2) (And.intro (And.intro rfl (Or.inl rfl)) trivial)))) p1) (by exact (And.intro rfl (And.intro (And.intro rfl r2) (And.intro (And.intro rfl (Or.inl rfl)) trivial)))) p2, (pr_salt9 hJ (Or.inl rfl) (fw_X11_salt hX hT (by exact (And.intro rfl (And.intro (And.intro rfl r2) (And.intro (And.intro rfl (Or.inl rfl)) trivial)))) p1) (fw_X12_salt hX (fr_X11_salt hX hT (by exact (And.intro rfl (And.intro (And.intro rfl r2) (And.intro (And.intro rfl (Or.inl rfl)) trivial)))) p1) (by exact (And.intro rfl (And.intro (And.intro rfl r2) (And.intro (And.intro rfl (Or.inl rfl)) trivial)))) p2) p1 p2).1, rfl, rfl, rfl, rfl, trivial⟩)), fun c10 => (fun h3 v3 p3 q3 => (by omega))⟩))), fun c5 => (fun h4 v4 p4 q4 => (fun b11 r12 => (fun b13 r14 => ⟨fun c15 => (fun h5 v5 p5 q5 => (by omega)), fun c15 => (fun h6 v6 p6 q6 => (by exact ⟨rfl, fr_X12_salt hX (fr_X11_salt hX hT (by exact (And.intro rfl (And.intro (And.intro rfl r2) (And.intro (And.intro rfl (Or.inr rfl)) trivial)))) p4) (by exact (And.intro rfl (And.intro (And.intro rfl r2) (And.intro (And.intro rfl (Or.inr rfl)) trivial)))) p6, (pr_salt9 hJ (Or.inr rfl) (fw_X11_salt hX hT (by exact (And.intro rfl (And.intro (And.intro rfl r2) (And.intro (And.intro rfl (Or.inr rfl)) trivial)))) p4) (fw_X12_salt hX (fr_X11_salt hX hT (by exact (And.intro rfl (And.intro (And.intro rfl r2) (And.intro (And.intro rfl (Or.inr rfl)) trivial)))) p4) (by exact (And.intro rfl (And.intro (And.intro rfl r2) (And.intro (And.intro rfl (Or.inr rfl)) trivial)))) p6) p4 p6).1, rfl, rfl, rfl, rfl, trivial⟩))⟩)))⟩)))
set_option maxRecDepth 100000 in
theorem fk_X11_keep : frk tbq U0q un456 [(2, 0), (0, 0), (3, 0)] = true := by decide +kernel
theorem fr_X11_keep (hX : CTX dC dI dA sp H0 l ρ0 ad rf L) {h h' : PH} {as r : List ZV} (hT : Tq tbq L sp ad U0q h) (has : asok [(2, 0), (0, 0), (3, 0)] as) (hc : CP (zq sp ρ0) mX11_keep h as h' r) : Tq tbq L sp ad U0q h' :=
  (fr_ok u0_n u0_w u0_l u0_f (ug456 dC dI dA sp H0 l ρ0 ad rf L hX.1 (by have := hX.2.1; omega) hX.2.2.1) (show mqq 8 2 = some mX11_keep from rfl) (mth_gd (a := 8) (b := 2) rfl) hX.2.2.2.1 fk_X11_keep hT has hc).1
set_option maxRecDepth 100000 in
theorem fww_X11_keep : wfr FLV un456.2.2.2.1 = true := by decide +kernel
theorem fw_X11_keep (hX : CTX dC dI dA sp H0 l ρ0 ad rf L) {h h' : PH} {as r : List ZV} (hT : Tq tbq L sp ad U0q h) (has : asok [(2, 0), (0, 0), (3, 0)] as) (hc : CP (zq sp ρ0) mX11_keep h as h' r) : Frm FLV h h' := fun g hg k h1 h2 =>
  (fr_ok u0_n u0_w u0_l u0_f (ug456 dC dI dA sp H0 l ρ0 ad rf L hX.1 (by have := hX.2.1; omega) hX.2.2.1) (show mqq 8 2 = some mX11_keep from rfl) (mth_gd (a := 8) (b := 2) rfl) hX.2.2.2.1 fk_X11_keep hT has hc).2 _ _ (wfr_ok fww_X11_keep hg h1 h2)
set_option maxRecDepth 100000 in
theorem fk_X12_keep : frk tbq U0q un457 [(2, 169), (0, 0), (3, 0)] = true := by decide +kernel
theorem fr_X12_keep (hX : CTX dC dI dA sp H0 l ρ0 ad rf L) {h h' : PH} {as r : List ZV} (hT : Tq tbq L sp ad U0q h) (has : asok [(2, 169), (0, 0), (3, 0)] as) (hc : CP (zq sp ρ0) mX12_keep h as h' r) : Tq tbq L sp ad U0q h' :=
  (fr_ok u0_n u0_w u0_l u0_f (ug457 dC dI dA sp H0 l ρ0 ad rf L hX.1 (by have := hX.2.1; omega) hX.2.2.1) (show mqq 16 1 = some mX12_keep from rfl) (mth_gd (a := 16) (b := 1) rfl) hX.2.2.2.1 fk_X12_keep hT has hc).1
set_option maxRecDepth 100000 in
theorem fww_X12_keep : wfr FLV un457.2.2.2.1 = true := by decide +kernel
theorem fw_X12_keep (hX : CTX dC dI dA sp H0 l ρ0 ad rf L) {h h' : PH} {as r : List ZV} (hT : Tq tbq L sp ad U0q h) (has : asok [(2, 169), (0, 0), (3, 0)] as) (hc : CP (zq sp ρ0) mX12_keep h as h' r) : Frm FLV h h' := fun g hg k h1 h2 =>
  (fr_ok u0_n u0_w u0_l u0_f (ug457 dC dI dA sp H0 l ρ0 ad rf L hX.1 (by have := hX.2.1; omega) hX.2.2.1) (show mqq 16 1 = some mX12_keep from rfl) (mth_gd (a := 16) (b := 1) rfl) hX.2.2.2.1 fk_X12_keep hT has hc).2 _ _ (wfr_ok fww_X12_keep hg h1 h2)
set_option maxRecDepth 40000 in
set_option maxHeartbeats 1600000 in
theorem v_c_keep {sl : Nat} {si : Nat → Int} {fm : ZV} {K : Nat → PH → ZL → List ZV → Prop} {Q : PH → List ZV → Prop} {h : PH} {i : Int} (H : 0 ≤ w32 (i + 1) ∧ w32 (i + 1) < sl → R32 (si (w32 (i + 1)).toNat) → 0 ≤ w32 (i + 2) ∧ w32 (i + 2) < sl → R32 (si (w32 (i + 2)).toNat) → ((si (w32 (i + 2)).toNat) = 0 → ∀ h1 v1, CP (zz sl si fm) mX11_keep h [(2, 0), (0, (si (w32 (i + 1)).toNat)), (0, 0)] h1 [(0, v1)] → v1 = 0 ∨ v1 = 1 → 0 ≤ w32 (i + 1) ∧ w32 (i + 1) < sl → R32 (si (w32 (i + 1)).toNat) → 0 ≤ w32 (i + 2) ∧ w32 (i + 2) < sl → R32 (si (w32 (i + 2)).toNat) → ((si (w32 (i + 2)).toNat) = 0 → ∀ h2 v2, CP (zz sl si fm) mX12_keep h1 [(2, 169), (0, (si (w32 (i + 1)).toNat)), (0, 0)] h2 [(0, v2)] → v2 = 0 ∨ v2 = 1 → K 2296 h2 [(3, (0, i)), (2, (2, 169)), (1, (2, 0)), (0, (6, 0))] []) ∧ (¬ ((si (w32 (i + 2)).toNat) = 0) → ∀ h3 v3, CP (zz sl si fm) mX12_keep h1 [(2, 169), (0, (si (w32 (i + 1)).toNat)), (0, 1)] h3 [(0, v3)] → v3 = 0 ∨ v3 = 1 → K 2296 h3 [(3, (0, i)), (2, (2, 169)), (1, (2, 0)), (0, (6, 0))] [])) ∧ (¬ ((si (w32 (i + 2)).toNat) = 0) → ∀ h4 v4, CP (zz sl si fm) mX11_keep h [(2, 0), (0, (si (w32 (i + 1)).toNat)), (0, 1)] h4 [(0, v4)] → v4 = 0 ∨ v4 = 1 → 0 ≤ w32 (i + 1) ∧ w32 (i + 1) < sl → R32 (si (w32 (i + 1)).toNat) → 0 ≤ w32 (i + 2) ∧ w32 (i + 2) < sl → R32 (si (w32 (i + 2)).toNat) → ((si (w32 (i + 2)).toNat) = 0 → ∀ h5 v5, CP (zz sl si fm) mX12_keep h4 [(2, 169), (0, (si (w32 (i + 1)).toNat)), (0, 0)] h5 [(0, v5)] → v5 = 0 ∨ v5 = 1 → K 2296 h5 [(3, (0, i)), (2, (2, 169)), (1, (2, 0)), (0, (6, 0))] []) ∧ (¬ ((si (w32 (i + 2)).toNat) = 0) → ∀ h6 v6, CP (zz sl si fm) mX12_keep h4 [(2, 169), (0, (si (w32 (i + 1)).toNat)), (0, 1)] h6 [(0, v6)] → v6 = 0 ∨ v6 = 1 → K 2296 h6 [(3, (0, i)), (2, (2, 169)), (1, (2, 0)), (0, (6, 0))] []))) : vc (zz sl si fm) (fun p => Nat.beq p 2296) K Q mL_law 35 1093 (ax_jmp mL_law.2.2.2.2.2.2 1093) h [(3, (0, i)), (2, (2, 169)), (1, (2, 0)), (0, (6, 0))] [] := H
set_option maxRecDepth 100000 in
theorem gv_keep (hX : CTX dC dI dA sp H0 l ρ0 ad rf L) : GC J9 L sp ad ρ0 1093 := gc_vc (fun h i hT hJ => v_c_keep (fun b1 r2 => (fun b3 r4 => ⟨fun c5 => (fun h1 v1 p1 q1 => (fun b6 r7 => (fun b8 r9 => ⟨fun c10 => (fun h2 v2 p2 q2 => (by exact ⟨rfl, fr_X12_keep hX (fr_X11_keep hX hT (by exact (And.intro rfl (And.intro (And.intro rfl r2) (And.intro (And.intro rfl (Or.inl rfl)) trivial)))) p1) (by exact (And.intro rfl (And.intro (And.intro rfl r2) (And.intro (And.intro rfl (Or.inl rfl)) trivial)))) p2, (pr_keep9 hJ (Or.inl rfl) (fw_X11_keep hX hT (by exact (And.intro rfl (And.intro (And.intro rfl r2) (And.intro (And.intro rfl (Or.inl rfl)) trivial)))) p1) (fw_X12_keep hX (fr_X11_keep hX hT (by exact (And.intro rfl (And.intro (And.intro rfl r2) (And.intro (And.intro rfl (Or.inl rfl)) trivial)))) p1) (by exact (And.intro rfl (And.intro (And.intro rfl r2) (And.intro (And.intro rfl (Or.inl rfl)) trivial)))) p2) p1 p2).1, rfl, rfl, rfl, rfl, trivial⟩)), fun c10 => (fun h3 v3 p3 q3 => (by omega))⟩))), fun c5 => (fun h4 v4 p4 q4 => (fun b11 r12 => (fun b13 r14 => ⟨fun c15 => (fun h5 v5 p5 q5 => (by omega)), fun c15 => (fun h6 v6 p6 q6 => (by exact ⟨rfl, fr_X12_keep hX (fr_X11_keep hX hT (by exact (And.intro rfl (And.intro (And.intro rfl r2) (And.intro (And.intro rfl (Or.inr rfl)) trivial)))) p4) (by exact (And.intro rfl (And.intro (And.intro rfl r2) (And.intro (And.intro rfl (Or.inr rfl)) trivial)))) p6, (pr_keep9 hJ (Or.inr rfl) (fw_X11_keep hX hT (by exact (And.intro rfl (And.intro (And.intro rfl r2) (And.intro (And.intro rfl (Or.inr rfl)) trivial)))) p4) (fw_X12_keep hX (fr_X11_keep hX hT (by exact (And.intro rfl (And.intro (And.intro rfl r2) (And.intro (And.intro rfl (Or.inr rfl)) trivial)))) p4) (by exact (And.intro rfl (And.intro (And.intro rfl r2) (And.intro (And.intro rfl (Or.inr rfl)) trivial)))) p6) p4 p6).1, rfl, rfl, rfl, rfl, trivial⟩))⟩)))⟩)))
set_option maxRecDepth 100000 in
theorem fk_X11_wall : frk tbq U0q un453 [(2, 0), (0, 0), (0, 0), (3, 0)] = true := by decide +kernel
theorem fr_X11_wall (hX : CTX dC dI dA sp H0 l ρ0 ad rf L) {h h' : PH} {as r : List ZV} (hT : Tq tbq L sp ad U0q h) (has : asok [(2, 0), (0, 0), (0, 0), (3, 0)] as) (hc : CP (zq sp ρ0) mX11_wall h as h' r) : Tq tbq L sp ad U0q h' :=
  (fr_ok u0_n u0_w u0_l u0_f (ug453 dC dI dA sp H0 l ρ0 ad rf L hX.1 (by have := hX.2.1; omega) hX.2.2.1) (show mqq 8 3 = some mX11_wall from rfl) (mth_gd (a := 8) (b := 3) rfl) hX.2.2.2.1 fk_X11_wall hT has hc).1
set_option maxRecDepth 100000 in
theorem fww_X11_wall : wfr FLV un453.2.2.2.1 = true := by decide +kernel
theorem fw_X11_wall (hX : CTX dC dI dA sp H0 l ρ0 ad rf L) {h h' : PH} {as r : List ZV} (hT : Tq tbq L sp ad U0q h) (has : asok [(2, 0), (0, 0), (0, 0), (3, 0)] as) (hc : CP (zq sp ρ0) mX11_wall h as h' r) : Frm FLV h h' := fun g hg k h1 h2 =>
  (fr_ok u0_n u0_w u0_l u0_f (ug453 dC dI dA sp H0 l ρ0 ad rf L hX.1 (by have := hX.2.1; omega) hX.2.2.1) (show mqq 8 3 = some mX11_wall from rfl) (mth_gd (a := 8) (b := 3) rfl) hX.2.2.2.1 fk_X11_wall hT has hc).2 _ _ (wfr_ok fww_X11_wall hg h1 h2)
set_option maxRecDepth 100000 in
theorem fk_X12_wall : frk tbq U0q un454 [(2, 169), (0, 0), (0, 0), (3, 0)] = true := by decide +kernel
theorem fr_X12_wall (hX : CTX dC dI dA sp H0 l ρ0 ad rf L) {h h' : PH} {as r : List ZV} (hT : Tq tbq L sp ad U0q h) (has : asok [(2, 169), (0, 0), (0, 0), (3, 0)] as) (hc : CP (zq sp ρ0) mX12_wall h as h' r) : Tq tbq L sp ad U0q h' :=
  (fr_ok u0_n u0_w u0_l u0_f (ug454 dC dI dA sp H0 l ρ0 ad rf L hX.1 (by have := hX.2.1; omega) hX.2.2.1) (show mqq 16 2 = some mX12_wall from rfl) (mth_gd (a := 16) (b := 2) rfl) hX.2.2.2.1 fk_X12_wall hT has hc).1
set_option maxRecDepth 100000 in
theorem fww_X12_wall : wfr FLV un454.2.2.2.1 = true := by decide +kernel
theorem fw_X12_wall (hX : CTX dC dI dA sp H0 l ρ0 ad rf L) {h h' : PH} {as r : List ZV} (hT : Tq tbq L sp ad U0q h) (has : asok [(2, 169), (0, 0), (0, 0), (3, 0)] as) (hc : CP (zq sp ρ0) mX12_wall h as h' r) : Frm FLV h h' := fun g hg k h1 h2 =>
  (fr_ok u0_n u0_w u0_l u0_f (ug454 dC dI dA sp H0 l ρ0 ad rf L hX.1 (by have := hX.2.1; omega) hX.2.2.1) (show mqq 16 2 = some mX12_wall from rfl) (mth_gd (a := 16) (b := 2) rfl) hX.2.2.2.1 fk_X12_wall hT has hc).2 _ _ (wfr_ok fww_X12_wall hg h1 h2)
set_option maxRecDepth 40000 in
set_option maxHeartbeats 1600000 in
theorem v_c_wall {sl : Nat} {si : Nat → Int} {fm : ZV} {K : Nat → PH → ZL → List ZV → Prop} {Q : PH → List ZV → Prop} {h : PH} {i : Int} (H : 0 ≤ w32 (i + 1) ∧ w32 (i + 1) < sl → R32 (si (w32 (i + 1)).toNat) → 0 ≤ w32 (i + 2) ∧ w32 (i + 2) < sl → R32 (si (w32 (i + 2)).toNat) → 0 ≤ w32 (i + 3) ∧ w32 (i + 3) < sl → R32 (si (w32 (i + 3)).toNat) → ((si (w32 (i + 3)).toNat) = 0 → ∀ h1 v1, CP (zz sl si fm) mX11_wall h [(2, 0), (0, (si (w32 (i + 1)).toNat)), (0, (si (w32 (i + 2)).toNat)), (0, 0)] h1 [(0, v1)] → v1 = 0 ∨ v1 = 1 → 0 ≤ w32 (i + 1) ∧ w32 (i + 1) < sl → R32 (si (w32 (i + 1)).toNat) → 0 ≤ w32 (i + 2) ∧ w32 (i + 2) < sl → R32 (si (w32 (i + 2)).toNat) → 0 ≤ w32 (i + 3) ∧ w32 (i + 3) < sl → R32 (si (w32 (i + 3)).toNat) → ((si (w32 (i + 3)).toNat) = 0 → ∀ h2 v2, CP (zz sl si fm) mX12_wall h1 [(2, 169), (0, (si (w32 (i + 1)).toNat)), (0, (si (w32 (i + 2)).toNat)), (0, 0)] h2 [(0, v2)] → v2 = 0 ∨ v2 = 1 → K 2296 h2 [(3, (0, i)), (2, (2, 169)), (1, (2, 0)), (0, (6, 0))] []) ∧ (¬ ((si (w32 (i + 3)).toNat) = 0) → ∀ h3 v3, CP (zz sl si fm) mX12_wall h1 [(2, 169), (0, (si (w32 (i + 1)).toNat)), (0, (si (w32 (i + 2)).toNat)), (0, 1)] h3 [(0, v3)] → v3 = 0 ∨ v3 = 1 → K 2296 h3 [(3, (0, i)), (2, (2, 169)), (1, (2, 0)), (0, (6, 0))] [])) ∧ (¬ ((si (w32 (i + 3)).toNat) = 0) → ∀ h4 v4, CP (zz sl si fm) mX11_wall h [(2, 0), (0, (si (w32 (i + 1)).toNat)), (0, (si (w32 (i + 2)).toNat)), (0, 1)] h4 [(0, v4)] → v4 = 0 ∨ v4 = 1 → 0 ≤ w32 (i + 1) ∧ w32 (i + 1) < sl → R32 (si (w32 (i + 1)).toNat) → 0 ≤ w32 (i + 2) ∧ w32 (i + 2) < sl → R32 (si (w32 (i + 2)).toNat) → 0 ≤ w32 (i + 3) ∧ w32 (i + 3) < sl → R32 (si (w32 (i + 3)).toNat) → ((si (w32 (i + 3)).toNat) = 0 → ∀ h5 v5, CP (zz sl si fm) mX12_wall h4 [(2, 169), (0, (si (w32 (i + 1)).toNat)), (0, (si (w32 (i + 2)).toNat)), (0, 0)] h5 [(0, v5)] → v5 = 0 ∨ v5 = 1 → K 2296 h5 [(3, (0, i)), (2, (2, 169)), (1, (2, 0)), (0, (6, 0))] []) ∧ (¬ ((si (w32 (i + 3)).toNat) = 0) → ∀ h6 v6, CP (zz sl si fm) mX12_wall h4 [(2, 169), (0, (si (w32 (i + 1)).toNat)), (0, (si (w32 (i + 2)).toNat)), (0, 1)] h6 [(0, v6)] → v6 = 0 ∨ v6 = 1 → K 2296 h6 [(3, (0, i)), (2, (2, 169)), (1, (2, 0)), (0, (6, 0))] []))) : vc (zz sl si fm) (fun p => Nat.beq p 2296) K Q mL_law 45 1142 (ax_jmp mL_law.2.2.2.2.2.2 1142) h [(3, (0, i)), (2, (2, 169)), (1, (2, 0)), (0, (6, 0))] [] := H
set_option maxRecDepth 100000 in
theorem gv_wall (hX : CTX dC dI dA sp H0 l ρ0 ad rf L) : GC J9 L sp ad ρ0 1142 := gc_vc (fun h i hT hJ => v_c_wall (fun b1 r2 => (fun b3 r4 => (fun b5 r6 => ⟨fun c7 => (fun h1 v1 p1 q1 => (fun b8 r9 => (fun b10 r11 => (fun b12 r13 => ⟨fun c14 => (fun h2 v2 p2 q2 => (by exact ⟨rfl, fr_X12_wall hX (fr_X11_wall hX hT (by exact (And.intro rfl (And.intro (And.intro rfl r2) (And.intro (And.intro rfl r4) (And.intro (And.intro rfl (Or.inl rfl)) trivial))))) p1) (by exact (And.intro rfl (And.intro (And.intro rfl r2) (And.intro (And.intro rfl r4) (And.intro (And.intro rfl (Or.inl rfl)) trivial))))) p2, (pr_wall9 hJ (Or.inl rfl) (fw_X11_wall hX hT (by exact (And.intro rfl (And.intro (And.intro rfl r2) (And.intro (And.intro rfl r4) (And.intro (And.intro rfl (Or.inl rfl)) trivial))))) p1) (fw_X12_wall hX (fr_X11_wall hX hT (by exact (And.intro rfl (And.intro (And.intro rfl r2) (And.intro (And.intro rfl r4) (And.intro (And.intro rfl (Or.inl rfl)) trivial))))) p1) (by exact (And.intro rfl (And.intro (And.intro rfl r2) (And.intro (And.intro rfl r4) (And.intro (And.intro rfl (Or.inl rfl)) trivial))))) p2) p1 p2).1, rfl, rfl, rfl, rfl, trivial⟩)), fun c14 => (fun h3 v3 p3 q3 => (by omega))⟩)))), fun c7 => (fun h4 v4 p4 q4 => (fun b15 r16 => (fun b17 r18 => (fun b19 r20 => ⟨fun c21 => (fun h5 v5 p5 q5 => (by omega)), fun c21 => (fun h6 v6 p6 q6 => (by exact ⟨rfl, fr_X12_wall hX (fr_X11_wall hX hT (by exact (And.intro rfl (And.intro (And.intro rfl r2) (And.intro (And.intro rfl r4) (And.intro (And.intro rfl (Or.inr rfl)) trivial))))) p4) (by exact (And.intro rfl (And.intro (And.intro rfl r2) (And.intro (And.intro rfl r4) (And.intro (And.intro rfl (Or.inr rfl)) trivial))))) p6, (pr_wall9 hJ (Or.inr rfl) (fw_X11_wall hX hT (by exact (And.intro rfl (And.intro (And.intro rfl r2) (And.intro (And.intro rfl r4) (And.intro (And.intro rfl (Or.inr rfl)) trivial))))) p4) (fw_X12_wall hX (fr_X11_wall hX hT (by exact (And.intro rfl (And.intro (And.intro rfl r2) (And.intro (And.intro rfl r4) (And.intro (And.intro rfl (Or.inr rfl)) trivial))))) p4) (by exact (And.intro rfl (And.intro (And.intro rfl r2) (And.intro (And.intro rfl r4) (And.intro (And.intro rfl (Or.inr rfl)) trivial))))) p6) p4 p6).1, rfl, rfl, rfl, rfl, trivial⟩))⟩))))⟩))))
set_option maxRecDepth 100000 in
theorem fk_X11_move : frk tbq U0q un450 [(2, 0), (0, 0), (0, 0)] = true := by decide +kernel
theorem fr_X11_move (hX : CTX dC dI dA sp H0 l ρ0 ad rf L) {h h' : PH} {as r : List ZV} (hT : Tq tbq L sp ad U0q h) (has : asok [(2, 0), (0, 0), (0, 0)] as) (hc : CP (zq sp ρ0) mX11_move h as h' r) : Tq tbq L sp ad U0q h' :=
  (fr_ok u0_n u0_w u0_l u0_f (ug450 dC dI dA sp H0 l ρ0 ad rf L hX.1 (by have := hX.2.1; omega) hX.2.2.1) (show mqq 8 4 = some mX11_move from rfl) (mth_gd (a := 8) (b := 4) rfl) hX.2.2.2.1 fk_X11_move hT has hc).1
set_option maxRecDepth 100000 in
theorem fww_X11_move : wfr FLV un450.2.2.2.1 = true := by decide +kernel
theorem fw_X11_move (hX : CTX dC dI dA sp H0 l ρ0 ad rf L) {h h' : PH} {as r : List ZV} (hT : Tq tbq L sp ad U0q h) (has : asok [(2, 0), (0, 0), (0, 0)] as) (hc : CP (zq sp ρ0) mX11_move h as h' r) : Frm FLV h h' := fun g hg k h1 h2 =>
  (fr_ok u0_n u0_w u0_l u0_f (ug450 dC dI dA sp H0 l ρ0 ad rf L hX.1 (by have := hX.2.1; omega) hX.2.2.1) (show mqq 8 4 = some mX11_move from rfl) (mth_gd (a := 8) (b := 4) rfl) hX.2.2.2.1 fk_X11_move hT has hc).2 _ _ (wfr_ok fww_X11_move hg h1 h2)
set_option maxRecDepth 100000 in
theorem fk_X12_move : frk tbq U0q un451 [(2, 169), (0, 0), (0, 0)] = true := by decide +kernel
theorem fr_X12_move (hX : CTX dC dI dA sp H0 l ρ0 ad rf L) {h h' : PH} {as r : List ZV} (hT : Tq tbq L sp ad U0q h) (has : asok [(2, 169), (0, 0), (0, 0)] as) (hc : CP (zq sp ρ0) mX12_move h as h' r) : Tq tbq L sp ad U0q h' :=
  (fr_ok u0_n u0_w u0_l u0_f (ug451 dC dI dA sp H0 l ρ0 ad rf L hX.1 (by have := hX.2.1; omega) hX.2.2.1) (show mqq 16 3 = some mX12_move from rfl) (mth_gd (a := 16) (b := 3) rfl) hX.2.2.2.1 fk_X12_move hT has hc).1
set_option maxRecDepth 100000 in
theorem fww_X12_move : wfr FLV un451.2.2.2.1 = true := by decide +kernel
theorem fw_X12_move (hX : CTX dC dI dA sp H0 l ρ0 ad rf L) {h h' : PH} {as r : List ZV} (hT : Tq tbq L sp ad U0q h) (has : asok [(2, 169), (0, 0), (0, 0)] as) (hc : CP (zq sp ρ0) mX12_move h as h' r) : Frm FLV h h' := fun g hg k h1 h2 =>
  (fr_ok u0_n u0_w u0_l u0_f (ug451 dC dI dA sp H0 l ρ0 ad rf L hX.1 (by have := hX.2.1; omega) hX.2.2.1) (show mqq 16 3 = some mX12_move from rfl) (mth_gd (a := 16) (b := 3) rfl) hX.2.2.2.1 fk_X12_move hT has hc).2 _ _ (wfr_ok fww_X12_move hg h1 h2)
set_option maxRecDepth 40000 in
set_option maxHeartbeats 1600000 in
theorem v_c_move {sl : Nat} {si : Nat → Int} {fm : ZV} {K : Nat → PH → ZL → List ZV → Prop} {Q : PH → List ZV → Prop} {h : PH} {i : Int} (H : 0 ≤ w32 (i + 1) ∧ w32 (i + 1) < sl → R32 (si (w32 (i + 1)).toNat) → 0 ≤ w32 (i + 2) ∧ w32 (i + 2) < sl → R32 (si (w32 (i + 2)).toNat) → ∀ h1 v1, CP (zz sl si fm) mX11_move h [(2, 0), (0, (si (w32 (i + 1)).toNat)), (0, (si (w32 (i + 2)).toNat))] h1 [(0, v1)] → v1 = 0 ∨ v1 = 1 → 0 ≤ w32 (i + 1) ∧ w32 (i + 1) < sl → R32 (si (w32 (i + 1)).toNat) → 0 ≤ w32 (i + 2) ∧ w32 (i + 2) < sl → R32 (si (w32 (i + 2)).toNat) → ∀ h2 v2, CP (zz sl si fm) mX12_move h1 [(2, 169), (0, (si (w32 (i + 1)).toNat)), (0, (si (w32 (i + 2)).toNat))] h2 [(0, v2)] → v2 = 0 ∨ v2 = 1 → K 2296 h2 [(3, (0, i)), (2, (2, 169)), (1, (2, 0)), (0, (6, 0))] []) : vc (zz sl si fm) (fun p => Nat.beq p 2296) K Q mL_law 29 1201 (ax_jmp mL_law.2.2.2.2.2.2 1201) h [(3, (0, i)), (2, (2, 169)), (1, (2, 0)), (0, (6, 0))] [] := H
set_option maxRecDepth 100000 in
theorem gv_move (hX : CTX dC dI dA sp H0 l ρ0 ad rf L) : GC J9 L sp ad ρ0 1201 := gc_vc (fun h i hT hJ => v_c_move (fun b1 r2 => (fun b3 r4 => (fun h1 v1 p1 q1 => (fun b5 r6 => (fun b7 r8 => (fun h2 v2 p2 q2 => (by exact ⟨rfl, fr_X12_move hX (fr_X11_move hX hT (by exact (And.intro rfl (And.intro (And.intro rfl r2) (And.intro (And.intro rfl r4) trivial)))) p1) (by exact (And.intro rfl (And.intro (And.intro rfl r2) (And.intro (And.intro rfl r4) trivial)))) p2, (pr_move9 hJ (fw_X11_move hX hT (by exact (And.intro rfl (And.intro (And.intro rfl r2) (And.intro (And.intro rfl r4) trivial)))) p1) (fw_X12_move hX (fr_X11_move hX hT (by exact (And.intro rfl (And.intro (And.intro rfl r2) (And.intro (And.intro rfl r4) trivial)))) p1) (by exact (And.intro rfl (And.intro (And.intro rfl r2) (And.intro (And.intro rfl r4) trivial)))) p2) p1 p2).1, rfl, rfl, rfl, rfl, trivial⟩))))))))
set_option maxRecDepth 100000 in
theorem ck_1234 : cse tbq U0q un449 2296 = true := by decide +kernel
set_option maxRecDepth 100000 in
theorem wf_1234 : wfr F9 un449.2.2.2.1 = true := by decide +kernel
set_option maxRecDepth 100000 in
theorem ck_1267 : cse tbq U0q un446 2296 = true := by decide +kernel
set_option maxRecDepth 100000 in
theorem wf_1267 : wfr F9 un446.2.2.2.1 = true := by decide +kernel
set_option maxRecDepth 100000 in
theorem ck_1290 : cse tbq U0q un443 2296 = true := by decide +kernel
set_option maxRecDepth 100000 in
theorem wf_1290 : wfr F9 un443.2.2.2.1 = true := by decide +kernel
set_option maxRecDepth 100000 in
theorem fk_X11_walks : frk tbq U0q un438 [(2, 0), (0, 0), (0, 0)] = true := by decide +kernel
theorem fr_X11_walks (hX : CTX dC dI dA sp H0 l ρ0 ad rf L) {h h' : PH} {as r : List ZV} (hT : Tq tbq L sp ad U0q h) (has : asok [(2, 0), (0, 0), (0, 0)] as) (hc : CP (zq sp ρ0) mX11_walks h as h' r) : Tq tbq L sp ad U0q h' :=
  (fr_ok u0_n u0_w u0_l u0_f (ug438 dC dI dA sp H0 l ρ0 ad rf L hX.1 (by have := hX.2.1; omega) hX.2.2.1) (show mqq 8 8 = some mX11_walks from rfl) (mth_gd (a := 8) (b := 8) rfl) hX.2.2.2.1 fk_X11_walks hT has hc).1
set_option maxRecDepth 100000 in
theorem fww_X11_walks : wfr F9 un438.2.2.2.1 = true := by decide +kernel
theorem fw_X11_walks (hX : CTX dC dI dA sp H0 l ρ0 ad rf L) {h h' : PH} {as r : List ZV} (hT : Tq tbq L sp ad U0q h) (has : asok [(2, 0), (0, 0), (0, 0)] as) (hc : CP (zq sp ρ0) mX11_walks h as h' r) : Frm F9 h h' := fun g hg k h1 h2 =>
  (fr_ok u0_n u0_w u0_l u0_f (ug438 dC dI dA sp H0 l ρ0 ad rf L hX.1 (by have := hX.2.1; omega) hX.2.2.1) (show mqq 8 8 = some mX11_walks from rfl) (mth_gd (a := 8) (b := 8) rfl) hX.2.2.2.1 fk_X11_walks hT has hc).2 _ _ (wfr_ok fww_X11_walks hg h1 h2)
set_option maxRecDepth 100000 in
theorem fk_X12_walks : frk tbq U0q un439 [(2, 169), (0, 0), (0, 0)] = true := by decide +kernel
theorem fr_X12_walks (hX : CTX dC dI dA sp H0 l ρ0 ad rf L) {h h' : PH} {as r : List ZV} (hT : Tq tbq L sp ad U0q h) (has : asok [(2, 169), (0, 0), (0, 0)] as) (hc : CP (zq sp ρ0) mX12_walks h as h' r) : Tq tbq L sp ad U0q h' :=
  (fr_ok u0_n u0_w u0_l u0_f (ug439 dC dI dA sp H0 l ρ0 ad rf L hX.1 (by have := hX.2.1; omega) hX.2.2.1) (show mqq 16 11 = some mX12_walks from rfl) (mth_gd (a := 16) (b := 11) rfl) hX.2.2.2.1 fk_X12_walks hT has hc).1
set_option maxRecDepth 100000 in
theorem fww_X12_walks : wfr F9a un439.2.2.2.1 = true := by decide +kernel
theorem fw_X12_walks (hX : CTX dC dI dA sp H0 l ρ0 ad rf L) {h h' : PH} {as r : List ZV} (hT : Tq tbq L sp ad U0q h) (has : asok [(2, 169), (0, 0), (0, 0)] as) (hc : CP (zq sp ρ0) mX12_walks h as h' r) : Frm F9a h h' := fun g hg k h1 h2 =>
  (fr_ok u0_n u0_w u0_l u0_f (ug439 dC dI dA sp H0 l ρ0 ad rf L hX.1 (by have := hX.2.1; omega) hX.2.2.1) (show mqq 16 11 = some mX12_walks from rfl) (mth_gd (a := 16) (b := 11) rfl) hX.2.2.2.1 fk_X12_walks hT has hc).2 _ _ (wfr_ok fww_X12_walks hg h1 h2)
set_option maxRecDepth 40000 in
set_option maxHeartbeats 1600000 in
theorem v_c_walks {sl : Nat} {si : Nat → Int} {fm : ZV} {K : Nat → PH → ZL → List ZV → Prop} {Q : PH → List ZV → Prop} {h : PH} {i : Int} (H : 0 ≤ w32 (i + 1) ∧ w32 (i + 1) < sl → R32 (si (w32 (i + 1)).toNat) → 0 ≤ w32 (i + 2) ∧ w32 (i + 2) < sl → R32 (si (w32 (i + 2)).toNat) → ∀ h1 v1, CP (zz sl si fm) mX11_walks h [(2, 0), (0, (si (w32 (i + 1)).toNat)), (0, (si (w32 (i + 2)).toNat))] h1 [(0, v1)] → R32 v1 → 0 ≤ w32 (i + 1) ∧ w32 (i + 1) < sl → R32 (si (w32 (i + 1)).toNat) → 0 ≤ w32 (i + 2) ∧ w32 (i + 2) < sl → R32 (si (w32 (i + 2)).toNat) → ∀ h2 v2, CP (zz sl si fm) mX12_walks h1 [(2, 169), (0, (si (w32 (i + 1)).toNat)), (0, (si (w32 (i + 2)).toNat))] h2 [(0, v2)] → R32 v2 → K 2296 h2 [(3, (0, i)), (2, (2, 169)), (1, (2, 0)), (0, (6, 0))] []) : vc (zz sl si fm) (fun p => Nat.beq p 2296) K Q mL_law 29 1313 (ax_jmp mL_law.2.2.2.2.2.2 1313) h [(3, (0, i)), (2, (2, 169)), (1, (2, 0)), (0, (6, 0))] [] := H
set_option maxRecDepth 100000 in
theorem gv_walks (hX : CTX dC dI dA sp H0 l ρ0 ad rf L) : GC J9 L sp ad ρ0 1313 := gc_vc (fun h i hT hJ => v_c_walks (fun b1 r2 => (fun b3 r4 => (fun h1 v1 p1 q1 => (fun b5 r6 => (fun b7 r8 => (fun h2 v2 p2 q2 => (by exact ⟨rfl, fr_X12_walks hX (fr_X11_walks hX hT (by exact (And.intro rfl (And.intro (And.intro rfl r2) (And.intro (And.intro rfl r4) trivial)))) p1) (by exact (And.intro rfl (And.intro (And.intro rfl r2) (And.intro (And.intro rfl r4) trivial)))) p2, tr9 hJ (fw_X11_walks hX hT (by exact (And.intro rfl (And.intro (And.intro rfl r2) (And.intro (And.intro rfl r4) trivial)))) p1) (fw_X12_walks hX (fr_X11_walks hX hT (by exact (And.intro rfl (And.intro (And.intro rfl r2) (And.intro (And.intro rfl r4) trivial)))) p1) (by exact (And.intro rfl (And.intro (And.intro rfl r2) (And.intro (And.intro rfl r4) trivial)))) p2) (c_X12_walks (tq_B (fr_X11_walks hX hT (by exact (And.intro rfl (And.intro (And.intro rfl r2) (And.intro (And.intro rfl r4) trivial)))) p1)).1 (tq_B (fr_X11_walks hX hT (by exact (And.intro rfl (And.intro (And.intro rfl r2) (And.intro (And.intro rfl r4) trivial)))) p1)).2.1 p2).1, rfl, rfl, rfl, rfl, trivial⟩))))))))
set_option maxRecDepth 100000 in
theorem fk_X11_later : frk tbq U0q un435 [(2, 0), (0, 0), (0, 0)] = true := by decide +kernel
theorem fr_X11_later (hX : CTX dC dI dA sp H0 l ρ0 ad rf L) {h h' : PH} {as r : List ZV} (hT : Tq tbq L sp ad U0q h) (has : asok [(2, 0), (0, 0), (0, 0)] as) (hc : CP (zq sp ρ0) mX11_later h as h' r) : Tq tbq L sp ad U0q h' :=
  (fr_ok u0_n u0_w u0_l u0_f (ug435 dC dI dA sp H0 l ρ0 ad rf L hX.1 (by have := hX.2.1; omega) hX.2.2.1) (show mqq 8 9 = some mX11_later from rfl) (mth_gd (a := 8) (b := 9) rfl) hX.2.2.2.1 fk_X11_later hT has hc).1
set_option maxRecDepth 100000 in
theorem fww_X11_later : wfr F9 un435.2.2.2.1 = true := by decide +kernel
theorem fw_X11_later (hX : CTX dC dI dA sp H0 l ρ0 ad rf L) {h h' : PH} {as r : List ZV} (hT : Tq tbq L sp ad U0q h) (has : asok [(2, 0), (0, 0), (0, 0)] as) (hc : CP (zq sp ρ0) mX11_later h as h' r) : Frm F9 h h' := fun g hg k h1 h2 =>
  (fr_ok u0_n u0_w u0_l u0_f (ug435 dC dI dA sp H0 l ρ0 ad rf L hX.1 (by have := hX.2.1; omega) hX.2.2.1) (show mqq 8 9 = some mX11_later from rfl) (mth_gd (a := 8) (b := 9) rfl) hX.2.2.2.1 fk_X11_later hT has hc).2 _ _ (wfr_ok fww_X11_later hg h1 h2)
set_option maxRecDepth 100000 in
theorem fk_X12_later : frk tbq U0q un436 [(2, 169), (0, 0), (0, 0)] = true := by decide +kernel
theorem fr_X12_later (hX : CTX dC dI dA sp H0 l ρ0 ad rf L) {h h' : PH} {as r : List ZV} (hT : Tq tbq L sp ad U0q h) (has : asok [(2, 169), (0, 0), (0, 0)] as) (hc : CP (zq sp ρ0) mX12_later h as h' r) : Tq tbq L sp ad U0q h' :=
  (fr_ok u0_n u0_w u0_l u0_f (ug436 dC dI dA sp H0 l ρ0 ad rf L hX.1 (by have := hX.2.1; omega) hX.2.2.1) (show mqq 16 12 = some mX12_later from rfl) (mth_gd (a := 16) (b := 12) rfl) hX.2.2.2.1 fk_X12_later hT has hc).1
set_option maxRecDepth 100000 in
theorem fww_X12_later : wfr F9a un436.2.2.2.1 = true := by decide +kernel
theorem fw_X12_later (hX : CTX dC dI dA sp H0 l ρ0 ad rf L) {h h' : PH} {as r : List ZV} (hT : Tq tbq L sp ad U0q h) (has : asok [(2, 169), (0, 0), (0, 0)] as) (hc : CP (zq sp ρ0) mX12_later h as h' r) : Frm F9a h h' := fun g hg k h1 h2 =>
  (fr_ok u0_n u0_w u0_l u0_f (ug436 dC dI dA sp H0 l ρ0 ad rf L hX.1 (by have := hX.2.1; omega) hX.2.2.1) (show mqq 16 12 = some mX12_later from rfl) (mth_gd (a := 16) (b := 12) rfl) hX.2.2.2.1 fk_X12_later hT has hc).2 _ _ (wfr_ok fww_X12_later hg h1 h2)
set_option maxRecDepth 40000 in
set_option maxHeartbeats 1600000 in
theorem v_c_later {sl : Nat} {si : Nat → Int} {fm : ZV} {K : Nat → PH → ZL → List ZV → Prop} {Q : PH → List ZV → Prop} {h : PH} {i : Int} (H : 0 ≤ w32 (i + 1) ∧ w32 (i + 1) < sl → R32 (si (w32 (i + 1)).toNat) → 0 ≤ w32 (i + 2) ∧ w32 (i + 2) < sl → R32 (si (w32 (i + 2)).toNat) → ∀ h1 v1, CP (zz sl si fm) mX11_later h [(2, 0), (0, (si (w32 (i + 1)).toNat)), (0, (si (w32 (i + 2)).toNat))] h1 [(0, v1)] → R32 v1 → 0 ≤ w32 (i + 1) ∧ w32 (i + 1) < sl → R32 (si (w32 (i + 1)).toNat) → 0 ≤ w32 (i + 2) ∧ w32 (i + 2) < sl → R32 (si (w32 (i + 2)).toNat) → ∀ h2 v2, CP (zz sl si fm) mX12_later h1 [(2, 169), (0, (si (w32 (i + 1)).toNat)), (0, (si (w32 (i + 2)).toNat))] h2 [(0, v2)] → R32 v2 → K 2296 h2 [(3, (0, i)), (2, (2, 169)), (1, (2, 0)), (0, (6, 0))] []) : vc (zz sl si fm) (fun p => Nat.beq p 2296) K Q mL_law 29 1346 (ax_jmp mL_law.2.2.2.2.2.2 1346) h [(3, (0, i)), (2, (2, 169)), (1, (2, 0)), (0, (6, 0))] [] := H
set_option maxRecDepth 100000 in
theorem gv_later (hX : CTX dC dI dA sp H0 l ρ0 ad rf L) : GC J9 L sp ad ρ0 1346 := gc_vc (fun h i hT hJ => v_c_later (fun b1 r2 => (fun b3 r4 => (fun h1 v1 p1 q1 => (fun b5 r6 => (fun b7 r8 => (fun h2 v2 p2 q2 => (by exact ⟨rfl, fr_X12_later hX (fr_X11_later hX hT (by exact (And.intro rfl (And.intro (And.intro rfl r2) (And.intro (And.intro rfl r4) trivial)))) p1) (by exact (And.intro rfl (And.intro (And.intro rfl r2) (And.intro (And.intro rfl r4) trivial)))) p2, tr9 hJ (fw_X11_later hX hT (by exact (And.intro rfl (And.intro (And.intro rfl r2) (And.intro (And.intro rfl r4) trivial)))) p1) (fw_X12_later hX (fr_X11_later hX hT (by exact (And.intro rfl (And.intro (And.intro rfl r2) (And.intro (And.intro rfl r4) trivial)))) p1) (by exact (And.intro rfl (And.intro (And.intro rfl r2) (And.intro (And.intro rfl r4) trivial)))) p2) (c_X12_later (tq_B (fr_X11_later hX hT (by exact (And.intro rfl (And.intro (And.intro rfl r2) (And.intro (And.intro rfl r4) trivial)))) p1)).1 (tq_B (fr_X11_later hX hT (by exact (And.intro rfl (And.intro (And.intro rfl r2) (And.intro (And.intro rfl r4) trivial)))) p1)).2.1 (tq_B (fr_X11_later hX hT (by exact (And.intro rfl (And.intro (And.intro rfl r2) (And.intro (And.intro rfl r4) trivial)))) p1)).2.2 p2), rfl, rfl, rfl, rfl, trivial⟩))))))))
set_option maxRecDepth 100000 in
theorem fk_X11_rest : frk tbq U0q un427 [(2, 0), (0, 0)] = true := by decide +kernel
theorem fr_X11_rest (hX : CTX dC dI dA sp H0 l ρ0 ad rf L) {h h' : PH} {as r : List ZV} (hT : Tq tbq L sp ad U0q h) (has : asok [(2, 0), (0, 0)] as) (hc : CP (zq sp ρ0) mX11_rest h as h' r) : Tq tbq L sp ad U0q h' :=
  (fr_ok u0_n u0_w u0_l u0_f (ug427 dC dI dA sp H0 l ρ0 ad rf L hX.1 (by have := hX.2.1; omega) hX.2.2.1) (show mqq 8 10 = some mX11_rest from rfl) (mth_gd (a := 8) (b := 10) rfl) hX.2.2.2.1 fk_X11_rest hT has hc).1
set_option maxRecDepth 100000 in
theorem fww_X11_rest : wfr F9 un427.2.2.2.1 = true := by decide +kernel
theorem fw_X11_rest (hX : CTX dC dI dA sp H0 l ρ0 ad rf L) {h h' : PH} {as r : List ZV} (hT : Tq tbq L sp ad U0q h) (has : asok [(2, 0), (0, 0)] as) (hc : CP (zq sp ρ0) mX11_rest h as h' r) : Frm F9 h h' := fun g hg k h1 h2 =>
  (fr_ok u0_n u0_w u0_l u0_f (ug427 dC dI dA sp H0 l ρ0 ad rf L hX.1 (by have := hX.2.1; omega) hX.2.2.1) (show mqq 8 10 = some mX11_rest from rfl) (mth_gd (a := 8) (b := 10) rfl) hX.2.2.2.1 fk_X11_rest hT has hc).2 _ _ (wfr_ok fww_X11_rest hg h1 h2)
set_option maxRecDepth 100000 in
theorem fk_X12_rest : frk tbq U0q un433 [(2, 169), (0, 0)] = true := by decide +kernel
theorem fr_X12_rest (hX : CTX dC dI dA sp H0 l ρ0 ad rf L) {h h' : PH} {as r : List ZV} (hT : Tq tbq L sp ad U0q h) (has : asok [(2, 169), (0, 0)] as) (hc : CP (zq sp ρ0) mX12_rest h as h' r) : Tq tbq L sp ad U0q h' :=
  (fr_ok u0_n u0_w u0_l u0_f (ug433 dC dI dA sp H0 l ρ0 ad rf L hX.1 (by have := hX.2.1; omega) hX.2.2.1) (show mqq 16 15 = some mX12_rest from rfl) (mth_gd (a := 16) (b := 15) rfl) hX.2.2.2.1 fk_X12_rest hT has hc).1
set_option maxRecDepth 100000 in
theorem fww_X12_rest : wfr F9a un433.2.2.2.1 = true := by decide +kernel
theorem fw_X12_rest (hX : CTX dC dI dA sp H0 l ρ0 ad rf L) {h h' : PH} {as r : List ZV} (hT : Tq tbq L sp ad U0q h) (has : asok [(2, 169), (0, 0)] as) (hc : CP (zq sp ρ0) mX12_rest h as h' r) : Frm F9a h h' := fun g hg k h1 h2 =>
  (fr_ok u0_n u0_w u0_l u0_f (ug433 dC dI dA sp H0 l ρ0 ad rf L hX.1 (by have := hX.2.1; omega) hX.2.2.1) (show mqq 16 15 = some mX12_rest from rfl) (mth_gd (a := 16) (b := 15) rfl) hX.2.2.2.1 fk_X12_rest hT has hc).2 _ _ (wfr_ok fww_X12_rest hg h1 h2)
set_option maxRecDepth 40000 in
set_option maxHeartbeats 1600000 in
theorem v_c_rest {sl : Nat} {si : Nat → Int} {fm : ZV} {K : Nat → PH → ZL → List ZV → Prop} {Q : PH → List ZV → Prop} {h : PH} {i : Int} (H : 0 ≤ w32 (i + 1) ∧ w32 (i + 1) < sl → R32 (si (w32 (i + 1)).toNat) → ∀ h1 v1, CP (zz sl si fm) mX11_rest h [(2, 0), (0, (si (w32 (i + 1)).toNat))] h1 [(0, v1)] → R32 v1 → 0 ≤ w32 (i + 1) ∧ w32 (i + 1) < sl → R32 (si (w32 (i + 1)).toNat) → ∀ h2 v2, CP (zz sl si fm) mX12_rest h1 [(2, 169), (0, (si (w32 (i + 1)).toNat))] h2 [(0, v2)] → R32 v2 → K 2296 h2 [(3, (0, i)), (2, (2, 169)), (1, (2, 0)), (0, (6, 0))] []) : vc (zz sl si fm) (fun p => Nat.beq p 2296) K Q mL_law 19 1379 (ax_jmp mL_law.2.2.2.2.2.2 1379) h [(3, (0, i)), (2, (2, 169)), (1, (2, 0)), (0, (6, 0))] [] := H
set_option maxRecDepth 100000 in
theorem gv_rest (hX : CTX dC dI dA sp H0 l ρ0 ad rf L) : GC J9 L sp ad ρ0 1379 := gc_vc (fun h i hT hJ => v_c_rest (fun b1 r2 => (fun h1 v1 p1 q1 => (fun b3 r4 => (fun h2 v2 p2 q2 => (by exact ⟨rfl, fr_X12_rest hX (fr_X11_rest hX hT (by exact (And.intro rfl (And.intro (And.intro rfl r2) trivial))) p1) (by exact (And.intro rfl (And.intro (And.intro rfl r2) trivial))) p2, tr9 hJ (fw_X11_rest hX hT (by exact (And.intro rfl (And.intro (And.intro rfl r2) trivial))) p1) (fw_X12_rest hX (fr_X11_rest hX hT (by exact (And.intro rfl (And.intro (And.intro rfl r2) trivial))) p1) (by exact (And.intro rfl (And.intro (And.intro rfl r2) trivial))) p2) (c_X12_rest (tq_B (fr_X11_rest hX hT (by exact (And.intro rfl (And.intro (And.intro rfl r2) trivial))) p1)).1 (tq_B (fr_X11_rest hX hT (by exact (And.intro rfl (And.intro (And.intro rfl r2) trivial))) p1)).2.1 (tq_B (fr_X11_rest hX hT (by exact (And.intro rfl (And.intro (And.intro rfl r2) trivial))) p1)).2.2 p2), rfl, rfl, rfl, rfl, trivial⟩))))))
set_option maxRecDepth 100000 in
theorem fk_X11_quiet : frk tbq U0q un420 [(2, 0), (0, 0)] = true := by decide +kernel
theorem fr_X11_quiet (hX : CTX dC dI dA sp H0 l ρ0 ad rf L) {h h' : PH} {as r : List ZV} (hT : Tq tbq L sp ad U0q h) (has : asok [(2, 0), (0, 0)] as) (hc : CP (zq sp ρ0) mX11_quiet h as h' r) : Tq tbq L sp ad U0q h' :=
  (fr_ok u0_n u0_w u0_l u0_f (ug420 dC dI dA sp H0 l ρ0 ad rf L hX.1 (by have := hX.2.1; omega) hX.2.2.1) (show mqq 8 11 = some mX11_quiet from rfl) (mth_gd (a := 8) (b := 11) rfl) hX.2.2.2.1 fk_X11_quiet hT has hc).1
set_option maxRecDepth 100000 in
theorem fww_X11_quiet : wfr F9 un420.2.2.2.1 = true := by decide +kernel
theorem fw_X11_quiet (hX : CTX dC dI dA sp H0 l ρ0 ad rf L) {h h' : PH} {as r : List ZV} (hT : Tq tbq L sp ad U0q h) (has : asok [(2, 0), (0, 0)] as) (hc : CP (zq sp ρ0) mX11_quiet h as h' r) : Frm F9 h h' := fun g hg k h1 h2 =>
  (fr_ok u0_n u0_w u0_l u0_f (ug420 dC dI dA sp H0 l ρ0 ad rf L hX.1 (by have := hX.2.1; omega) hX.2.2.1) (show mqq 8 11 = some mX11_quiet from rfl) (mth_gd (a := 8) (b := 11) rfl) hX.2.2.2.1 fk_X11_quiet hT has hc).2 _ _ (wfr_ok fww_X11_quiet hg h1 h2)
set_option maxRecDepth 100000 in
theorem fk_X12_quiet : frk tbq U0q un423 [(2, 169), (0, 0)] = true := by decide +kernel
theorem fr_X12_quiet (hX : CTX dC dI dA sp H0 l ρ0 ad rf L) {h h' : PH} {as r : List ZV} (hT : Tq tbq L sp ad U0q h) (has : asok [(2, 169), (0, 0)] as) (hc : CP (zq sp ρ0) mX12_quiet h as h' r) : Tq tbq L sp ad U0q h' :=
  (fr_ok u0_n u0_w u0_l u0_f (ug423 dC dI dA sp H0 l ρ0 ad rf L hX.1 (by have := hX.2.1; omega) hX.2.2.1) (show mqq 16 16 = some mX12_quiet from rfl) (mth_gd (a := 16) (b := 16) rfl) hX.2.2.2.1 fk_X12_quiet hT has hc).1
set_option maxRecDepth 100000 in
theorem fww_X12_quiet : wfr F9a un423.2.2.2.1 = true := by decide +kernel
theorem fw_X12_quiet (hX : CTX dC dI dA sp H0 l ρ0 ad rf L) {h h' : PH} {as r : List ZV} (hT : Tq tbq L sp ad U0q h) (has : asok [(2, 169), (0, 0)] as) (hc : CP (zq sp ρ0) mX12_quiet h as h' r) : Frm F9a h h' := fun g hg k h1 h2 =>
  (fr_ok u0_n u0_w u0_l u0_f (ug423 dC dI dA sp H0 l ρ0 ad rf L hX.1 (by have := hX.2.1; omega) hX.2.2.1) (show mqq 16 16 = some mX12_quiet from rfl) (mth_gd (a := 16) (b := 16) rfl) hX.2.2.2.1 fk_X12_quiet hT has hc).2 _ _ (wfr_ok fww_X12_quiet hg h1 h2)
set_option maxRecDepth 40000 in
set_option maxHeartbeats 1600000 in
theorem v_c_quiet {sl : Nat} {si : Nat → Int} {fm : ZV} {K : Nat → PH → ZL → List ZV → Prop} {Q : PH → List ZV → Prop} {h : PH} {i : Int} (H : 0 ≤ w32 (i + 1) ∧ w32 (i + 1) < sl → R32 (si (w32 (i + 1)).toNat) → ∀ h1 v1, CP (zz sl si fm) mX11_quiet h [(2, 0), (0, (si (w32 (i + 1)).toNat))] h1 [(0, v1)] → R32 v1 → 0 ≤ w32 (i + 1) ∧ w32 (i + 1) < sl → R32 (si (w32 (i + 1)).toNat) → ∀ h2 v2, CP (zz sl si fm) mX12_quiet h1 [(2, 169), (0, (si (w32 (i + 1)).toNat))] h2 [(0, v2)] → R32 v2 → K 2296 h2 [(3, (0, i)), (2, (2, 169)), (1, (2, 0)), (0, (6, 0))] []) : vc (zz sl si fm) (fun p => Nat.beq p 2296) K Q mL_law 19 1402 (ax_jmp mL_law.2.2.2.2.2.2 1402) h [(3, (0, i)), (2, (2, 169)), (1, (2, 0)), (0, (6, 0))] [] := H
set_option maxRecDepth 100000 in
theorem gv_quiet (hX : CTX dC dI dA sp H0 l ρ0 ad rf L) : GC J9 L sp ad ρ0 1402 := gc_vc (fun h i hT hJ => v_c_quiet (fun b1 r2 => (fun h1 v1 p1 q1 => (fun b3 r4 => (fun h2 v2 p2 q2 => (by exact ⟨rfl, fr_X12_quiet hX (fr_X11_quiet hX hT (by exact (And.intro rfl (And.intro (And.intro rfl r2) trivial))) p1) (by exact (And.intro rfl (And.intro (And.intro rfl r2) trivial))) p2, tr9 hJ (fw_X11_quiet hX hT (by exact (And.intro rfl (And.intro (And.intro rfl r2) trivial))) p1) (fw_X12_quiet hX (fr_X11_quiet hX hT (by exact (And.intro rfl (And.intro (And.intro rfl r2) trivial))) p1) (by exact (And.intro rfl (And.intro (And.intro rfl r2) trivial))) p2) (c_X12_quiet (tq_B (fr_X11_quiet hX hT (by exact (And.intro rfl (And.intro (And.intro rfl r2) trivial))) p1)).1 (tq_B (fr_X11_quiet hX hT (by exact (And.intro rfl (And.intro (And.intro rfl r2) trivial))) p1)).2.1 (tq_B (fr_X11_quiet hX hT (by exact (And.intro rfl (And.intro (And.intro rfl r2) trivial))) p1)).2.2 p2), rfl, rfl, rfl, rfl, trivial⟩))))))
set_option maxRecDepth 100000 in
theorem fk_X11_harvest : frk tbq U0q un410 [(2, 0), (0, 0), (0, 0)] = true := by decide +kernel
theorem fr_X11_harvest (hX : CTX dC dI dA sp H0 l ρ0 ad rf L) {h h' : PH} {as r : List ZV} (hT : Tq tbq L sp ad U0q h) (has : asok [(2, 0), (0, 0), (0, 0)] as) (hc : CP (zq sp ρ0) mX11_harvest h as h' r) : Tq tbq L sp ad U0q h' :=
  (fr_ok u0_n u0_w u0_l u0_f (ug410 dC dI dA sp H0 l ρ0 ad rf L hX.1 (by have := hX.2.1; omega) hX.2.2.1) (show mqq 8 12 = some mX11_harvest from rfl) (mth_gd (a := 8) (b := 12) rfl) hX.2.2.2.1 fk_X11_harvest hT has hc).1
set_option maxRecDepth 100000 in
theorem fww_X11_harvest : wfr F9 un410.2.2.2.1 = true := by decide +kernel
theorem fw_X11_harvest (hX : CTX dC dI dA sp H0 l ρ0 ad rf L) {h h' : PH} {as r : List ZV} (hT : Tq tbq L sp ad U0q h) (has : asok [(2, 0), (0, 0), (0, 0)] as) (hc : CP (zq sp ρ0) mX11_harvest h as h' r) : Frm F9 h h' := fun g hg k h1 h2 =>
  (fr_ok u0_n u0_w u0_l u0_f (ug410 dC dI dA sp H0 l ρ0 ad rf L hX.1 (by have := hX.2.1; omega) hX.2.2.1) (show mqq 8 12 = some mX11_harvest from rfl) (mth_gd (a := 8) (b := 12) rfl) hX.2.2.2.1 fk_X11_harvest hT has hc).2 _ _ (wfr_ok fww_X11_harvest hg h1 h2)
set_option maxRecDepth 100000 in
theorem fk_X12_harvest : frk tbq U0q un414 [(2, 169), (0, 0), (0, 0)] = true := by decide +kernel
theorem fr_X12_harvest (hX : CTX dC dI dA sp H0 l ρ0 ad rf L) {h h' : PH} {as r : List ZV} (hT : Tq tbq L sp ad U0q h) (has : asok [(2, 169), (0, 0), (0, 0)] as) (hc : CP (zq sp ρ0) mX12_harvest h as h' r) : Tq tbq L sp ad U0q h' :=
  (fr_ok u0_n u0_w u0_l u0_f (ug414 dC dI dA sp H0 l ρ0 ad rf L hX.1 (by have := hX.2.1; omega) hX.2.2.1) (show mqq 16 17 = some mX12_harvest from rfl) (mth_gd (a := 16) (b := 17) rfl) hX.2.2.2.1 fk_X12_harvest hT has hc).1
set_option maxRecDepth 100000 in
theorem fww_X12_harvest : wfr F9a un414.2.2.2.1 = true := by decide +kernel
theorem fw_X12_harvest (hX : CTX dC dI dA sp H0 l ρ0 ad rf L) {h h' : PH} {as r : List ZV} (hT : Tq tbq L sp ad U0q h) (has : asok [(2, 169), (0, 0), (0, 0)] as) (hc : CP (zq sp ρ0) mX12_harvest h as h' r) : Frm F9a h h' := fun g hg k h1 h2 =>
  (fr_ok u0_n u0_w u0_l u0_f (ug414 dC dI dA sp H0 l ρ0 ad rf L hX.1 (by have := hX.2.1; omega) hX.2.2.1) (show mqq 16 17 = some mX12_harvest from rfl) (mth_gd (a := 16) (b := 17) rfl) hX.2.2.2.1 fk_X12_harvest hT has hc).2 _ _ (wfr_ok fww_X12_harvest hg h1 h2)
set_option maxRecDepth 40000 in
set_option maxHeartbeats 1600000 in
theorem v_c_harvest {sl : Nat} {si : Nat → Int} {fm : ZV} {K : Nat → PH → ZL → List ZV → Prop} {Q : PH → List ZV → Prop} {h : PH} {i : Int} (H : 0 ≤ w32 (i + 1) ∧ w32 (i + 1) < sl → R32 (si (w32 (i + 1)).toNat) → 0 ≤ w32 (i + 2) ∧ w32 (i + 2) < sl → R32 (si (w32 (i + 2)).toNat) → ∀ h1 v1, CP (zz sl si fm) mX11_harvest h [(2, 0), (0, (si (w32 (i + 1)).toNat)), (0, (si (w32 (i + 2)).toNat))] h1 [(0, v1)] → R32 v1 → 0 ≤ w32 (i + 1) ∧ w32 (i + 1) < sl → R32 (si (w32 (i + 1)).toNat) → 0 ≤ w32 (i + 2) ∧ w32 (i + 2) < sl → R32 (si (w32 (i + 2)).toNat) → ∀ h2 v2, CP (zz sl si fm) mX12_harvest h1 [(2, 169), (0, (si (w32 (i + 1)).toNat)), (0, (si (w32 (i + 2)).toNat))] h2 [(0, v2)] → R32 v2 → K 2296 h2 [(3, (0, i)), (2, (2, 169)), (1, (2, 0)), (0, (6, 0))] []) : vc (zz sl si fm) (fun p => Nat.beq p 2296) K Q mL_law 29 1425 (ax_jmp mL_law.2.2.2.2.2.2 1425) h [(3, (0, i)), (2, (2, 169)), (1, (2, 0)), (0, (6, 0))] [] := H
set_option maxRecDepth 100000 in
theorem gv_harvest (hX : CTX dC dI dA sp H0 l ρ0 ad rf L) : GC J9 L sp ad ρ0 1425 := gc_vc (fun h i hT hJ => v_c_harvest (fun b1 r2 => (fun b3 r4 => (fun h1 v1 p1 q1 => (fun b5 r6 => (fun b7 r8 => (fun h2 v2 p2 q2 => (by exact ⟨rfl, fr_X12_harvest hX (fr_X11_harvest hX hT (by exact (And.intro rfl (And.intro (And.intro rfl r2) (And.intro (And.intro rfl r4) trivial)))) p1) (by exact (And.intro rfl (And.intro (And.intro rfl r2) (And.intro (And.intro rfl r4) trivial)))) p2, tr9 hJ (fw_X11_harvest hX hT (by exact (And.intro rfl (And.intro (And.intro rfl r2) (And.intro (And.intro rfl r4) trivial)))) p1) (fw_X12_harvest hX (fr_X11_harvest hX hT (by exact (And.intro rfl (And.intro (And.intro rfl r2) (And.intro (And.intro rfl r4) trivial)))) p1) (by exact (And.intro rfl (And.intro (And.intro rfl r2) (And.intro (And.intro rfl r4) trivial)))) p2) (c_X12_harvest (tq_B (fr_X11_harvest hX hT (by exact (And.intro rfl (And.intro (And.intro rfl r2) (And.intro (And.intro rfl r4) trivial)))) p1)).1 (tq_B (fr_X11_harvest hX hT (by exact (And.intro rfl (And.intro (And.intro rfl r2) (And.intro (And.intro rfl r4) trivial)))) p1)).2.1 (tq_B (fr_X11_harvest hX hT (by exact (And.intro rfl (And.intro (And.intro rfl r2) (And.intro (And.intro rfl r4) trivial)))) p1)).2.2 p2), rfl, rfl, rfl, rfl, trivial⟩))))))))
set_option maxRecDepth 100000 in
theorem fk_X11_visitors : frk tbq U0q un404 [(2, 0), (0, 0), (0, 0)] = true := by decide +kernel
theorem fr_X11_visitors (hX : CTX dC dI dA sp H0 l ρ0 ad rf L) {h h' : PH} {as r : List ZV} (hT : Tq tbq L sp ad U0q h) (has : asok [(2, 0), (0, 0), (0, 0)] as) (hc : CP (zq sp ρ0) mX11_visitors h as h' r) : Tq tbq L sp ad U0q h' :=
  (fr_ok u0_n u0_w u0_l u0_f (ug404 dC dI dA sp H0 l ρ0 ad rf L hX.1 (by have := hX.2.1; omega) hX.2.2.1) (show mqq 8 13 = some mX11_visitors from rfl) (mth_gd (a := 8) (b := 13) rfl) hX.2.2.2.1 fk_X11_visitors hT has hc).1
set_option maxRecDepth 100000 in
theorem fww_X11_visitors : wfr F9 un404.2.2.2.1 = true := by decide +kernel
theorem fw_X11_visitors (hX : CTX dC dI dA sp H0 l ρ0 ad rf L) {h h' : PH} {as r : List ZV} (hT : Tq tbq L sp ad U0q h) (has : asok [(2, 0), (0, 0), (0, 0)] as) (hc : CP (zq sp ρ0) mX11_visitors h as h' r) : Frm F9 h h' := fun g hg k h1 h2 =>
  (fr_ok u0_n u0_w u0_l u0_f (ug404 dC dI dA sp H0 l ρ0 ad rf L hX.1 (by have := hX.2.1; omega) hX.2.2.1) (show mqq 8 13 = some mX11_visitors from rfl) (mth_gd (a := 8) (b := 13) rfl) hX.2.2.2.1 fk_X11_visitors hT has hc).2 _ _ (wfr_ok fww_X11_visitors hg h1 h2)
set_option maxRecDepth 100000 in
theorem fk_X12_visitors : frk tbq U0q un406 [(2, 169), (0, 0), (0, 0)] = true := by decide +kernel
theorem fr_X12_visitors (hX : CTX dC dI dA sp H0 l ρ0 ad rf L) {h h' : PH} {as r : List ZV} (hT : Tq tbq L sp ad U0q h) (has : asok [(2, 169), (0, 0), (0, 0)] as) (hc : CP (zq sp ρ0) mX12_visitors h as h' r) : Tq tbq L sp ad U0q h' :=
  (fr_ok u0_n u0_w u0_l u0_f (ug406 dC dI dA sp H0 l ρ0 ad rf L hX.1 (by have := hX.2.1; omega) hX.2.2.1) (show mqq 16 18 = some mX12_visitors from rfl) (mth_gd (a := 16) (b := 18) rfl) hX.2.2.2.1 fk_X12_visitors hT has hc).1
set_option maxRecDepth 100000 in
theorem fww_X12_visitors : wfr F9a un406.2.2.2.1 = true := by decide +kernel
theorem fw_X12_visitors (hX : CTX dC dI dA sp H0 l ρ0 ad rf L) {h h' : PH} {as r : List ZV} (hT : Tq tbq L sp ad U0q h) (has : asok [(2, 169), (0, 0), (0, 0)] as) (hc : CP (zq sp ρ0) mX12_visitors h as h' r) : Frm F9a h h' := fun g hg k h1 h2 =>
  (fr_ok u0_n u0_w u0_l u0_f (ug406 dC dI dA sp H0 l ρ0 ad rf L hX.1 (by have := hX.2.1; omega) hX.2.2.1) (show mqq 16 18 = some mX12_visitors from rfl) (mth_gd (a := 16) (b := 18) rfl) hX.2.2.2.1 fk_X12_visitors hT has hc).2 _ _ (wfr_ok fww_X12_visitors hg h1 h2)
set_option maxRecDepth 40000 in
set_option maxHeartbeats 1600000 in
theorem v_c_visitors {sl : Nat} {si : Nat → Int} {fm : ZV} {K : Nat → PH → ZL → List ZV → Prop} {Q : PH → List ZV → Prop} {h : PH} {i : Int} (H : 0 ≤ w32 (i + 1) ∧ w32 (i + 1) < sl → R32 (si (w32 (i + 1)).toNat) → 0 ≤ w32 (i + 2) ∧ w32 (i + 2) < sl → R32 (si (w32 (i + 2)).toNat) → ∀ h1 v1, CP (zz sl si fm) mX11_visitors h [(2, 0), (0, (si (w32 (i + 1)).toNat)), (0, (si (w32 (i + 2)).toNat))] h1 [(0, v1)] → R32 v1 → 0 ≤ w32 (i + 1) ∧ w32 (i + 1) < sl → R32 (si (w32 (i + 1)).toNat) → 0 ≤ w32 (i + 2) ∧ w32 (i + 2) < sl → R32 (si (w32 (i + 2)).toNat) → ∀ h2 v2, CP (zz sl si fm) mX12_visitors h1 [(2, 169), (0, (si (w32 (i + 1)).toNat)), (0, (si (w32 (i + 2)).toNat))] h2 [(0, v2)] → R32 v2 → K 2296 h2 [(3, (0, i)), (2, (2, 169)), (1, (2, 0)), (0, (6, 0))] []) : vc (zz sl si fm) (fun p => Nat.beq p 2296) K Q mL_law 29 1458 (ax_jmp mL_law.2.2.2.2.2.2 1458) h [(3, (0, i)), (2, (2, 169)), (1, (2, 0)), (0, (6, 0))] [] := H
set_option maxRecDepth 100000 in
theorem gv_visitors (hX : CTX dC dI dA sp H0 l ρ0 ad rf L) : GC J9 L sp ad ρ0 1458 := gc_vc (fun h i hT hJ => v_c_visitors (fun b1 r2 => (fun b3 r4 => (fun h1 v1 p1 q1 => (fun b5 r6 => (fun b7 r8 => (fun h2 v2 p2 q2 => (by exact ⟨rfl, fr_X12_visitors hX (fr_X11_visitors hX hT (by exact (And.intro rfl (And.intro (And.intro rfl r2) (And.intro (And.intro rfl r4) trivial)))) p1) (by exact (And.intro rfl (And.intro (And.intro rfl r2) (And.intro (And.intro rfl r4) trivial)))) p2, tr9 hJ (fw_X11_visitors hX hT (by exact (And.intro rfl (And.intro (And.intro rfl r2) (And.intro (And.intro rfl r4) trivial)))) p1) (fw_X12_visitors hX (fr_X11_visitors hX hT (by exact (And.intro rfl (And.intro (And.intro rfl r2) (And.intro (And.intro rfl r4) trivial)))) p1) (by exact (And.intro rfl (And.intro (And.intro rfl r2) (And.intro (And.intro rfl r4) trivial)))) p2) (c_X12_visitors (tq_B (fr_X11_visitors hX hT (by exact (And.intro rfl (And.intro (And.intro rfl r2) (And.intro (And.intro rfl r4) trivial)))) p1)).1 (tq_B (fr_X11_visitors hX hT (by exact (And.intro rfl (And.intro (And.intro rfl r2) (And.intro (And.intro rfl r4) trivial)))) p1)).2.1 (tq_B (fr_X11_visitors hX hT (by exact (And.intro rfl (And.intro (And.intro rfl r2) (And.intro (And.intro rfl r4) trivial)))) p1)).2.2 p2), rfl, rfl, rfl, rfl, trivial⟩))))))))
set_option maxRecDepth 100000 in
theorem fk_X11_stays : frk tbq U0q un394 [(2, 0), (0, 0), (0, 0), (0, 0)] = true := by decide +kernel
theorem fr_X11_stays (hX : CTX dC dI dA sp H0 l ρ0 ad rf L) {h h' : PH} {as r : List ZV} (hT : Tq tbq L sp ad U0q h) (has : asok [(2, 0), (0, 0), (0, 0), (0, 0)] as) (hc : CP (zq sp ρ0) mX11_stays h as h' r) : Tq tbq L sp ad U0q h' :=
  (fr_ok u0_n u0_w u0_l u0_f (ug394 dC dI dA sp H0 l ρ0 ad rf L hX.1 (by have := hX.2.1; omega) hX.2.2.1) (show mqq 8 14 = some mX11_stays from rfl) (mth_gd (a := 8) (b := 14) rfl) hX.2.2.2.1 fk_X11_stays hT has hc).1
set_option maxRecDepth 100000 in
theorem fww_X11_stays : wfr F9 un394.2.2.2.1 = true := by decide +kernel
theorem fw_X11_stays (hX : CTX dC dI dA sp H0 l ρ0 ad rf L) {h h' : PH} {as r : List ZV} (hT : Tq tbq L sp ad U0q h) (has : asok [(2, 0), (0, 0), (0, 0), (0, 0)] as) (hc : CP (zq sp ρ0) mX11_stays h as h' r) : Frm F9 h h' := fun g hg k h1 h2 =>
  (fr_ok u0_n u0_w u0_l u0_f (ug394 dC dI dA sp H0 l ρ0 ad rf L hX.1 (by have := hX.2.1; omega) hX.2.2.1) (show mqq 8 14 = some mX11_stays from rfl) (mth_gd (a := 8) (b := 14) rfl) hX.2.2.2.1 fk_X11_stays hT has hc).2 _ _ (wfr_ok fww_X11_stays hg h1 h2)
set_option maxRecDepth 100000 in
theorem fk_X12_stays : frk tbq U0q un396 [(2, 169), (0, 0), (0, 0), (0, 0)] = true := by decide +kernel
theorem fr_X12_stays (hX : CTX dC dI dA sp H0 l ρ0 ad rf L) {h h' : PH} {as r : List ZV} (hT : Tq tbq L sp ad U0q h) (has : asok [(2, 169), (0, 0), (0, 0), (0, 0)] as) (hc : CP (zq sp ρ0) mX12_stays h as h' r) : Tq tbq L sp ad U0q h' :=
  (fr_ok u0_n u0_w u0_l u0_f (ug396 dC dI dA sp H0 l ρ0 ad rf L hX.1 (by have := hX.2.1; omega) hX.2.2.1) (show mqq 16 19 = some mX12_stays from rfl) (mth_gd (a := 16) (b := 19) rfl) hX.2.2.2.1 fk_X12_stays hT has hc).1
set_option maxRecDepth 100000 in
theorem fww_X12_stays : wfr F9a un396.2.2.2.1 = true := by decide +kernel
theorem fw_X12_stays (hX : CTX dC dI dA sp H0 l ρ0 ad rf L) {h h' : PH} {as r : List ZV} (hT : Tq tbq L sp ad U0q h) (has : asok [(2, 169), (0, 0), (0, 0), (0, 0)] as) (hc : CP (zq sp ρ0) mX12_stays h as h' r) : Frm F9a h h' := fun g hg k h1 h2 =>
  (fr_ok u0_n u0_w u0_l u0_f (ug396 dC dI dA sp H0 l ρ0 ad rf L hX.1 (by have := hX.2.1; omega) hX.2.2.1) (show mqq 16 19 = some mX12_stays from rfl) (mth_gd (a := 16) (b := 19) rfl) hX.2.2.2.1 fk_X12_stays hT has hc).2 _ _ (wfr_ok fww_X12_stays hg h1 h2)
set_option maxRecDepth 40000 in
set_option maxHeartbeats 1600000 in
theorem v_c_stays {sl : Nat} {si : Nat → Int} {fm : ZV} {K : Nat → PH → ZL → List ZV → Prop} {Q : PH → List ZV → Prop} {h : PH} {i : Int} (H : 0 ≤ w32 (i + 1) ∧ w32 (i + 1) < sl → R32 (si (w32 (i + 1)).toNat) → 0 ≤ w32 (i + 2) ∧ w32 (i + 2) < sl → R32 (si (w32 (i + 2)).toNat) → 0 ≤ w32 (i + 3) ∧ w32 (i + 3) < sl → R32 (si (w32 (i + 3)).toNat) → ∀ h1 v1, CP (zz sl si fm) mX11_stays h [(2, 0), (0, (si (w32 (i + 1)).toNat)), (0, (si (w32 (i + 2)).toNat)), (0, (si (w32 (i + 3)).toNat))] h1 [(0, v1)] → R32 v1 → 0 ≤ w32 (i + 1) ∧ w32 (i + 1) < sl → R32 (si (w32 (i + 1)).toNat) → 0 ≤ w32 (i + 2) ∧ w32 (i + 2) < sl → R32 (si (w32 (i + 2)).toNat) → 0 ≤ w32 (i + 3) ∧ w32 (i + 3) < sl → R32 (si (w32 (i + 3)).toNat) → ∀ h2 v2, CP (zz sl si fm) mX12_stays h1 [(2, 169), (0, (si (w32 (i + 1)).toNat)), (0, (si (w32 (i + 2)).toNat)), (0, (si (w32 (i + 3)).toNat))] h2 [(0, v2)] → R32 v2 → K 2296 h2 [(3, (0, i)), (2, (2, 169)), (1, (2, 0)), (0, (6, 0))] []) : vc (zz sl si fm) (fun p => Nat.beq p 2296) K Q mL_law 39 1491 (ax_jmp mL_law.2.2.2.2.2.2 1491) h [(3, (0, i)), (2, (2, 169)), (1, (2, 0)), (0, (6, 0))] [] := H
set_option maxRecDepth 100000 in
theorem gv_stays (hX : CTX dC dI dA sp H0 l ρ0 ad rf L) : GC J9 L sp ad ρ0 1491 := gc_vc (fun h i hT hJ => v_c_stays (fun b1 r2 => (fun b3 r4 => (fun b5 r6 => (fun h1 v1 p1 q1 => (fun b7 r8 => (fun b9 r10 => (fun b11 r12 => (fun h2 v2 p2 q2 => (by exact ⟨rfl, fr_X12_stays hX (fr_X11_stays hX hT (by exact (And.intro rfl (And.intro (And.intro rfl r2) (And.intro (And.intro rfl r4) (And.intro (And.intro rfl r6) trivial))))) p1) (by exact (And.intro rfl (And.intro (And.intro rfl r2) (And.intro (And.intro rfl r4) (And.intro (And.intro rfl r6) trivial))))) p2, tr9 hJ (fw_X11_stays hX hT (by exact (And.intro rfl (And.intro (And.intro rfl r2) (And.intro (And.intro rfl r4) (And.intro (And.intro rfl r6) trivial))))) p1) (fw_X12_stays hX (fr_X11_stays hX hT (by exact (And.intro rfl (And.intro (And.intro rfl r2) (And.intro (And.intro rfl r4) (And.intro (And.intro rfl r6) trivial))))) p1) (by exact (And.intro rfl (And.intro (And.intro rfl r2) (And.intro (And.intro rfl r4) (And.intro (And.intro rfl r6) trivial))))) p2) (c_X12_stays (tq_B (fr_X11_stays hX hT (by exact (And.intro rfl (And.intro (And.intro rfl r2) (And.intro (And.intro rfl r4) (And.intro (And.intro rfl r6) trivial))))) p1)).1 (tq_B (fr_X11_stays hX hT (by exact (And.intro rfl (And.intro (And.intro rfl r2) (And.intro (And.intro rfl r4) (And.intro (And.intro rfl r6) trivial))))) p1)).2.1 (tq_B (fr_X11_stays hX hT (by exact (And.intro rfl (And.intro (And.intro rfl r2) (And.intro (And.intro rfl r4) (And.intro (And.intro rfl r6) trivial))))) p1)).2.2 p2), rfl, rfl, rfl, rfl, trivial⟩))))))))))
set_option maxRecDepth 100000 in
theorem ck_1534 : cse tbq U0q un391 2296 = true := by decide +kernel
set_option maxRecDepth 100000 in
theorem wf_1534 : wfr F9 un391.2.2.2.1 = true := by decide +kernel
set_option maxRecDepth 100000 in
theorem ck_1567 : cse tbq U0q un380 2296 = true := by decide +kernel
set_option maxRecDepth 100000 in
theorem wf_1567 : wfr F9 un380.2.2.2.1 = true := by decide +kernel
set_option maxRecDepth 100000 in
theorem fk_X11_tours : frk tbq U0q un374 [(2, 0), (0, 0), (0, 0)] = true := by decide +kernel
theorem fr_X11_tours (hX : CTX dC dI dA sp H0 l ρ0 ad rf L) {h h' : PH} {as r : List ZV} (hT : Tq tbq L sp ad U0q h) (has : asok [(2, 0), (0, 0), (0, 0)] as) (hc : CP (zq sp ρ0) mX11_tours h as h' r) : Tq tbq L sp ad U0q h' :=
  (fr_ok u0_n u0_w u0_l u0_f (ug374 dC dI dA sp H0 l ρ0 ad rf L hX.1 (by have := hX.2.1; omega) hX.2.2.1) (show mqq 8 17 = some mX11_tours from rfl) (mth_gd (a := 8) (b := 17) rfl) hX.2.2.2.1 fk_X11_tours hT has hc).1
set_option maxRecDepth 100000 in
theorem fww_X11_tours : wfr F9 un374.2.2.2.1 = true := by decide +kernel
theorem fw_X11_tours (hX : CTX dC dI dA sp H0 l ρ0 ad rf L) {h h' : PH} {as r : List ZV} (hT : Tq tbq L sp ad U0q h) (has : asok [(2, 0), (0, 0), (0, 0)] as) (hc : CP (zq sp ρ0) mX11_tours h as h' r) : Frm F9 h h' := fun g hg k h1 h2 =>
  (fr_ok u0_n u0_w u0_l u0_f (ug374 dC dI dA sp H0 l ρ0 ad rf L hX.1 (by have := hX.2.1; omega) hX.2.2.1) (show mqq 8 17 = some mX11_tours from rfl) (mth_gd (a := 8) (b := 17) rfl) hX.2.2.2.1 fk_X11_tours hT has hc).2 _ _ (wfr_ok fww_X11_tours hg h1 h2)
set_option maxRecDepth 100000 in
theorem fk_X12_tours : frk tbq U0q un376 [(2, 169), (0, 0), (0, 0)] = true := by decide +kernel
theorem fr_X12_tours (hX : CTX dC dI dA sp H0 l ρ0 ad rf L) {h h' : PH} {as r : List ZV} (hT : Tq tbq L sp ad U0q h) (has : asok [(2, 169), (0, 0), (0, 0)] as) (hc : CP (zq sp ρ0) mX12_tours h as h' r) : Tq tbq L sp ad U0q h' :=
  (fr_ok u0_n u0_w u0_l u0_f (ug376 dC dI dA sp H0 l ρ0 ad rf L hX.1 (by have := hX.2.1; omega) hX.2.2.1) (show mqq 17 2 = some mX12_tours from rfl) (mth_gd (a := 17) (b := 2) rfl) hX.2.2.2.1 fk_X12_tours hT has hc).1
set_option maxRecDepth 100000 in
theorem fww_X12_tours : wfr F9a un376.2.2.2.1 = true := by decide +kernel
theorem fw_X12_tours (hX : CTX dC dI dA sp H0 l ρ0 ad rf L) {h h' : PH} {as r : List ZV} (hT : Tq tbq L sp ad U0q h) (has : asok [(2, 169), (0, 0), (0, 0)] as) (hc : CP (zq sp ρ0) mX12_tours h as h' r) : Frm F9a h h' := fun g hg k h1 h2 =>
  (fr_ok u0_n u0_w u0_l u0_f (ug376 dC dI dA sp H0 l ρ0 ad rf L hX.1 (by have := hX.2.1; omega) hX.2.2.1) (show mqq 17 2 = some mX12_tours from rfl) (mth_gd (a := 17) (b := 2) rfl) hX.2.2.2.1 fk_X12_tours hT has hc).2 _ _ (wfr_ok fww_X12_tours hg h1 h2)
set_option maxRecDepth 40000 in
set_option maxHeartbeats 1600000 in
theorem v_c_tours {sl : Nat} {si : Nat → Int} {fm : ZV} {K : Nat → PH → ZL → List ZV → Prop} {Q : PH → List ZV → Prop} {h : PH} {i : Int} (H : 0 ≤ w32 (i + 1) ∧ w32 (i + 1) < sl → R32 (si (w32 (i + 1)).toNat) → 0 ≤ w32 (i + 2) ∧ w32 (i + 2) < sl → R32 (si (w32 (i + 2)).toNat) → ∀ h1 v1, CP (zz sl si fm) mX11_tours h [(2, 0), (0, (si (w32 (i + 1)).toNat)), (0, (si (w32 (i + 2)).toNat))] h1 [(0, v1)] → R32 v1 → 0 ≤ w32 (i + 1) ∧ w32 (i + 1) < sl → R32 (si (w32 (i + 1)).toNat) → 0 ≤ w32 (i + 2) ∧ w32 (i + 2) < sl → R32 (si (w32 (i + 2)).toNat) → ∀ h2 v2, CP (zz sl si fm) mX12_tours h1 [(2, 169), (0, (si (w32 (i + 1)).toNat)), (0, (si (w32 (i + 2)).toNat))] h2 [(0, v2)] → R32 v2 → K 2296 h2 [(3, (0, i)), (2, (2, 169)), (1, (2, 0)), (0, (6, 0))] []) : vc (zz sl si fm) (fun p => Nat.beq p 2296) K Q mL_law 29 1590 (ax_jmp mL_law.2.2.2.2.2.2 1590) h [(3, (0, i)), (2, (2, 169)), (1, (2, 0)), (0, (6, 0))] [] := H
set_option maxRecDepth 100000 in
theorem gv_tours (hX : CTX dC dI dA sp H0 l ρ0 ad rf L) : GC J9 L sp ad ρ0 1590 := gc_vc (fun h i hT hJ => v_c_tours (fun b1 r2 => (fun b3 r4 => (fun h1 v1 p1 q1 => (fun b5 r6 => (fun b7 r8 => (fun h2 v2 p2 q2 => (by exact ⟨rfl, fr_X12_tours hX (fr_X11_tours hX hT (by exact (And.intro rfl (And.intro (And.intro rfl r2) (And.intro (And.intro rfl r4) trivial)))) p1) (by exact (And.intro rfl (And.intro (And.intro rfl r2) (And.intro (And.intro rfl r4) trivial)))) p2, tr9 hJ (fw_X11_tours hX hT (by exact (And.intro rfl (And.intro (And.intro rfl r2) (And.intro (And.intro rfl r4) trivial)))) p1) (fw_X12_tours hX (fr_X11_tours hX hT (by exact (And.intro rfl (And.intro (And.intro rfl r2) (And.intro (And.intro rfl r4) trivial)))) p1) (by exact (And.intro rfl (And.intro (And.intro rfl r2) (And.intro (And.intro rfl r4) trivial)))) p2) (c_X12_tours (tq_B (fr_X11_tours hX hT (by exact (And.intro rfl (And.intro (And.intro rfl r2) (And.intro (And.intro rfl r4) trivial)))) p1)).1 (tq_B (fr_X11_tours hX hT (by exact (And.intro rfl (And.intro (And.intro rfl r2) (And.intro (And.intro rfl r4) trivial)))) p1)).2.1 (tq_B (fr_X11_tours hX hT (by exact (And.intro rfl (And.intro (And.intro rfl r2) (And.intro (And.intro rfl r4) trivial)))) p1)).2.2 p2), rfl, rfl, rfl, rfl, trivial⟩))))))))
set_option maxRecDepth 100000 in
theorem fk_X11_meets : frk tbq U0q un368 [(2, 0), (0, 0), (0, 0)] = true := by decide +kernel
theorem fr_X11_meets (hX : CTX dC dI dA sp H0 l ρ0 ad rf L) {h h' : PH} {as r : List ZV} (hT : Tq tbq L sp ad U0q h) (has : asok [(2, 0), (0, 0), (0, 0)] as) (hc : CP (zq sp ρ0) mX11_meets h as h' r) : Tq tbq L sp ad U0q h' :=
  (fr_ok u0_n u0_w u0_l u0_f (ug368 dC dI dA sp H0 l ρ0 ad rf L hX.1 (by have := hX.2.1; omega) hX.2.2.1) (show mqq 8 18 = some mX11_meets from rfl) (mth_gd (a := 8) (b := 18) rfl) hX.2.2.2.1 fk_X11_meets hT has hc).1
set_option maxRecDepth 100000 in
theorem fww_X11_meets : wfr F9 un368.2.2.2.1 = true := by decide +kernel
theorem fw_X11_meets (hX : CTX dC dI dA sp H0 l ρ0 ad rf L) {h h' : PH} {as r : List ZV} (hT : Tq tbq L sp ad U0q h) (has : asok [(2, 0), (0, 0), (0, 0)] as) (hc : CP (zq sp ρ0) mX11_meets h as h' r) : Frm F9 h h' := fun g hg k h1 h2 =>
  (fr_ok u0_n u0_w u0_l u0_f (ug368 dC dI dA sp H0 l ρ0 ad rf L hX.1 (by have := hX.2.1; omega) hX.2.2.1) (show mqq 8 18 = some mX11_meets from rfl) (mth_gd (a := 8) (b := 18) rfl) hX.2.2.2.1 fk_X11_meets hT has hc).2 _ _ (wfr_ok fww_X11_meets hg h1 h2)
set_option maxRecDepth 100000 in
theorem fk_X12_meets : frk tbq U0q un370 [(2, 169), (0, 0), (0, 0)] = true := by decide +kernel
theorem fr_X12_meets (hX : CTX dC dI dA sp H0 l ρ0 ad rf L) {h h' : PH} {as r : List ZV} (hT : Tq tbq L sp ad U0q h) (has : asok [(2, 169), (0, 0), (0, 0)] as) (hc : CP (zq sp ρ0) mX12_meets h as h' r) : Tq tbq L sp ad U0q h' :=
  (fr_ok u0_n u0_w u0_l u0_f (ug370 dC dI dA sp H0 l ρ0 ad rf L hX.1 (by have := hX.2.1; omega) hX.2.2.1) (show mqq 17 3 = some mX12_meets from rfl) (mth_gd (a := 17) (b := 3) rfl) hX.2.2.2.1 fk_X12_meets hT has hc).1
set_option maxRecDepth 100000 in
theorem fww_X12_meets : wfr F9a un370.2.2.2.1 = true := by decide +kernel
theorem fw_X12_meets (hX : CTX dC dI dA sp H0 l ρ0 ad rf L) {h h' : PH} {as r : List ZV} (hT : Tq tbq L sp ad U0q h) (has : asok [(2, 169), (0, 0), (0, 0)] as) (hc : CP (zq sp ρ0) mX12_meets h as h' r) : Frm F9a h h' := fun g hg k h1 h2 =>
  (fr_ok u0_n u0_w u0_l u0_f (ug370 dC dI dA sp H0 l ρ0 ad rf L hX.1 (by have := hX.2.1; omega) hX.2.2.1) (show mqq 17 3 = some mX12_meets from rfl) (mth_gd (a := 17) (b := 3) rfl) hX.2.2.2.1 fk_X12_meets hT has hc).2 _ _ (wfr_ok fww_X12_meets hg h1 h2)
set_option maxRecDepth 40000 in
set_option maxHeartbeats 1600000 in
theorem v_c_meets {sl : Nat} {si : Nat → Int} {fm : ZV} {K : Nat → PH → ZL → List ZV → Prop} {Q : PH → List ZV → Prop} {h : PH} {i : Int} (H : 0 ≤ w32 (i + 1) ∧ w32 (i + 1) < sl → R32 (si (w32 (i + 1)).toNat) → 0 ≤ w32 (i + 2) ∧ w32 (i + 2) < sl → R32 (si (w32 (i + 2)).toNat) → ∀ h1 v1, CP (zz sl si fm) mX11_meets h [(2, 0), (0, (si (w32 (i + 1)).toNat)), (0, (si (w32 (i + 2)).toNat))] h1 [(0, v1)] → R32 v1 → 0 ≤ w32 (i + 1) ∧ w32 (i + 1) < sl → R32 (si (w32 (i + 1)).toNat) → 0 ≤ w32 (i + 2) ∧ w32 (i + 2) < sl → R32 (si (w32 (i + 2)).toNat) → ∀ h2 v2, CP (zz sl si fm) mX12_meets h1 [(2, 169), (0, (si (w32 (i + 1)).toNat)), (0, (si (w32 (i + 2)).toNat))] h2 [(0, v2)] → R32 v2 → K 2296 h2 [(3, (0, i)), (2, (2, 169)), (1, (2, 0)), (0, (6, 0))] []) : vc (zz sl si fm) (fun p => Nat.beq p 2296) K Q mL_law 29 1623 (ax_jmp mL_law.2.2.2.2.2.2 1623) h [(3, (0, i)), (2, (2, 169)), (1, (2, 0)), (0, (6, 0))] [] := H
set_option maxRecDepth 100000 in
theorem gv_meets (hX : CTX dC dI dA sp H0 l ρ0 ad rf L) : GC J9 L sp ad ρ0 1623 := gc_vc (fun h i hT hJ => v_c_meets (fun b1 r2 => (fun b3 r4 => (fun h1 v1 p1 q1 => (fun b5 r6 => (fun b7 r8 => (fun h2 v2 p2 q2 => (by exact ⟨rfl, fr_X12_meets hX (fr_X11_meets hX hT (by exact (And.intro rfl (And.intro (And.intro rfl r2) (And.intro (And.intro rfl r4) trivial)))) p1) (by exact (And.intro rfl (And.intro (And.intro rfl r2) (And.intro (And.intro rfl r4) trivial)))) p2, tr9 hJ (fw_X11_meets hX hT (by exact (And.intro rfl (And.intro (And.intro rfl r2) (And.intro (And.intro rfl r4) trivial)))) p1) (fw_X12_meets hX (fr_X11_meets hX hT (by exact (And.intro rfl (And.intro (And.intro rfl r2) (And.intro (And.intro rfl r4) trivial)))) p1) (by exact (And.intro rfl (And.intro (And.intro rfl r2) (And.intro (And.intro rfl r4) trivial)))) p2) (c_X12_meets (tq_B (fr_X11_meets hX hT (by exact (And.intro rfl (And.intro (And.intro rfl r2) (And.intro (And.intro rfl r4) trivial)))) p1)).1 (tq_B (fr_X11_meets hX hT (by exact (And.intro rfl (And.intro (And.intro rfl r2) (And.intro (And.intro rfl r4) trivial)))) p1)).2.1 (tq_B (fr_X11_meets hX hT (by exact (And.intro rfl (And.intro (And.intro rfl r2) (And.intro (And.intro rfl r4) trivial)))) p1)).2.2 p2), rfl, rfl, rfl, rfl, trivial⟩))))))))
set_option maxRecDepth 100000 in
theorem ck_1656 : cse tbq U0q un365 2296 = true := by decide +kernel
set_option maxRecDepth 100000 in
theorem wf_1656 : wfr F9 un365.2.2.2.1 = true := by decide +kernel
set_option maxRecDepth 100000 in
theorem fk_X11_busiest : frk tbq U0q un353 [(2, 0), (0, 0)] = true := by decide +kernel
theorem fr_X11_busiest (hX : CTX dC dI dA sp H0 l ρ0 ad rf L) {h h' : PH} {as r : List ZV} (hT : Tq tbq L sp ad U0q h) (has : asok [(2, 0), (0, 0)] as) (hc : CP (zq sp ρ0) mX11_busiest h as h' r) : Tq tbq L sp ad U0q h' :=
  (fr_ok u0_n u0_w u0_l u0_f (ug353 dC dI dA sp H0 l ρ0 ad rf L hX.1 (by have := hX.2.1; omega) hX.2.2.1) (show mqq 9 0 = some mX11_busiest from rfl) (mth_gd (a := 9) (b := 0) rfl) hX.2.2.2.1 fk_X11_busiest hT has hc).1
set_option maxRecDepth 100000 in
theorem fww_X11_busiest : wfr F9 un353.2.2.2.1 = true := by decide +kernel
theorem fw_X11_busiest (hX : CTX dC dI dA sp H0 l ρ0 ad rf L) {h h' : PH} {as r : List ZV} (hT : Tq tbq L sp ad U0q h) (has : asok [(2, 0), (0, 0)] as) (hc : CP (zq sp ρ0) mX11_busiest h as h' r) : Frm F9 h h' := fun g hg k h1 h2 =>
  (fr_ok u0_n u0_w u0_l u0_f (ug353 dC dI dA sp H0 l ρ0 ad rf L hX.1 (by have := hX.2.1; omega) hX.2.2.1) (show mqq 9 0 = some mX11_busiest from rfl) (mth_gd (a := 9) (b := 0) rfl) hX.2.2.2.1 fk_X11_busiest hT has hc).2 _ _ (wfr_ok fww_X11_busiest hg h1 h2)
set_option maxRecDepth 100000 in
theorem fk_X12_busiest : frk tbq U0q un361 [(2, 169), (0, 0)] = true := by decide +kernel
theorem fr_X12_busiest (hX : CTX dC dI dA sp H0 l ρ0 ad rf L) {h h' : PH} {as r : List ZV} (hT : Tq tbq L sp ad U0q h) (has : asok [(2, 169), (0, 0)] as) (hc : CP (zq sp ρ0) mX12_busiest h as h' r) : Tq tbq L sp ad U0q h' :=
  (fr_ok u0_n u0_w u0_l u0_f (ug361 dC dI dA sp H0 l ρ0 ad rf L hX.1 (by have := hX.2.1; omega) hX.2.2.1) (show mqq 17 8 = some mX12_busiest from rfl) (mth_gd (a := 17) (b := 8) rfl) hX.2.2.2.1 fk_X12_busiest hT has hc).1
set_option maxRecDepth 100000 in
theorem fww_X12_busiest : wfr F9a un361.2.2.2.1 = true := by decide +kernel
theorem fw_X12_busiest (hX : CTX dC dI dA sp H0 l ρ0 ad rf L) {h h' : PH} {as r : List ZV} (hT : Tq tbq L sp ad U0q h) (has : asok [(2, 169), (0, 0)] as) (hc : CP (zq sp ρ0) mX12_busiest h as h' r) : Frm F9a h h' := fun g hg k h1 h2 =>
  (fr_ok u0_n u0_w u0_l u0_f (ug361 dC dI dA sp H0 l ρ0 ad rf L hX.1 (by have := hX.2.1; omega) hX.2.2.1) (show mqq 17 8 = some mX12_busiest from rfl) (mth_gd (a := 17) (b := 8) rfl) hX.2.2.2.1 fk_X12_busiest hT has hc).2 _ _ (wfr_ok fww_X12_busiest hg h1 h2)
set_option maxRecDepth 40000 in
set_option maxHeartbeats 1600000 in
theorem v_c_busiest {sl : Nat} {si : Nat → Int} {fm : ZV} {K : Nat → PH → ZL → List ZV → Prop} {Q : PH → List ZV → Prop} {h : PH} {i : Int} (H : 0 ≤ w32 (i + 1) ∧ w32 (i + 1) < sl → R32 (si (w32 (i + 1)).toNat) → ∀ h1 v1, CP (zz sl si fm) mX11_busiest h [(2, 0), (0, (si (w32 (i + 1)).toNat))] h1 [(0, v1)] → R32 v1 → 0 ≤ w32 (i + 1) ∧ w32 (i + 1) < sl → R32 (si (w32 (i + 1)).toNat) → ∀ h2 v2, CP (zz sl si fm) mX12_busiest h1 [(2, 169), (0, (si (w32 (i + 1)).toNat))] h2 [(0, v2)] → R32 v2 → K 2296 h2 [(3, (0, i)), (2, (2, 169)), (1, (2, 0)), (0, (6, 0))] []) : vc (zz sl si fm) (fun p => Nat.beq p 2296) K Q mL_law 19 1669 (ax_jmp mL_law.2.2.2.2.2.2 1669) h [(3, (0, i)), (2, (2, 169)), (1, (2, 0)), (0, (6, 0))] [] := H
set_option maxRecDepth 100000 in
theorem gv_busiest (hX : CTX dC dI dA sp H0 l ρ0 ad rf L) : GC J9 L sp ad ρ0 1669 := gc_vc (fun h i hT hJ => v_c_busiest (fun b1 r2 => (fun h1 v1 p1 q1 => (fun b3 r4 => (fun h2 v2 p2 q2 => (by exact ⟨rfl, fr_X12_busiest hX (fr_X11_busiest hX hT (by exact (And.intro rfl (And.intro (And.intro rfl r2) trivial))) p1) (by exact (And.intro rfl (And.intro (And.intro rfl r2) trivial))) p2, tr9 hJ (fw_X11_busiest hX hT (by exact (And.intro rfl (And.intro (And.intro rfl r2) trivial))) p1) (fw_X12_busiest hX (fr_X11_busiest hX hT (by exact (And.intro rfl (And.intro (And.intro rfl r2) trivial))) p1) (by exact (And.intro rfl (And.intro (And.intro rfl r2) trivial))) p2) (c_X12_busiest (tq_B (fr_X11_busiest hX hT (by exact (And.intro rfl (And.intro (And.intro rfl r2) trivial))) p1)).1 (tq_B (fr_X11_busiest hX hT (by exact (And.intro rfl (And.intro (And.intro rfl r2) trivial))) p1)).2.1 (tq_B (fr_X11_busiest hX hT (by exact (And.intro rfl (And.intro (And.intro rfl r2) trivial))) p1)).2.2 p2), rfl, rfl, rfl, rfl, trivial⟩))))))
set_option maxRecDepth 100000 in
theorem ck_1692 : cse tbq U0q un345 2296 = true := by decide +kernel
set_option maxRecDepth 100000 in
theorem wf_1692 : wfr F9 un345.2.2.2.1 = true := by decide +kernel
set_option maxRecDepth 100000 in
theorem fk_X11_wells : frk tbq U0q un339 [(2, 0), (0, 0), (0, 0)] = true := by decide +kernel
theorem fr_X11_wells (hX : CTX dC dI dA sp H0 l ρ0 ad rf L) {h h' : PH} {as r : List ZV} (hT : Tq tbq L sp ad U0q h) (has : asok [(2, 0), (0, 0), (0, 0)] as) (hc : CP (zq sp ρ0) mX11_wells h as h' r) : Tq tbq L sp ad U0q h' :=
  (fr_ok u0_n u0_w u0_l u0_f (ug339 dC dI dA sp H0 l ρ0 ad rf L hX.1 (by have := hX.2.1; omega) hX.2.2.1) (show mqq 9 2 = some mX11_wells from rfl) (mth_gd (a := 9) (b := 2) rfl) hX.2.2.2.1 fk_X11_wells hT has hc).1
set_option maxRecDepth 100000 in
theorem fww_X11_wells : wfr F9 un339.2.2.2.1 = true := by decide +kernel
theorem fw_X11_wells (hX : CTX dC dI dA sp H0 l ρ0 ad rf L) {h h' : PH} {as r : List ZV} (hT : Tq tbq L sp ad U0q h) (has : asok [(2, 0), (0, 0), (0, 0)] as) (hc : CP (zq sp ρ0) mX11_wells h as h' r) : Frm F9 h h' := fun g hg k h1 h2 =>
  (fr_ok u0_n u0_w u0_l u0_f (ug339 dC dI dA sp H0 l ρ0 ad rf L hX.1 (by have := hX.2.1; omega) hX.2.2.1) (show mqq 9 2 = some mX11_wells from rfl) (mth_gd (a := 9) (b := 2) rfl) hX.2.2.2.1 fk_X11_wells hT has hc).2 _ _ (wfr_ok fww_X11_wells hg h1 h2)
set_option maxRecDepth 100000 in
theorem fk_X12_wells : frk tbq U0q un340 [(2, 169), (0, 0), (0, 0)] = true := by decide +kernel
theorem fr_X12_wells (hX : CTX dC dI dA sp H0 l ρ0 ad rf L) {h h' : PH} {as r : List ZV} (hT : Tq tbq L sp ad U0q h) (has : asok [(2, 169), (0, 0), (0, 0)] as) (hc : CP (zq sp ρ0) mX12_wells h as h' r) : Tq tbq L sp ad U0q h' :=
  (fr_ok u0_n u0_w u0_l u0_f (ug340 dC dI dA sp H0 l ρ0 ad rf L hX.1 (by have := hX.2.1; omega) hX.2.2.1) (show mqq 17 10 = some mX12_wells from rfl) (mth_gd (a := 17) (b := 10) rfl) hX.2.2.2.1 fk_X12_wells hT has hc).1
set_option maxRecDepth 100000 in
theorem fww_X12_wells : wfr F9a un340.2.2.2.1 = true := by decide +kernel
theorem fw_X12_wells (hX : CTX dC dI dA sp H0 l ρ0 ad rf L) {h h' : PH} {as r : List ZV} (hT : Tq tbq L sp ad U0q h) (has : asok [(2, 169), (0, 0), (0, 0)] as) (hc : CP (zq sp ρ0) mX12_wells h as h' r) : Frm F9a h h' := fun g hg k h1 h2 =>
  (fr_ok u0_n u0_w u0_l u0_f (ug340 dC dI dA sp H0 l ρ0 ad rf L hX.1 (by have := hX.2.1; omega) hX.2.2.1) (show mqq 17 10 = some mX12_wells from rfl) (mth_gd (a := 17) (b := 10) rfl) hX.2.2.2.1 fk_X12_wells hT has hc).2 _ _ (wfr_ok fww_X12_wells hg h1 h2)
set_option maxRecDepth 40000 in
set_option maxHeartbeats 1600000 in
theorem v_c_wells {sl : Nat} {si : Nat → Int} {fm : ZV} {K : Nat → PH → ZL → List ZV → Prop} {Q : PH → List ZV → Prop} {h : PH} {i : Int} (H : 0 ≤ w32 (i + 1) ∧ w32 (i + 1) < sl → R32 (si (w32 (i + 1)).toNat) → 0 ≤ w32 (i + 2) ∧ w32 (i + 2) < sl → R32 (si (w32 (i + 2)).toNat) → ∀ h1 v1, CP (zz sl si fm) mX11_wells h [(2, 0), (0, (si (w32 (i + 1)).toNat)), (0, (si (w32 (i + 2)).toNat))] h1 [(0, v1)] → R32 v1 → 0 ≤ w32 (i + 1) ∧ w32 (i + 1) < sl → R32 (si (w32 (i + 1)).toNat) → 0 ≤ w32 (i + 2) ∧ w32 (i + 2) < sl → R32 (si (w32 (i + 2)).toNat) → ∀ h2 v2, CP (zz sl si fm) mX12_wells h1 [(2, 169), (0, (si (w32 (i + 1)).toNat)), (0, (si (w32 (i + 2)).toNat))] h2 [(0, v2)] → R32 v2 → K 2296 h2 [(3, (0, i)), (2, (2, 169)), (1, (2, 0)), (0, (6, 0))] []) : vc (zz sl si fm) (fun p => Nat.beq p 2296) K Q mL_law 29 1705 (ax_jmp mL_law.2.2.2.2.2.2 1705) h [(3, (0, i)), (2, (2, 169)), (1, (2, 0)), (0, (6, 0))] [] := H
set_option maxRecDepth 100000 in
theorem gv_wells (hX : CTX dC dI dA sp H0 l ρ0 ad rf L) : GC J9 L sp ad ρ0 1705 := gc_vc (fun h i hT hJ => v_c_wells (fun b1 r2 => (fun b3 r4 => (fun h1 v1 p1 q1 => (fun b5 r6 => (fun b7 r8 => (fun h2 v2 p2 q2 => (by exact ⟨rfl, fr_X12_wells hX (fr_X11_wells hX hT (by exact (And.intro rfl (And.intro (And.intro rfl r2) (And.intro (And.intro rfl r4) trivial)))) p1) (by exact (And.intro rfl (And.intro (And.intro rfl r2) (And.intro (And.intro rfl r4) trivial)))) p2, tr9 hJ (fw_X11_wells hX hT (by exact (And.intro rfl (And.intro (And.intro rfl r2) (And.intro (And.intro rfl r4) trivial)))) p1) (fw_X12_wells hX (fr_X11_wells hX hT (by exact (And.intro rfl (And.intro (And.intro rfl r2) (And.intro (And.intro rfl r4) trivial)))) p1) (by exact (And.intro rfl (And.intro (And.intro rfl r2) (And.intro (And.intro rfl r4) trivial)))) p2) (c_X12_wells (tq_B (fr_X11_wells hX hT (by exact (And.intro rfl (And.intro (And.intro rfl r2) (And.intro (And.intro rfl r4) trivial)))) p1)).1 (tq_B (fr_X11_wells hX hT (by exact (And.intro rfl (And.intro (And.intro rfl r2) (And.intro (And.intro rfl r4) trivial)))) p1)).2.1 (tq_B (fr_X11_wells hX hT (by exact (And.intro rfl (And.intro (And.intro rfl r2) (And.intro (And.intro rfl r4) trivial)))) p1)).2.2 p2), rfl, rfl, rfl, rfl, trivial⟩))))))))
set_option maxRecDepth 100000 in
theorem ck_1738 : cse tbq U0q un335 2296 = true := by decide +kernel
set_option maxRecDepth 100000 in
theorem wf_1738 : wfr F9 un335.2.2.2.1 = true := by decide +kernel
set_option maxRecDepth 100000 in
theorem ck_1771 : cse tbq U0q un322 2296 = true := by decide +kernel
set_option maxRecDepth 100000 in
theorem wf_1771 : wfr F9 un322.2.2.2.1 = true := by decide +kernel
set_option maxRecDepth 100000 in
theorem fk_X11_loss : frk tbq U0q un316 [(2, 0), (0, 0)] = true := by decide +kernel
theorem fr_X11_loss (hX : CTX dC dI dA sp H0 l ρ0 ad rf L) {h h' : PH} {as r : List ZV} (hT : Tq tbq L sp ad U0q h) (has : asok [(2, 0), (0, 0)] as) (hc : CP (zq sp ρ0) mX11_loss h as h' r) : Tq tbq L sp ad U0q h' :=
  (fr_ok u0_n u0_w u0_l u0_f (ug316 dC dI dA sp H0 l ρ0 ad rf L hX.1 (by have := hX.2.1; omega) hX.2.2.1) (show mqq 9 5 = some mX11_loss from rfl) (mth_gd (a := 9) (b := 5) rfl) hX.2.2.2.1 fk_X11_loss hT has hc).1
set_option maxRecDepth 100000 in
theorem fww_X11_loss : wfr F9 un316.2.2.2.1 = true := by decide +kernel
theorem fw_X11_loss (hX : CTX dC dI dA sp H0 l ρ0 ad rf L) {h h' : PH} {as r : List ZV} (hT : Tq tbq L sp ad U0q h) (has : asok [(2, 0), (0, 0)] as) (hc : CP (zq sp ρ0) mX11_loss h as h' r) : Frm F9 h h' := fun g hg k h1 h2 =>
  (fr_ok u0_n u0_w u0_l u0_f (ug316 dC dI dA sp H0 l ρ0 ad rf L hX.1 (by have := hX.2.1; omega) hX.2.2.1) (show mqq 9 5 = some mX11_loss from rfl) (mth_gd (a := 9) (b := 5) rfl) hX.2.2.2.1 fk_X11_loss hT has hc).2 _ _ (wfr_ok fww_X11_loss hg h1 h2)
set_option maxRecDepth 100000 in
theorem fk_X12_loss : frk tbq U0q un317 [(2, 169), (0, 0)] = true := by decide +kernel
theorem fr_X12_loss (hX : CTX dC dI dA sp H0 l ρ0 ad rf L) {h h' : PH} {as r : List ZV} (hT : Tq tbq L sp ad U0q h) (has : asok [(2, 169), (0, 0)] as) (hc : CP (zq sp ρ0) mX12_loss h as h' r) : Tq tbq L sp ad U0q h' :=
  (fr_ok u0_n u0_w u0_l u0_f (ug317 dC dI dA sp H0 l ρ0 ad rf L hX.1 (by have := hX.2.1; omega) hX.2.2.1) (show mqq 17 14 = some mX12_loss from rfl) (mth_gd (a := 17) (b := 14) rfl) hX.2.2.2.1 fk_X12_loss hT has hc).1
set_option maxRecDepth 100000 in
theorem fww_X12_loss : wfr F9a un317.2.2.2.1 = true := by decide +kernel
theorem fw_X12_loss (hX : CTX dC dI dA sp H0 l ρ0 ad rf L) {h h' : PH} {as r : List ZV} (hT : Tq tbq L sp ad U0q h) (has : asok [(2, 169), (0, 0)] as) (hc : CP (zq sp ρ0) mX12_loss h as h' r) : Frm F9a h h' := fun g hg k h1 h2 =>
  (fr_ok u0_n u0_w u0_l u0_f (ug317 dC dI dA sp H0 l ρ0 ad rf L hX.1 (by have := hX.2.1; omega) hX.2.2.1) (show mqq 17 14 = some mX12_loss from rfl) (mth_gd (a := 17) (b := 14) rfl) hX.2.2.2.1 fk_X12_loss hT has hc).2 _ _ (wfr_ok fww_X12_loss hg h1 h2)
set_option maxRecDepth 40000 in
set_option maxHeartbeats 1600000 in
theorem v_c_loss {sl : Nat} {si : Nat → Int} {fm : ZV} {K : Nat → PH → ZL → List ZV → Prop} {Q : PH → List ZV → Prop} {h : PH} {i : Int} (H : 0 ≤ w32 (i + 1) ∧ w32 (i + 1) < sl → R32 (si (w32 (i + 1)).toNat) → ∀ h1 v1, CP (zz sl si fm) mX11_loss h [(2, 0), (0, (si (w32 (i + 1)).toNat))] h1 [(0, v1)] → R32 v1 → 0 ≤ w32 (i + 1) ∧ w32 (i + 1) < sl → R32 (si (w32 (i + 1)).toNat) → ∀ h2 v2, CP (zz sl si fm) mX12_loss h1 [(2, 169), (0, (si (w32 (i + 1)).toNat))] h2 [(0, v2)] → R32 v2 → K 2296 h2 [(3, (0, i)), (2, (2, 169)), (1, (2, 0)), (0, (6, 0))] []) : vc (zz sl si fm) (fun p => Nat.beq p 2296) K Q mL_law 19 1804 (ax_jmp mL_law.2.2.2.2.2.2 1804) h [(3, (0, i)), (2, (2, 169)), (1, (2, 0)), (0, (6, 0))] [] := H
set_option maxRecDepth 100000 in
theorem gv_loss (hX : CTX dC dI dA sp H0 l ρ0 ad rf L) : GC J9 L sp ad ρ0 1804 := gc_vc (fun h i hT hJ => v_c_loss (fun b1 r2 => (fun h1 v1 p1 q1 => (fun b3 r4 => (fun h2 v2 p2 q2 => (by exact ⟨rfl, fr_X12_loss hX (fr_X11_loss hX hT (by exact (And.intro rfl (And.intro (And.intro rfl r2) trivial))) p1) (by exact (And.intro rfl (And.intro (And.intro rfl r2) trivial))) p2, tr9 hJ (fw_X11_loss hX hT (by exact (And.intro rfl (And.intro (And.intro rfl r2) trivial))) p1) (fw_X12_loss hX (fr_X11_loss hX hT (by exact (And.intro rfl (And.intro (And.intro rfl r2) trivial))) p1) (by exact (And.intro rfl (And.intro (And.intro rfl r2) trivial))) p2) (c_X12_loss (tq_B (fr_X11_loss hX hT (by exact (And.intro rfl (And.intro (And.intro rfl r2) trivial))) p1)).1 (tq_B (fr_X11_loss hX hT (by exact (And.intro rfl (And.intro (And.intro rfl r2) trivial))) p1)).2.1 (tq_B (fr_X11_loss hX hT (by exact (And.intro rfl (And.intro (And.intro rfl r2) trivial))) p1)).2.2 p2), rfl, rfl, rfl, rfl, trivial⟩))))))
set_option maxRecDepth 100000 in
theorem fk_X11_saint : frk tbq U0q un312 [(2, 0)] = true := by decide +kernel
theorem fr_X11_saint (hX : CTX dC dI dA sp H0 l ρ0 ad rf L) {h h' : PH} {as r : List ZV} (hT : Tq tbq L sp ad U0q h) (has : asok [(2, 0)] as) (hc : CP (zq sp ρ0) mX11_saint h as h' r) : Tq tbq L sp ad U0q h' :=
  (fr_ok u0_n u0_w u0_l u0_f (ug312 dC dI dA sp H0 l ρ0 ad rf L hX.1 (by have := hX.2.1; omega) hX.2.2.1) (show mqq 9 6 = some mX11_saint from rfl) (mth_gd (a := 9) (b := 6) rfl) hX.2.2.2.1 fk_X11_saint hT has hc).1
set_option maxRecDepth 100000 in
theorem fww_X11_saint : wfr F9 un312.2.2.2.1 = true := by decide +kernel
theorem fw_X11_saint (hX : CTX dC dI dA sp H0 l ρ0 ad rf L) {h h' : PH} {as r : List ZV} (hT : Tq tbq L sp ad U0q h) (has : asok [(2, 0)] as) (hc : CP (zq sp ρ0) mX11_saint h as h' r) : Frm F9 h h' := fun g hg k h1 h2 =>
  (fr_ok u0_n u0_w u0_l u0_f (ug312 dC dI dA sp H0 l ρ0 ad rf L hX.1 (by have := hX.2.1; omega) hX.2.2.1) (show mqq 9 6 = some mX11_saint from rfl) (mth_gd (a := 9) (b := 6) rfl) hX.2.2.2.1 fk_X11_saint hT has hc).2 _ _ (wfr_ok fww_X11_saint hg h1 h2)
set_option maxRecDepth 100000 in
theorem fk_X12_saint : frk tbq U0q un314 [(2, 169)] = true := by decide +kernel
theorem fr_X12_saint (hX : CTX dC dI dA sp H0 l ρ0 ad rf L) {h h' : PH} {as r : List ZV} (hT : Tq tbq L sp ad U0q h) (has : asok [(2, 169)] as) (hc : CP (zq sp ρ0) mX12_saint h as h' r) : Tq tbq L sp ad U0q h' :=
  (fr_ok u0_n u0_w u0_l u0_f (ug314 dC dI dA sp H0 l ρ0 ad rf L hX.1 (by have := hX.2.1; omega) hX.2.2.1) (show mqq 17 15 = some mX12_saint from rfl) (mth_gd (a := 17) (b := 15) rfl) hX.2.2.2.1 fk_X12_saint hT has hc).1
set_option maxRecDepth 100000 in
theorem fww_X12_saint : wfr F9a un314.2.2.2.1 = true := by decide +kernel
theorem fw_X12_saint (hX : CTX dC dI dA sp H0 l ρ0 ad rf L) {h h' : PH} {as r : List ZV} (hT : Tq tbq L sp ad U0q h) (has : asok [(2, 169)] as) (hc : CP (zq sp ρ0) mX12_saint h as h' r) : Frm F9a h h' := fun g hg k h1 h2 =>
  (fr_ok u0_n u0_w u0_l u0_f (ug314 dC dI dA sp H0 l ρ0 ad rf L hX.1 (by have := hX.2.1; omega) hX.2.2.1) (show mqq 17 15 = some mX12_saint from rfl) (mth_gd (a := 17) (b := 15) rfl) hX.2.2.2.1 fk_X12_saint hT has hc).2 _ _ (wfr_ok fww_X12_saint hg h1 h2)
set_option maxRecDepth 40000 in
set_option maxHeartbeats 1600000 in
theorem v_c_saint {sl : Nat} {si : Nat → Int} {fm : ZV} {K : Nat → PH → ZL → List ZV → Prop} {Q : PH → List ZV → Prop} {h : PH} {i : Int} (H : ∀ h1 v1, CP (zz sl si fm) mX11_saint h [(2, 0)] h1 [(0, v1)] → R32 v1 → ∀ h2 v2, CP (zz sl si fm) mX12_saint h1 [(2, 169)] h2 [(0, v2)] → R32 v2 → K 2296 h2 [(3, (0, i)), (2, (2, 169)), (1, (2, 0)), (0, (6, 0))] []) : vc (zz sl si fm) (fun p => Nat.beq p 2296) K Q mL_law 9 1827 (ax_jmp mL_law.2.2.2.2.2.2 1827) h [(3, (0, i)), (2, (2, 169)), (1, (2, 0)), (0, (6, 0))] [] := H
set_option maxRecDepth 100000 in
theorem gv_saint (hX : CTX dC dI dA sp H0 l ρ0 ad rf L) : GC J9 L sp ad ρ0 1827 := gc_vc (fun h i hT hJ => v_c_saint (fun h1 v1 p1 q1 => (fun h2 v2 p2 q2 => (by exact ⟨rfl, fr_X12_saint hX (fr_X11_saint hX hT (by exact (And.intro rfl trivial)) p1) (by exact (And.intro rfl trivial)) p2, tr9 hJ (fw_X11_saint hX hT (by exact (And.intro rfl trivial)) p1) (fw_X12_saint hX (fr_X11_saint hX hT (by exact (And.intro rfl trivial)) p1) (by exact (And.intro rfl trivial)) p2) (c_X12_saint (tq_B (fr_X11_saint hX hT (by exact (And.intro rfl trivial)) p1)).1 (tq_B (fr_X11_saint hX hT (by exact (And.intro rfl trivial)) p1)).2.1 (tq_B (fr_X11_saint hX hT (by exact (And.intro rfl trivial)) p1)).2.2 p2), rfl, rfl, rfl, rfl, trivial⟩))))
set_option maxRecDepth 100000 in
theorem fk_X11_keeper : frk tbq U0q un294 [(2, 0)] = true := by decide +kernel
theorem fr_X11_keeper (hX : CTX dC dI dA sp H0 l ρ0 ad rf L) {h h' : PH} {as r : List ZV} (hT : Tq tbq L sp ad U0q h) (has : asok [(2, 0)] as) (hc : CP (zq sp ρ0) mX11_keeper h as h' r) : Tq tbq L sp ad U0q h' :=
  (fr_ok u0_n u0_w u0_l u0_f (ug294 dC dI dA sp H0 l ρ0 ad rf L hX.1 (by have := hX.2.1; omega) hX.2.2.1) (show mqq 9 7 = some mX11_keeper from rfl) (mth_gd (a := 9) (b := 7) rfl) hX.2.2.2.1 fk_X11_keeper hT has hc).1
set_option maxRecDepth 100000 in
theorem fww_X11_keeper : wfr F9 un294.2.2.2.1 = true := by decide +kernel
theorem fw_X11_keeper (hX : CTX dC dI dA sp H0 l ρ0 ad rf L) {h h' : PH} {as r : List ZV} (hT : Tq tbq L sp ad U0q h) (has : asok [(2, 0)] as) (hc : CP (zq sp ρ0) mX11_keeper h as h' r) : Frm F9 h h' := fun g hg k h1 h2 =>
  (fr_ok u0_n u0_w u0_l u0_f (ug294 dC dI dA sp H0 l ρ0 ad rf L hX.1 (by have := hX.2.1; omega) hX.2.2.1) (show mqq 9 7 = some mX11_keeper from rfl) (mth_gd (a := 9) (b := 7) rfl) hX.2.2.2.1 fk_X11_keeper hT has hc).2 _ _ (wfr_ok fww_X11_keeper hg h1 h2)
set_option maxRecDepth 100000 in
theorem fk_X12_keeper : frk tbq U0q un298 [(2, 169)] = true := by decide +kernel
theorem fr_X12_keeper (hX : CTX dC dI dA sp H0 l ρ0 ad rf L) {h h' : PH} {as r : List ZV} (hT : Tq tbq L sp ad U0q h) (has : asok [(2, 169)] as) (hc : CP (zq sp ρ0) mX12_keeper h as h' r) : Tq tbq L sp ad U0q h' :=
  (fr_ok u0_n u0_w u0_l u0_f (ug298 dC dI dA sp H0 l ρ0 ad rf L hX.1 (by have := hX.2.1; omega) hX.2.2.1) (show mqq 17 17 = some mX12_keeper from rfl) (mth_gd (a := 17) (b := 17) rfl) hX.2.2.2.1 fk_X12_keeper hT has hc).1
set_option maxRecDepth 100000 in
theorem fww_X12_keeper : wfr F9a un298.2.2.2.1 = true := by decide +kernel
theorem fw_X12_keeper (hX : CTX dC dI dA sp H0 l ρ0 ad rf L) {h h' : PH} {as r : List ZV} (hT : Tq tbq L sp ad U0q h) (has : asok [(2, 169)] as) (hc : CP (zq sp ρ0) mX12_keeper h as h' r) : Frm F9a h h' := fun g hg k h1 h2 =>
  (fr_ok u0_n u0_w u0_l u0_f (ug298 dC dI dA sp H0 l ρ0 ad rf L hX.1 (by have := hX.2.1; omega) hX.2.2.1) (show mqq 17 17 = some mX12_keeper from rfl) (mth_gd (a := 17) (b := 17) rfl) hX.2.2.2.1 fk_X12_keeper hT has hc).2 _ _ (wfr_ok fww_X12_keeper hg h1 h2)
set_option maxRecDepth 40000 in
set_option maxHeartbeats 1600000 in
theorem v_c_keeper {sl : Nat} {si : Nat → Int} {fm : ZV} {K : Nat → PH → ZL → List ZV → Prop} {Q : PH → List ZV → Prop} {h : PH} {i : Int} (H : ∀ h1 v1, CP (zz sl si fm) mX11_keeper h [(2, 0)] h1 [(0, v1)] → R32 v1 → ∀ h2 v2, CP (zz sl si fm) mX12_keeper h1 [(2, 169)] h2 [(0, v2)] → R32 v2 → K 2296 h2 [(3, (0, i)), (2, (2, 169)), (1, (2, 0)), (0, (6, 0))] []) : vc (zz sl si fm) (fun p => Nat.beq p 2296) K Q mL_law 9 1840 (ax_jmp mL_law.2.2.2.2.2.2 1840) h [(3, (0, i)), (2, (2, 169)), (1, (2, 0)), (0, (6, 0))] [] := H
set_option maxRecDepth 100000 in
theorem gv_keeper (hX : CTX dC dI dA sp H0 l ρ0 ad rf L) : GC J9 L sp ad ρ0 1840 := gc_vc (fun h i hT hJ => v_c_keeper (fun h1 v1 p1 q1 => (fun h2 v2 p2 q2 => (by exact ⟨rfl, fr_X12_keeper hX (fr_X11_keeper hX hT (by exact (And.intro rfl trivial)) p1) (by exact (And.intro rfl trivial)) p2, tr9 hJ (fw_X11_keeper hX hT (by exact (And.intro rfl trivial)) p1) (fw_X12_keeper hX (fr_X11_keeper hX hT (by exact (And.intro rfl trivial)) p1) (by exact (And.intro rfl trivial)) p2) (c_X12_keeper (tq_B (fr_X11_keeper hX hT (by exact (And.intro rfl trivial)) p1)).1 (tq_B (fr_X11_keeper hX hT (by exact (And.intro rfl trivial)) p1)).2.1 (tq_B (fr_X11_keeper hX hT (by exact (And.intro rfl trivial)) p1)).2.2 p2), rfl, rfl, rfl, rfl, trivial⟩))))
set_option maxRecDepth 100000 in
theorem ck_1853 : cse tbq U0q un289 2296 = true := by decide +kernel
set_option maxRecDepth 100000 in
theorem wf_1853 : wfr F9 un289.2.2.2.1 = true := by decide +kernel
set_option maxRecDepth 100000 in
theorem ck_1866 : cse tbq U0q un284 2296 = true := by decide +kernel
set_option maxRecDepth 100000 in
theorem wf_1866 : wfr F9 un284.2.2.2.1 = true := by decide +kernel
set_option maxRecDepth 100000 in
theorem ck_1889 : cse tbq U0q un279 2296 = true := by decide +kernel
set_option maxRecDepth 100000 in
theorem wf_1889 : wfr F9 un279.2.2.2.1 = true := by decide +kernel
set_option maxRecDepth 100000 in
theorem fk_X11_wedding : frk tbq U0q un276 [(2, 0), (0, 0)] = true := by decide +kernel
theorem fr_X11_wedding (hX : CTX dC dI dA sp H0 l ρ0 ad rf L) {h h' : PH} {as r : List ZV} (hT : Tq tbq L sp ad U0q h) (has : asok [(2, 0), (0, 0)] as) (hc : CP (zq sp ρ0) mX11_wedding h as h' r) : Tq tbq L sp ad U0q h' :=
  (fr_ok u0_n u0_w u0_l u0_f (ug276 dC dI dA sp H0 l ρ0 ad rf L hX.1 (by have := hX.2.1; omega) hX.2.2.1) (show mqq 9 11 = some mX11_wedding from rfl) (mth_gd (a := 9) (b := 11) rfl) hX.2.2.2.1 fk_X11_wedding hT has hc).1
set_option maxRecDepth 100000 in
theorem fww_X11_wedding : wfr F9 un276.2.2.2.1 = true := by decide +kernel
theorem fw_X11_wedding (hX : CTX dC dI dA sp H0 l ρ0 ad rf L) {h h' : PH} {as r : List ZV} (hT : Tq tbq L sp ad U0q h) (has : asok [(2, 0), (0, 0)] as) (hc : CP (zq sp ρ0) mX11_wedding h as h' r) : Frm F9 h h' := fun g hg k h1 h2 =>
  (fr_ok u0_n u0_w u0_l u0_f (ug276 dC dI dA sp H0 l ρ0 ad rf L hX.1 (by have := hX.2.1; omega) hX.2.2.1) (show mqq 9 11 = some mX11_wedding from rfl) (mth_gd (a := 9) (b := 11) rfl) hX.2.2.2.1 fk_X11_wedding hT has hc).2 _ _ (wfr_ok fww_X11_wedding hg h1 h2)
set_option maxRecDepth 100000 in
theorem fk_X12_wedding : frk tbq U0q un277 [(2, 169), (0, 0)] = true := by decide +kernel
theorem fr_X12_wedding (hX : CTX dC dI dA sp H0 l ρ0 ad rf L) {h h' : PH} {as r : List ZV} (hT : Tq tbq L sp ad U0q h) (has : asok [(2, 169), (0, 0)] as) (hc : CP (zq sp ρ0) mX12_wedding h as h' r) : Tq tbq L sp ad U0q h' :=
  (fr_ok u0_n u0_w u0_l u0_f (ug277 dC dI dA sp H0 l ρ0 ad rf L hX.1 (by have := hX.2.1; omega) hX.2.2.1) (show mqq 18 3 = some mX12_wedding from rfl) (mth_gd (a := 18) (b := 3) rfl) hX.2.2.2.1 fk_X12_wedding hT has hc).1
set_option maxRecDepth 100000 in
theorem fww_X12_wedding : wfr F9a un277.2.2.2.1 = true := by decide +kernel
theorem fw_X12_wedding (hX : CTX dC dI dA sp H0 l ρ0 ad rf L) {h h' : PH} {as r : List ZV} (hT : Tq tbq L sp ad U0q h) (has : asok [(2, 169), (0, 0)] as) (hc : CP (zq sp ρ0) mX12_wedding h as h' r) : Frm F9a h h' := fun g hg k h1 h2 =>
  (fr_ok u0_n u0_w u0_l u0_f (ug277 dC dI dA sp H0 l ρ0 ad rf L hX.1 (by have := hX.2.1; omega) hX.2.2.1) (show mqq 18 3 = some mX12_wedding from rfl) (mth_gd (a := 18) (b := 3) rfl) hX.2.2.2.1 fk_X12_wedding hT has hc).2 _ _ (wfr_ok fww_X12_wedding hg h1 h2)
set_option maxRecDepth 40000 in
set_option maxHeartbeats 1600000 in
theorem v_c_wedding {sl : Nat} {si : Nat → Int} {fm : ZV} {K : Nat → PH → ZL → List ZV → Prop} {Q : PH → List ZV → Prop} {h : PH} {i : Int} (H : 0 ≤ w32 (i + 1) ∧ w32 (i + 1) < sl → R32 (si (w32 (i + 1)).toNat) → ∀ h1 v1, CP (zz sl si fm) mX11_wedding h [(2, 0), (0, (si (w32 (i + 1)).toNat))] h1 [(0, v1)] → R32 v1 → 0 ≤ w32 (i + 1) ∧ w32 (i + 1) < sl → R32 (si (w32 (i + 1)).toNat) → ∀ h2 v2, CP (zz sl si fm) mX12_wedding h1 [(2, 169), (0, (si (w32 (i + 1)).toNat))] h2 [(0, v2)] → R32 v2 → K 2296 h2 [(3, (0, i)), (2, (2, 169)), (1, (2, 0)), (0, (6, 0))] []) : vc (zz sl si fm) (fun p => Nat.beq p 2296) K Q mL_law 19 1912 (ax_jmp mL_law.2.2.2.2.2.2 1912) h [(3, (0, i)), (2, (2, 169)), (1, (2, 0)), (0, (6, 0))] [] := H
set_option maxRecDepth 100000 in
theorem gv_wedding (hX : CTX dC dI dA sp H0 l ρ0 ad rf L) : GC J9 L sp ad ρ0 1912 := gc_vc (fun h i hT hJ => v_c_wedding (fun b1 r2 => (fun h1 v1 p1 q1 => (fun b3 r4 => (fun h2 v2 p2 q2 => (by exact ⟨rfl, fr_X12_wedding hX (fr_X11_wedding hX hT (by exact (And.intro rfl (And.intro (And.intro rfl r2) trivial))) p1) (by exact (And.intro rfl (And.intro (And.intro rfl r2) trivial))) p2, tr9 hJ (fw_X11_wedding hX hT (by exact (And.intro rfl (And.intro (And.intro rfl r2) trivial))) p1) (fw_X12_wedding hX (fr_X11_wedding hX hT (by exact (And.intro rfl (And.intro (And.intro rfl r2) trivial))) p1) (by exact (And.intro rfl (And.intro (And.intro rfl r2) trivial))) p2) (c_X12_wedding (tq_B (fr_X11_wedding hX hT (by exact (And.intro rfl (And.intro (And.intro rfl r2) trivial))) p1)).1 (tq_B (fr_X11_wedding hX hT (by exact (And.intro rfl (And.intro (And.intro rfl r2) trivial))) p1)).2.1 (tq_B (fr_X11_wedding hX hT (by exact (And.intro rfl (And.intro (And.intro rfl r2) trivial))) p1)).2.2 p2), rfl, rfl, rfl, rfl, trivial⟩))))))
set_option maxRecDepth 100000 in
theorem fk_X11_weddingSet : frk tbq U0q un268 [(2, 0), (0, 0)] = true := by decide +kernel
theorem fr_X11_weddingSet (hX : CTX dC dI dA sp H0 l ρ0 ad rf L) {h h' : PH} {as r : List ZV} (hT : Tq tbq L sp ad U0q h) (has : asok [(2, 0), (0, 0)] as) (hc : CP (zq sp ρ0) mX11_weddingSet h as h' r) : Tq tbq L sp ad U0q h' :=
  (fr_ok u0_n u0_w u0_l u0_f (ug268 dC dI dA sp H0 l ρ0 ad rf L hX.1 (by have := hX.2.1; omega) hX.2.2.1) (show mqq 9 12 = some mX11_weddingSet from rfl) (mth_gd (a := 9) (b := 12) rfl) hX.2.2.2.1 fk_X11_weddingSet hT has hc).1
set_option maxRecDepth 100000 in
theorem fww_X11_weddingSet : wfr F9 un268.2.2.2.1 = true := by decide +kernel
theorem fw_X11_weddingSet (hX : CTX dC dI dA sp H0 l ρ0 ad rf L) {h h' : PH} {as r : List ZV} (hT : Tq tbq L sp ad U0q h) (has : asok [(2, 0), (0, 0)] as) (hc : CP (zq sp ρ0) mX11_weddingSet h as h' r) : Frm F9 h h' := fun g hg k h1 h2 =>
  (fr_ok u0_n u0_w u0_l u0_f (ug268 dC dI dA sp H0 l ρ0 ad rf L hX.1 (by have := hX.2.1; omega) hX.2.2.1) (show mqq 9 12 = some mX11_weddingSet from rfl) (mth_gd (a := 9) (b := 12) rfl) hX.2.2.2.1 fk_X11_weddingSet hT has hc).2 _ _ (wfr_ok fww_X11_weddingSet hg h1 h2)
set_option maxRecDepth 100000 in
theorem fk_X12_weddingSet : frk tbq U0q un274 [(2, 169), (0, 0)] = true := by decide +kernel
theorem fr_X12_weddingSet (hX : CTX dC dI dA sp H0 l ρ0 ad rf L) {h h' : PH} {as r : List ZV} (hT : Tq tbq L sp ad U0q h) (has : asok [(2, 169), (0, 0)] as) (hc : CP (zq sp ρ0) mX12_weddingSet h as h' r) : Tq tbq L sp ad U0q h' :=
  (fr_ok u0_n u0_w u0_l u0_f (ug274 dC dI dA sp H0 l ρ0 ad rf L hX.1 (by have := hX.2.1; omega) hX.2.2.1) (show mqq 18 4 = some mX12_weddingSet from rfl) (mth_gd (a := 18) (b := 4) rfl) hX.2.2.2.1 fk_X12_weddingSet hT has hc).1
set_option maxRecDepth 100000 in
theorem fww_X12_weddingSet : wfr F9a un274.2.2.2.1 = true := by decide +kernel
theorem fw_X12_weddingSet (hX : CTX dC dI dA sp H0 l ρ0 ad rf L) {h h' : PH} {as r : List ZV} (hT : Tq tbq L sp ad U0q h) (has : asok [(2, 169), (0, 0)] as) (hc : CP (zq sp ρ0) mX12_weddingSet h as h' r) : Frm F9a h h' := fun g hg k h1 h2 =>
  (fr_ok u0_n u0_w u0_l u0_f (ug274 dC dI dA sp H0 l ρ0 ad rf L hX.1 (by have := hX.2.1; omega) hX.2.2.1) (show mqq 18 4 = some mX12_weddingSet from rfl) (mth_gd (a := 18) (b := 4) rfl) hX.2.2.2.1 fk_X12_weddingSet hT has hc).2 _ _ (wfr_ok fww_X12_weddingSet hg h1 h2)
set_option maxRecDepth 40000 in
set_option maxHeartbeats 1600000 in
theorem v_c_weddingSet {sl : Nat} {si : Nat → Int} {fm : ZV} {K : Nat → PH → ZL → List ZV → Prop} {Q : PH → List ZV → Prop} {h : PH} {i : Int} (H : 0 ≤ w32 (i + 1) ∧ w32 (i + 1) < sl → R32 (si (w32 (i + 1)).toNat) → ∀ h1 v1, CP (zz sl si fm) mX11_weddingSet h [(2, 0), (0, (si (w32 (i + 1)).toNat))] h1 [(0, v1)] → R32 v1 → 0 ≤ w32 (i + 1) ∧ w32 (i + 1) < sl → R32 (si (w32 (i + 1)).toNat) → ∀ h2 v2, CP (zz sl si fm) mX12_weddingSet h1 [(2, 169), (0, (si (w32 (i + 1)).toNat))] h2 [(0, v2)] → R32 v2 → K 2296 h2 [(3, (0, i)), (2, (2, 169)), (1, (2, 0)), (0, (6, 0))] []) : vc (zz sl si fm) (fun p => Nat.beq p 2296) K Q mL_law 19 1935 (ax_jmp mL_law.2.2.2.2.2.2 1935) h [(3, (0, i)), (2, (2, 169)), (1, (2, 0)), (0, (6, 0))] [] := H
set_option maxRecDepth 100000 in
theorem gv_weddingSet (hX : CTX dC dI dA sp H0 l ρ0 ad rf L) : GC J9 L sp ad ρ0 1935 := gc_vc (fun h i hT hJ => v_c_weddingSet (fun b1 r2 => (fun h1 v1 p1 q1 => (fun b3 r4 => (fun h2 v2 p2 q2 => (by exact ⟨rfl, fr_X12_weddingSet hX (fr_X11_weddingSet hX hT (by exact (And.intro rfl (And.intro (And.intro rfl r2) trivial))) p1) (by exact (And.intro rfl (And.intro (And.intro rfl r2) trivial))) p2, tr9 hJ (fw_X11_weddingSet hX hT (by exact (And.intro rfl (And.intro (And.intro rfl r2) trivial))) p1) (fw_X12_weddingSet hX (fr_X11_weddingSet hX hT (by exact (And.intro rfl (And.intro (And.intro rfl r2) trivial))) p1) (by exact (And.intro rfl (And.intro (And.intro rfl r2) trivial))) p2) (c_X12_weddingSet (tq_B (fr_X11_weddingSet hX hT (by exact (And.intro rfl (And.intro (And.intro rfl r2) trivial))) p1)).1 (tq_B (fr_X11_weddingSet hX hT (by exact (And.intro rfl (And.intro (And.intro rfl r2) trivial))) p1)).2.1 (tq_B (fr_X11_weddingSet hX hT (by exact (And.intro rfl (And.intro (And.intro rfl r2) trivial))) p1)).2.2 p2), rfl, rfl, rfl, rfl, trivial⟩))))))
set_option maxRecDepth 100000 in
theorem fk_X11_pardon : frk tbq U0q un260 [(2, 0), (0, 0), (0, 0)] = true := by decide +kernel
theorem fr_X11_pardon (hX : CTX dC dI dA sp H0 l ρ0 ad rf L) {h h' : PH} {as r : List ZV} (hT : Tq tbq L sp ad U0q h) (has : asok [(2, 0), (0, 0), (0, 0)] as) (hc : CP (zq sp ρ0) mX11_pardon h as h' r) : Tq tbq L sp ad U0q h' :=
  (fr_ok u0_n u0_w u0_l u0_f (ug260 dC dI dA sp H0 l ρ0 ad rf L hX.1 (by have := hX.2.1; omega) hX.2.2.1) (show mqq 9 13 = some mX11_pardon from rfl) (mth_gd (a := 9) (b := 13) rfl) hX.2.2.2.1 fk_X11_pardon hT has hc).1
set_option maxRecDepth 100000 in
theorem fww_X11_pardon : wfr F9 un260.2.2.2.1 = true := by decide +kernel
theorem fw_X11_pardon (hX : CTX dC dI dA sp H0 l ρ0 ad rf L) {h h' : PH} {as r : List ZV} (hT : Tq tbq L sp ad U0q h) (has : asok [(2, 0), (0, 0), (0, 0)] as) (hc : CP (zq sp ρ0) mX11_pardon h as h' r) : Frm F9 h h' := fun g hg k h1 h2 =>
  (fr_ok u0_n u0_w u0_l u0_f (ug260 dC dI dA sp H0 l ρ0 ad rf L hX.1 (by have := hX.2.1; omega) hX.2.2.1) (show mqq 9 13 = some mX11_pardon from rfl) (mth_gd (a := 9) (b := 13) rfl) hX.2.2.2.1 fk_X11_pardon hT has hc).2 _ _ (wfr_ok fww_X11_pardon hg h1 h2)
set_option maxRecDepth 100000 in
theorem fk_X12_pardon : frk tbq U0q un261 [(2, 169), (0, 0), (0, 0)] = true := by decide +kernel
theorem fr_X12_pardon (hX : CTX dC dI dA sp H0 l ρ0 ad rf L) {h h' : PH} {as r : List ZV} (hT : Tq tbq L sp ad U0q h) (has : asok [(2, 169), (0, 0), (0, 0)] as) (hc : CP (zq sp ρ0) mX12_pardon h as h' r) : Tq tbq L sp ad U0q h' :=
  (fr_ok u0_n u0_w u0_l u0_f (ug261 dC dI dA sp H0 l ρ0 ad rf L hX.1 (by have := hX.2.1; omega) hX.2.2.1) (show mqq 18 7 = some mX12_pardon from rfl) (mth_gd (a := 18) (b := 7) rfl) hX.2.2.2.1 fk_X12_pardon hT has hc).1
set_option maxRecDepth 100000 in
theorem fww_X12_pardon : wfr F9a un261.2.2.2.1 = true := by decide +kernel
theorem fw_X12_pardon (hX : CTX dC dI dA sp H0 l ρ0 ad rf L) {h h' : PH} {as r : List ZV} (hT : Tq tbq L sp ad U0q h) (has : asok [(2, 169), (0, 0), (0, 0)] as) (hc : CP (zq sp ρ0) mX12_pardon h as h' r) : Frm F9a h h' := fun g hg k h1 h2 =>
  (fr_ok u0_n u0_w u0_l u0_f (ug261 dC dI dA sp H0 l ρ0 ad rf L hX.1 (by have := hX.2.1; omega) hX.2.2.1) (show mqq 18 7 = some mX12_pardon from rfl) (mth_gd (a := 18) (b := 7) rfl) hX.2.2.2.1 fk_X12_pardon hT has hc).2 _ _ (wfr_ok fww_X12_pardon hg h1 h2)
set_option maxRecDepth 40000 in
set_option maxHeartbeats 1600000 in
theorem v_c_pardon {sl : Nat} {si : Nat → Int} {fm : ZV} {K : Nat → PH → ZL → List ZV → Prop} {Q : PH → List ZV → Prop} {h : PH} {i : Int} (H : 0 ≤ w32 (i + 1) ∧ w32 (i + 1) < sl → R32 (si (w32 (i + 1)).toNat) → 0 ≤ w32 (i + 2) ∧ w32 (i + 2) < sl → R32 (si (w32 (i + 2)).toNat) → ∀ h1 v1, CP (zz sl si fm) mX11_pardon h [(2, 0), (0, (si (w32 (i + 1)).toNat)), (0, (si (w32 (i + 2)).toNat))] h1 [(0, v1)] → R32 v1 → 0 ≤ w32 (i + 1) ∧ w32 (i + 1) < sl → R32 (si (w32 (i + 1)).toNat) → 0 ≤ w32 (i + 2) ∧ w32 (i + 2) < sl → R32 (si (w32 (i + 2)).toNat) → ∀ h2 v2, CP (zz sl si fm) mX12_pardon h1 [(2, 169), (0, (si (w32 (i + 1)).toNat)), (0, (si (w32 (i + 2)).toNat))] h2 [(0, v2)] → R32 v2 → K 2296 h2 [(3, (0, i)), (2, (2, 169)), (1, (2, 0)), (0, (6, 0))] []) : vc (zz sl si fm) (fun p => Nat.beq p 2296) K Q mL_law 29 1958 (ax_jmp mL_law.2.2.2.2.2.2 1958) h [(3, (0, i)), (2, (2, 169)), (1, (2, 0)), (0, (6, 0))] [] := H
set_option maxRecDepth 100000 in
theorem gv_pardon (hX : CTX dC dI dA sp H0 l ρ0 ad rf L) : GC J9 L sp ad ρ0 1958 := gc_vc (fun h i hT hJ => v_c_pardon (fun b1 r2 => (fun b3 r4 => (fun h1 v1 p1 q1 => (fun b5 r6 => (fun b7 r8 => (fun h2 v2 p2 q2 => (by exact ⟨rfl, fr_X12_pardon hX (fr_X11_pardon hX hT (by exact (And.intro rfl (And.intro (And.intro rfl r2) (And.intro (And.intro rfl r4) trivial)))) p1) (by exact (And.intro rfl (And.intro (And.intro rfl r2) (And.intro (And.intro rfl r4) trivial)))) p2, tr9 hJ (fw_X11_pardon hX hT (by exact (And.intro rfl (And.intro (And.intro rfl r2) (And.intro (And.intro rfl r4) trivial)))) p1) (fw_X12_pardon hX (fr_X11_pardon hX hT (by exact (And.intro rfl (And.intro (And.intro rfl r2) (And.intro (And.intro rfl r4) trivial)))) p1) (by exact (And.intro rfl (And.intro (And.intro rfl r2) (And.intro (And.intro rfl r4) trivial)))) p2) (c_X12_pardon (tq_B (fr_X11_pardon hX hT (by exact (And.intro rfl (And.intro (And.intro rfl r2) (And.intro (And.intro rfl r4) trivial)))) p1)).1 (tq_B (fr_X11_pardon hX hT (by exact (And.intro rfl (And.intro (And.intro rfl r2) (And.intro (And.intro rfl r4) trivial)))) p1)).2.1 (tq_B (fr_X11_pardon hX hT (by exact (And.intro rfl (And.intro (And.intro rfl r2) (And.intro (And.intro rfl r4) trivial)))) p1)).2.2 p2), rfl, rfl, rfl, rfl, trivial⟩))))))))
set_option maxRecDepth 100000 in
theorem fk_X11_pardonSet : frk tbq U0q un242 [(2, 0), (0, 0), (0, 0)] = true := by decide +kernel
theorem fr_X11_pardonSet (hX : CTX dC dI dA sp H0 l ρ0 ad rf L) {h h' : PH} {as r : List ZV} (hT : Tq tbq L sp ad U0q h) (has : asok [(2, 0), (0, 0), (0, 0)] as) (hc : CP (zq sp ρ0) mX11_pardonSet h as h' r) : Tq tbq L sp ad U0q h' :=
  (fr_ok u0_n u0_w u0_l u0_f (ug242 dC dI dA sp H0 l ρ0 ad rf L hX.1 (by have := hX.2.1; omega) hX.2.2.1) (show mqq 9 14 = some mX11_pardonSet from rfl) (mth_gd (a := 9) (b := 14) rfl) hX.2.2.2.1 fk_X11_pardonSet hT has hc).1
set_option maxRecDepth 100000 in
theorem fww_X11_pardonSet : wfr F9 un242.2.2.2.1 = true := by decide +kernel
theorem fw_X11_pardonSet (hX : CTX dC dI dA sp H0 l ρ0 ad rf L) {h h' : PH} {as r : List ZV} (hT : Tq tbq L sp ad U0q h) (has : asok [(2, 0), (0, 0), (0, 0)] as) (hc : CP (zq sp ρ0) mX11_pardonSet h as h' r) : Frm F9 h h' := fun g hg k h1 h2 =>
  (fr_ok u0_n u0_w u0_l u0_f (ug242 dC dI dA sp H0 l ρ0 ad rf L hX.1 (by have := hX.2.1; omega) hX.2.2.1) (show mqq 9 14 = some mX11_pardonSet from rfl) (mth_gd (a := 9) (b := 14) rfl) hX.2.2.2.1 fk_X11_pardonSet hT has hc).2 _ _ (wfr_ok fww_X11_pardonSet hg h1 h2)
set_option maxRecDepth 100000 in
theorem fk_X12_pardonSet : frk tbq U0q un257 [(2, 169), (0, 0), (0, 0)] = true := by decide +kernel
theorem fr_X12_pardonSet (hX : CTX dC dI dA sp H0 l ρ0 ad rf L) {h h' : PH} {as r : List ZV} (hT : Tq tbq L sp ad U0q h) (has : asok [(2, 169), (0, 0), (0, 0)] as) (hc : CP (zq sp ρ0) mX12_pardonSet h as h' r) : Tq tbq L sp ad U0q h' :=
  (fr_ok u0_n u0_w u0_l u0_f (ug257 dC dI dA sp H0 l ρ0 ad rf L hX.1 (by have := hX.2.1; omega) hX.2.2.1) (show mqq 18 8 = some mX12_pardonSet from rfl) (mth_gd (a := 18) (b := 8) rfl) hX.2.2.2.1 fk_X12_pardonSet hT has hc).1
set_option maxRecDepth 100000 in
theorem fww_X12_pardonSet : wfr F9a un257.2.2.2.1 = true := by decide +kernel
theorem fw_X12_pardonSet (hX : CTX dC dI dA sp H0 l ρ0 ad rf L) {h h' : PH} {as r : List ZV} (hT : Tq tbq L sp ad U0q h) (has : asok [(2, 169), (0, 0), (0, 0)] as) (hc : CP (zq sp ρ0) mX12_pardonSet h as h' r) : Frm F9a h h' := fun g hg k h1 h2 =>
  (fr_ok u0_n u0_w u0_l u0_f (ug257 dC dI dA sp H0 l ρ0 ad rf L hX.1 (by have := hX.2.1; omega) hX.2.2.1) (show mqq 18 8 = some mX12_pardonSet from rfl) (mth_gd (a := 18) (b := 8) rfl) hX.2.2.2.1 fk_X12_pardonSet hT has hc).2 _ _ (wfr_ok fww_X12_pardonSet hg h1 h2)
set_option maxRecDepth 40000 in
set_option maxHeartbeats 1600000 in
theorem v_c_pardonSet {sl : Nat} {si : Nat → Int} {fm : ZV} {K : Nat → PH → ZL → List ZV → Prop} {Q : PH → List ZV → Prop} {h : PH} {i : Int} (H : 0 ≤ w32 (i + 1) ∧ w32 (i + 1) < sl → R32 (si (w32 (i + 1)).toNat) → 0 ≤ w32 (i + 2) ∧ w32 (i + 2) < sl → R32 (si (w32 (i + 2)).toNat) → ∀ h1 v1, CP (zz sl si fm) mX11_pardonSet h [(2, 0), (0, (si (w32 (i + 1)).toNat)), (0, (si (w32 (i + 2)).toNat))] h1 [(0, v1)] → R32 v1 → 0 ≤ w32 (i + 1) ∧ w32 (i + 1) < sl → R32 (si (w32 (i + 1)).toNat) → 0 ≤ w32 (i + 2) ∧ w32 (i + 2) < sl → R32 (si (w32 (i + 2)).toNat) → ∀ h2 v2, CP (zz sl si fm) mX12_pardonSet h1 [(2, 169), (0, (si (w32 (i + 1)).toNat)), (0, (si (w32 (i + 2)).toNat))] h2 [(0, v2)] → R32 v2 → K 2296 h2 [(3, (0, i)), (2, (2, 169)), (1, (2, 0)), (0, (6, 0))] []) : vc (zz sl si fm) (fun p => Nat.beq p 2296) K Q mL_law 29 1991 (ax_jmp mL_law.2.2.2.2.2.2 1991) h [(3, (0, i)), (2, (2, 169)), (1, (2, 0)), (0, (6, 0))] [] := H
set_option maxRecDepth 100000 in
theorem gv_pardonSet (hX : CTX dC dI dA sp H0 l ρ0 ad rf L) : GC J9 L sp ad ρ0 1991 := gc_vc (fun h i hT hJ => v_c_pardonSet (fun b1 r2 => (fun b3 r4 => (fun h1 v1 p1 q1 => (fun b5 r6 => (fun b7 r8 => (fun h2 v2 p2 q2 => (by exact ⟨rfl, fr_X12_pardonSet hX (fr_X11_pardonSet hX hT (by exact (And.intro rfl (And.intro (And.intro rfl r2) (And.intro (And.intro rfl r4) trivial)))) p1) (by exact (And.intro rfl (And.intro (And.intro rfl r2) (And.intro (And.intro rfl r4) trivial)))) p2, tr9 hJ (fw_X11_pardonSet hX hT (by exact (And.intro rfl (And.intro (And.intro rfl r2) (And.intro (And.intro rfl r4) trivial)))) p1) (fw_X12_pardonSet hX (fr_X11_pardonSet hX hT (by exact (And.intro rfl (And.intro (And.intro rfl r2) (And.intro (And.intro rfl r4) trivial)))) p1) (by exact (And.intro rfl (And.intro (And.intro rfl r2) (And.intro (And.intro rfl r4) trivial)))) p2) (c_X12_pardonSet (tq_B (fr_X11_pardonSet hX hT (by exact (And.intro rfl (And.intro (And.intro rfl r2) (And.intro (And.intro rfl r4) trivial)))) p1)).1 (tq_B (fr_X11_pardonSet hX hT (by exact (And.intro rfl (And.intro (And.intro rfl r2) (And.intro (And.intro rfl r4) trivial)))) p1)).2.1 (tq_B (fr_X11_pardonSet hX hT (by exact (And.intro rfl (And.intro (And.intro rfl r2) (And.intro (And.intro rfl r4) trivial)))) p1)).2.2 p2), rfl, rfl, rfl, rfl, trivial⟩))))))))
set_option maxRecDepth 100000 in
theorem ck_2024 : cse tbq U0q un225 2296 = true := by decide +kernel
set_option maxRecDepth 100000 in
theorem wf_2024 : wfr F9 un225.2.2.2.1 = true := by decide +kernel
set_option maxRecDepth 100000 in
theorem ck_2047 : cse tbq U0q un217 2296 = true := by decide +kernel
set_option maxRecDepth 100000 in
theorem wf_2047 : wfr F9 un217.2.2.2.1 = true := by decide +kernel
set_option maxRecDepth 100000 in
theorem ck_2090 : cse tbq U0q un212 2296 = true := by decide +kernel
set_option maxRecDepth 100000 in
theorem wf_2090 : wfr F9 un212.2.2.2.1 = true := by decide +kernel
set_option maxRecDepth 100000 in
theorem ck_2103 : cse tbq U0q un203 2296 = true := by decide +kernel
set_option maxRecDepth 100000 in
theorem wf_2103 : wfr F9 un203.2.2.2.1 = true := by decide +kernel
set_option maxRecDepth 100000 in
theorem ck_2116 : cse tbq U0q un198 2296 = true := by decide +kernel
set_option maxRecDepth 100000 in
theorem wf_2116 : wfr F9 un198.2.2.2.1 = true := by decide +kernel
set_option maxRecDepth 100000 in
theorem ck_2129 : cse tbq U0q un187 2296 = true := by decide +kernel
set_option maxRecDepth 100000 in
theorem wf_2129 : wfr F9 un187.2.2.2.1 = true := by decide +kernel
set_option maxRecDepth 100000 in
theorem ck_2142 : cse tbq U0q un180 2296 = true := by decide +kernel
set_option maxRecDepth 100000 in
theorem wf_2142 : wfr F9 un180.2.2.2.1 = true := by decide +kernel
set_option maxRecDepth 100000 in
theorem ck_2155 : cse tbq U0q un166 2296 = true := by decide +kernel
set_option maxRecDepth 100000 in
theorem wf_2155 : wfr F9 un166.2.2.2.1 = true := by decide +kernel
set_option maxRecDepth 100000 in
theorem fk_X11_bestSalt : frk tbq U0q un151 [(2, 0)] = true := by decide +kernel
theorem fr_X11_bestSalt (hX : CTX dC dI dA sp H0 l ρ0 ad rf L) {h h' : PH} {as r : List ZV} (hT : Tq tbq L sp ad U0q h) (has : asok [(2, 0)] as) (hc : CP (zq sp ρ0) mX11_bestSalt h as h' r) : Tq tbq L sp ad U0q h' :=
  (fr_ok u0_n u0_w u0_l u0_f (ug151 dC dI dA sp H0 l ρ0 ad rf L hX.1 (by have := hX.2.1; omega) hX.2.2.1) (show mqq 10 3 = some mX11_bestSalt from rfl) (mth_gd (a := 10) (b := 3) rfl) hX.2.2.2.1 fk_X11_bestSalt hT has hc).1
set_option maxRecDepth 100000 in
theorem fww_X11_bestSalt : wfr F9 un151.2.2.2.1 = true := by decide +kernel
theorem fw_X11_bestSalt (hX : CTX dC dI dA sp H0 l ρ0 ad rf L) {h h' : PH} {as r : List ZV} (hT : Tq tbq L sp ad U0q h) (has : asok [(2, 0)] as) (hc : CP (zq sp ρ0) mX11_bestSalt h as h' r) : Frm F9 h h' := fun g hg k h1 h2 =>
  (fr_ok u0_n u0_w u0_l u0_f (ug151 dC dI dA sp H0 l ρ0 ad rf L hX.1 (by have := hX.2.1; omega) hX.2.2.1) (show mqq 10 3 = some mX11_bestSalt from rfl) (mth_gd (a := 10) (b := 3) rfl) hX.2.2.2.1 fk_X11_bestSalt hT has hc).2 _ _ (wfr_ok fww_X11_bestSalt hg h1 h2)
set_option maxRecDepth 100000 in
theorem fk_X12_bestSalt : frk tbq U0q un154 [(2, 169)] = true := by decide +kernel
theorem fr_X12_bestSalt (hX : CTX dC dI dA sp H0 l ρ0 ad rf L) {h h' : PH} {as r : List ZV} (hT : Tq tbq L sp ad U0q h) (has : asok [(2, 169)] as) (hc : CP (zq sp ρ0) mX12_bestSalt h as h' r) : Tq tbq L sp ad U0q h' :=
  (fr_ok u0_n u0_w u0_l u0_f (ug154 dC dI dA sp H0 l ρ0 ad rf L hX.1 (by have := hX.2.1; omega) hX.2.2.1) (show mqq 18 18 = some mX12_bestSalt from rfl) (mth_gd (a := 18) (b := 18) rfl) hX.2.2.2.1 fk_X12_bestSalt hT has hc).1
set_option maxRecDepth 100000 in
theorem fww_X12_bestSalt : wfr F9a un154.2.2.2.1 = true := by decide +kernel
theorem fw_X12_bestSalt (hX : CTX dC dI dA sp H0 l ρ0 ad rf L) {h h' : PH} {as r : List ZV} (hT : Tq tbq L sp ad U0q h) (has : asok [(2, 169)] as) (hc : CP (zq sp ρ0) mX12_bestSalt h as h' r) : Frm F9a h h' := fun g hg k h1 h2 =>
  (fr_ok u0_n u0_w u0_l u0_f (ug154 dC dI dA sp H0 l ρ0 ad rf L hX.1 (by have := hX.2.1; omega) hX.2.2.1) (show mqq 18 18 = some mX12_bestSalt from rfl) (mth_gd (a := 18) (b := 18) rfl) hX.2.2.2.1 fk_X12_bestSalt hT has hc).2 _ _ (wfr_ok fww_X12_bestSalt hg h1 h2)
set_option maxRecDepth 40000 in
set_option maxHeartbeats 1600000 in
theorem v_c_bestSalt {sl : Nat} {si : Nat → Int} {fm : ZV} {K : Nat → PH → ZL → List ZV → Prop} {Q : PH → List ZV → Prop} {h : PH} {i : Int} (H : ∀ h1 v1, CP (zz sl si fm) mX11_bestSalt h [(2, 0)] h1 [(0, v1)] → R32 v1 → ∀ h2 v2, CP (zz sl si fm) mX12_bestSalt h1 [(2, 169)] h2 [(0, v2)] → R32 v2 → K 2296 h2 [(3, (0, i)), (2, (2, 169)), (1, (2, 0)), (0, (6, 0))] []) : vc (zz sl si fm) (fun p => Nat.beq p 2296) K Q mL_law 9 2178 (ax_jmp mL_law.2.2.2.2.2.2 2178) h [(3, (0, i)), (2, (2, 169)), (1, (2, 0)), (0, (6, 0))] [] := H
set_option maxRecDepth 100000 in
theorem gv_bestSalt (hX : CTX dC dI dA sp H0 l ρ0 ad rf L) : GC J9 L sp ad ρ0 2178 := gc_vc (fun h i hT hJ => v_c_bestSalt (fun h1 v1 p1 q1 => (fun h2 v2 p2 q2 => (by exact ⟨rfl, fr_X12_bestSalt hX (fr_X11_bestSalt hX hT (by exact (And.intro rfl trivial)) p1) (by exact (And.intro rfl trivial)) p2, bs_9 hJ (fw_X11_bestSalt hX hT (by exact (And.intro rfl trivial)) p1) (fw_X12_bestSalt hX (fr_X11_bestSalt hX hT (by exact (And.intro rfl trivial)) p1) (by exact (And.intro rfl trivial)) p2) (tq_B (fr_X11_bestSalt hX hT (by exact (And.intro rfl trivial)) p1)).1 (tq_B (fr_X11_bestSalt hX hT (by exact (And.intro rfl trivial)) p1)).2.1 p2, rfl, rfl, rfl, rfl, trivial⟩))))
set_option maxRecDepth 100000 in
theorem fk_X11_live : frk tbq U0q un139 [(2, 0), (0, 0)] = true := by decide +kernel
theorem fr_X11_live (hX : CTX dC dI dA sp H0 l ρ0 ad rf L) {h h' : PH} {as r : List ZV} (hT : Tq tbq L sp ad U0q h) (has : asok [(2, 0), (0, 0)] as) (hc : CP (zq sp ρ0) mX11_live h as h' r) : Tq tbq L sp ad U0q h' :=
  (fr_ok u0_n u0_w u0_l u0_f (ug139 dC dI dA sp H0 l ρ0 ad rf L hX.1 (by have := hX.2.1; omega) hX.2.2.1) (show mqq 10 4 = some mX11_live from rfl) (mth_gd (a := 10) (b := 4) rfl) hX.2.2.2.1 fk_X11_live hT has hc).1
set_option maxRecDepth 100000 in
theorem fk_X12_live : frk tbq U0q un141 [(2, 169), (0, 0)] = true := by decide +kernel
theorem fr_X12_live (hX : CTX dC dI dA sp H0 l ρ0 ad rf L) {h h' : PH} {as r : List ZV} (hT : Tq tbq L sp ad U0q h) (has : asok [(2, 169), (0, 0)] as) (hc : CP (zq sp ρ0) mX12_live h as h' r) : Tq tbq L sp ad U0q h' :=
  (fr_ok u0_n u0_w u0_l u0_f (ug141 dC dI dA sp H0 l ρ0 ad rf L hX.1 (by have := hX.2.1; omega) hX.2.2.1) (show mqq 19 7 = some mX12_live from rfl) (mth_gd (a := 19) (b := 7) rfl) hX.2.2.2.1 fk_X12_live hT has hc).1
set_option maxRecDepth 40000 in
set_option maxHeartbeats 1600000 in
theorem v_c_live {sl : Nat} {si : Nat → Int} {fm : ZV} {K : Nat → PH → ZL → List ZV → Prop} {Q : PH → List ZV → Prop} {h : PH} {i : Int} (H : 0 ≤ w32 (i + 1) ∧ w32 (i + 1) < sl → R32 (si (w32 (i + 1)).toNat) → ∀ h1 v1, CP (zz sl si fm) mX11_live h [(2, 0), (0, (si (w32 (i + 1)).toNat))] h1 [(0, v1)] → R32 v1 → 0 ≤ w32 (i + 1) ∧ w32 (i + 1) < sl → R32 (si (w32 (i + 1)).toNat) → ∀ h2 v2, CP (zz sl si fm) mX12_live h1 [(2, 169), (0, (si (w32 (i + 1)).toNat))] h2 [(0, v2)] → R32 v2 → K 2296 h2 [(3, (0, i)), (2, (2, 169)), (1, (2, 0)), (0, (6, 0))] []) : vc (zz sl si fm) (fun p => Nat.beq p 2296) K Q mL_law 19 2191 (ax_jmp mL_law.2.2.2.2.2.2 2191) h [(3, (0, i)), (2, (2, 169)), (1, (2, 0)), (0, (6, 0))] [] := H
set_option maxRecDepth 100000 in
theorem gv_live (hX : CTX dC dI dA sp H0 l ρ0 ad rf L) : GC J9 L sp ad ρ0 2191 := gc_vc (fun h i hT hJ => v_c_live (fun b1 r2 => (fun h1 v1 p1 q1 => (fun b3 r4 => (fun h2 v2 p2 q2 => (by exact ⟨rfl, fr_X12_live hX (fr_X11_live hX hT (by exact (And.intro rfl (And.intro (And.intro rfl r2) trivial))) p1) (by exact (And.intro rfl (And.intro (And.intro rfl r2) trivial))) p2, (pr_live9 hJ (tq_B (fr_X11_live hX hT (by exact (And.intro rfl (And.intro (And.intro rfl r2) trivial))) p1)).1 (tq_B (fr_X11_live hX hT (by exact (And.intro rfl (And.intro (And.intro rfl r2) trivial))) p1)).2.1 (tq_B (fr_X11_live hX hT (by exact (And.intro rfl (And.intro (And.intro rfl r2) trivial))) p1)).2.2  p1 p2).1, rfl, rfl, rfl, rfl, trivial⟩))))))
set_option maxRecDepth 100000 in
theorem fk_X11_lived : frk tbq U0q un104 [(2, 0), (0, 0)] = true := by decide +kernel
theorem fr_X11_lived (hX : CTX dC dI dA sp H0 l ρ0 ad rf L) {h h' : PH} {as r : List ZV} (hT : Tq tbq L sp ad U0q h) (has : asok [(2, 0), (0, 0)] as) (hc : CP (zq sp ρ0) mX11_lived h as h' r) : Tq tbq L sp ad U0q h' :=
  (fr_ok u0_n u0_w u0_l u0_f (ug104 dC dI dA sp H0 l ρ0 ad rf L hX.1 (by have := hX.2.1; omega) hX.2.2.1) (show mqq 10 5 = some mX11_lived from rfl) (mth_gd (a := 10) (b := 5) rfl) hX.2.2.2.1 fk_X11_lived hT has hc).1
set_option maxRecDepth 100000 in
theorem fk_X12_lived : frk tbq U0q un105 [(2, 169), (0, 0)] = true := by decide +kernel
theorem fr_X12_lived (hX : CTX dC dI dA sp H0 l ρ0 ad rf L) {h h' : PH} {as r : List ZV} (hT : Tq tbq L sp ad U0q h) (has : asok [(2, 169), (0, 0)] as) (hc : CP (zq sp ρ0) mX12_lived h as h' r) : Tq tbq L sp ad U0q h' :=
  (fr_ok u0_n u0_w u0_l u0_f (ug105 dC dI dA sp H0 l ρ0 ad rf L hX.1 (by have := hX.2.1; omega) hX.2.2.1) (show mqq 19 8 = some mX12_lived from rfl) (mth_gd (a := 19) (b := 8) rfl) hX.2.2.2.1 fk_X12_lived hT has hc).1
set_option maxRecDepth 40000 in
set_option maxHeartbeats 1600000 in
theorem v_c_lived {sl : Nat} {si : Nat → Int} {fm : ZV} {K : Nat → PH → ZL → List ZV → Prop} {Q : PH → List ZV → Prop} {h : PH} {i : Int} (H : 0 ≤ w32 (i + 1) ∧ w32 (i + 1) < sl → R32 (si (w32 (i + 1)).toNat) → ∀ h1 v1, CP (zz sl si fm) mX11_lived h [(2, 0), (0, (si (w32 (i + 1)).toNat))] h1 [(0, v1)] → R32 v1 → 0 ≤ w32 (i + 1) ∧ w32 (i + 1) < sl → R32 (si (w32 (i + 1)).toNat) → ∀ h2 v2, CP (zz sl si fm) mX12_lived h1 [(2, 169), (0, (si (w32 (i + 1)).toNat))] h2 [(0, v2)] → R32 v2 → (v1 = v2 → K 2296 h2 [(3, (0, i)), (2, (2, 169)), (1, (2, 0)), (0, (6, 0))] []) ∧ (¬ (v1 = v2) → Q h2 [(0, 0)])) : vc (zz sl si fm) (fun p => Nat.beq p 2296) K Q mL_law 19 2214 (ax_jmp mL_law.2.2.2.2.2.2 2214) h [(3, (0, i)), (2, (2, 169)), (1, (2, 0)), (0, (6, 0))] [] := H
set_option maxRecDepth 100000 in
theorem gv_lived (hX : CTX dC dI dA sp H0 l ρ0 ad rf L) : GC J9 L sp ad ρ0 2214 := gc_vc (fun h i hT hJ => v_c_lived (fun b1 r2 => (fun h1 v1 p1 q1 => (fun b3 r4 => (fun h2 v2 p2 q2 => ⟨fun c5 => (by exact ⟨rfl, fr_X12_lived hX (fr_X11_lived hX hT (by exact (And.intro rfl (And.intro (And.intro rfl r2) trivial))) p1) (by exact (And.intro rfl (And.intro (And.intro rfl r2) trivial))) p2, (pr_lived9 hJ  p1 p2).1, rfl, rfl, rfl, rfl, trivial⟩), fun c5 => (by exact absurd ((pr_lived9 hJ  p1 p2).2) (by assumption))⟩)))))
set_option maxRecDepth 100000 in
theorem fk_X11_mean : frk tbq U0q un75 [(2, 0), (0, 0), (0, 0)] = true := by decide +kernel
theorem fr_X11_mean (hX : CTX dC dI dA sp H0 l ρ0 ad rf L) {h h' : PH} {as r : List ZV} (hT : Tq tbq L sp ad U0q h) (has : asok [(2, 0), (0, 0), (0, 0)] as) (hc : CP (zq sp ρ0) mX11_mean h as h' r) : Tq tbq L sp ad U0q h' :=
  (fr_ok u0_n u0_w u0_l u0_f (ug75 dC dI dA sp H0 l ρ0 ad rf L hX.1 (by have := hX.2.1; omega) hX.2.2.1) (show mqq 10 6 = some mX11_mean from rfl) (mth_gd (a := 10) (b := 6) rfl) hX.2.2.2.1 fk_X11_mean hT has hc).1
set_option maxRecDepth 100000 in
theorem fww_X11_mean : wfr F9 un75.2.2.2.1 = true := by decide +kernel
theorem fw_X11_mean (hX : CTX dC dI dA sp H0 l ρ0 ad rf L) {h h' : PH} {as r : List ZV} (hT : Tq tbq L sp ad U0q h) (has : asok [(2, 0), (0, 0), (0, 0)] as) (hc : CP (zq sp ρ0) mX11_mean h as h' r) : Frm F9 h h' := fun g hg k h1 h2 =>
  (fr_ok u0_n u0_w u0_l u0_f (ug75 dC dI dA sp H0 l ρ0 ad rf L hX.1 (by have := hX.2.1; omega) hX.2.2.1) (show mqq 10 6 = some mX11_mean from rfl) (mth_gd (a := 10) (b := 6) rfl) hX.2.2.2.1 fk_X11_mean hT has hc).2 _ _ (wfr_ok fww_X11_mean hg h1 h2)
set_option maxRecDepth 100000 in
theorem fk_X12_mean : frk tbq U0q un102 [(2, 169), (0, 0), (0, 0)] = true := by decide +kernel
theorem fr_X12_mean (hX : CTX dC dI dA sp H0 l ρ0 ad rf L) {h h' : PH} {as r : List ZV} (hT : Tq tbq L sp ad U0q h) (has : asok [(2, 169), (0, 0), (0, 0)] as) (hc : CP (zq sp ρ0) mX12_mean h as h' r) : Tq tbq L sp ad U0q h' :=
  (fr_ok u0_n u0_w u0_l u0_f (ug102 dC dI dA sp H0 l ρ0 ad rf L hX.1 (by have := hX.2.1; omega) hX.2.2.1) (show mqq 19 9 = some mX12_mean from rfl) (mth_gd (a := 19) (b := 9) rfl) hX.2.2.2.1 fk_X12_mean hT has hc).1
set_option maxRecDepth 100000 in
theorem fww_X12_mean : wfr F9a un102.2.2.2.1 = true := by decide +kernel
theorem fw_X12_mean (hX : CTX dC dI dA sp H0 l ρ0 ad rf L) {h h' : PH} {as r : List ZV} (hT : Tq tbq L sp ad U0q h) (has : asok [(2, 169), (0, 0), (0, 0)] as) (hc : CP (zq sp ρ0) mX12_mean h as h' r) : Frm F9a h h' := fun g hg k h1 h2 =>
  (fr_ok u0_n u0_w u0_l u0_f (ug102 dC dI dA sp H0 l ρ0 ad rf L hX.1 (by have := hX.2.1; omega) hX.2.2.1) (show mqq 19 9 = some mX12_mean from rfl) (mth_gd (a := 19) (b := 9) rfl) hX.2.2.2.1 fk_X12_mean hT has hc).2 _ _ (wfr_ok fww_X12_mean hg h1 h2)
set_option maxRecDepth 40000 in
set_option maxHeartbeats 1600000 in
theorem v_c_mean {sl : Nat} {si : Nat → Int} {fm : ZV} {K : Nat → PH → ZL → List ZV → Prop} {Q : PH → List ZV → Prop} {h : PH} {i : Int} (H : 0 ≤ w32 (i + 1) ∧ w32 (i + 1) < sl → R32 (si (w32 (i + 1)).toNat) → 0 ≤ w32 (i + 2) ∧ w32 (i + 2) < sl → R32 (si (w32 (i + 2)).toNat) → ∀ h1 v1, CP (zz sl si fm) mX11_mean h [(2, 0), (0, (si (w32 (i + 1)).toNat)), (0, (si (w32 (i + 2)).toNat))] h1 [(0, v1)] → v1 = 0 ∨ v1 = 1 → 0 ≤ w32 (i + 1) ∧ w32 (i + 1) < sl → R32 (si (w32 (i + 1)).toNat) → 0 ≤ w32 (i + 2) ∧ w32 (i + 2) < sl → R32 (si (w32 (i + 2)).toNat) → ∀ h2 v2, CP (zz sl si fm) mX12_mean h1 [(2, 169), (0, (si (w32 (i + 1)).toNat)), (0, (si (w32 (i + 2)).toNat))] h2 [(0, v2)] → v2 = 0 ∨ v2 = 1 → K 2296 h2 [(3, (0, i)), (2, (2, 169)), (1, (2, 0)), (0, (6, 0))] []) : vc (zz sl si fm) (fun p => Nat.beq p 2296) K Q mL_law 29 2237 (ax_jmp mL_law.2.2.2.2.2.2 2237) h [(3, (0, i)), (2, (2, 169)), (1, (2, 0)), (0, (6, 0))] [] := H
set_option maxRecDepth 100000 in
theorem fk_lives : fsk tbq U1q un100 [(2, 169), (4, 16383)] = true := by decide +kernel
set_option maxRecDepth 100000 in
theorem fww_lives : wfr [(170, 4, 4), (170, 2640, 2803)] un100.2.2.2.1 = true := by decide +kernel
theorem li_mean (hX : CTX dC dI dA sp H0 l ρ0 ad rf L) {h h' : PH} {x : Int} (hT : Tq tbq L sp ad U1q h) (hx : 0 ≤ x ∧ x ≤ 16383) (hc : CP (zq sp ρ0) mX12_lives h [(2, 169), (0, x)] h' []) : Tq tbq L sp ad U1q h' ∧ h' 170 4 = h 170 4 ∧ ∀ k : Nat, k < 164 → h' 170 (2640 + k) = h 170 (2640 + k) := by
  have z := fs_ok (U0 := U1q) rfl u1_w rfl ⟨rfl, rfl⟩ (ug100 dC dI dA sp H0 l ρ0 ad rf L hX.1 (by have := hX.2.1; omega) hX.2.2.1) (show mqq 19 6 = some mX12_lives from rfl) (mth_gd (a := 19) (b := 6) rfl) hX.2.2.2.1 fk_lives hT (spec := [(2, 169), (4, 16383)]) (as := [(2, 169), (0, x)]) (by exact (And.intro rfl (And.intro (And.intro rfl (And.intro hx.1 (And.intro hx.2 (by decide)))) trivial))) hc
  exact ⟨z.1, z.2 _ _ (wfr_ok (f := (170, 4, 4)) fww_lives (by decide) (by decide) (by decide)), fun k hk => z.2 _ _ (wfr_ok (f := (170, 2640, 2803)) fww_lives (by decide) (by show (2640 : Int) ≤ _; omega) (by show _ ≤ (2803 : Int); omega))⟩
set_option maxRecDepth 100000 in
theorem gv_mean (hX : CTX dC dI dA sp H0 l ρ0 ad rf L) : GC J9 L sp ad ρ0 2237 := gc_vc (fun h i hT hJ => v_c_mean (fun b1 r2 => (fun b3 r4 => (fun h1 v1 p1 q1 => (fun b5 r6 => (fun b7 r8 => (fun h2 v2 p2 q2 => (by exact ⟨rfl, fr_X12_mean hX (fr_X11_mean hX hT (by exact (And.intro rfl (And.intro (And.intro rfl r2) (And.intro (And.intro rfl r4) trivial)))) p1) (by exact (And.intro rfl (And.intro (And.intro rfl r2) (And.intro (And.intro rfl r4) trivial)))) p2, tr9 hJ (fw_X11_mean hX hT (by exact (And.intro rfl (And.intro (And.intro rfl r2) (And.intro (And.intro rfl r4) trivial)))) p1) (fw_X12_mean hX (fr_X11_mean hX hT (by exact (And.intro rfl (And.intro (And.intro rfl r2) (And.intro (And.intro rfl r4) trivial)))) p1) (by exact (And.intro rfl (And.intro (And.intro rfl r2) (And.intro (And.intro rfl r4) trivial)))) p2) (c_X12_mean (P := Tq tbq L sp ad U1q) (fun _ _ hT p => tq_keeps kg1 (s := 5) (Or.inl rfl) hT p) (fun _ _ x hT hx p => li_mean hX hT hx p) (fun _ _ hT e p => tq_restores kg1 (s := 5) (Or.inl rfl) hT e p) (fun z => tq_10 (fr_X11_mean hX hT (by exact (And.intro rfl (And.intro (And.intro rfl r2) (And.intro (And.intro rfl r4) trivial)))) p1) (tq_4 (fr_X11_mean hX hT (by exact (And.intro rfl (And.intro (And.intro rfl r2) (And.intro (And.intro rfl r4) trivial)))) p1) z)) p2), rfl, rfl, rfl, rfl, trivial⟩))))))))
set_option maxRecDepth 100000 in
theorem fk_X11_mark : frk tbq U0q un28 [(2, 0)] = true := by decide +kernel
theorem fr_X11_mark (hX : CTX dC dI dA sp H0 l ρ0 ad rf L) {h h' : PH} {as r : List ZV} (hT : Tq tbq L sp ad U0q h) (has : asok [(2, 0)] as) (hc : CP (zq sp ρ0) mX11_mark h as h' r) : Tq tbq L sp ad U0q h' :=
  (fr_ok u0_n u0_w u0_l u0_f (ug28 dC dI dA sp H0 l ρ0 ad rf L hX.1 (by have := hX.2.1; omega) hX.2.2.1) (show mqq 10 7 = some mX11_mark from rfl) (mth_gd (a := 10) (b := 7) rfl) hX.2.2.2.1 fk_X11_mark hT has hc).1
set_option maxRecDepth 100000 in
theorem fww_X11_mark : wfr FLV un28.2.2.2.1 = true := by decide +kernel
theorem fw_X11_mark (hX : CTX dC dI dA sp H0 l ρ0 ad rf L) {h h' : PH} {as r : List ZV} (hT : Tq tbq L sp ad U0q h) (has : asok [(2, 0)] as) (hc : CP (zq sp ρ0) mX11_mark h as h' r) : Frm FLV h h' := fun g hg k h1 h2 =>
  (fr_ok u0_n u0_w u0_l u0_f (ug28 dC dI dA sp H0 l ρ0 ad rf L hX.1 (by have := hX.2.1; omega) hX.2.2.1) (show mqq 10 7 = some mX11_mark from rfl) (mth_gd (a := 10) (b := 7) rfl) hX.2.2.2.1 fk_X11_mark hT has hc).2 _ _ (wfr_ok fww_X11_mark hg h1 h2)
set_option maxRecDepth 100000 in
theorem fk_X12_mark : frk tbq U0q un35 [(2, 169)] = true := by decide +kernel
theorem fr_X12_mark (hX : CTX dC dI dA sp H0 l ρ0 ad rf L) {h h' : PH} {as r : List ZV} (hT : Tq tbq L sp ad U0q h) (has : asok [(2, 169)] as) (hc : CP (zq sp ρ0) mX12_mark h as h' r) : Tq tbq L sp ad U0q h' :=
  (fr_ok u0_n u0_w u0_l u0_f (ug35 dC dI dA sp H0 l ρ0 ad rf L hX.1 (by have := hX.2.1; omega) hX.2.2.1) (show mqq 19 11 = some mX12_mark from rfl) (mth_gd (a := 19) (b := 11) rfl) hX.2.2.2.1 fk_X12_mark hT has hc).1
set_option maxRecDepth 100000 in
theorem fww_X12_mark : wfr FLV un35.2.2.2.1 = true := by decide +kernel
theorem fw_X12_mark (hX : CTX dC dI dA sp H0 l ρ0 ad rf L) {h h' : PH} {as r : List ZV} (hT : Tq tbq L sp ad U0q h) (has : asok [(2, 169)] as) (hc : CP (zq sp ρ0) mX12_mark h as h' r) : Frm FLV h h' := fun g hg k h1 h2 =>
  (fr_ok u0_n u0_w u0_l u0_f (ug35 dC dI dA sp H0 l ρ0 ad rf L hX.1 (by have := hX.2.1; omega) hX.2.2.1) (show mqq 19 11 = some mX12_mark from rfl) (mth_gd (a := 19) (b := 11) rfl) hX.2.2.2.1 fk_X12_mark hT has hc).2 _ _ (wfr_ok fww_X12_mark hg h1 h2)
set_option maxRecDepth 40000 in
set_option maxHeartbeats 1600000 in
theorem v_c_mark {sl : Nat} {si : Nat → Int} {fm : ZV} {K : Nat → PH → ZL → List ZV → Prop} {Q : PH → List ZV → Prop} {h : PH} {i : Int} (H : ∀ h1 v1, CP (zz sl si fm) mX11_mark h [(2, 0)] h1 [(0, v1)] → R32 v1 → ∀ h2 v2, CP (zz sl si fm) mX12_mark h1 [(2, 169)] h2 [(0, v2)] → R32 v2 → K 2296 h2 [(3, (0, i)), (2, (2, 169)), (1, (2, 0)), (0, (6, 0))] []) : vc (zz sl si fm) (fun p => Nat.beq p 2296) K Q mL_law 9 2270 (ax_jmp mL_law.2.2.2.2.2.2 2270) h [(3, (0, i)), (2, (2, 169)), (1, (2, 0)), (0, (6, 0))] [] := H
set_option maxRecDepth 100000 in
theorem gv_mark (hX : CTX dC dI dA sp H0 l ρ0 ad rf L) : GC J9 L sp ad ρ0 2270 := gc_vc (fun h i hT hJ => v_c_mark (fun h1 v1 p1 q1 => (fun h2 v2 p2 q2 => (by exact ⟨rfl, fr_X12_mark hX (fr_X11_mark hX hT (by exact (And.intro rfl trivial)) p1) (by exact (And.intro rfl trivial)) p2, pr_mark9 hJ (fw_X11_mark hX hT (by exact (And.intro rfl trivial)) p1) (fw_X12_mark hX (fr_X11_mark hX hT (by exact (And.intro rfl trivial)) p1) (by exact (And.intro rfl trivial)) p2) p1 p2, rfl, rfl, rfl, rfl, trivial⟩))))
set_option maxRecDepth 100000 in
theorem fk_X11_undo : frk tbq U0q un16 [(2, 0)] = true := by decide +kernel
theorem fr_X11_undo (hX : CTX dC dI dA sp H0 l ρ0 ad rf L) {h h' : PH} {as r : List ZV} (hT : Tq tbq L sp ad U0q h) (has : asok [(2, 0)] as) (hc : CP (zq sp ρ0) mX11_undo h as h' r) : Tq tbq L sp ad U0q h' :=
  (fr_ok u0_n u0_w u0_l u0_f (ug16 dC dI dA sp H0 l ρ0 ad rf L hX.1 (by have := hX.2.1; omega) hX.2.2.1) (show mqq 10 8 = some mX11_undo from rfl) (mth_gd (a := 10) (b := 8) rfl) hX.2.2.2.1 fk_X11_undo hT has hc).1
set_option maxRecDepth 100000 in
theorem fww_X11_undo : wfr FLV un16.2.2.2.1 = true := by decide +kernel
theorem fw_X11_undo (hX : CTX dC dI dA sp H0 l ρ0 ad rf L) {h h' : PH} {as r : List ZV} (hT : Tq tbq L sp ad U0q h) (has : asok [(2, 0)] as) (hc : CP (zq sp ρ0) mX11_undo h as h' r) : Frm FLV h h' := fun g hg k h1 h2 =>
  (fr_ok u0_n u0_w u0_l u0_f (ug16 dC dI dA sp H0 l ρ0 ad rf L hX.1 (by have := hX.2.1; omega) hX.2.2.1) (show mqq 10 8 = some mX11_undo from rfl) (mth_gd (a := 10) (b := 8) rfl) hX.2.2.2.1 fk_X11_undo hT has hc).2 _ _ (wfr_ok fww_X11_undo hg h1 h2)
set_option maxRecDepth 100000 in
theorem fk_X12_undo : frk tbq U0q un23 [(2, 169)] = true := by decide +kernel
theorem fr_X12_undo (hX : CTX dC dI dA sp H0 l ρ0 ad rf L) {h h' : PH} {as r : List ZV} (hT : Tq tbq L sp ad U0q h) (has : asok [(2, 169)] as) (hc : CP (zq sp ρ0) mX12_undo h as h' r) : Tq tbq L sp ad U0q h' :=
  (fr_ok u0_n u0_w u0_l u0_f (ug23 dC dI dA sp H0 l ρ0 ad rf L hX.1 (by have := hX.2.1; omega) hX.2.2.1) (show mqq 19 12 = some mX12_undo from rfl) (mth_gd (a := 19) (b := 12) rfl) hX.2.2.2.1 fk_X12_undo hT has hc).1
set_option maxRecDepth 100000 in
theorem fww_X12_undo : wfr FLV un23.2.2.2.1 = true := by decide +kernel
theorem fw_X12_undo (hX : CTX dC dI dA sp H0 l ρ0 ad rf L) {h h' : PH} {as r : List ZV} (hT : Tq tbq L sp ad U0q h) (has : asok [(2, 169)] as) (hc : CP (zq sp ρ0) mX12_undo h as h' r) : Frm FLV h h' := fun g hg k h1 h2 =>
  (fr_ok u0_n u0_w u0_l u0_f (ug23 dC dI dA sp H0 l ρ0 ad rf L hX.1 (by have := hX.2.1; omega) hX.2.2.1) (show mqq 19 12 = some mX12_undo from rfl) (mth_gd (a := 19) (b := 12) rfl) hX.2.2.2.1 fk_X12_undo hT has hc).2 _ _ (wfr_ok fww_X12_undo hg h1 h2)
set_option maxRecDepth 40000 in
set_option maxHeartbeats 1600000 in
theorem v_c_undo {sl : Nat} {si : Nat → Int} {fm : ZV} {K : Nat → PH → ZL → List ZV → Prop} {Q : PH → List ZV → Prop} {h : PH} {i : Int} (H : ∀ h1 v1, CP (zz sl si fm) mX11_undo h [(2, 0)] h1 [(0, v1)] → R32 v1 → ∀ h2 v2, CP (zz sl si fm) mX12_undo h1 [(2, 169)] h2 [(0, v2)] → R32 v2 → K 2296 h2 [(3, (0, i)), (2, (2, 169)), (1, (2, 0)), (0, (6, 0))] []) : vc (zz sl si fm) (fun p => Nat.beq p 2296) K Q mL_law 9 2283 (ax_jmp mL_law.2.2.2.2.2.2 2283) h [(3, (0, i)), (2, (2, 169)), (1, (2, 0)), (0, (6, 0))] [] := H
set_option maxRecDepth 100000 in
theorem gv_undo (hX : CTX dC dI dA sp H0 l ρ0 ad rf L) : GC J9 L sp ad ρ0 2283 := gc_vc (fun h i hT hJ => v_c_undo (fun h1 v1 p1 q1 => (fun h2 v2 p2 q2 => (by exact ⟨rfl, fr_X12_undo hX (fr_X11_undo hX hT (by exact (And.intro rfl trivial)) p1) (by exact (And.intro rfl trivial)) p2, pr_undo9 hJ (fw_X11_undo hX hT (by exact (And.intro rfl trivial)) p1) (fw_X12_undo hX (fr_X11_undo hX hT (by exact (And.intro rfl trivial)) p1) (by exact (And.intro rfl trivial)) p2) p1 p2, rfl, rfl, rfl, rfl, trivial⟩))))
theorem cs_all (hX : CTX dC dI dA sp H0 l ρ0 ad rf L) : ∀ p ∈ csL, GC J9 L sp ad ρ0 p := by
  unfold csL
  refine List.forall_mem_cons.mpr ⟨gc_cse hX (fun _ _ => J9_frm) ug665 ck_328 wf_328, ?_⟩
  refine List.forall_mem_cons.mpr ⟨gc_cse hX (fun _ _ => J9_frm) ug664 ck_341 wf_341, ?_⟩
  refine List.forall_mem_cons.mpr ⟨gc_cse hX (fun _ _ => J9_frm) ug663 ck_354 wf_354, ?_⟩
  refine List.forall_mem_cons.mpr ⟨gc_cse hX (fun _ _ => J9_frm) ug662 ck_367 wf_367, ?_⟩
  refine List.forall_mem_cons.mpr ⟨gc_cse hX (fun _ _ => J9_frm) ug652 ck_410 wf_410, ?_⟩
  refine List.forall_mem_cons.mpr ⟨gc_cse hX (fun _ _ => J9_frm) ug649 ck_483 wf_483, ?_⟩
  refine List.forall_mem_cons.mpr ⟨gc_cse hX (fun _ _ => J9_frm) ug647 ck_516 wf_516, ?_⟩
  refine List.forall_mem_cons.mpr ⟨gv_feed hX, ?_⟩
  refine List.forall_mem_cons.mpr ⟨gv_land hX, ?_⟩
  refine List.forall_mem_cons.mpr ⟨gv_tales hX, ?_⟩
  refine List.forall_mem_cons.mpr ⟨gc_cse hX (fun _ _ => J9_frm) ug506 ck_688 wf_688, ?_⟩
  refine List.forall_mem_cons.mpr ⟨gc_cse hX (fun _ _ => J9_frm) ug505 ck_711 wf_711, ?_⟩
  refine List.forall_mem_cons.mpr ⟨gc_cse hX (fun _ _ => J9_frm) ug496 ck_734 wf_734, ?_⟩
  refine List.forall_mem_cons.mpr ⟨gc_cse hX (fun _ _ => J9_frm) ug493 ck_767 wf_767, ?_⟩
  refine List.forall_mem_cons.mpr ⟨gc_cse hX (fun _ _ => J9_frm) ug490 ck_800 wf_800, ?_⟩
  refine List.forall_mem_cons.mpr ⟨gc_cse hX (fun _ _ => J9_frm) ug488 ck_833 wf_833, ?_⟩
  refine List.forall_mem_cons.mpr ⟨gc_cse hX (fun _ _ => J9_frm) ug485 ck_866 wf_866, ?_⟩
  refine List.forall_mem_cons.mpr ⟨gc_cse hX (fun _ _ => J9_frm) ug484 ck_889 wf_889, ?_⟩
  refine List.forall_mem_cons.mpr ⟨gv_night hX, ?_⟩
  refine List.forall_mem_cons.mpr ⟨gv_die hX, ?_⟩
  refine List.forall_mem_cons.mpr ⟨gv_forgive hX, ?_⟩
  refine List.forall_mem_cons.mpr ⟨gv_forge hX, ?_⟩
  refine List.forall_mem_cons.mpr ⟨gv_salt hX, ?_⟩
  refine List.forall_mem_cons.mpr ⟨gv_keep hX, ?_⟩
  refine List.forall_mem_cons.mpr ⟨gv_wall hX, ?_⟩
  refine List.forall_mem_cons.mpr ⟨gv_move hX, ?_⟩
  refine List.forall_mem_cons.mpr ⟨gc_cse hX (fun _ _ => J9_frm) ug449 ck_1234 wf_1234, ?_⟩
  refine List.forall_mem_cons.mpr ⟨gc_cse hX (fun _ _ => J9_frm) ug446 ck_1267 wf_1267, ?_⟩
  refine List.forall_mem_cons.mpr ⟨gc_cse hX (fun _ _ => J9_frm) ug443 ck_1290 wf_1290, ?_⟩
  refine List.forall_mem_cons.mpr ⟨gv_walks hX, ?_⟩
  refine List.forall_mem_cons.mpr ⟨gv_later hX, ?_⟩
  refine List.forall_mem_cons.mpr ⟨gv_rest hX, ?_⟩
  refine List.forall_mem_cons.mpr ⟨gv_quiet hX, ?_⟩
  refine List.forall_mem_cons.mpr ⟨gv_harvest hX, ?_⟩
  refine List.forall_mem_cons.mpr ⟨gv_visitors hX, ?_⟩
  refine List.forall_mem_cons.mpr ⟨gv_stays hX, ?_⟩
  refine List.forall_mem_cons.mpr ⟨gc_cse hX (fun _ _ => J9_frm) ug391 ck_1534 wf_1534, ?_⟩
  refine List.forall_mem_cons.mpr ⟨gc_cse hX (fun _ _ => J9_frm) ug380 ck_1567 wf_1567, ?_⟩
  refine List.forall_mem_cons.mpr ⟨gv_tours hX, ?_⟩
  refine List.forall_mem_cons.mpr ⟨gv_meets hX, ?_⟩
  refine List.forall_mem_cons.mpr ⟨gc_cse hX (fun _ _ => J9_frm) ug365 ck_1656 wf_1656, ?_⟩
  refine List.forall_mem_cons.mpr ⟨gv_busiest hX, ?_⟩
  refine List.forall_mem_cons.mpr ⟨gc_cse hX (fun _ _ => J9_frm) ug345 ck_1692 wf_1692, ?_⟩
  refine List.forall_mem_cons.mpr ⟨gv_wells hX, ?_⟩
  refine List.forall_mem_cons.mpr ⟨gc_cse hX (fun _ _ => J9_frm) ug335 ck_1738 wf_1738, ?_⟩
  refine List.forall_mem_cons.mpr ⟨gc_cse hX (fun _ _ => J9_frm) ug322 ck_1771 wf_1771, ?_⟩
  refine List.forall_mem_cons.mpr ⟨gv_loss hX, ?_⟩
  refine List.forall_mem_cons.mpr ⟨gv_saint hX, ?_⟩
  refine List.forall_mem_cons.mpr ⟨gv_keeper hX, ?_⟩
  refine List.forall_mem_cons.mpr ⟨gc_cse hX (fun _ _ => J9_frm) ug289 ck_1853 wf_1853, ?_⟩
  refine List.forall_mem_cons.mpr ⟨gc_cse hX (fun _ _ => J9_frm) ug284 ck_1866 wf_1866, ?_⟩
  refine List.forall_mem_cons.mpr ⟨gc_cse hX (fun _ _ => J9_frm) ug279 ck_1889 wf_1889, ?_⟩
  refine List.forall_mem_cons.mpr ⟨gv_wedding hX, ?_⟩
  refine List.forall_mem_cons.mpr ⟨gv_weddingSet hX, ?_⟩
  refine List.forall_mem_cons.mpr ⟨gv_pardon hX, ?_⟩
  refine List.forall_mem_cons.mpr ⟨gv_pardonSet hX, ?_⟩
  refine List.forall_mem_cons.mpr ⟨gc_cse hX (fun _ _ => J9_frm) ug225 ck_2024 wf_2024, ?_⟩
  refine List.forall_mem_cons.mpr ⟨gc_cse hX (fun _ _ => J9_frm) ug217 ck_2047 wf_2047, ?_⟩
  refine List.forall_mem_cons.mpr ⟨gc_cse hX (fun _ _ => J9_frm) ug212 ck_2090 wf_2090, ?_⟩
  refine List.forall_mem_cons.mpr ⟨gc_cse hX (fun _ _ => J9_frm) ug203 ck_2103 wf_2103, ?_⟩
  refine List.forall_mem_cons.mpr ⟨gc_cse hX (fun _ _ => J9_frm) ug198 ck_2116 wf_2116, ?_⟩
  refine List.forall_mem_cons.mpr ⟨gc_cse hX (fun _ _ => J9_frm) ug187 ck_2129 wf_2129, ?_⟩
  refine List.forall_mem_cons.mpr ⟨gc_cse hX (fun _ _ => J9_frm) ug180 ck_2142 wf_2142, ?_⟩
  refine List.forall_mem_cons.mpr ⟨gc_cse hX (fun _ _ => J9_frm) ug166 ck_2155 wf_2155, ?_⟩
  refine List.forall_mem_cons.mpr ⟨gv_bestSalt hX, ?_⟩
  refine List.forall_mem_cons.mpr ⟨gv_live hX, ?_⟩
  refine List.forall_mem_cons.mpr ⟨gv_lived hX, ?_⟩
  refine List.forall_mem_cons.mpr ⟨gv_mean hX, ?_⟩
  refine List.forall_mem_cons.mpr ⟨gv_mark hX, ?_⟩
  refine List.forall_mem_cons.mpr ⟨gv_undo hX, ?_⟩
  exact fun _ h => absurd h List.not_mem_nil
end LAW
