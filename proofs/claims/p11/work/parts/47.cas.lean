section LAW
variable {dC : Nat → ClassId} {dI : Nat → Nat → Nat} {dA : Nat → ClassId} {sp : Nat → Nat} {H0 : Heap} {l : Launch} {ρ0 : List Nat} {ad : Nat → Nat} {rf : Nat → Nat → Option Nat} {L : LSc}
set_option maxRecDepth 100000 in
theorem ck_328 : cse tbq U0q un653 2296 = true := by decide +kernel
set_option maxRecDepth 100000 in
theorem wf_328 : wfr F12 un653.2.2.2.1 = true := by decide +kernel
set_option maxRecDepth 100000 in
theorem ck_341 : cse tbq U0q un652 2296 = true := by decide +kernel
set_option maxRecDepth 100000 in
theorem wf_341 : wfr F12 un652.2.2.2.1 = true := by decide +kernel
set_option maxRecDepth 100000 in
theorem ck_354 : cse tbq U0q un651 2296 = true := by decide +kernel
set_option maxRecDepth 100000 in
theorem wf_354 : wfr F12 un651.2.2.2.1 = true := by decide +kernel
set_option maxRecDepth 100000 in
theorem ck_367 : cse tbq U0q un650 2296 = true := by decide +kernel
set_option maxRecDepth 100000 in
theorem wf_367 : wfr F12 un650.2.2.2.1 = true := by decide +kernel
set_option maxRecDepth 100000 in
theorem ck_410 : cse tbq U0q un640 2296 = true := by decide +kernel
set_option maxRecDepth 100000 in
theorem wf_410 : wfr F12 un640.2.2.2.1 = true := by decide +kernel
set_option maxRecDepth 100000 in
theorem ck_483 : cse tbq U0q un637 2296 = true := by decide +kernel
set_option maxRecDepth 100000 in
theorem wf_483 : wfr F12 un637.2.2.2.1 = true := by decide +kernel
set_option maxRecDepth 100000 in
theorem ck_516 : cse tbq U0q un635 2296 = true := by decide +kernel
set_option maxRecDepth 100000 in
theorem wf_516 : wfr F12 un635.2.2.2.1 = true := by decide +kernel
set_option maxRecDepth 100000 in
theorem fk_X11_feed : frk tbq U0q un629 [(2, 0), (0, 0), (0, 0), (0, 0), (0, 0), (0, 0)] = true := by decide +kernel
theorem fr_X11_feed (hX : CTX dC dI dA sp H0 l ρ0 ad rf L) {h h' : PH} {as r : List ZV} (hT : Tq tbq L sp ad U0q h) (has : asok [(2, 0), (0, 0), (0, 0), (0, 0), (0, 0), (0, 0)] as) (hc : CP (zq sp ρ0) mX11_feed h as h' r) : Tq tbq L sp ad U0q h' :=
  (fr_ok u0_n u0_w u0_l u0_f (ug629 dC dI dA sp H0 l ρ0 ad rf L hX.1 (by have := hX.2.1; omega) hX.2.2.1) (show mqq 7 6 = some mX11_feed from rfl) (mth_gd (a := 7) (b := 6) rfl) hX.2.2.2.1 fk_X11_feed hT has hc).1
set_option maxRecDepth 100000 in
theorem fww_X11_feed : wfr FC12 un629.2.2.2.1 = true := by decide +kernel
theorem fw_X11_feed (hX : CTX dC dI dA sp H0 l ρ0 ad rf L) {h h' : PH} {as r : List ZV} (hT : Tq tbq L sp ad U0q h) (has : asok [(2, 0), (0, 0), (0, 0), (0, 0), (0, 0), (0, 0)] as) (hc : CP (zq sp ρ0) mX11_feed h as h' r) : Frm FC12 h h' := fun g hg k h1 h2 =>
  (fr_ok u0_n u0_w u0_l u0_f (ug629 dC dI dA sp H0 l ρ0 ad rf L hX.1 (by have := hX.2.1; omega) hX.2.2.1) (show mqq 7 6 = some mX11_feed from rfl) (mth_gd (a := 7) (b := 6) rfl) hX.2.2.2.1 fk_X11_feed hT has hc).2 _ _ (wfr_ok fww_X11_feed hg h1 h2)
set_option maxRecDepth 100000 in
theorem fk_X12_feed : frk tbq U0q un630 [(2, 169), (0, 0), (0, 0), (0, 0), (0, 0), (0, 0)] = true := by decide +kernel
theorem fr_X12_feed (hX : CTX dC dI dA sp H0 l ρ0 ad rf L) {h h' : PH} {as r : List ZV} (hT : Tq tbq L sp ad U0q h) (has : asok [(2, 169), (0, 0), (0, 0), (0, 0), (0, 0), (0, 0)] as) (hc : CP (zq sp ρ0) mX12_feed h as h' r) : Tq tbq L sp ad U0q h' :=
  (fr_ok u0_n u0_w u0_l u0_f (ug630 dC dI dA sp H0 l ρ0 ad rf L hX.1 (by have := hX.2.1; omega) hX.2.2.1) (show mqq 12 2 = some mX12_feed from rfl) (mth_gd (a := 12) (b := 2) rfl) hX.2.2.2.1 fk_X12_feed hT has hc).1
set_option maxRecDepth 100000 in
theorem fww_X12_feed : wfr FD12 un630.2.2.2.1 = true := by decide +kernel
theorem fw_X12_feed (hX : CTX dC dI dA sp H0 l ρ0 ad rf L) {h h' : PH} {as r : List ZV} (hT : Tq tbq L sp ad U0q h) (has : asok [(2, 169), (0, 0), (0, 0), (0, 0), (0, 0), (0, 0)] as) (hc : CP (zq sp ρ0) mX12_feed h as h' r) : Frm FD12 h h' := fun g hg k h1 h2 =>
  (fr_ok u0_n u0_w u0_l u0_f (ug630 dC dI dA sp H0 l ρ0 ad rf L hX.1 (by have := hX.2.1; omega) hX.2.2.1) (show mqq 12 2 = some mX12_feed from rfl) (mth_gd (a := 12) (b := 2) rfl) hX.2.2.2.1 fk_X12_feed hT has hc).2 _ _ (wfr_ok fww_X12_feed hg h1 h2)
set_option maxRecDepth 40000 in
set_option maxHeartbeats 1600000 in
theorem v_c_feed {sl : Nat} {si : Nat → Int} {fm : ZV} {K : Nat → PH → ZL → List ZV → Prop} {Q : PH → List ZV → Prop} {h : PH} {i : Int} (H : 0 ≤ w32 (i + 1) ∧ w32 (i + 1) < sl → R32 (si (w32 (i + 1)).toNat) → 0 ≤ w32 (i + 2) ∧ w32 (i + 2) < sl → R32 (si (w32 (i + 2)).toNat) → 0 ≤ w32 (i + 3) ∧ w32 (i + 3) < sl → R32 (si (w32 (i + 3)).toNat) → 0 ≤ w32 (i + 4) ∧ w32 (i + 4) < sl → R32 (si (w32 (i + 4)).toNat) → 0 ≤ w32 (i + 5) ∧ w32 (i + 5) < sl → R32 (si (w32 (i + 5)).toNat) → ∀ h1 v1, CP (zz sl si fm) mX11_feed h [(2, 0), (0, (si (w32 (i + 1)).toNat)), (0, (si (w32 (i + 2)).toNat)), (0, (si (w32 (i + 3)).toNat)), (0, (si (w32 (i + 4)).toNat)), (0, (si (w32 (i + 5)).toNat))] h1 [(0, v1)] → R32 v1 → 0 ≤ w32 (i + 1) ∧ w32 (i + 1) < sl → R32 (si (w32 (i + 1)).toNat) → 0 ≤ w32 (i + 2) ∧ w32 (i + 2) < sl → R32 (si (w32 (i + 2)).toNat) → 0 ≤ w32 (i + 3) ∧ w32 (i + 3) < sl → R32 (si (w32 (i + 3)).toNat) → 0 ≤ w32 (i + 4) ∧ w32 (i + 4) < sl → R32 (si (w32 (i + 4)).toNat) → 0 ≤ w32 (i + 5) ∧ w32 (i + 5) < sl → R32 (si (w32 (i + 5)).toNat) → ∀ h2 v2, CP (zz sl si fm) mX12_feed h1 [(2, 169), (0, (si (w32 (i + 1)).toNat)), (0, (si (w32 (i + 2)).toNat)), (0, (si (w32 (i + 3)).toNat)), (0, (si (w32 (i + 4)).toNat)), (0, (si (w32 (i + 5)).toNat))] h2 [(0, v2)] → R32 v2 → K 2296 h2 [(3, (0, i)), (2, (2, 169)), (1, (2, 0)), (0, (6, 0))] []) : vc (zz sl si fm) (fun p => Nat.beq p 2296) K Q mL_law 59 579 (ax_jmp mL_law.2.2.2.2.2.2 579) h [(3, (0, i)), (2, (2, 169)), (1, (2, 0)), (0, (6, 0))] [] := H
set_option maxRecDepth 100000 in
theorem gv_feed (hX : CTX dC dI dA sp H0 l ρ0 ad rf L) : GC J12 L sp ad ρ0 579 := gc_vc (fun h i hT hJ => v_c_feed (fun b1 r2 => (fun b3 r4 => (fun b5 r6 => (fun b7 r8 => (fun b9 r10 => (fun h1 v1 p1 q1 => (fun b11 r12 => (fun b13 r14 => (fun b15 r16 => (fun b17 r18 => (fun b19 r20 => (fun h2 v2 p2 q2 => (by exact ⟨rfl, fr_X12_feed hX (fr_X11_feed hX hT (by exact (And.intro rfl (And.intro (And.intro rfl r2) (And.intro (And.intro rfl r4) (And.intro (And.intro rfl r6) (And.intro (And.intro rfl r8) (And.intro (And.intro rfl r10) trivial))))))) p1) (by exact (And.intro rfl (And.intro (And.intro rfl r2) (And.intro (And.intro rfl r4) (And.intro (And.intro rfl r6) (And.intro (And.intro rfl r8) (And.intro (And.intro rfl r10) trivial))))))) p2, pr_feed12 hJ  (fw_X11_feed hX hT (by exact (And.intro rfl (And.intro (And.intro rfl r2) (And.intro (And.intro rfl r4) (And.intro (And.intro rfl r6) (And.intro (And.intro rfl r8) (And.intro (And.intro rfl r10) trivial))))))) p1) (fw_X12_feed hX (fr_X11_feed hX hT (by exact (And.intro rfl (And.intro (And.intro rfl r2) (And.intro (And.intro rfl r4) (And.intro (And.intro rfl r6) (And.intro (And.intro rfl r8) (And.intro (And.intro rfl r10) trivial))))))) p1) (by exact (And.intro rfl (And.intro (And.intro rfl r2) (And.intro (And.intro rfl r4) (And.intro (And.intro rfl r6) (And.intro (And.intro rfl r8) (And.intro (And.intro rfl r10) trivial))))))) p2) p1 p2, rfl, rfl, rfl, rfl, trivial⟩))))))))))))))
set_option maxRecDepth 100000 in
theorem fk_X11_land : frk tbq U0q un591 [(2, 0), (0, 0)] = true := by decide +kernel
theorem fr_X11_land (hX : CTX dC dI dA sp H0 l ρ0 ad rf L) {h h' : PH} {as r : List ZV} (hT : Tq tbq L sp ad U0q h) (has : asok [(2, 0), (0, 0)] as) (hc : CP (zq sp ρ0) mX11_land h as h' r) : Tq tbq L sp ad U0q h' :=
  (fr_ok u0_n u0_w u0_l u0_f (ug591 dC dI dA sp H0 l ρ0 ad rf L hX.1 (by have := hX.2.1; omega) hX.2.2.1) (show mqq 7 7 = some mX11_land from rfl) (mth_gd (a := 7) (b := 7) rfl) hX.2.2.2.1 fk_X11_land hT has hc).1
set_option maxRecDepth 100000 in
theorem fk_X12_land : frk tbq U0q un624 [(2, 169), (0, 0)] = true := by decide +kernel
theorem fr_X12_land (hX : CTX dC dI dA sp H0 l ρ0 ad rf L) {h h' : PH} {as r : List ZV} (hT : Tq tbq L sp ad U0q h) (has : asok [(2, 169), (0, 0)] as) (hc : CP (zq sp ρ0) mX12_land h as h' r) : Tq tbq L sp ad U0q h' :=
  (fr_ok u0_n u0_w u0_l u0_f (ug624 dC dI dA sp H0 l ρ0 ad rf L hX.1 (by have := hX.2.1; omega) hX.2.2.1) (show mqq 13 10 = some mX12_land from rfl) (mth_gd (a := 13) (b := 10) rfl) hX.2.2.2.1 fk_X12_land hT has hc).1
set_option maxRecDepth 40000 in
set_option maxHeartbeats 1600000 in
theorem v_c_land {sl : Nat} {si : Nat → Int} {fm : ZV} {K : Nat → PH → ZL → List ZV → Prop} {Q : PH → List ZV → Prop} {h : PH} {i : Int} (H : 0 ≤ w32 (i + 1) ∧ w32 (i + 1) < sl → R32 (si (w32 (i + 1)).toNat) → ∀ h1 v1, CP (zz sl si fm) mX11_land h [(2, 0), (0, (si (w32 (i + 1)).toNat))] h1 [(0, v1)] → R32 v1 → 0 ≤ w32 (i + 1) ∧ w32 (i + 1) < sl → R32 (si (w32 (i + 1)).toNat) → ∀ h2 v2, CP (zz sl si fm) mX12_land h1 [(2, 169), (0, (si (w32 (i + 1)).toNat))] h2 [(0, v2)] → R32 v2 → K 2296 h2 [(3, (0, i)), (2, (2, 169)), (1, (2, 0)), (0, (6, 0))] []) : vc (zz sl si fm) (fun p => Nat.beq p 2296) K Q mL_law 19 642 (ax_jmp mL_law.2.2.2.2.2.2 642) h [(3, (0, i)), (2, (2, 169)), (1, (2, 0)), (0, (6, 0))] [] := H
set_option maxRecDepth 100000 in
theorem gv_land (hX : CTX dC dI dA sp H0 l ρ0 ad rf L) : GC J12 L sp ad ρ0 642 := gc_vc (fun h i hT hJ => v_c_land (fun b1 r2 => (fun h1 v1 p1 q1 => (fun b3 r4 => (fun h2 v2 p2 q2 => (by exact ⟨rfl, fr_X12_land hX (fr_X11_land hX hT (by exact (And.intro rfl (And.intro (And.intro rfl r2) trivial))) p1) (by exact (And.intro rfl (And.intro (And.intro rfl r2) trivial))) p2, pr_land12 hJ  p1 p2, rfl, rfl, rfl, rfl, trivial⟩))))))
set_option maxRecDepth 100000 in
theorem fk_X11_tales : frk tbq U0q un508 [(2, 0), (0, 0)] = true := by decide +kernel
theorem fr_X11_tales (hX : CTX dC dI dA sp H0 l ρ0 ad rf L) {h h' : PH} {as r : List ZV} (hT : Tq tbq L sp ad U0q h) (has : asok [(2, 0), (0, 0)] as) (hc : CP (zq sp ρ0) mX11_tales h as h' r) : Tq tbq L sp ad U0q h' :=
  (fr_ok u0_n u0_w u0_l u0_f (ug508 dC dI dA sp H0 l ρ0 ad rf L hX.1 (by have := hX.2.1; omega) hX.2.2.1) (show mqq 7 8 = some mX11_tales from rfl) (mth_gd (a := 7) (b := 8) rfl) hX.2.2.2.1 fk_X11_tales hT has hc).1
set_option maxRecDepth 100000 in
theorem fww_X11_tales : wfr FA12 un508.2.2.2.1 = true := by decide +kernel
theorem fw_X11_tales (hX : CTX dC dI dA sp H0 l ρ0 ad rf L) {h h' : PH} {as r : List ZV} (hT : Tq tbq L sp ad U0q h) (has : asok [(2, 0), (0, 0)] as) (hc : CP (zq sp ρ0) mX11_tales h as h' r) : Frm FA12 h h' := fun g hg k h1 h2 =>
  (fr_ok u0_n u0_w u0_l u0_f (ug508 dC dI dA sp H0 l ρ0 ad rf L hX.1 (by have := hX.2.1; omega) hX.2.2.1) (show mqq 7 8 = some mX11_tales from rfl) (mth_gd (a := 7) (b := 8) rfl) hX.2.2.2.1 fk_X11_tales hT has hc).2 _ _ (wfr_ok fww_X11_tales hg h1 h2)
set_option maxRecDepth 100000 in
theorem fk_X12_tales : frk tbq U0q un551 [(2, 169), (0, 0)] = true := by decide +kernel
theorem fr_X12_tales (hX : CTX dC dI dA sp H0 l ρ0 ad rf L) {h h' : PH} {as r : List ZV} (hT : Tq tbq L sp ad U0q h) (has : asok [(2, 169), (0, 0)] as) (hc : CP (zq sp ρ0) mX12_tales h as h' r) : Tq tbq L sp ad U0q h' :=
  (fr_ok u0_n u0_w u0_l u0_f (ug551 dC dI dA sp H0 l ρ0 ad rf L hX.1 (by have := hX.2.1; omega) hX.2.2.1) (show mqq 13 16 = some mX12_tales from rfl) (mth_gd (a := 13) (b := 16) rfl) hX.2.2.2.1 fk_X12_tales hT has hc).1
set_option maxRecDepth 100000 in
theorem fww_X12_tales : wfr FB12 un551.2.2.2.1 = true := by decide +kernel
theorem fw_X12_tales (hX : CTX dC dI dA sp H0 l ρ0 ad rf L) {h h' : PH} {as r : List ZV} (hT : Tq tbq L sp ad U0q h) (has : asok [(2, 169), (0, 0)] as) (hc : CP (zq sp ρ0) mX12_tales h as h' r) : Frm FB12 h h' := fun g hg k h1 h2 =>
  (fr_ok u0_n u0_w u0_l u0_f (ug551 dC dI dA sp H0 l ρ0 ad rf L hX.1 (by have := hX.2.1; omega) hX.2.2.1) (show mqq 13 16 = some mX12_tales from rfl) (mth_gd (a := 13) (b := 16) rfl) hX.2.2.2.1 fk_X12_tales hT has hc).2 _ _ (wfr_ok fww_X12_tales hg h1 h2)
set_option maxRecDepth 40000 in
set_option maxHeartbeats 1600000 in
theorem v_c_tales {sl : Nat} {si : Nat → Int} {fm : ZV} {K : Nat → PH → ZL → List ZV → Prop} {Q : PH → List ZV → Prop} {h : PH} {i : Int} (H : 0 ≤ w32 (i + 1) ∧ w32 (i + 1) < sl → R32 (si (w32 (i + 1)).toNat) → ∀ h1 v1, CP (zz sl si fm) mX11_tales h [(2, 0), (0, (si (w32 (i + 1)).toNat))] h1 [(0, v1)] → R32 v1 → 0 ≤ w32 (i + 1) ∧ w32 (i + 1) < sl → R32 (si (w32 (i + 1)).toNat) → ∀ h2 v2, CP (zz sl si fm) mX12_tales h1 [(2, 169), (0, (si (w32 (i + 1)).toNat))] h2 [(0, v2)] → R32 v2 → (v1 = v2 → K 2296 h2 [(3, (0, i)), (2, (2, 169)), (1, (2, 0)), (0, (6, 0))] []) ∧ (¬ (v1 = v2) → Q h2 [(0, 0)])) : vc (zz sl si fm) (fun p => Nat.beq p 2296) K Q mL_law 19 665 (ax_jmp mL_law.2.2.2.2.2.2 665) h [(3, (0, i)), (2, (2, 169)), (1, (2, 0)), (0, (6, 0))] [] := H
set_option maxRecDepth 100000 in
theorem gv_tales (hX : CTX dC dI dA sp H0 l ρ0 ad rf L) : GC J12 L sp ad ρ0 665 := gc_vc (fun h i hT hJ => v_c_tales (fun b1 r2 => (fun h1 v1 p1 q1 => (fun b3 r4 => (fun h2 v2 p2 q2 => ⟨fun c5 => (by exact ⟨rfl, fr_X12_tales hX (fr_X11_tales hX hT (by exact (And.intro rfl (And.intro (And.intro rfl r2) trivial))) p1) (by exact (And.intro rfl (And.intro (And.intro rfl r2) trivial))) p2, (pr_tales12 hJ  (fw_X11_tales hX hT (by exact (And.intro rfl (And.intro (And.intro rfl r2) trivial))) p1) (fw_X12_tales hX (fr_X11_tales hX hT (by exact (And.intro rfl (And.intro (And.intro rfl r2) trivial))) p1) (by exact (And.intro rfl (And.intro (And.intro rfl r2) trivial))) p2) p1 p2).1, rfl, rfl, rfl, rfl, trivial⟩), fun c5 => (by exact absurd ((pr_tales12 hJ  (fw_X11_tales hX hT (by exact (And.intro rfl (And.intro (And.intro rfl r2) trivial))) p1) (fw_X12_tales hX (fr_X11_tales hX hT (by exact (And.intro rfl (And.intro (And.intro rfl r2) trivial))) p1) (by exact (And.intro rfl (And.intro (And.intro rfl r2) trivial))) p2) p1 p2).2) (by assumption))⟩)))))
set_option maxRecDepth 100000 in
theorem ck_688 : cse tbq U0q un495 2296 = true := by decide +kernel
set_option maxRecDepth 100000 in
theorem wf_688 : wfr F12 un495.2.2.2.1 = true := by decide +kernel
set_option maxRecDepth 100000 in
theorem ck_711 : cse tbq U0q un494 2296 = true := by decide +kernel
set_option maxRecDepth 100000 in
theorem wf_711 : wfr F12 un494.2.2.2.1 = true := by decide +kernel
set_option maxRecDepth 100000 in
theorem ck_734 : cse tbq U0q un485 2296 = true := by decide +kernel
set_option maxRecDepth 100000 in
theorem wf_734 : wfr F12 un485.2.2.2.1 = true := by decide +kernel
set_option maxRecDepth 100000 in
theorem ck_767 : cse tbq U0q un482 2296 = true := by decide +kernel
set_option maxRecDepth 100000 in
theorem wf_767 : wfr F12 un482.2.2.2.1 = true := by decide +kernel
set_option maxRecDepth 100000 in
theorem ck_800 : cse tbq U0q un479 2296 = true := by decide +kernel
set_option maxRecDepth 100000 in
theorem wf_800 : wfr F12 un479.2.2.2.1 = true := by decide +kernel
set_option maxRecDepth 100000 in
theorem ck_833 : cse tbq U0q un477 2296 = true := by decide +kernel
set_option maxRecDepth 100000 in
theorem wf_833 : wfr F12 un477.2.2.2.1 = true := by decide +kernel
set_option maxRecDepth 100000 in
theorem ck_866 : cse tbq U0q un474 2296 = true := by decide +kernel
set_option maxRecDepth 100000 in
theorem wf_866 : wfr F12 un474.2.2.2.1 = true := by decide +kernel
set_option maxRecDepth 100000 in
theorem ck_889 : cse tbq U0q un473 2296 = true := by decide +kernel
set_option maxRecDepth 100000 in
theorem wf_889 : wfr F12 un473.2.2.2.1 = true := by decide +kernel
set_option maxRecDepth 100000 in
theorem ck_922 : cse tbq U0q un467 2296 = true := by decide +kernel
set_option maxRecDepth 100000 in
theorem wf_922 : wfr F12 un467.2.2.2.1 = true := by decide +kernel
set_option maxRecDepth 100000 in
theorem ck_945 : cse tbq U0q un464 2296 = true := by decide +kernel
set_option maxRecDepth 100000 in
theorem wf_945 : wfr F12 un464.2.2.2.1 = true := by decide +kernel
set_option maxRecDepth 100000 in
theorem ck_968 : cse tbq U0q un463 2296 = true := by decide +kernel
set_option maxRecDepth 100000 in
theorem wf_968 : wfr F12 un463.2.2.2.1 = true := by decide +kernel
set_option maxRecDepth 100000 in
theorem ck_1001 : cse tbq U0q un460 2296 = true := by decide +kernel
set_option maxRecDepth 100000 in
theorem wf_1001 : wfr F12 un460.2.2.2.1 = true := by decide +kernel
set_option maxRecDepth 100000 in
theorem ck_1044 : cse tbq U0q un455 2296 = true := by decide +kernel
set_option maxRecDepth 100000 in
theorem wf_1044 : wfr F12 un455.2.2.2.1 = true := by decide +kernel
set_option maxRecDepth 100000 in
theorem ck_1093 : cse tbq U0q un452 2296 = true := by decide +kernel
set_option maxRecDepth 100000 in
theorem wf_1093 : wfr F12 un452.2.2.2.1 = true := by decide +kernel
set_option maxRecDepth 100000 in
theorem ck_1142 : cse tbq U0q un449 2296 = true := by decide +kernel
set_option maxRecDepth 100000 in
theorem wf_1142 : wfr F12 un449.2.2.2.1 = true := by decide +kernel
set_option maxRecDepth 100000 in
theorem ck_1201 : cse tbq U0q un446 2296 = true := by decide +kernel
set_option maxRecDepth 100000 in
theorem wf_1201 : wfr F12 un446.2.2.2.1 = true := by decide +kernel
set_option maxRecDepth 100000 in
theorem ck_1234 : cse tbq U0q un443 2296 = true := by decide +kernel
set_option maxRecDepth 100000 in
theorem wf_1234 : wfr F12 un443.2.2.2.1 = true := by decide +kernel
set_option maxRecDepth 100000 in
theorem ck_1267 : cse tbq U0q un440 2296 = true := by decide +kernel
set_option maxRecDepth 100000 in
theorem wf_1267 : wfr F12 un440.2.2.2.1 = true := by decide +kernel
set_option maxRecDepth 100000 in
theorem ck_1290 : cse tbq U0q un437 2296 = true := by decide +kernel
set_option maxRecDepth 100000 in
theorem wf_1290 : wfr F12 un437.2.2.2.1 = true := by decide +kernel
set_option maxRecDepth 100000 in
theorem fk_X11_walks : frk tbq U0q un432 [(2, 0), (0, 0), (0, 0)] = true := by decide +kernel
theorem fr_X11_walks (hX : CTX dC dI dA sp H0 l ρ0 ad rf L) {h h' : PH} {as r : List ZV} (hT : Tq tbq L sp ad U0q h) (has : asok [(2, 0), (0, 0), (0, 0)] as) (hc : CP (zq sp ρ0) mX11_walks h as h' r) : Tq tbq L sp ad U0q h' :=
  (fr_ok u0_n u0_w u0_l u0_f (ug432 dC dI dA sp H0 l ρ0 ad rf L hX.1 (by have := hX.2.1; omega) hX.2.2.1) (show mqq 8 8 = some mX11_walks from rfl) (mth_gd (a := 8) (b := 8) rfl) hX.2.2.2.1 fk_X11_walks hT has hc).1
set_option maxRecDepth 100000 in
theorem fww_X11_walks : wfr F12 un432.2.2.2.1 = true := by decide +kernel
theorem fw_X11_walks (hX : CTX dC dI dA sp H0 l ρ0 ad rf L) {h h' : PH} {as r : List ZV} (hT : Tq tbq L sp ad U0q h) (has : asok [(2, 0), (0, 0), (0, 0)] as) (hc : CP (zq sp ρ0) mX11_walks h as h' r) : Frm F12 h h' := fun g hg k h1 h2 =>
  (fr_ok u0_n u0_w u0_l u0_f (ug432 dC dI dA sp H0 l ρ0 ad rf L hX.1 (by have := hX.2.1; omega) hX.2.2.1) (show mqq 8 8 = some mX11_walks from rfl) (mth_gd (a := 8) (b := 8) rfl) hX.2.2.2.1 fk_X11_walks hT has hc).2 _ _ (wfr_ok fww_X11_walks hg h1 h2)
set_option maxRecDepth 100000 in
theorem fk_X12_walks : frk tbq U0q un433 [(2, 169), (0, 0), (0, 0)] = true := by decide +kernel
theorem fr_X12_walks (hX : CTX dC dI dA sp H0 l ρ0 ad rf L) {h h' : PH} {as r : List ZV} (hT : Tq tbq L sp ad U0q h) (has : asok [(2, 169), (0, 0), (0, 0)] as) (hc : CP (zq sp ρ0) mX12_walks h as h' r) : Tq tbq L sp ad U0q h' :=
  (fr_ok u0_n u0_w u0_l u0_f (ug433 dC dI dA sp H0 l ρ0 ad rf L hX.1 (by have := hX.2.1; omega) hX.2.2.1) (show mqq 16 11 = some mX12_walks from rfl) (mth_gd (a := 16) (b := 11) rfl) hX.2.2.2.1 fk_X12_walks hT has hc).1
set_option maxRecDepth 100000 in
theorem fww_X12_walks : wfr F12a un433.2.2.2.1 = true := by decide +kernel
theorem fw_X12_walks (hX : CTX dC dI dA sp H0 l ρ0 ad rf L) {h h' : PH} {as r : List ZV} (hT : Tq tbq L sp ad U0q h) (has : asok [(2, 169), (0, 0), (0, 0)] as) (hc : CP (zq sp ρ0) mX12_walks h as h' r) : Frm F12a h h' := fun g hg k h1 h2 =>
  (fr_ok u0_n u0_w u0_l u0_f (ug433 dC dI dA sp H0 l ρ0 ad rf L hX.1 (by have := hX.2.1; omega) hX.2.2.1) (show mqq 16 11 = some mX12_walks from rfl) (mth_gd (a := 16) (b := 11) rfl) hX.2.2.2.1 fk_X12_walks hT has hc).2 _ _ (wfr_ok fww_X12_walks hg h1 h2)
set_option maxRecDepth 40000 in
set_option maxHeartbeats 1600000 in
theorem v_c_walks {sl : Nat} {si : Nat → Int} {fm : ZV} {K : Nat → PH → ZL → List ZV → Prop} {Q : PH → List ZV → Prop} {h : PH} {i : Int} (H : 0 ≤ w32 (i + 1) ∧ w32 (i + 1) < sl → R32 (si (w32 (i + 1)).toNat) → 0 ≤ w32 (i + 2) ∧ w32 (i + 2) < sl → R32 (si (w32 (i + 2)).toNat) → ∀ h1 v1, CP (zz sl si fm) mX11_walks h [(2, 0), (0, (si (w32 (i + 1)).toNat)), (0, (si (w32 (i + 2)).toNat))] h1 [(0, v1)] → R32 v1 → 0 ≤ w32 (i + 1) ∧ w32 (i + 1) < sl → R32 (si (w32 (i + 1)).toNat) → 0 ≤ w32 (i + 2) ∧ w32 (i + 2) < sl → R32 (si (w32 (i + 2)).toNat) → ∀ h2 v2, CP (zz sl si fm) mX12_walks h1 [(2, 169), (0, (si (w32 (i + 1)).toNat)), (0, (si (w32 (i + 2)).toNat))] h2 [(0, v2)] → R32 v2 → K 2296 h2 [(3, (0, i)), (2, (2, 169)), (1, (2, 0)), (0, (6, 0))] []) : vc (zz sl si fm) (fun p => Nat.beq p 2296) K Q mL_law 29 1313 (ax_jmp mL_law.2.2.2.2.2.2 1313) h [(3, (0, i)), (2, (2, 169)), (1, (2, 0)), (0, (6, 0))] [] := H
set_option maxRecDepth 100000 in
theorem gv_walks (hX : CTX dC dI dA sp H0 l ρ0 ad rf L) : GC J12 L sp ad ρ0 1313 := gc_vc (fun h i hT hJ => v_c_walks (fun b1 r2 => (fun b3 r4 => (fun h1 v1 p1 q1 => (fun b5 r6 => (fun b7 r8 => (fun h2 v2 p2 q2 => (by exact ⟨rfl, fr_X12_walks hX (fr_X11_walks hX hT (by exact (And.intro rfl (And.intro (And.intro rfl r2) (And.intro (And.intro rfl r4) trivial)))) p1) (by exact (And.intro rfl (And.intro (And.intro rfl r2) (And.intro (And.intro rfl r4) trivial)))) p2, tr12 hJ (fw_X11_walks hX hT (by exact (And.intro rfl (And.intro (And.intro rfl r2) (And.intro (And.intro rfl r4) trivial)))) p1) (fw_X12_walks hX (fr_X11_walks hX hT (by exact (And.intro rfl (And.intro (And.intro rfl r2) (And.intro (And.intro rfl r4) trivial)))) p1) (by exact (And.intro rfl (And.intro (And.intro rfl r2) (And.intro (And.intro rfl r4) trivial)))) p2) (c_X12_walks (tq_B (fr_X11_walks hX hT (by exact (And.intro rfl (And.intro (And.intro rfl r2) (And.intro (And.intro rfl r4) trivial)))) p1)).1 (tq_B (fr_X11_walks hX hT (by exact (And.intro rfl (And.intro (And.intro rfl r2) (And.intro (And.intro rfl r4) trivial)))) p1)).2.1 p2).1, rfl, rfl, rfl, rfl, trivial⟩))))))))
set_option maxRecDepth 100000 in
theorem fk_X11_later : frk tbq U0q un429 [(2, 0), (0, 0), (0, 0)] = true := by decide +kernel
theorem fr_X11_later (hX : CTX dC dI dA sp H0 l ρ0 ad rf L) {h h' : PH} {as r : List ZV} (hT : Tq tbq L sp ad U0q h) (has : asok [(2, 0), (0, 0), (0, 0)] as) (hc : CP (zq sp ρ0) mX11_later h as h' r) : Tq tbq L sp ad U0q h' :=
  (fr_ok u0_n u0_w u0_l u0_f (ug429 dC dI dA sp H0 l ρ0 ad rf L hX.1 (by have := hX.2.1; omega) hX.2.2.1) (show mqq 8 9 = some mX11_later from rfl) (mth_gd (a := 8) (b := 9) rfl) hX.2.2.2.1 fk_X11_later hT has hc).1
set_option maxRecDepth 100000 in
theorem fww_X11_later : wfr F12 un429.2.2.2.1 = true := by decide +kernel
theorem fw_X11_later (hX : CTX dC dI dA sp H0 l ρ0 ad rf L) {h h' : PH} {as r : List ZV} (hT : Tq tbq L sp ad U0q h) (has : asok [(2, 0), (0, 0), (0, 0)] as) (hc : CP (zq sp ρ0) mX11_later h as h' r) : Frm F12 h h' := fun g hg k h1 h2 =>
  (fr_ok u0_n u0_w u0_l u0_f (ug429 dC dI dA sp H0 l ρ0 ad rf L hX.1 (by have := hX.2.1; omega) hX.2.2.1) (show mqq 8 9 = some mX11_later from rfl) (mth_gd (a := 8) (b := 9) rfl) hX.2.2.2.1 fk_X11_later hT has hc).2 _ _ (wfr_ok fww_X11_later hg h1 h2)
set_option maxRecDepth 100000 in
theorem fk_X12_later : frk tbq U0q un430 [(2, 169), (0, 0), (0, 0)] = true := by decide +kernel
theorem fr_X12_later (hX : CTX dC dI dA sp H0 l ρ0 ad rf L) {h h' : PH} {as r : List ZV} (hT : Tq tbq L sp ad U0q h) (has : asok [(2, 169), (0, 0), (0, 0)] as) (hc : CP (zq sp ρ0) mX12_later h as h' r) : Tq tbq L sp ad U0q h' :=
  (fr_ok u0_n u0_w u0_l u0_f (ug430 dC dI dA sp H0 l ρ0 ad rf L hX.1 (by have := hX.2.1; omega) hX.2.2.1) (show mqq 16 12 = some mX12_later from rfl) (mth_gd (a := 16) (b := 12) rfl) hX.2.2.2.1 fk_X12_later hT has hc).1
set_option maxRecDepth 100000 in
theorem fww_X12_later : wfr F12a un430.2.2.2.1 = true := by decide +kernel
theorem fw_X12_later (hX : CTX dC dI dA sp H0 l ρ0 ad rf L) {h h' : PH} {as r : List ZV} (hT : Tq tbq L sp ad U0q h) (has : asok [(2, 169), (0, 0), (0, 0)] as) (hc : CP (zq sp ρ0) mX12_later h as h' r) : Frm F12a h h' := fun g hg k h1 h2 =>
  (fr_ok u0_n u0_w u0_l u0_f (ug430 dC dI dA sp H0 l ρ0 ad rf L hX.1 (by have := hX.2.1; omega) hX.2.2.1) (show mqq 16 12 = some mX12_later from rfl) (mth_gd (a := 16) (b := 12) rfl) hX.2.2.2.1 fk_X12_later hT has hc).2 _ _ (wfr_ok fww_X12_later hg h1 h2)
set_option maxRecDepth 40000 in
set_option maxHeartbeats 1600000 in
theorem v_c_later {sl : Nat} {si : Nat → Int} {fm : ZV} {K : Nat → PH → ZL → List ZV → Prop} {Q : PH → List ZV → Prop} {h : PH} {i : Int} (H : 0 ≤ w32 (i + 1) ∧ w32 (i + 1) < sl → R32 (si (w32 (i + 1)).toNat) → 0 ≤ w32 (i + 2) ∧ w32 (i + 2) < sl → R32 (si (w32 (i + 2)).toNat) → ∀ h1 v1, CP (zz sl si fm) mX11_later h [(2, 0), (0, (si (w32 (i + 1)).toNat)), (0, (si (w32 (i + 2)).toNat))] h1 [(0, v1)] → R32 v1 → 0 ≤ w32 (i + 1) ∧ w32 (i + 1) < sl → R32 (si (w32 (i + 1)).toNat) → 0 ≤ w32 (i + 2) ∧ w32 (i + 2) < sl → R32 (si (w32 (i + 2)).toNat) → ∀ h2 v2, CP (zz sl si fm) mX12_later h1 [(2, 169), (0, (si (w32 (i + 1)).toNat)), (0, (si (w32 (i + 2)).toNat))] h2 [(0, v2)] → R32 v2 → K 2296 h2 [(3, (0, i)), (2, (2, 169)), (1, (2, 0)), (0, (6, 0))] []) : vc (zz sl si fm) (fun p => Nat.beq p 2296) K Q mL_law 29 1346 (ax_jmp mL_law.2.2.2.2.2.2 1346) h [(3, (0, i)), (2, (2, 169)), (1, (2, 0)), (0, (6, 0))] [] := H
set_option maxRecDepth 100000 in
theorem gv_later (hX : CTX dC dI dA sp H0 l ρ0 ad rf L) : GC J12 L sp ad ρ0 1346 := gc_vc (fun h i hT hJ => v_c_later (fun b1 r2 => (fun b3 r4 => (fun h1 v1 p1 q1 => (fun b5 r6 => (fun b7 r8 => (fun h2 v2 p2 q2 => (by exact ⟨rfl, fr_X12_later hX (fr_X11_later hX hT (by exact (And.intro rfl (And.intro (And.intro rfl r2) (And.intro (And.intro rfl r4) trivial)))) p1) (by exact (And.intro rfl (And.intro (And.intro rfl r2) (And.intro (And.intro rfl r4) trivial)))) p2, tr12 hJ (fw_X11_later hX hT (by exact (And.intro rfl (And.intro (And.intro rfl r2) (And.intro (And.intro rfl r4) trivial)))) p1) (fw_X12_later hX (fr_X11_later hX hT (by exact (And.intro rfl (And.intro (And.intro rfl r2) (And.intro (And.intro rfl r4) trivial)))) p1) (by exact (And.intro rfl (And.intro (And.intro rfl r2) (And.intro (And.intro rfl r4) trivial)))) p2) (c_X12_later (tq_B (fr_X11_later hX hT (by exact (And.intro rfl (And.intro (And.intro rfl r2) (And.intro (And.intro rfl r4) trivial)))) p1)).1 (tq_B (fr_X11_later hX hT (by exact (And.intro rfl (And.intro (And.intro rfl r2) (And.intro (And.intro rfl r4) trivial)))) p1)).2.1 (tq_B (fr_X11_later hX hT (by exact (And.intro rfl (And.intro (And.intro rfl r2) (And.intro (And.intro rfl r4) trivial)))) p1)).2.2 p2), rfl, rfl, rfl, rfl, trivial⟩))))))))
set_option maxRecDepth 100000 in
theorem fk_X11_rest : frk tbq U0q un421 [(2, 0), (0, 0)] = true := by decide +kernel
theorem fr_X11_rest (hX : CTX dC dI dA sp H0 l ρ0 ad rf L) {h h' : PH} {as r : List ZV} (hT : Tq tbq L sp ad U0q h) (has : asok [(2, 0), (0, 0)] as) (hc : CP (zq sp ρ0) mX11_rest h as h' r) : Tq tbq L sp ad U0q h' :=
  (fr_ok u0_n u0_w u0_l u0_f (ug421 dC dI dA sp H0 l ρ0 ad rf L hX.1 (by have := hX.2.1; omega) hX.2.2.1) (show mqq 8 10 = some mX11_rest from rfl) (mth_gd (a := 8) (b := 10) rfl) hX.2.2.2.1 fk_X11_rest hT has hc).1
set_option maxRecDepth 100000 in
theorem fww_X11_rest : wfr F12 un421.2.2.2.1 = true := by decide +kernel
theorem fw_X11_rest (hX : CTX dC dI dA sp H0 l ρ0 ad rf L) {h h' : PH} {as r : List ZV} (hT : Tq tbq L sp ad U0q h) (has : asok [(2, 0), (0, 0)] as) (hc : CP (zq sp ρ0) mX11_rest h as h' r) : Frm F12 h h' := fun g hg k h1 h2 =>
  (fr_ok u0_n u0_w u0_l u0_f (ug421 dC dI dA sp H0 l ρ0 ad rf L hX.1 (by have := hX.2.1; omega) hX.2.2.1) (show mqq 8 10 = some mX11_rest from rfl) (mth_gd (a := 8) (b := 10) rfl) hX.2.2.2.1 fk_X11_rest hT has hc).2 _ _ (wfr_ok fww_X11_rest hg h1 h2)
set_option maxRecDepth 100000 in
theorem fk_X12_rest : frk tbq U0q un427 [(2, 169), (0, 0)] = true := by decide +kernel
theorem fr_X12_rest (hX : CTX dC dI dA sp H0 l ρ0 ad rf L) {h h' : PH} {as r : List ZV} (hT : Tq tbq L sp ad U0q h) (has : asok [(2, 169), (0, 0)] as) (hc : CP (zq sp ρ0) mX12_rest h as h' r) : Tq tbq L sp ad U0q h' :=
  (fr_ok u0_n u0_w u0_l u0_f (ug427 dC dI dA sp H0 l ρ0 ad rf L hX.1 (by have := hX.2.1; omega) hX.2.2.1) (show mqq 16 15 = some mX12_rest from rfl) (mth_gd (a := 16) (b := 15) rfl) hX.2.2.2.1 fk_X12_rest hT has hc).1
set_option maxRecDepth 100000 in
theorem fww_X12_rest : wfr F12a un427.2.2.2.1 = true := by decide +kernel
theorem fw_X12_rest (hX : CTX dC dI dA sp H0 l ρ0 ad rf L) {h h' : PH} {as r : List ZV} (hT : Tq tbq L sp ad U0q h) (has : asok [(2, 169), (0, 0)] as) (hc : CP (zq sp ρ0) mX12_rest h as h' r) : Frm F12a h h' := fun g hg k h1 h2 =>
  (fr_ok u0_n u0_w u0_l u0_f (ug427 dC dI dA sp H0 l ρ0 ad rf L hX.1 (by have := hX.2.1; omega) hX.2.2.1) (show mqq 16 15 = some mX12_rest from rfl) (mth_gd (a := 16) (b := 15) rfl) hX.2.2.2.1 fk_X12_rest hT has hc).2 _ _ (wfr_ok fww_X12_rest hg h1 h2)
set_option maxRecDepth 40000 in
set_option maxHeartbeats 1600000 in
theorem v_c_rest {sl : Nat} {si : Nat → Int} {fm : ZV} {K : Nat → PH → ZL → List ZV → Prop} {Q : PH → List ZV → Prop} {h : PH} {i : Int} (H : 0 ≤ w32 (i + 1) ∧ w32 (i + 1) < sl → R32 (si (w32 (i + 1)).toNat) → ∀ h1 v1, CP (zz sl si fm) mX11_rest h [(2, 0), (0, (si (w32 (i + 1)).toNat))] h1 [(0, v1)] → R32 v1 → 0 ≤ w32 (i + 1) ∧ w32 (i + 1) < sl → R32 (si (w32 (i + 1)).toNat) → ∀ h2 v2, CP (zz sl si fm) mX12_rest h1 [(2, 169), (0, (si (w32 (i + 1)).toNat))] h2 [(0, v2)] → R32 v2 → K 2296 h2 [(3, (0, i)), (2, (2, 169)), (1, (2, 0)), (0, (6, 0))] []) : vc (zz sl si fm) (fun p => Nat.beq p 2296) K Q mL_law 19 1379 (ax_jmp mL_law.2.2.2.2.2.2 1379) h [(3, (0, i)), (2, (2, 169)), (1, (2, 0)), (0, (6, 0))] [] := H
set_option maxRecDepth 100000 in
theorem gv_rest (hX : CTX dC dI dA sp H0 l ρ0 ad rf L) : GC J12 L sp ad ρ0 1379 := gc_vc (fun h i hT hJ => v_c_rest (fun b1 r2 => (fun h1 v1 p1 q1 => (fun b3 r4 => (fun h2 v2 p2 q2 => (by exact ⟨rfl, fr_X12_rest hX (fr_X11_rest hX hT (by exact (And.intro rfl (And.intro (And.intro rfl r2) trivial))) p1) (by exact (And.intro rfl (And.intro (And.intro rfl r2) trivial))) p2, tr12 hJ (fw_X11_rest hX hT (by exact (And.intro rfl (And.intro (And.intro rfl r2) trivial))) p1) (fw_X12_rest hX (fr_X11_rest hX hT (by exact (And.intro rfl (And.intro (And.intro rfl r2) trivial))) p1) (by exact (And.intro rfl (And.intro (And.intro rfl r2) trivial))) p2) (c_X12_rest (tq_B (fr_X11_rest hX hT (by exact (And.intro rfl (And.intro (And.intro rfl r2) trivial))) p1)).1 (tq_B (fr_X11_rest hX hT (by exact (And.intro rfl (And.intro (And.intro rfl r2) trivial))) p1)).2.1 (tq_B (fr_X11_rest hX hT (by exact (And.intro rfl (And.intro (And.intro rfl r2) trivial))) p1)).2.2 p2), rfl, rfl, rfl, rfl, trivial⟩))))))
set_option maxRecDepth 100000 in
theorem fk_X11_quiet : frk tbq U0q un414 [(2, 0), (0, 0)] = true := by decide +kernel
theorem fr_X11_quiet (hX : CTX dC dI dA sp H0 l ρ0 ad rf L) {h h' : PH} {as r : List ZV} (hT : Tq tbq L sp ad U0q h) (has : asok [(2, 0), (0, 0)] as) (hc : CP (zq sp ρ0) mX11_quiet h as h' r) : Tq tbq L sp ad U0q h' :=
  (fr_ok u0_n u0_w u0_l u0_f (ug414 dC dI dA sp H0 l ρ0 ad rf L hX.1 (by have := hX.2.1; omega) hX.2.2.1) (show mqq 8 11 = some mX11_quiet from rfl) (mth_gd (a := 8) (b := 11) rfl) hX.2.2.2.1 fk_X11_quiet hT has hc).1
set_option maxRecDepth 100000 in
theorem fww_X11_quiet : wfr F12 un414.2.2.2.1 = true := by decide +kernel
theorem fw_X11_quiet (hX : CTX dC dI dA sp H0 l ρ0 ad rf L) {h h' : PH} {as r : List ZV} (hT : Tq tbq L sp ad U0q h) (has : asok [(2, 0), (0, 0)] as) (hc : CP (zq sp ρ0) mX11_quiet h as h' r) : Frm F12 h h' := fun g hg k h1 h2 =>
  (fr_ok u0_n u0_w u0_l u0_f (ug414 dC dI dA sp H0 l ρ0 ad rf L hX.1 (by have := hX.2.1; omega) hX.2.2.1) (show mqq 8 11 = some mX11_quiet from rfl) (mth_gd (a := 8) (b := 11) rfl) hX.2.2.2.1 fk_X11_quiet hT has hc).2 _ _ (wfr_ok fww_X11_quiet hg h1 h2)
set_option maxRecDepth 100000 in
theorem fk_X12_quiet : frk tbq U0q un417 [(2, 169), (0, 0)] = true := by decide +kernel
theorem fr_X12_quiet (hX : CTX dC dI dA sp H0 l ρ0 ad rf L) {h h' : PH} {as r : List ZV} (hT : Tq tbq L sp ad U0q h) (has : asok [(2, 169), (0, 0)] as) (hc : CP (zq sp ρ0) mX12_quiet h as h' r) : Tq tbq L sp ad U0q h' :=
  (fr_ok u0_n u0_w u0_l u0_f (ug417 dC dI dA sp H0 l ρ0 ad rf L hX.1 (by have := hX.2.1; omega) hX.2.2.1) (show mqq 16 16 = some mX12_quiet from rfl) (mth_gd (a := 16) (b := 16) rfl) hX.2.2.2.1 fk_X12_quiet hT has hc).1
set_option maxRecDepth 100000 in
theorem fww_X12_quiet : wfr F12a un417.2.2.2.1 = true := by decide +kernel
theorem fw_X12_quiet (hX : CTX dC dI dA sp H0 l ρ0 ad rf L) {h h' : PH} {as r : List ZV} (hT : Tq tbq L sp ad U0q h) (has : asok [(2, 169), (0, 0)] as) (hc : CP (zq sp ρ0) mX12_quiet h as h' r) : Frm F12a h h' := fun g hg k h1 h2 =>
  (fr_ok u0_n u0_w u0_l u0_f (ug417 dC dI dA sp H0 l ρ0 ad rf L hX.1 (by have := hX.2.1; omega) hX.2.2.1) (show mqq 16 16 = some mX12_quiet from rfl) (mth_gd (a := 16) (b := 16) rfl) hX.2.2.2.1 fk_X12_quiet hT has hc).2 _ _ (wfr_ok fww_X12_quiet hg h1 h2)
set_option maxRecDepth 40000 in
set_option maxHeartbeats 1600000 in
theorem v_c_quiet {sl : Nat} {si : Nat → Int} {fm : ZV} {K : Nat → PH → ZL → List ZV → Prop} {Q : PH → List ZV → Prop} {h : PH} {i : Int} (H : 0 ≤ w32 (i + 1) ∧ w32 (i + 1) < sl → R32 (si (w32 (i + 1)).toNat) → ∀ h1 v1, CP (zz sl si fm) mX11_quiet h [(2, 0), (0, (si (w32 (i + 1)).toNat))] h1 [(0, v1)] → R32 v1 → 0 ≤ w32 (i + 1) ∧ w32 (i + 1) < sl → R32 (si (w32 (i + 1)).toNat) → ∀ h2 v2, CP (zz sl si fm) mX12_quiet h1 [(2, 169), (0, (si (w32 (i + 1)).toNat))] h2 [(0, v2)] → R32 v2 → K 2296 h2 [(3, (0, i)), (2, (2, 169)), (1, (2, 0)), (0, (6, 0))] []) : vc (zz sl si fm) (fun p => Nat.beq p 2296) K Q mL_law 19 1402 (ax_jmp mL_law.2.2.2.2.2.2 1402) h [(3, (0, i)), (2, (2, 169)), (1, (2, 0)), (0, (6, 0))] [] := H
set_option maxRecDepth 100000 in
theorem gv_quiet (hX : CTX dC dI dA sp H0 l ρ0 ad rf L) : GC J12 L sp ad ρ0 1402 := gc_vc (fun h i hT hJ => v_c_quiet (fun b1 r2 => (fun h1 v1 p1 q1 => (fun b3 r4 => (fun h2 v2 p2 q2 => (by exact ⟨rfl, fr_X12_quiet hX (fr_X11_quiet hX hT (by exact (And.intro rfl (And.intro (And.intro rfl r2) trivial))) p1) (by exact (And.intro rfl (And.intro (And.intro rfl r2) trivial))) p2, tr12 hJ (fw_X11_quiet hX hT (by exact (And.intro rfl (And.intro (And.intro rfl r2) trivial))) p1) (fw_X12_quiet hX (fr_X11_quiet hX hT (by exact (And.intro rfl (And.intro (And.intro rfl r2) trivial))) p1) (by exact (And.intro rfl (And.intro (And.intro rfl r2) trivial))) p2) (c_X12_quiet (tq_B (fr_X11_quiet hX hT (by exact (And.intro rfl (And.intro (And.intro rfl r2) trivial))) p1)).1 (tq_B (fr_X11_quiet hX hT (by exact (And.intro rfl (And.intro (And.intro rfl r2) trivial))) p1)).2.1 (tq_B (fr_X11_quiet hX hT (by exact (And.intro rfl (And.intro (And.intro rfl r2) trivial))) p1)).2.2 p2), rfl, rfl, rfl, rfl, trivial⟩))))))
set_option maxRecDepth 100000 in
theorem fk_X11_harvest : frk tbq U0q un404 [(2, 0), (0, 0), (0, 0)] = true := by decide +kernel
theorem fr_X11_harvest (hX : CTX dC dI dA sp H0 l ρ0 ad rf L) {h h' : PH} {as r : List ZV} (hT : Tq tbq L sp ad U0q h) (has : asok [(2, 0), (0, 0), (0, 0)] as) (hc : CP (zq sp ρ0) mX11_harvest h as h' r) : Tq tbq L sp ad U0q h' :=
  (fr_ok u0_n u0_w u0_l u0_f (ug404 dC dI dA sp H0 l ρ0 ad rf L hX.1 (by have := hX.2.1; omega) hX.2.2.1) (show mqq 8 12 = some mX11_harvest from rfl) (mth_gd (a := 8) (b := 12) rfl) hX.2.2.2.1 fk_X11_harvest hT has hc).1
set_option maxRecDepth 100000 in
theorem fww_X11_harvest : wfr F12 un404.2.2.2.1 = true := by decide +kernel
theorem fw_X11_harvest (hX : CTX dC dI dA sp H0 l ρ0 ad rf L) {h h' : PH} {as r : List ZV} (hT : Tq tbq L sp ad U0q h) (has : asok [(2, 0), (0, 0), (0, 0)] as) (hc : CP (zq sp ρ0) mX11_harvest h as h' r) : Frm F12 h h' := fun g hg k h1 h2 =>
  (fr_ok u0_n u0_w u0_l u0_f (ug404 dC dI dA sp H0 l ρ0 ad rf L hX.1 (by have := hX.2.1; omega) hX.2.2.1) (show mqq 8 12 = some mX11_harvest from rfl) (mth_gd (a := 8) (b := 12) rfl) hX.2.2.2.1 fk_X11_harvest hT has hc).2 _ _ (wfr_ok fww_X11_harvest hg h1 h2)
set_option maxRecDepth 100000 in
theorem fk_X12_harvest : frk tbq U0q un408 [(2, 169), (0, 0), (0, 0)] = true := by decide +kernel
theorem fr_X12_harvest (hX : CTX dC dI dA sp H0 l ρ0 ad rf L) {h h' : PH} {as r : List ZV} (hT : Tq tbq L sp ad U0q h) (has : asok [(2, 169), (0, 0), (0, 0)] as) (hc : CP (zq sp ρ0) mX12_harvest h as h' r) : Tq tbq L sp ad U0q h' :=
  (fr_ok u0_n u0_w u0_l u0_f (ug408 dC dI dA sp H0 l ρ0 ad rf L hX.1 (by have := hX.2.1; omega) hX.2.2.1) (show mqq 16 17 = some mX12_harvest from rfl) (mth_gd (a := 16) (b := 17) rfl) hX.2.2.2.1 fk_X12_harvest hT has hc).1
set_option maxRecDepth 100000 in
theorem fww_X12_harvest : wfr F12a un408.2.2.2.1 = true := by decide +kernel
theorem fw_X12_harvest (hX : CTX dC dI dA sp H0 l ρ0 ad rf L) {h h' : PH} {as r : List ZV} (hT : Tq tbq L sp ad U0q h) (has : asok [(2, 169), (0, 0), (0, 0)] as) (hc : CP (zq sp ρ0) mX12_harvest h as h' r) : Frm F12a h h' := fun g hg k h1 h2 =>
  (fr_ok u0_n u0_w u0_l u0_f (ug408 dC dI dA sp H0 l ρ0 ad rf L hX.1 (by have := hX.2.1; omega) hX.2.2.1) (show mqq 16 17 = some mX12_harvest from rfl) (mth_gd (a := 16) (b := 17) rfl) hX.2.2.2.1 fk_X12_harvest hT has hc).2 _ _ (wfr_ok fww_X12_harvest hg h1 h2)
set_option maxRecDepth 40000 in
set_option maxHeartbeats 1600000 in
theorem v_c_harvest {sl : Nat} {si : Nat → Int} {fm : ZV} {K : Nat → PH → ZL → List ZV → Prop} {Q : PH → List ZV → Prop} {h : PH} {i : Int} (H : 0 ≤ w32 (i + 1) ∧ w32 (i + 1) < sl → R32 (si (w32 (i + 1)).toNat) → 0 ≤ w32 (i + 2) ∧ w32 (i + 2) < sl → R32 (si (w32 (i + 2)).toNat) → ∀ h1 v1, CP (zz sl si fm) mX11_harvest h [(2, 0), (0, (si (w32 (i + 1)).toNat)), (0, (si (w32 (i + 2)).toNat))] h1 [(0, v1)] → R32 v1 → 0 ≤ w32 (i + 1) ∧ w32 (i + 1) < sl → R32 (si (w32 (i + 1)).toNat) → 0 ≤ w32 (i + 2) ∧ w32 (i + 2) < sl → R32 (si (w32 (i + 2)).toNat) → ∀ h2 v2, CP (zz sl si fm) mX12_harvest h1 [(2, 169), (0, (si (w32 (i + 1)).toNat)), (0, (si (w32 (i + 2)).toNat))] h2 [(0, v2)] → R32 v2 → K 2296 h2 [(3, (0, i)), (2, (2, 169)), (1, (2, 0)), (0, (6, 0))] []) : vc (zz sl si fm) (fun p => Nat.beq p 2296) K Q mL_law 29 1425 (ax_jmp mL_law.2.2.2.2.2.2 1425) h [(3, (0, i)), (2, (2, 169)), (1, (2, 0)), (0, (6, 0))] [] := H
set_option maxRecDepth 100000 in
theorem gv_harvest (hX : CTX dC dI dA sp H0 l ρ0 ad rf L) : GC J12 L sp ad ρ0 1425 := gc_vc (fun h i hT hJ => v_c_harvest (fun b1 r2 => (fun b3 r4 => (fun h1 v1 p1 q1 => (fun b5 r6 => (fun b7 r8 => (fun h2 v2 p2 q2 => (by exact ⟨rfl, fr_X12_harvest hX (fr_X11_harvest hX hT (by exact (And.intro rfl (And.intro (And.intro rfl r2) (And.intro (And.intro rfl r4) trivial)))) p1) (by exact (And.intro rfl (And.intro (And.intro rfl r2) (And.intro (And.intro rfl r4) trivial)))) p2, tr12 hJ (fw_X11_harvest hX hT (by exact (And.intro rfl (And.intro (And.intro rfl r2) (And.intro (And.intro rfl r4) trivial)))) p1) (fw_X12_harvest hX (fr_X11_harvest hX hT (by exact (And.intro rfl (And.intro (And.intro rfl r2) (And.intro (And.intro rfl r4) trivial)))) p1) (by exact (And.intro rfl (And.intro (And.intro rfl r2) (And.intro (And.intro rfl r4) trivial)))) p2) (c_X12_harvest (tq_B (fr_X11_harvest hX hT (by exact (And.intro rfl (And.intro (And.intro rfl r2) (And.intro (And.intro rfl r4) trivial)))) p1)).1 (tq_B (fr_X11_harvest hX hT (by exact (And.intro rfl (And.intro (And.intro rfl r2) (And.intro (And.intro rfl r4) trivial)))) p1)).2.1 (tq_B (fr_X11_harvest hX hT (by exact (And.intro rfl (And.intro (And.intro rfl r2) (And.intro (And.intro rfl r4) trivial)))) p1)).2.2 p2), rfl, rfl, rfl, rfl, trivial⟩))))))))
set_option maxRecDepth 100000 in
theorem fk_X11_visitors : frk tbq U0q un398 [(2, 0), (0, 0), (0, 0)] = true := by decide +kernel
theorem fr_X11_visitors (hX : CTX dC dI dA sp H0 l ρ0 ad rf L) {h h' : PH} {as r : List ZV} (hT : Tq tbq L sp ad U0q h) (has : asok [(2, 0), (0, 0), (0, 0)] as) (hc : CP (zq sp ρ0) mX11_visitors h as h' r) : Tq tbq L sp ad U0q h' :=
  (fr_ok u0_n u0_w u0_l u0_f (ug398 dC dI dA sp H0 l ρ0 ad rf L hX.1 (by have := hX.2.1; omega) hX.2.2.1) (show mqq 8 13 = some mX11_visitors from rfl) (mth_gd (a := 8) (b := 13) rfl) hX.2.2.2.1 fk_X11_visitors hT has hc).1
set_option maxRecDepth 100000 in
theorem fww_X11_visitors : wfr F12 un398.2.2.2.1 = true := by decide +kernel
theorem fw_X11_visitors (hX : CTX dC dI dA sp H0 l ρ0 ad rf L) {h h' : PH} {as r : List ZV} (hT : Tq tbq L sp ad U0q h) (has : asok [(2, 0), (0, 0), (0, 0)] as) (hc : CP (zq sp ρ0) mX11_visitors h as h' r) : Frm F12 h h' := fun g hg k h1 h2 =>
  (fr_ok u0_n u0_w u0_l u0_f (ug398 dC dI dA sp H0 l ρ0 ad rf L hX.1 (by have := hX.2.1; omega) hX.2.2.1) (show mqq 8 13 = some mX11_visitors from rfl) (mth_gd (a := 8) (b := 13) rfl) hX.2.2.2.1 fk_X11_visitors hT has hc).2 _ _ (wfr_ok fww_X11_visitors hg h1 h2)
set_option maxRecDepth 100000 in
theorem fk_X12_visitors : frk tbq U0q un400 [(2, 169), (0, 0), (0, 0)] = true := by decide +kernel
theorem fr_X12_visitors (hX : CTX dC dI dA sp H0 l ρ0 ad rf L) {h h' : PH} {as r : List ZV} (hT : Tq tbq L sp ad U0q h) (has : asok [(2, 169), (0, 0), (0, 0)] as) (hc : CP (zq sp ρ0) mX12_visitors h as h' r) : Tq tbq L sp ad U0q h' :=
  (fr_ok u0_n u0_w u0_l u0_f (ug400 dC dI dA sp H0 l ρ0 ad rf L hX.1 (by have := hX.2.1; omega) hX.2.2.1) (show mqq 16 18 = some mX12_visitors from rfl) (mth_gd (a := 16) (b := 18) rfl) hX.2.2.2.1 fk_X12_visitors hT has hc).1
set_option maxRecDepth 100000 in
theorem fww_X12_visitors : wfr F12a un400.2.2.2.1 = true := by decide +kernel
theorem fw_X12_visitors (hX : CTX dC dI dA sp H0 l ρ0 ad rf L) {h h' : PH} {as r : List ZV} (hT : Tq tbq L sp ad U0q h) (has : asok [(2, 169), (0, 0), (0, 0)] as) (hc : CP (zq sp ρ0) mX12_visitors h as h' r) : Frm F12a h h' := fun g hg k h1 h2 =>
  (fr_ok u0_n u0_w u0_l u0_f (ug400 dC dI dA sp H0 l ρ0 ad rf L hX.1 (by have := hX.2.1; omega) hX.2.2.1) (show mqq 16 18 = some mX12_visitors from rfl) (mth_gd (a := 16) (b := 18) rfl) hX.2.2.2.1 fk_X12_visitors hT has hc).2 _ _ (wfr_ok fww_X12_visitors hg h1 h2)
set_option maxRecDepth 40000 in
set_option maxHeartbeats 1600000 in
theorem v_c_visitors {sl : Nat} {si : Nat → Int} {fm : ZV} {K : Nat → PH → ZL → List ZV → Prop} {Q : PH → List ZV → Prop} {h : PH} {i : Int} (H : 0 ≤ w32 (i + 1) ∧ w32 (i + 1) < sl → R32 (si (w32 (i + 1)).toNat) → 0 ≤ w32 (i + 2) ∧ w32 (i + 2) < sl → R32 (si (w32 (i + 2)).toNat) → ∀ h1 v1, CP (zz sl si fm) mX11_visitors h [(2, 0), (0, (si (w32 (i + 1)).toNat)), (0, (si (w32 (i + 2)).toNat))] h1 [(0, v1)] → R32 v1 → 0 ≤ w32 (i + 1) ∧ w32 (i + 1) < sl → R32 (si (w32 (i + 1)).toNat) → 0 ≤ w32 (i + 2) ∧ w32 (i + 2) < sl → R32 (si (w32 (i + 2)).toNat) → ∀ h2 v2, CP (zz sl si fm) mX12_visitors h1 [(2, 169), (0, (si (w32 (i + 1)).toNat)), (0, (si (w32 (i + 2)).toNat))] h2 [(0, v2)] → R32 v2 → K 2296 h2 [(3, (0, i)), (2, (2, 169)), (1, (2, 0)), (0, (6, 0))] []) : vc (zz sl si fm) (fun p => Nat.beq p 2296) K Q mL_law 29 1458 (ax_jmp mL_law.2.2.2.2.2.2 1458) h [(3, (0, i)), (2, (2, 169)), (1, (2, 0)), (0, (6, 0))] [] := H
set_option maxRecDepth 100000 in
theorem gv_visitors (hX : CTX dC dI dA sp H0 l ρ0 ad rf L) : GC J12 L sp ad ρ0 1458 := gc_vc (fun h i hT hJ => v_c_visitors (fun b1 r2 => (fun b3 r4 => (fun h1 v1 p1 q1 => (fun b5 r6 => (fun b7 r8 => (fun h2 v2 p2 q2 => (by exact ⟨rfl, fr_X12_visitors hX (fr_X11_visitors hX hT (by exact (And.intro rfl (And.intro (And.intro rfl r2) (And.intro (And.intro rfl r4) trivial)))) p1) (by exact (And.intro rfl (And.intro (And.intro rfl r2) (And.intro (And.intro rfl r4) trivial)))) p2, tr12 hJ (fw_X11_visitors hX hT (by exact (And.intro rfl (And.intro (And.intro rfl r2) (And.intro (And.intro rfl r4) trivial)))) p1) (fw_X12_visitors hX (fr_X11_visitors hX hT (by exact (And.intro rfl (And.intro (And.intro rfl r2) (And.intro (And.intro rfl r4) trivial)))) p1) (by exact (And.intro rfl (And.intro (And.intro rfl r2) (And.intro (And.intro rfl r4) trivial)))) p2) (c_X12_visitors (tq_B (fr_X11_visitors hX hT (by exact (And.intro rfl (And.intro (And.intro rfl r2) (And.intro (And.intro rfl r4) trivial)))) p1)).1 (tq_B (fr_X11_visitors hX hT (by exact (And.intro rfl (And.intro (And.intro rfl r2) (And.intro (And.intro rfl r4) trivial)))) p1)).2.1 (tq_B (fr_X11_visitors hX hT (by exact (And.intro rfl (And.intro (And.intro rfl r2) (And.intro (And.intro rfl r4) trivial)))) p1)).2.2 p2), rfl, rfl, rfl, rfl, trivial⟩))))))))
set_option maxRecDepth 100000 in
theorem fk_X11_stays : frk tbq U0q un388 [(2, 0), (0, 0), (0, 0), (0, 0)] = true := by decide +kernel
theorem fr_X11_stays (hX : CTX dC dI dA sp H0 l ρ0 ad rf L) {h h' : PH} {as r : List ZV} (hT : Tq tbq L sp ad U0q h) (has : asok [(2, 0), (0, 0), (0, 0), (0, 0)] as) (hc : CP (zq sp ρ0) mX11_stays h as h' r) : Tq tbq L sp ad U0q h' :=
  (fr_ok u0_n u0_w u0_l u0_f (ug388 dC dI dA sp H0 l ρ0 ad rf L hX.1 (by have := hX.2.1; omega) hX.2.2.1) (show mqq 8 14 = some mX11_stays from rfl) (mth_gd (a := 8) (b := 14) rfl) hX.2.2.2.1 fk_X11_stays hT has hc).1
set_option maxRecDepth 100000 in
theorem fww_X11_stays : wfr F12 un388.2.2.2.1 = true := by decide +kernel
theorem fw_X11_stays (hX : CTX dC dI dA sp H0 l ρ0 ad rf L) {h h' : PH} {as r : List ZV} (hT : Tq tbq L sp ad U0q h) (has : asok [(2, 0), (0, 0), (0, 0), (0, 0)] as) (hc : CP (zq sp ρ0) mX11_stays h as h' r) : Frm F12 h h' := fun g hg k h1 h2 =>
  (fr_ok u0_n u0_w u0_l u0_f (ug388 dC dI dA sp H0 l ρ0 ad rf L hX.1 (by have := hX.2.1; omega) hX.2.2.1) (show mqq 8 14 = some mX11_stays from rfl) (mth_gd (a := 8) (b := 14) rfl) hX.2.2.2.1 fk_X11_stays hT has hc).2 _ _ (wfr_ok fww_X11_stays hg h1 h2)
set_option maxRecDepth 100000 in
theorem fk_X12_stays : frk tbq U0q un390 [(2, 169), (0, 0), (0, 0), (0, 0)] = true := by decide +kernel
theorem fr_X12_stays (hX : CTX dC dI dA sp H0 l ρ0 ad rf L) {h h' : PH} {as r : List ZV} (hT : Tq tbq L sp ad U0q h) (has : asok [(2, 169), (0, 0), (0, 0), (0, 0)] as) (hc : CP (zq sp ρ0) mX12_stays h as h' r) : Tq tbq L sp ad U0q h' :=
  (fr_ok u0_n u0_w u0_l u0_f (ug390 dC dI dA sp H0 l ρ0 ad rf L hX.1 (by have := hX.2.1; omega) hX.2.2.1) (show mqq 16 19 = some mX12_stays from rfl) (mth_gd (a := 16) (b := 19) rfl) hX.2.2.2.1 fk_X12_stays hT has hc).1
set_option maxRecDepth 100000 in
theorem fww_X12_stays : wfr F12a un390.2.2.2.1 = true := by decide +kernel
theorem fw_X12_stays (hX : CTX dC dI dA sp H0 l ρ0 ad rf L) {h h' : PH} {as r : List ZV} (hT : Tq tbq L sp ad U0q h) (has : asok [(2, 169), (0, 0), (0, 0), (0, 0)] as) (hc : CP (zq sp ρ0) mX12_stays h as h' r) : Frm F12a h h' := fun g hg k h1 h2 =>
  (fr_ok u0_n u0_w u0_l u0_f (ug390 dC dI dA sp H0 l ρ0 ad rf L hX.1 (by have := hX.2.1; omega) hX.2.2.1) (show mqq 16 19 = some mX12_stays from rfl) (mth_gd (a := 16) (b := 19) rfl) hX.2.2.2.1 fk_X12_stays hT has hc).2 _ _ (wfr_ok fww_X12_stays hg h1 h2)
set_option maxRecDepth 40000 in
set_option maxHeartbeats 1600000 in
theorem v_c_stays {sl : Nat} {si : Nat → Int} {fm : ZV} {K : Nat → PH → ZL → List ZV → Prop} {Q : PH → List ZV → Prop} {h : PH} {i : Int} (H : 0 ≤ w32 (i + 1) ∧ w32 (i + 1) < sl → R32 (si (w32 (i + 1)).toNat) → 0 ≤ w32 (i + 2) ∧ w32 (i + 2) < sl → R32 (si (w32 (i + 2)).toNat) → 0 ≤ w32 (i + 3) ∧ w32 (i + 3) < sl → R32 (si (w32 (i + 3)).toNat) → ∀ h1 v1, CP (zz sl si fm) mX11_stays h [(2, 0), (0, (si (w32 (i + 1)).toNat)), (0, (si (w32 (i + 2)).toNat)), (0, (si (w32 (i + 3)).toNat))] h1 [(0, v1)] → R32 v1 → 0 ≤ w32 (i + 1) ∧ w32 (i + 1) < sl → R32 (si (w32 (i + 1)).toNat) → 0 ≤ w32 (i + 2) ∧ w32 (i + 2) < sl → R32 (si (w32 (i + 2)).toNat) → 0 ≤ w32 (i + 3) ∧ w32 (i + 3) < sl → R32 (si (w32 (i + 3)).toNat) → ∀ h2 v2, CP (zz sl si fm) mX12_stays h1 [(2, 169), (0, (si (w32 (i + 1)).toNat)), (0, (si (w32 (i + 2)).toNat)), (0, (si (w32 (i + 3)).toNat))] h2 [(0, v2)] → R32 v2 → K 2296 h2 [(3, (0, i)), (2, (2, 169)), (1, (2, 0)), (0, (6, 0))] []) : vc (zz sl si fm) (fun p => Nat.beq p 2296) K Q mL_law 39 1491 (ax_jmp mL_law.2.2.2.2.2.2 1491) h [(3, (0, i)), (2, (2, 169)), (1, (2, 0)), (0, (6, 0))] [] := H
set_option maxRecDepth 100000 in
theorem gv_stays (hX : CTX dC dI dA sp H0 l ρ0 ad rf L) : GC J12 L sp ad ρ0 1491 := gc_vc (fun h i hT hJ => v_c_stays (fun b1 r2 => (fun b3 r4 => (fun b5 r6 => (fun h1 v1 p1 q1 => (fun b7 r8 => (fun b9 r10 => (fun b11 r12 => (fun h2 v2 p2 q2 => (by exact ⟨rfl, fr_X12_stays hX (fr_X11_stays hX hT (by exact (And.intro rfl (And.intro (And.intro rfl r2) (And.intro (And.intro rfl r4) (And.intro (And.intro rfl r6) trivial))))) p1) (by exact (And.intro rfl (And.intro (And.intro rfl r2) (And.intro (And.intro rfl r4) (And.intro (And.intro rfl r6) trivial))))) p2, tr12 hJ (fw_X11_stays hX hT (by exact (And.intro rfl (And.intro (And.intro rfl r2) (And.intro (And.intro rfl r4) (And.intro (And.intro rfl r6) trivial))))) p1) (fw_X12_stays hX (fr_X11_stays hX hT (by exact (And.intro rfl (And.intro (And.intro rfl r2) (And.intro (And.intro rfl r4) (And.intro (And.intro rfl r6) trivial))))) p1) (by exact (And.intro rfl (And.intro (And.intro rfl r2) (And.intro (And.intro rfl r4) (And.intro (And.intro rfl r6) trivial))))) p2) (c_X12_stays (tq_B (fr_X11_stays hX hT (by exact (And.intro rfl (And.intro (And.intro rfl r2) (And.intro (And.intro rfl r4) (And.intro (And.intro rfl r6) trivial))))) p1)).1 (tq_B (fr_X11_stays hX hT (by exact (And.intro rfl (And.intro (And.intro rfl r2) (And.intro (And.intro rfl r4) (And.intro (And.intro rfl r6) trivial))))) p1)).2.1 (tq_B (fr_X11_stays hX hT (by exact (And.intro rfl (And.intro (And.intro rfl r2) (And.intro (And.intro rfl r4) (And.intro (And.intro rfl r6) trivial))))) p1)).2.2 p2), rfl, rfl, rfl, rfl, trivial⟩))))))))))
set_option maxRecDepth 100000 in
theorem ck_1534 : cse tbq U0q un385 2296 = true := by decide +kernel
set_option maxRecDepth 100000 in
theorem wf_1534 : wfr F12 un385.2.2.2.1 = true := by decide +kernel
set_option maxRecDepth 100000 in
theorem ck_1567 : cse tbq U0q un374 2296 = true := by decide +kernel
set_option maxRecDepth 100000 in
theorem wf_1567 : wfr F12 un374.2.2.2.1 = true := by decide +kernel
set_option maxRecDepth 100000 in
theorem fk_X11_tours : frk tbq U0q un368 [(2, 0), (0, 0), (0, 0)] = true := by decide +kernel
theorem fr_X11_tours (hX : CTX dC dI dA sp H0 l ρ0 ad rf L) {h h' : PH} {as r : List ZV} (hT : Tq tbq L sp ad U0q h) (has : asok [(2, 0), (0, 0), (0, 0)] as) (hc : CP (zq sp ρ0) mX11_tours h as h' r) : Tq tbq L sp ad U0q h' :=
  (fr_ok u0_n u0_w u0_l u0_f (ug368 dC dI dA sp H0 l ρ0 ad rf L hX.1 (by have := hX.2.1; omega) hX.2.2.1) (show mqq 8 17 = some mX11_tours from rfl) (mth_gd (a := 8) (b := 17) rfl) hX.2.2.2.1 fk_X11_tours hT has hc).1
set_option maxRecDepth 100000 in
theorem fww_X11_tours : wfr F12 un368.2.2.2.1 = true := by decide +kernel
theorem fw_X11_tours (hX : CTX dC dI dA sp H0 l ρ0 ad rf L) {h h' : PH} {as r : List ZV} (hT : Tq tbq L sp ad U0q h) (has : asok [(2, 0), (0, 0), (0, 0)] as) (hc : CP (zq sp ρ0) mX11_tours h as h' r) : Frm F12 h h' := fun g hg k h1 h2 =>
  (fr_ok u0_n u0_w u0_l u0_f (ug368 dC dI dA sp H0 l ρ0 ad rf L hX.1 (by have := hX.2.1; omega) hX.2.2.1) (show mqq 8 17 = some mX11_tours from rfl) (mth_gd (a := 8) (b := 17) rfl) hX.2.2.2.1 fk_X11_tours hT has hc).2 _ _ (wfr_ok fww_X11_tours hg h1 h2)
set_option maxRecDepth 100000 in
theorem fk_X12_tours : frk tbq U0q un370 [(2, 169), (0, 0), (0, 0)] = true := by decide +kernel
theorem fr_X12_tours (hX : CTX dC dI dA sp H0 l ρ0 ad rf L) {h h' : PH} {as r : List ZV} (hT : Tq tbq L sp ad U0q h) (has : asok [(2, 169), (0, 0), (0, 0)] as) (hc : CP (zq sp ρ0) mX12_tours h as h' r) : Tq tbq L sp ad U0q h' :=
  (fr_ok u0_n u0_w u0_l u0_f (ug370 dC dI dA sp H0 l ρ0 ad rf L hX.1 (by have := hX.2.1; omega) hX.2.2.1) (show mqq 17 2 = some mX12_tours from rfl) (mth_gd (a := 17) (b := 2) rfl) hX.2.2.2.1 fk_X12_tours hT has hc).1
set_option maxRecDepth 100000 in
theorem fww_X12_tours : wfr F12a un370.2.2.2.1 = true := by decide +kernel
theorem fw_X12_tours (hX : CTX dC dI dA sp H0 l ρ0 ad rf L) {h h' : PH} {as r : List ZV} (hT : Tq tbq L sp ad U0q h) (has : asok [(2, 169), (0, 0), (0, 0)] as) (hc : CP (zq sp ρ0) mX12_tours h as h' r) : Frm F12a h h' := fun g hg k h1 h2 =>
  (fr_ok u0_n u0_w u0_l u0_f (ug370 dC dI dA sp H0 l ρ0 ad rf L hX.1 (by have := hX.2.1; omega) hX.2.2.1) (show mqq 17 2 = some mX12_tours from rfl) (mth_gd (a := 17) (b := 2) rfl) hX.2.2.2.1 fk_X12_tours hT has hc).2 _ _ (wfr_ok fww_X12_tours hg h1 h2)
set_option maxRecDepth 40000 in
set_option maxHeartbeats 1600000 in
theorem v_c_tours {sl : Nat} {si : Nat → Int} {fm : ZV} {K : Nat → PH → ZL → List ZV → Prop} {Q : PH → List ZV → Prop} {h : PH} {i : Int} (H : 0 ≤ w32 (i + 1) ∧ w32 (i + 1) < sl → R32 (si (w32 (i + 1)).toNat) → 0 ≤ w32 (i + 2) ∧ w32 (i + 2) < sl → R32 (si (w32 (i + 2)).toNat) → ∀ h1 v1, CP (zz sl si fm) mX11_tours h [(2, 0), (0, (si (w32 (i + 1)).toNat)), (0, (si (w32 (i + 2)).toNat))] h1 [(0, v1)] → R32 v1 → 0 ≤ w32 (i + 1) ∧ w32 (i + 1) < sl → R32 (si (w32 (i + 1)).toNat) → 0 ≤ w32 (i + 2) ∧ w32 (i + 2) < sl → R32 (si (w32 (i + 2)).toNat) → ∀ h2 v2, CP (zz sl si fm) mX12_tours h1 [(2, 169), (0, (si (w32 (i + 1)).toNat)), (0, (si (w32 (i + 2)).toNat))] h2 [(0, v2)] → R32 v2 → K 2296 h2 [(3, (0, i)), (2, (2, 169)), (1, (2, 0)), (0, (6, 0))] []) : vc (zz sl si fm) (fun p => Nat.beq p 2296) K Q mL_law 29 1590 (ax_jmp mL_law.2.2.2.2.2.2 1590) h [(3, (0, i)), (2, (2, 169)), (1, (2, 0)), (0, (6, 0))] [] := H
set_option maxRecDepth 100000 in
theorem gv_tours (hX : CTX dC dI dA sp H0 l ρ0 ad rf L) : GC J12 L sp ad ρ0 1590 := gc_vc (fun h i hT hJ => v_c_tours (fun b1 r2 => (fun b3 r4 => (fun h1 v1 p1 q1 => (fun b5 r6 => (fun b7 r8 => (fun h2 v2 p2 q2 => (by exact ⟨rfl, fr_X12_tours hX (fr_X11_tours hX hT (by exact (And.intro rfl (And.intro (And.intro rfl r2) (And.intro (And.intro rfl r4) trivial)))) p1) (by exact (And.intro rfl (And.intro (And.intro rfl r2) (And.intro (And.intro rfl r4) trivial)))) p2, tr12 hJ (fw_X11_tours hX hT (by exact (And.intro rfl (And.intro (And.intro rfl r2) (And.intro (And.intro rfl r4) trivial)))) p1) (fw_X12_tours hX (fr_X11_tours hX hT (by exact (And.intro rfl (And.intro (And.intro rfl r2) (And.intro (And.intro rfl r4) trivial)))) p1) (by exact (And.intro rfl (And.intro (And.intro rfl r2) (And.intro (And.intro rfl r4) trivial)))) p2) (c_X12_tours (tq_B (fr_X11_tours hX hT (by exact (And.intro rfl (And.intro (And.intro rfl r2) (And.intro (And.intro rfl r4) trivial)))) p1)).1 (tq_B (fr_X11_tours hX hT (by exact (And.intro rfl (And.intro (And.intro rfl r2) (And.intro (And.intro rfl r4) trivial)))) p1)).2.1 (tq_B (fr_X11_tours hX hT (by exact (And.intro rfl (And.intro (And.intro rfl r2) (And.intro (And.intro rfl r4) trivial)))) p1)).2.2 p2), rfl, rfl, rfl, rfl, trivial⟩))))))))
set_option maxRecDepth 100000 in
theorem fk_X11_meets : frk tbq U0q un362 [(2, 0), (0, 0), (0, 0)] = true := by decide +kernel
theorem fr_X11_meets (hX : CTX dC dI dA sp H0 l ρ0 ad rf L) {h h' : PH} {as r : List ZV} (hT : Tq tbq L sp ad U0q h) (has : asok [(2, 0), (0, 0), (0, 0)] as) (hc : CP (zq sp ρ0) mX11_meets h as h' r) : Tq tbq L sp ad U0q h' :=
  (fr_ok u0_n u0_w u0_l u0_f (ug362 dC dI dA sp H0 l ρ0 ad rf L hX.1 (by have := hX.2.1; omega) hX.2.2.1) (show mqq 8 18 = some mX11_meets from rfl) (mth_gd (a := 8) (b := 18) rfl) hX.2.2.2.1 fk_X11_meets hT has hc).1
set_option maxRecDepth 100000 in
theorem fww_X11_meets : wfr F12 un362.2.2.2.1 = true := by decide +kernel
theorem fw_X11_meets (hX : CTX dC dI dA sp H0 l ρ0 ad rf L) {h h' : PH} {as r : List ZV} (hT : Tq tbq L sp ad U0q h) (has : asok [(2, 0), (0, 0), (0, 0)] as) (hc : CP (zq sp ρ0) mX11_meets h as h' r) : Frm F12 h h' := fun g hg k h1 h2 =>
  (fr_ok u0_n u0_w u0_l u0_f (ug362 dC dI dA sp H0 l ρ0 ad rf L hX.1 (by have := hX.2.1; omega) hX.2.2.1) (show mqq 8 18 = some mX11_meets from rfl) (mth_gd (a := 8) (b := 18) rfl) hX.2.2.2.1 fk_X11_meets hT has hc).2 _ _ (wfr_ok fww_X11_meets hg h1 h2)
set_option maxRecDepth 100000 in
theorem fk_X12_meets : frk tbq U0q un364 [(2, 169), (0, 0), (0, 0)] = true := by decide +kernel
theorem fr_X12_meets (hX : CTX dC dI dA sp H0 l ρ0 ad rf L) {h h' : PH} {as r : List ZV} (hT : Tq tbq L sp ad U0q h) (has : asok [(2, 169), (0, 0), (0, 0)] as) (hc : CP (zq sp ρ0) mX12_meets h as h' r) : Tq tbq L sp ad U0q h' :=
  (fr_ok u0_n u0_w u0_l u0_f (ug364 dC dI dA sp H0 l ρ0 ad rf L hX.1 (by have := hX.2.1; omega) hX.2.2.1) (show mqq 17 3 = some mX12_meets from rfl) (mth_gd (a := 17) (b := 3) rfl) hX.2.2.2.1 fk_X12_meets hT has hc).1
set_option maxRecDepth 100000 in
theorem fww_X12_meets : wfr F12a un364.2.2.2.1 = true := by decide +kernel
theorem fw_X12_meets (hX : CTX dC dI dA sp H0 l ρ0 ad rf L) {h h' : PH} {as r : List ZV} (hT : Tq tbq L sp ad U0q h) (has : asok [(2, 169), (0, 0), (0, 0)] as) (hc : CP (zq sp ρ0) mX12_meets h as h' r) : Frm F12a h h' := fun g hg k h1 h2 =>
  (fr_ok u0_n u0_w u0_l u0_f (ug364 dC dI dA sp H0 l ρ0 ad rf L hX.1 (by have := hX.2.1; omega) hX.2.2.1) (show mqq 17 3 = some mX12_meets from rfl) (mth_gd (a := 17) (b := 3) rfl) hX.2.2.2.1 fk_X12_meets hT has hc).2 _ _ (wfr_ok fww_X12_meets hg h1 h2)
set_option maxRecDepth 40000 in
set_option maxHeartbeats 1600000 in
theorem v_c_meets {sl : Nat} {si : Nat → Int} {fm : ZV} {K : Nat → PH → ZL → List ZV → Prop} {Q : PH → List ZV → Prop} {h : PH} {i : Int} (H : 0 ≤ w32 (i + 1) ∧ w32 (i + 1) < sl → R32 (si (w32 (i + 1)).toNat) → 0 ≤ w32 (i + 2) ∧ w32 (i + 2) < sl → R32 (si (w32 (i + 2)).toNat) → ∀ h1 v1, CP (zz sl si fm) mX11_meets h [(2, 0), (0, (si (w32 (i + 1)).toNat)), (0, (si (w32 (i + 2)).toNat))] h1 [(0, v1)] → R32 v1 → 0 ≤ w32 (i + 1) ∧ w32 (i + 1) < sl → R32 (si (w32 (i + 1)).toNat) → 0 ≤ w32 (i + 2) ∧ w32 (i + 2) < sl → R32 (si (w32 (i + 2)).toNat) → ∀ h2 v2, CP (zz sl si fm) mX12_meets h1 [(2, 169), (0, (si (w32 (i + 1)).toNat)), (0, (si (w32 (i + 2)).toNat))] h2 [(0, v2)] → R32 v2 → K 2296 h2 [(3, (0, i)), (2, (2, 169)), (1, (2, 0)), (0, (6, 0))] []) : vc (zz sl si fm) (fun p => Nat.beq p 2296) K Q mL_law 29 1623 (ax_jmp mL_law.2.2.2.2.2.2 1623) h [(3, (0, i)), (2, (2, 169)), (1, (2, 0)), (0, (6, 0))] [] := H
set_option maxRecDepth 100000 in
theorem gv_meets (hX : CTX dC dI dA sp H0 l ρ0 ad rf L) : GC J12 L sp ad ρ0 1623 := gc_vc (fun h i hT hJ => v_c_meets (fun b1 r2 => (fun b3 r4 => (fun h1 v1 p1 q1 => (fun b5 r6 => (fun b7 r8 => (fun h2 v2 p2 q2 => (by exact ⟨rfl, fr_X12_meets hX (fr_X11_meets hX hT (by exact (And.intro rfl (And.intro (And.intro rfl r2) (And.intro (And.intro rfl r4) trivial)))) p1) (by exact (And.intro rfl (And.intro (And.intro rfl r2) (And.intro (And.intro rfl r4) trivial)))) p2, tr12 hJ (fw_X11_meets hX hT (by exact (And.intro rfl (And.intro (And.intro rfl r2) (And.intro (And.intro rfl r4) trivial)))) p1) (fw_X12_meets hX (fr_X11_meets hX hT (by exact (And.intro rfl (And.intro (And.intro rfl r2) (And.intro (And.intro rfl r4) trivial)))) p1) (by exact (And.intro rfl (And.intro (And.intro rfl r2) (And.intro (And.intro rfl r4) trivial)))) p2) (c_X12_meets (tq_B (fr_X11_meets hX hT (by exact (And.intro rfl (And.intro (And.intro rfl r2) (And.intro (And.intro rfl r4) trivial)))) p1)).1 (tq_B (fr_X11_meets hX hT (by exact (And.intro rfl (And.intro (And.intro rfl r2) (And.intro (And.intro rfl r4) trivial)))) p1)).2.1 (tq_B (fr_X11_meets hX hT (by exact (And.intro rfl (And.intro (And.intro rfl r2) (And.intro (And.intro rfl r4) trivial)))) p1)).2.2 p2), rfl, rfl, rfl, rfl, trivial⟩))))))))
set_option maxRecDepth 100000 in
theorem ck_1656 : cse tbq U0q un359 2296 = true := by decide +kernel
set_option maxRecDepth 100000 in
theorem wf_1656 : wfr F12 un359.2.2.2.1 = true := by decide +kernel
set_option maxRecDepth 100000 in
theorem fk_X11_busiest : frk tbq U0q un347 [(2, 0), (0, 0)] = true := by decide +kernel
theorem fr_X11_busiest (hX : CTX dC dI dA sp H0 l ρ0 ad rf L) {h h' : PH} {as r : List ZV} (hT : Tq tbq L sp ad U0q h) (has : asok [(2, 0), (0, 0)] as) (hc : CP (zq sp ρ0) mX11_busiest h as h' r) : Tq tbq L sp ad U0q h' :=
  (fr_ok u0_n u0_w u0_l u0_f (ug347 dC dI dA sp H0 l ρ0 ad rf L hX.1 (by have := hX.2.1; omega) hX.2.2.1) (show mqq 9 0 = some mX11_busiest from rfl) (mth_gd (a := 9) (b := 0) rfl) hX.2.2.2.1 fk_X11_busiest hT has hc).1
set_option maxRecDepth 100000 in
theorem fww_X11_busiest : wfr F12 un347.2.2.2.1 = true := by decide +kernel
theorem fw_X11_busiest (hX : CTX dC dI dA sp H0 l ρ0 ad rf L) {h h' : PH} {as r : List ZV} (hT : Tq tbq L sp ad U0q h) (has : asok [(2, 0), (0, 0)] as) (hc : CP (zq sp ρ0) mX11_busiest h as h' r) : Frm F12 h h' := fun g hg k h1 h2 =>
  (fr_ok u0_n u0_w u0_l u0_f (ug347 dC dI dA sp H0 l ρ0 ad rf L hX.1 (by have := hX.2.1; omega) hX.2.2.1) (show mqq 9 0 = some mX11_busiest from rfl) (mth_gd (a := 9) (b := 0) rfl) hX.2.2.2.1 fk_X11_busiest hT has hc).2 _ _ (wfr_ok fww_X11_busiest hg h1 h2)
set_option maxRecDepth 100000 in
theorem fk_X12_busiest : frk tbq U0q un355 [(2, 169), (0, 0)] = true := by decide +kernel
theorem fr_X12_busiest (hX : CTX dC dI dA sp H0 l ρ0 ad rf L) {h h' : PH} {as r : List ZV} (hT : Tq tbq L sp ad U0q h) (has : asok [(2, 169), (0, 0)] as) (hc : CP (zq sp ρ0) mX12_busiest h as h' r) : Tq tbq L sp ad U0q h' :=
  (fr_ok u0_n u0_w u0_l u0_f (ug355 dC dI dA sp H0 l ρ0 ad rf L hX.1 (by have := hX.2.1; omega) hX.2.2.1) (show mqq 17 8 = some mX12_busiest from rfl) (mth_gd (a := 17) (b := 8) rfl) hX.2.2.2.1 fk_X12_busiest hT has hc).1
set_option maxRecDepth 100000 in
theorem fww_X12_busiest : wfr F12a un355.2.2.2.1 = true := by decide +kernel
theorem fw_X12_busiest (hX : CTX dC dI dA sp H0 l ρ0 ad rf L) {h h' : PH} {as r : List ZV} (hT : Tq tbq L sp ad U0q h) (has : asok [(2, 169), (0, 0)] as) (hc : CP (zq sp ρ0) mX12_busiest h as h' r) : Frm F12a h h' := fun g hg k h1 h2 =>
  (fr_ok u0_n u0_w u0_l u0_f (ug355 dC dI dA sp H0 l ρ0 ad rf L hX.1 (by have := hX.2.1; omega) hX.2.2.1) (show mqq 17 8 = some mX12_busiest from rfl) (mth_gd (a := 17) (b := 8) rfl) hX.2.2.2.1 fk_X12_busiest hT has hc).2 _ _ (wfr_ok fww_X12_busiest hg h1 h2)
set_option maxRecDepth 40000 in
set_option maxHeartbeats 1600000 in
theorem v_c_busiest {sl : Nat} {si : Nat → Int} {fm : ZV} {K : Nat → PH → ZL → List ZV → Prop} {Q : PH → List ZV → Prop} {h : PH} {i : Int} (H : 0 ≤ w32 (i + 1) ∧ w32 (i + 1) < sl → R32 (si (w32 (i + 1)).toNat) → ∀ h1 v1, CP (zz sl si fm) mX11_busiest h [(2, 0), (0, (si (w32 (i + 1)).toNat))] h1 [(0, v1)] → R32 v1 → 0 ≤ w32 (i + 1) ∧ w32 (i + 1) < sl → R32 (si (w32 (i + 1)).toNat) → ∀ h2 v2, CP (zz sl si fm) mX12_busiest h1 [(2, 169), (0, (si (w32 (i + 1)).toNat))] h2 [(0, v2)] → R32 v2 → K 2296 h2 [(3, (0, i)), (2, (2, 169)), (1, (2, 0)), (0, (6, 0))] []) : vc (zz sl si fm) (fun p => Nat.beq p 2296) K Q mL_law 19 1669 (ax_jmp mL_law.2.2.2.2.2.2 1669) h [(3, (0, i)), (2, (2, 169)), (1, (2, 0)), (0, (6, 0))] [] := H
set_option maxRecDepth 100000 in
theorem gv_busiest (hX : CTX dC dI dA sp H0 l ρ0 ad rf L) : GC J12 L sp ad ρ0 1669 := gc_vc (fun h i hT hJ => v_c_busiest (fun b1 r2 => (fun h1 v1 p1 q1 => (fun b3 r4 => (fun h2 v2 p2 q2 => (by exact ⟨rfl, fr_X12_busiest hX (fr_X11_busiest hX hT (by exact (And.intro rfl (And.intro (And.intro rfl r2) trivial))) p1) (by exact (And.intro rfl (And.intro (And.intro rfl r2) trivial))) p2, tr12 hJ (fw_X11_busiest hX hT (by exact (And.intro rfl (And.intro (And.intro rfl r2) trivial))) p1) (fw_X12_busiest hX (fr_X11_busiest hX hT (by exact (And.intro rfl (And.intro (And.intro rfl r2) trivial))) p1) (by exact (And.intro rfl (And.intro (And.intro rfl r2) trivial))) p2) (c_X12_busiest (tq_B (fr_X11_busiest hX hT (by exact (And.intro rfl (And.intro (And.intro rfl r2) trivial))) p1)).1 (tq_B (fr_X11_busiest hX hT (by exact (And.intro rfl (And.intro (And.intro rfl r2) trivial))) p1)).2.1 (tq_B (fr_X11_busiest hX hT (by exact (And.intro rfl (And.intro (And.intro rfl r2) trivial))) p1)).2.2 p2), rfl, rfl, rfl, rfl, trivial⟩))))))
set_option maxRecDepth 100000 in
theorem ck_1692 : cse tbq U0q un339 2296 = true := by decide +kernel
set_option maxRecDepth 100000 in
theorem wf_1692 : wfr F12 un339.2.2.2.1 = true := by decide +kernel
set_option maxRecDepth 100000 in
theorem fk_X11_wells : frk tbq U0q un333 [(2, 0), (0, 0), (0, 0)] = true := by decide +kernel
theorem fr_X11_wells (hX : CTX dC dI dA sp H0 l ρ0 ad rf L) {h h' : PH} {as r : List ZV} (hT : Tq tbq L sp ad U0q h) (has : asok [(2, 0), (0, 0), (0, 0)] as) (hc : CP (zq sp ρ0) mX11_wells h as h' r) : Tq tbq L sp ad U0q h' :=
  (fr_ok u0_n u0_w u0_l u0_f (ug333 dC dI dA sp H0 l ρ0 ad rf L hX.1 (by have := hX.2.1; omega) hX.2.2.1) (show mqq 9 2 = some mX11_wells from rfl) (mth_gd (a := 9) (b := 2) rfl) hX.2.2.2.1 fk_X11_wells hT has hc).1
set_option maxRecDepth 100000 in
theorem fww_X11_wells : wfr F12 un333.2.2.2.1 = true := by decide +kernel
theorem fw_X11_wells (hX : CTX dC dI dA sp H0 l ρ0 ad rf L) {h h' : PH} {as r : List ZV} (hT : Tq tbq L sp ad U0q h) (has : asok [(2, 0), (0, 0), (0, 0)] as) (hc : CP (zq sp ρ0) mX11_wells h as h' r) : Frm F12 h h' := fun g hg k h1 h2 =>
  (fr_ok u0_n u0_w u0_l u0_f (ug333 dC dI dA sp H0 l ρ0 ad rf L hX.1 (by have := hX.2.1; omega) hX.2.2.1) (show mqq 9 2 = some mX11_wells from rfl) (mth_gd (a := 9) (b := 2) rfl) hX.2.2.2.1 fk_X11_wells hT has hc).2 _ _ (wfr_ok fww_X11_wells hg h1 h2)
set_option maxRecDepth 100000 in
theorem fk_X12_wells : frk tbq U0q un334 [(2, 169), (0, 0), (0, 0)] = true := by decide +kernel
theorem fr_X12_wells (hX : CTX dC dI dA sp H0 l ρ0 ad rf L) {h h' : PH} {as r : List ZV} (hT : Tq tbq L sp ad U0q h) (has : asok [(2, 169), (0, 0), (0, 0)] as) (hc : CP (zq sp ρ0) mX12_wells h as h' r) : Tq tbq L sp ad U0q h' :=
  (fr_ok u0_n u0_w u0_l u0_f (ug334 dC dI dA sp H0 l ρ0 ad rf L hX.1 (by have := hX.2.1; omega) hX.2.2.1) (show mqq 17 10 = some mX12_wells from rfl) (mth_gd (a := 17) (b := 10) rfl) hX.2.2.2.1 fk_X12_wells hT has hc).1
set_option maxRecDepth 100000 in
theorem fww_X12_wells : wfr F12a un334.2.2.2.1 = true := by decide +kernel
theorem fw_X12_wells (hX : CTX dC dI dA sp H0 l ρ0 ad rf L) {h h' : PH} {as r : List ZV} (hT : Tq tbq L sp ad U0q h) (has : asok [(2, 169), (0, 0), (0, 0)] as) (hc : CP (zq sp ρ0) mX12_wells h as h' r) : Frm F12a h h' := fun g hg k h1 h2 =>
  (fr_ok u0_n u0_w u0_l u0_f (ug334 dC dI dA sp H0 l ρ0 ad rf L hX.1 (by have := hX.2.1; omega) hX.2.2.1) (show mqq 17 10 = some mX12_wells from rfl) (mth_gd (a := 17) (b := 10) rfl) hX.2.2.2.1 fk_X12_wells hT has hc).2 _ _ (wfr_ok fww_X12_wells hg h1 h2)
set_option maxRecDepth 40000 in
set_option maxHeartbeats 1600000 in
theorem v_c_wells {sl : Nat} {si : Nat → Int} {fm : ZV} {K : Nat → PH → ZL → List ZV → Prop} {Q : PH → List ZV → Prop} {h : PH} {i : Int} (H : 0 ≤ w32 (i + 1) ∧ w32 (i + 1) < sl → R32 (si (w32 (i + 1)).toNat) → 0 ≤ w32 (i + 2) ∧ w32 (i + 2) < sl → R32 (si (w32 (i + 2)).toNat) → ∀ h1 v1, CP (zz sl si fm) mX11_wells h [(2, 0), (0, (si (w32 (i + 1)).toNat)), (0, (si (w32 (i + 2)).toNat))] h1 [(0, v1)] → R32 v1 → 0 ≤ w32 (i + 1) ∧ w32 (i + 1) < sl → R32 (si (w32 (i + 1)).toNat) → 0 ≤ w32 (i + 2) ∧ w32 (i + 2) < sl → R32 (si (w32 (i + 2)).toNat) → ∀ h2 v2, CP (zz sl si fm) mX12_wells h1 [(2, 169), (0, (si (w32 (i + 1)).toNat)), (0, (si (w32 (i + 2)).toNat))] h2 [(0, v2)] → R32 v2 → K 2296 h2 [(3, (0, i)), (2, (2, 169)), (1, (2, 0)), (0, (6, 0))] []) : vc (zz sl si fm) (fun p => Nat.beq p 2296) K Q mL_law 29 1705 (ax_jmp mL_law.2.2.2.2.2.2 1705) h [(3, (0, i)), (2, (2, 169)), (1, (2, 0)), (0, (6, 0))] [] := H
set_option maxRecDepth 100000 in
theorem gv_wells (hX : CTX dC dI dA sp H0 l ρ0 ad rf L) : GC J12 L sp ad ρ0 1705 := gc_vc (fun h i hT hJ => v_c_wells (fun b1 r2 => (fun b3 r4 => (fun h1 v1 p1 q1 => (fun b5 r6 => (fun b7 r8 => (fun h2 v2 p2 q2 => (by exact ⟨rfl, fr_X12_wells hX (fr_X11_wells hX hT (by exact (And.intro rfl (And.intro (And.intro rfl r2) (And.intro (And.intro rfl r4) trivial)))) p1) (by exact (And.intro rfl (And.intro (And.intro rfl r2) (And.intro (And.intro rfl r4) trivial)))) p2, tr12 hJ (fw_X11_wells hX hT (by exact (And.intro rfl (And.intro (And.intro rfl r2) (And.intro (And.intro rfl r4) trivial)))) p1) (fw_X12_wells hX (fr_X11_wells hX hT (by exact (And.intro rfl (And.intro (And.intro rfl r2) (And.intro (And.intro rfl r4) trivial)))) p1) (by exact (And.intro rfl (And.intro (And.intro rfl r2) (And.intro (And.intro rfl r4) trivial)))) p2) (c_X12_wells (tq_B (fr_X11_wells hX hT (by exact (And.intro rfl (And.intro (And.intro rfl r2) (And.intro (And.intro rfl r4) trivial)))) p1)).1 (tq_B (fr_X11_wells hX hT (by exact (And.intro rfl (And.intro (And.intro rfl r2) (And.intro (And.intro rfl r4) trivial)))) p1)).2.1 (tq_B (fr_X11_wells hX hT (by exact (And.intro rfl (And.intro (And.intro rfl r2) (And.intro (And.intro rfl r4) trivial)))) p1)).2.2 p2), rfl, rfl, rfl, rfl, trivial⟩))))))))
set_option maxRecDepth 100000 in
theorem ck_1738 : cse tbq U0q un329 2296 = true := by decide +kernel
set_option maxRecDepth 100000 in
theorem wf_1738 : wfr F12 un329.2.2.2.1 = true := by decide +kernel
set_option maxRecDepth 100000 in
theorem ck_1771 : cse tbq U0q un316 2296 = true := by decide +kernel
set_option maxRecDepth 100000 in
theorem wf_1771 : wfr F12 un316.2.2.2.1 = true := by decide +kernel
set_option maxRecDepth 100000 in
theorem fk_X11_loss : frk tbq U0q un310 [(2, 0), (0, 0)] = true := by decide +kernel
theorem fr_X11_loss (hX : CTX dC dI dA sp H0 l ρ0 ad rf L) {h h' : PH} {as r : List ZV} (hT : Tq tbq L sp ad U0q h) (has : asok [(2, 0), (0, 0)] as) (hc : CP (zq sp ρ0) mX11_loss h as h' r) : Tq tbq L sp ad U0q h' :=
  (fr_ok u0_n u0_w u0_l u0_f (ug310 dC dI dA sp H0 l ρ0 ad rf L hX.1 (by have := hX.2.1; omega) hX.2.2.1) (show mqq 9 5 = some mX11_loss from rfl) (mth_gd (a := 9) (b := 5) rfl) hX.2.2.2.1 fk_X11_loss hT has hc).1
set_option maxRecDepth 100000 in
theorem fww_X11_loss : wfr F12 un310.2.2.2.1 = true := by decide +kernel
theorem fw_X11_loss (hX : CTX dC dI dA sp H0 l ρ0 ad rf L) {h h' : PH} {as r : List ZV} (hT : Tq tbq L sp ad U0q h) (has : asok [(2, 0), (0, 0)] as) (hc : CP (zq sp ρ0) mX11_loss h as h' r) : Frm F12 h h' := fun g hg k h1 h2 =>
  (fr_ok u0_n u0_w u0_l u0_f (ug310 dC dI dA sp H0 l ρ0 ad rf L hX.1 (by have := hX.2.1; omega) hX.2.2.1) (show mqq 9 5 = some mX11_loss from rfl) (mth_gd (a := 9) (b := 5) rfl) hX.2.2.2.1 fk_X11_loss hT has hc).2 _ _ (wfr_ok fww_X11_loss hg h1 h2)
set_option maxRecDepth 100000 in
theorem fk_X12_loss : frk tbq U0q un311 [(2, 169), (0, 0)] = true := by decide +kernel
theorem fr_X12_loss (hX : CTX dC dI dA sp H0 l ρ0 ad rf L) {h h' : PH} {as r : List ZV} (hT : Tq tbq L sp ad U0q h) (has : asok [(2, 169), (0, 0)] as) (hc : CP (zq sp ρ0) mX12_loss h as h' r) : Tq tbq L sp ad U0q h' :=
  (fr_ok u0_n u0_w u0_l u0_f (ug311 dC dI dA sp H0 l ρ0 ad rf L hX.1 (by have := hX.2.1; omega) hX.2.2.1) (show mqq 17 14 = some mX12_loss from rfl) (mth_gd (a := 17) (b := 14) rfl) hX.2.2.2.1 fk_X12_loss hT has hc).1
set_option maxRecDepth 100000 in
theorem fww_X12_loss : wfr F12a un311.2.2.2.1 = true := by decide +kernel
theorem fw_X12_loss (hX : CTX dC dI dA sp H0 l ρ0 ad rf L) {h h' : PH} {as r : List ZV} (hT : Tq tbq L sp ad U0q h) (has : asok [(2, 169), (0, 0)] as) (hc : CP (zq sp ρ0) mX12_loss h as h' r) : Frm F12a h h' := fun g hg k h1 h2 =>
  (fr_ok u0_n u0_w u0_l u0_f (ug311 dC dI dA sp H0 l ρ0 ad rf L hX.1 (by have := hX.2.1; omega) hX.2.2.1) (show mqq 17 14 = some mX12_loss from rfl) (mth_gd (a := 17) (b := 14) rfl) hX.2.2.2.1 fk_X12_loss hT has hc).2 _ _ (wfr_ok fww_X12_loss hg h1 h2)
set_option maxRecDepth 40000 in
set_option maxHeartbeats 1600000 in
theorem v_c_loss {sl : Nat} {si : Nat → Int} {fm : ZV} {K : Nat → PH → ZL → List ZV → Prop} {Q : PH → List ZV → Prop} {h : PH} {i : Int} (H : 0 ≤ w32 (i + 1) ∧ w32 (i + 1) < sl → R32 (si (w32 (i + 1)).toNat) → ∀ h1 v1, CP (zz sl si fm) mX11_loss h [(2, 0), (0, (si (w32 (i + 1)).toNat))] h1 [(0, v1)] → R32 v1 → 0 ≤ w32 (i + 1) ∧ w32 (i + 1) < sl → R32 (si (w32 (i + 1)).toNat) → ∀ h2 v2, CP (zz sl si fm) mX12_loss h1 [(2, 169), (0, (si (w32 (i + 1)).toNat))] h2 [(0, v2)] → R32 v2 → K 2296 h2 [(3, (0, i)), (2, (2, 169)), (1, (2, 0)), (0, (6, 0))] []) : vc (zz sl si fm) (fun p => Nat.beq p 2296) K Q mL_law 19 1804 (ax_jmp mL_law.2.2.2.2.2.2 1804) h [(3, (0, i)), (2, (2, 169)), (1, (2, 0)), (0, (6, 0))] [] := H
set_option maxRecDepth 100000 in
theorem gv_loss (hX : CTX dC dI dA sp H0 l ρ0 ad rf L) : GC J12 L sp ad ρ0 1804 := gc_vc (fun h i hT hJ => v_c_loss (fun b1 r2 => (fun h1 v1 p1 q1 => (fun b3 r4 => (fun h2 v2 p2 q2 => (by exact ⟨rfl, fr_X12_loss hX (fr_X11_loss hX hT (by exact (And.intro rfl (And.intro (And.intro rfl r2) trivial))) p1) (by exact (And.intro rfl (And.intro (And.intro rfl r2) trivial))) p2, tr12 hJ (fw_X11_loss hX hT (by exact (And.intro rfl (And.intro (And.intro rfl r2) trivial))) p1) (fw_X12_loss hX (fr_X11_loss hX hT (by exact (And.intro rfl (And.intro (And.intro rfl r2) trivial))) p1) (by exact (And.intro rfl (And.intro (And.intro rfl r2) trivial))) p2) (c_X12_loss (tq_B (fr_X11_loss hX hT (by exact (And.intro rfl (And.intro (And.intro rfl r2) trivial))) p1)).1 (tq_B (fr_X11_loss hX hT (by exact (And.intro rfl (And.intro (And.intro rfl r2) trivial))) p1)).2.1 (tq_B (fr_X11_loss hX hT (by exact (And.intro rfl (And.intro (And.intro rfl r2) trivial))) p1)).2.2 p2), rfl, rfl, rfl, rfl, trivial⟩))))))
set_option maxRecDepth 100000 in
theorem fk_X11_saint : frk tbq U0q un306 [(2, 0)] = true := by decide +kernel
theorem fr_X11_saint (hX : CTX dC dI dA sp H0 l ρ0 ad rf L) {h h' : PH} {as r : List ZV} (hT : Tq tbq L sp ad U0q h) (has : asok [(2, 0)] as) (hc : CP (zq sp ρ0) mX11_saint h as h' r) : Tq tbq L sp ad U0q h' :=
  (fr_ok u0_n u0_w u0_l u0_f (ug306 dC dI dA sp H0 l ρ0 ad rf L hX.1 (by have := hX.2.1; omega) hX.2.2.1) (show mqq 9 6 = some mX11_saint from rfl) (mth_gd (a := 9) (b := 6) rfl) hX.2.2.2.1 fk_X11_saint hT has hc).1
set_option maxRecDepth 100000 in
theorem fww_X11_saint : wfr F12 un306.2.2.2.1 = true := by decide +kernel
theorem fw_X11_saint (hX : CTX dC dI dA sp H0 l ρ0 ad rf L) {h h' : PH} {as r : List ZV} (hT : Tq tbq L sp ad U0q h) (has : asok [(2, 0)] as) (hc : CP (zq sp ρ0) mX11_saint h as h' r) : Frm F12 h h' := fun g hg k h1 h2 =>
  (fr_ok u0_n u0_w u0_l u0_f (ug306 dC dI dA sp H0 l ρ0 ad rf L hX.1 (by have := hX.2.1; omega) hX.2.2.1) (show mqq 9 6 = some mX11_saint from rfl) (mth_gd (a := 9) (b := 6) rfl) hX.2.2.2.1 fk_X11_saint hT has hc).2 _ _ (wfr_ok fww_X11_saint hg h1 h2)
set_option maxRecDepth 100000 in
theorem fk_X12_saint : frk tbq U0q un308 [(2, 169)] = true := by decide +kernel
theorem fr_X12_saint (hX : CTX dC dI dA sp H0 l ρ0 ad rf L) {h h' : PH} {as r : List ZV} (hT : Tq tbq L sp ad U0q h) (has : asok [(2, 169)] as) (hc : CP (zq sp ρ0) mX12_saint h as h' r) : Tq tbq L sp ad U0q h' :=
  (fr_ok u0_n u0_w u0_l u0_f (ug308 dC dI dA sp H0 l ρ0 ad rf L hX.1 (by have := hX.2.1; omega) hX.2.2.1) (show mqq 17 15 = some mX12_saint from rfl) (mth_gd (a := 17) (b := 15) rfl) hX.2.2.2.1 fk_X12_saint hT has hc).1
set_option maxRecDepth 100000 in
theorem fww_X12_saint : wfr F12a un308.2.2.2.1 = true := by decide +kernel
theorem fw_X12_saint (hX : CTX dC dI dA sp H0 l ρ0 ad rf L) {h h' : PH} {as r : List ZV} (hT : Tq tbq L sp ad U0q h) (has : asok [(2, 169)] as) (hc : CP (zq sp ρ0) mX12_saint h as h' r) : Frm F12a h h' := fun g hg k h1 h2 =>
  (fr_ok u0_n u0_w u0_l u0_f (ug308 dC dI dA sp H0 l ρ0 ad rf L hX.1 (by have := hX.2.1; omega) hX.2.2.1) (show mqq 17 15 = some mX12_saint from rfl) (mth_gd (a := 17) (b := 15) rfl) hX.2.2.2.1 fk_X12_saint hT has hc).2 _ _ (wfr_ok fww_X12_saint hg h1 h2)
set_option maxRecDepth 40000 in
set_option maxHeartbeats 1600000 in
theorem v_c_saint {sl : Nat} {si : Nat → Int} {fm : ZV} {K : Nat → PH → ZL → List ZV → Prop} {Q : PH → List ZV → Prop} {h : PH} {i : Int} (H : ∀ h1 v1, CP (zz sl si fm) mX11_saint h [(2, 0)] h1 [(0, v1)] → R32 v1 → ∀ h2 v2, CP (zz sl si fm) mX12_saint h1 [(2, 169)] h2 [(0, v2)] → R32 v2 → K 2296 h2 [(3, (0, i)), (2, (2, 169)), (1, (2, 0)), (0, (6, 0))] []) : vc (zz sl si fm) (fun p => Nat.beq p 2296) K Q mL_law 9 1827 (ax_jmp mL_law.2.2.2.2.2.2 1827) h [(3, (0, i)), (2, (2, 169)), (1, (2, 0)), (0, (6, 0))] [] := H
set_option maxRecDepth 100000 in
theorem gv_saint (hX : CTX dC dI dA sp H0 l ρ0 ad rf L) : GC J12 L sp ad ρ0 1827 := gc_vc (fun h i hT hJ => v_c_saint (fun h1 v1 p1 q1 => (fun h2 v2 p2 q2 => (by exact ⟨rfl, fr_X12_saint hX (fr_X11_saint hX hT (by exact (And.intro rfl trivial)) p1) (by exact (And.intro rfl trivial)) p2, tr12 hJ (fw_X11_saint hX hT (by exact (And.intro rfl trivial)) p1) (fw_X12_saint hX (fr_X11_saint hX hT (by exact (And.intro rfl trivial)) p1) (by exact (And.intro rfl trivial)) p2) (c_X12_saint (tq_B (fr_X11_saint hX hT (by exact (And.intro rfl trivial)) p1)).1 (tq_B (fr_X11_saint hX hT (by exact (And.intro rfl trivial)) p1)).2.1 (tq_B (fr_X11_saint hX hT (by exact (And.intro rfl trivial)) p1)).2.2 p2), rfl, rfl, rfl, rfl, trivial⟩))))
set_option maxRecDepth 100000 in
theorem fk_X11_keeper : frk tbq U0q un288 [(2, 0)] = true := by decide +kernel
theorem fr_X11_keeper (hX : CTX dC dI dA sp H0 l ρ0 ad rf L) {h h' : PH} {as r : List ZV} (hT : Tq tbq L sp ad U0q h) (has : asok [(2, 0)] as) (hc : CP (zq sp ρ0) mX11_keeper h as h' r) : Tq tbq L sp ad U0q h' :=
  (fr_ok u0_n u0_w u0_l u0_f (ug288 dC dI dA sp H0 l ρ0 ad rf L hX.1 (by have := hX.2.1; omega) hX.2.2.1) (show mqq 9 7 = some mX11_keeper from rfl) (mth_gd (a := 9) (b := 7) rfl) hX.2.2.2.1 fk_X11_keeper hT has hc).1
set_option maxRecDepth 100000 in
theorem fww_X11_keeper : wfr F12 un288.2.2.2.1 = true := by decide +kernel
theorem fw_X11_keeper (hX : CTX dC dI dA sp H0 l ρ0 ad rf L) {h h' : PH} {as r : List ZV} (hT : Tq tbq L sp ad U0q h) (has : asok [(2, 0)] as) (hc : CP (zq sp ρ0) mX11_keeper h as h' r) : Frm F12 h h' := fun g hg k h1 h2 =>
  (fr_ok u0_n u0_w u0_l u0_f (ug288 dC dI dA sp H0 l ρ0 ad rf L hX.1 (by have := hX.2.1; omega) hX.2.2.1) (show mqq 9 7 = some mX11_keeper from rfl) (mth_gd (a := 9) (b := 7) rfl) hX.2.2.2.1 fk_X11_keeper hT has hc).2 _ _ (wfr_ok fww_X11_keeper hg h1 h2)
set_option maxRecDepth 100000 in
theorem fk_X12_keeper : frk tbq U0q un292 [(2, 169)] = true := by decide +kernel
theorem fr_X12_keeper (hX : CTX dC dI dA sp H0 l ρ0 ad rf L) {h h' : PH} {as r : List ZV} (hT : Tq tbq L sp ad U0q h) (has : asok [(2, 169)] as) (hc : CP (zq sp ρ0) mX12_keeper h as h' r) : Tq tbq L sp ad U0q h' :=
  (fr_ok u0_n u0_w u0_l u0_f (ug292 dC dI dA sp H0 l ρ0 ad rf L hX.1 (by have := hX.2.1; omega) hX.2.2.1) (show mqq 17 17 = some mX12_keeper from rfl) (mth_gd (a := 17) (b := 17) rfl) hX.2.2.2.1 fk_X12_keeper hT has hc).1
set_option maxRecDepth 100000 in
theorem fww_X12_keeper : wfr F12a un292.2.2.2.1 = true := by decide +kernel
theorem fw_X12_keeper (hX : CTX dC dI dA sp H0 l ρ0 ad rf L) {h h' : PH} {as r : List ZV} (hT : Tq tbq L sp ad U0q h) (has : asok [(2, 169)] as) (hc : CP (zq sp ρ0) mX12_keeper h as h' r) : Frm F12a h h' := fun g hg k h1 h2 =>
  (fr_ok u0_n u0_w u0_l u0_f (ug292 dC dI dA sp H0 l ρ0 ad rf L hX.1 (by have := hX.2.1; omega) hX.2.2.1) (show mqq 17 17 = some mX12_keeper from rfl) (mth_gd (a := 17) (b := 17) rfl) hX.2.2.2.1 fk_X12_keeper hT has hc).2 _ _ (wfr_ok fww_X12_keeper hg h1 h2)
set_option maxRecDepth 40000 in
set_option maxHeartbeats 1600000 in
theorem v_c_keeper {sl : Nat} {si : Nat → Int} {fm : ZV} {K : Nat → PH → ZL → List ZV → Prop} {Q : PH → List ZV → Prop} {h : PH} {i : Int} (H : ∀ h1 v1, CP (zz sl si fm) mX11_keeper h [(2, 0)] h1 [(0, v1)] → R32 v1 → ∀ h2 v2, CP (zz sl si fm) mX12_keeper h1 [(2, 169)] h2 [(0, v2)] → R32 v2 → K 2296 h2 [(3, (0, i)), (2, (2, 169)), (1, (2, 0)), (0, (6, 0))] []) : vc (zz sl si fm) (fun p => Nat.beq p 2296) K Q mL_law 9 1840 (ax_jmp mL_law.2.2.2.2.2.2 1840) h [(3, (0, i)), (2, (2, 169)), (1, (2, 0)), (0, (6, 0))] [] := H
set_option maxRecDepth 100000 in
theorem gv_keeper (hX : CTX dC dI dA sp H0 l ρ0 ad rf L) : GC J12 L sp ad ρ0 1840 := gc_vc (fun h i hT hJ => v_c_keeper (fun h1 v1 p1 q1 => (fun h2 v2 p2 q2 => (by exact ⟨rfl, fr_X12_keeper hX (fr_X11_keeper hX hT (by exact (And.intro rfl trivial)) p1) (by exact (And.intro rfl trivial)) p2, tr12 hJ (fw_X11_keeper hX hT (by exact (And.intro rfl trivial)) p1) (fw_X12_keeper hX (fr_X11_keeper hX hT (by exact (And.intro rfl trivial)) p1) (by exact (And.intro rfl trivial)) p2) (c_X12_keeper (tq_B (fr_X11_keeper hX hT (by exact (And.intro rfl trivial)) p1)).1 (tq_B (fr_X11_keeper hX hT (by exact (And.intro rfl trivial)) p1)).2.1 (tq_B (fr_X11_keeper hX hT (by exact (And.intro rfl trivial)) p1)).2.2 p2), rfl, rfl, rfl, rfl, trivial⟩))))
set_option maxRecDepth 100000 in
theorem ck_1853 : cse tbq U0q un283 2296 = true := by decide +kernel
set_option maxRecDepth 100000 in
theorem wf_1853 : wfr F12 un283.2.2.2.1 = true := by decide +kernel
set_option maxRecDepth 100000 in
theorem ck_1866 : cse tbq U0q un278 2296 = true := by decide +kernel
set_option maxRecDepth 100000 in
theorem wf_1866 : wfr F12 un278.2.2.2.1 = true := by decide +kernel
set_option maxRecDepth 100000 in
theorem ck_1889 : cse tbq U0q un273 2296 = true := by decide +kernel
set_option maxRecDepth 100000 in
theorem wf_1889 : wfr F12 un273.2.2.2.1 = true := by decide +kernel
set_option maxRecDepth 100000 in
theorem fk_X11_wedding : frk tbq U0q un270 [(2, 0), (0, 0)] = true := by decide +kernel
theorem fr_X11_wedding (hX : CTX dC dI dA sp H0 l ρ0 ad rf L) {h h' : PH} {as r : List ZV} (hT : Tq tbq L sp ad U0q h) (has : asok [(2, 0), (0, 0)] as) (hc : CP (zq sp ρ0) mX11_wedding h as h' r) : Tq tbq L sp ad U0q h' :=
  (fr_ok u0_n u0_w u0_l u0_f (ug270 dC dI dA sp H0 l ρ0 ad rf L hX.1 (by have := hX.2.1; omega) hX.2.2.1) (show mqq 9 11 = some mX11_wedding from rfl) (mth_gd (a := 9) (b := 11) rfl) hX.2.2.2.1 fk_X11_wedding hT has hc).1
set_option maxRecDepth 100000 in
theorem fww_X11_wedding : wfr F12 un270.2.2.2.1 = true := by decide +kernel
theorem fw_X11_wedding (hX : CTX dC dI dA sp H0 l ρ0 ad rf L) {h h' : PH} {as r : List ZV} (hT : Tq tbq L sp ad U0q h) (has : asok [(2, 0), (0, 0)] as) (hc : CP (zq sp ρ0) mX11_wedding h as h' r) : Frm F12 h h' := fun g hg k h1 h2 =>
  (fr_ok u0_n u0_w u0_l u0_f (ug270 dC dI dA sp H0 l ρ0 ad rf L hX.1 (by have := hX.2.1; omega) hX.2.2.1) (show mqq 9 11 = some mX11_wedding from rfl) (mth_gd (a := 9) (b := 11) rfl) hX.2.2.2.1 fk_X11_wedding hT has hc).2 _ _ (wfr_ok fww_X11_wedding hg h1 h2)
set_option maxRecDepth 100000 in
theorem fk_X12_wedding : frk tbq U0q un271 [(2, 169), (0, 0)] = true := by decide +kernel
theorem fr_X12_wedding (hX : CTX dC dI dA sp H0 l ρ0 ad rf L) {h h' : PH} {as r : List ZV} (hT : Tq tbq L sp ad U0q h) (has : asok [(2, 169), (0, 0)] as) (hc : CP (zq sp ρ0) mX12_wedding h as h' r) : Tq tbq L sp ad U0q h' :=
  (fr_ok u0_n u0_w u0_l u0_f (ug271 dC dI dA sp H0 l ρ0 ad rf L hX.1 (by have := hX.2.1; omega) hX.2.2.1) (show mqq 18 3 = some mX12_wedding from rfl) (mth_gd (a := 18) (b := 3) rfl) hX.2.2.2.1 fk_X12_wedding hT has hc).1
set_option maxRecDepth 100000 in
theorem fww_X12_wedding : wfr F12a un271.2.2.2.1 = true := by decide +kernel
theorem fw_X12_wedding (hX : CTX dC dI dA sp H0 l ρ0 ad rf L) {h h' : PH} {as r : List ZV} (hT : Tq tbq L sp ad U0q h) (has : asok [(2, 169), (0, 0)] as) (hc : CP (zq sp ρ0) mX12_wedding h as h' r) : Frm F12a h h' := fun g hg k h1 h2 =>
  (fr_ok u0_n u0_w u0_l u0_f (ug271 dC dI dA sp H0 l ρ0 ad rf L hX.1 (by have := hX.2.1; omega) hX.2.2.1) (show mqq 18 3 = some mX12_wedding from rfl) (mth_gd (a := 18) (b := 3) rfl) hX.2.2.2.1 fk_X12_wedding hT has hc).2 _ _ (wfr_ok fww_X12_wedding hg h1 h2)
set_option maxRecDepth 40000 in
set_option maxHeartbeats 1600000 in
theorem v_c_wedding {sl : Nat} {si : Nat → Int} {fm : ZV} {K : Nat → PH → ZL → List ZV → Prop} {Q : PH → List ZV → Prop} {h : PH} {i : Int} (H : 0 ≤ w32 (i + 1) ∧ w32 (i + 1) < sl → R32 (si (w32 (i + 1)).toNat) → ∀ h1 v1, CP (zz sl si fm) mX11_wedding h [(2, 0), (0, (si (w32 (i + 1)).toNat))] h1 [(0, v1)] → R32 v1 → 0 ≤ w32 (i + 1) ∧ w32 (i + 1) < sl → R32 (si (w32 (i + 1)).toNat) → ∀ h2 v2, CP (zz sl si fm) mX12_wedding h1 [(2, 169), (0, (si (w32 (i + 1)).toNat))] h2 [(0, v2)] → R32 v2 → K 2296 h2 [(3, (0, i)), (2, (2, 169)), (1, (2, 0)), (0, (6, 0))] []) : vc (zz sl si fm) (fun p => Nat.beq p 2296) K Q mL_law 19 1912 (ax_jmp mL_law.2.2.2.2.2.2 1912) h [(3, (0, i)), (2, (2, 169)), (1, (2, 0)), (0, (6, 0))] [] := H
set_option maxRecDepth 100000 in
theorem gv_wedding (hX : CTX dC dI dA sp H0 l ρ0 ad rf L) : GC J12 L sp ad ρ0 1912 := gc_vc (fun h i hT hJ => v_c_wedding (fun b1 r2 => (fun h1 v1 p1 q1 => (fun b3 r4 => (fun h2 v2 p2 q2 => (by exact ⟨rfl, fr_X12_wedding hX (fr_X11_wedding hX hT (by exact (And.intro rfl (And.intro (And.intro rfl r2) trivial))) p1) (by exact (And.intro rfl (And.intro (And.intro rfl r2) trivial))) p2, tr12 hJ (fw_X11_wedding hX hT (by exact (And.intro rfl (And.intro (And.intro rfl r2) trivial))) p1) (fw_X12_wedding hX (fr_X11_wedding hX hT (by exact (And.intro rfl (And.intro (And.intro rfl r2) trivial))) p1) (by exact (And.intro rfl (And.intro (And.intro rfl r2) trivial))) p2) (c_X12_wedding (tq_B (fr_X11_wedding hX hT (by exact (And.intro rfl (And.intro (And.intro rfl r2) trivial))) p1)).1 (tq_B (fr_X11_wedding hX hT (by exact (And.intro rfl (And.intro (And.intro rfl r2) trivial))) p1)).2.1 (tq_B (fr_X11_wedding hX hT (by exact (And.intro rfl (And.intro (And.intro rfl r2) trivial))) p1)).2.2 p2), rfl, rfl, rfl, rfl, trivial⟩))))))
set_option maxRecDepth 100000 in
theorem fk_X11_weddingSet : frk tbq U0q un262 [(2, 0), (0, 0)] = true := by decide +kernel
theorem fr_X11_weddingSet (hX : CTX dC dI dA sp H0 l ρ0 ad rf L) {h h' : PH} {as r : List ZV} (hT : Tq tbq L sp ad U0q h) (has : asok [(2, 0), (0, 0)] as) (hc : CP (zq sp ρ0) mX11_weddingSet h as h' r) : Tq tbq L sp ad U0q h' :=
  (fr_ok u0_n u0_w u0_l u0_f (ug262 dC dI dA sp H0 l ρ0 ad rf L hX.1 (by have := hX.2.1; omega) hX.2.2.1) (show mqq 9 12 = some mX11_weddingSet from rfl) (mth_gd (a := 9) (b := 12) rfl) hX.2.2.2.1 fk_X11_weddingSet hT has hc).1
set_option maxRecDepth 100000 in
theorem fww_X11_weddingSet : wfr F12 un262.2.2.2.1 = true := by decide +kernel
theorem fw_X11_weddingSet (hX : CTX dC dI dA sp H0 l ρ0 ad rf L) {h h' : PH} {as r : List ZV} (hT : Tq tbq L sp ad U0q h) (has : asok [(2, 0), (0, 0)] as) (hc : CP (zq sp ρ0) mX11_weddingSet h as h' r) : Frm F12 h h' := fun g hg k h1 h2 =>
  (fr_ok u0_n u0_w u0_l u0_f (ug262 dC dI dA sp H0 l ρ0 ad rf L hX.1 (by have := hX.2.1; omega) hX.2.2.1) (show mqq 9 12 = some mX11_weddingSet from rfl) (mth_gd (a := 9) (b := 12) rfl) hX.2.2.2.1 fk_X11_weddingSet hT has hc).2 _ _ (wfr_ok fww_X11_weddingSet hg h1 h2)
set_option maxRecDepth 100000 in
theorem fk_X12_weddingSet : frk tbq U0q un268 [(2, 169), (0, 0)] = true := by decide +kernel
theorem fr_X12_weddingSet (hX : CTX dC dI dA sp H0 l ρ0 ad rf L) {h h' : PH} {as r : List ZV} (hT : Tq tbq L sp ad U0q h) (has : asok [(2, 169), (0, 0)] as) (hc : CP (zq sp ρ0) mX12_weddingSet h as h' r) : Tq tbq L sp ad U0q h' :=
  (fr_ok u0_n u0_w u0_l u0_f (ug268 dC dI dA sp H0 l ρ0 ad rf L hX.1 (by have := hX.2.1; omega) hX.2.2.1) (show mqq 18 4 = some mX12_weddingSet from rfl) (mth_gd (a := 18) (b := 4) rfl) hX.2.2.2.1 fk_X12_weddingSet hT has hc).1
set_option maxRecDepth 100000 in
theorem fww_X12_weddingSet : wfr F12a un268.2.2.2.1 = true := by decide +kernel
theorem fw_X12_weddingSet (hX : CTX dC dI dA sp H0 l ρ0 ad rf L) {h h' : PH} {as r : List ZV} (hT : Tq tbq L sp ad U0q h) (has : asok [(2, 169), (0, 0)] as) (hc : CP (zq sp ρ0) mX12_weddingSet h as h' r) : Frm F12a h h' := fun g hg k h1 h2 =>
  (fr_ok u0_n u0_w u0_l u0_f (ug268 dC dI dA sp H0 l ρ0 ad rf L hX.1 (by have := hX.2.1; omega) hX.2.2.1) (show mqq 18 4 = some mX12_weddingSet from rfl) (mth_gd (a := 18) (b := 4) rfl) hX.2.2.2.1 fk_X12_weddingSet hT has hc).2 _ _ (wfr_ok fww_X12_weddingSet hg h1 h2)
set_option maxRecDepth 40000 in
set_option maxHeartbeats 1600000 in
theorem v_c_weddingSet {sl : Nat} {si : Nat → Int} {fm : ZV} {K : Nat → PH → ZL → List ZV → Prop} {Q : PH → List ZV → Prop} {h : PH} {i : Int} (H : 0 ≤ w32 (i + 1) ∧ w32 (i + 1) < sl → R32 (si (w32 (i + 1)).toNat) → ∀ h1 v1, CP (zz sl si fm) mX11_weddingSet h [(2, 0), (0, (si (w32 (i + 1)).toNat))] h1 [(0, v1)] → R32 v1 → 0 ≤ w32 (i + 1) ∧ w32 (i + 1) < sl → R32 (si (w32 (i + 1)).toNat) → ∀ h2 v2, CP (zz sl si fm) mX12_weddingSet h1 [(2, 169), (0, (si (w32 (i + 1)).toNat))] h2 [(0, v2)] → R32 v2 → K 2296 h2 [(3, (0, i)), (2, (2, 169)), (1, (2, 0)), (0, (6, 0))] []) : vc (zz sl si fm) (fun p => Nat.beq p 2296) K Q mL_law 19 1935 (ax_jmp mL_law.2.2.2.2.2.2 1935) h [(3, (0, i)), (2, (2, 169)), (1, (2, 0)), (0, (6, 0))] [] := H
set_option maxRecDepth 100000 in
theorem gv_weddingSet (hX : CTX dC dI dA sp H0 l ρ0 ad rf L) : GC J12 L sp ad ρ0 1935 := gc_vc (fun h i hT hJ => v_c_weddingSet (fun b1 r2 => (fun h1 v1 p1 q1 => (fun b3 r4 => (fun h2 v2 p2 q2 => (by exact ⟨rfl, fr_X12_weddingSet hX (fr_X11_weddingSet hX hT (by exact (And.intro rfl (And.intro (And.intro rfl r2) trivial))) p1) (by exact (And.intro rfl (And.intro (And.intro rfl r2) trivial))) p2, tr12 hJ (fw_X11_weddingSet hX hT (by exact (And.intro rfl (And.intro (And.intro rfl r2) trivial))) p1) (fw_X12_weddingSet hX (fr_X11_weddingSet hX hT (by exact (And.intro rfl (And.intro (And.intro rfl r2) trivial))) p1) (by exact (And.intro rfl (And.intro (And.intro rfl r2) trivial))) p2) (c_X12_weddingSet (tq_B (fr_X11_weddingSet hX hT (by exact (And.intro rfl (And.intro (And.intro rfl r2) trivial))) p1)).1 (tq_B (fr_X11_weddingSet hX hT (by exact (And.intro rfl (And.intro (And.intro rfl r2) trivial))) p1)).2.1 (tq_B (fr_X11_weddingSet hX hT (by exact (And.intro rfl (And.intro (And.intro rfl r2) trivial))) p1)).2.2 p2), rfl, rfl, rfl, rfl, trivial⟩))))))
set_option maxRecDepth 100000 in
theorem fk_X11_pardon : frk tbq U0q un254 [(2, 0), (0, 0), (0, 0)] = true := by decide +kernel
theorem fr_X11_pardon (hX : CTX dC dI dA sp H0 l ρ0 ad rf L) {h h' : PH} {as r : List ZV} (hT : Tq tbq L sp ad U0q h) (has : asok [(2, 0), (0, 0), (0, 0)] as) (hc : CP (zq sp ρ0) mX11_pardon h as h' r) : Tq tbq L sp ad U0q h' :=
  (fr_ok u0_n u0_w u0_l u0_f (ug254 dC dI dA sp H0 l ρ0 ad rf L hX.1 (by have := hX.2.1; omega) hX.2.2.1) (show mqq 9 13 = some mX11_pardon from rfl) (mth_gd (a := 9) (b := 13) rfl) hX.2.2.2.1 fk_X11_pardon hT has hc).1
set_option maxRecDepth 100000 in
theorem fww_X11_pardon : wfr F12 un254.2.2.2.1 = true := by decide +kernel
theorem fw_X11_pardon (hX : CTX dC dI dA sp H0 l ρ0 ad rf L) {h h' : PH} {as r : List ZV} (hT : Tq tbq L sp ad U0q h) (has : asok [(2, 0), (0, 0), (0, 0)] as) (hc : CP (zq sp ρ0) mX11_pardon h as h' r) : Frm F12 h h' := fun g hg k h1 h2 =>
  (fr_ok u0_n u0_w u0_l u0_f (ug254 dC dI dA sp H0 l ρ0 ad rf L hX.1 (by have := hX.2.1; omega) hX.2.2.1) (show mqq 9 13 = some mX11_pardon from rfl) (mth_gd (a := 9) (b := 13) rfl) hX.2.2.2.1 fk_X11_pardon hT has hc).2 _ _ (wfr_ok fww_X11_pardon hg h1 h2)
set_option maxRecDepth 100000 in
theorem fk_X12_pardon : frk tbq U0q un255 [(2, 169), (0, 0), (0, 0)] = true := by decide +kernel
theorem fr_X12_pardon (hX : CTX dC dI dA sp H0 l ρ0 ad rf L) {h h' : PH} {as r : List ZV} (hT : Tq tbq L sp ad U0q h) (has : asok [(2, 169), (0, 0), (0, 0)] as) (hc : CP (zq sp ρ0) mX12_pardon h as h' r) : Tq tbq L sp ad U0q h' :=
  (fr_ok u0_n u0_w u0_l u0_f (ug255 dC dI dA sp H0 l ρ0 ad rf L hX.1 (by have := hX.2.1; omega) hX.2.2.1) (show mqq 18 7 = some mX12_pardon from rfl) (mth_gd (a := 18) (b := 7) rfl) hX.2.2.2.1 fk_X12_pardon hT has hc).1
set_option maxRecDepth 100000 in
theorem fww_X12_pardon : wfr F12a un255.2.2.2.1 = true := by decide +kernel
theorem fw_X12_pardon (hX : CTX dC dI dA sp H0 l ρ0 ad rf L) {h h' : PH} {as r : List ZV} (hT : Tq tbq L sp ad U0q h) (has : asok [(2, 169), (0, 0), (0, 0)] as) (hc : CP (zq sp ρ0) mX12_pardon h as h' r) : Frm F12a h h' := fun g hg k h1 h2 =>
  (fr_ok u0_n u0_w u0_l u0_f (ug255 dC dI dA sp H0 l ρ0 ad rf L hX.1 (by have := hX.2.1; omega) hX.2.2.1) (show mqq 18 7 = some mX12_pardon from rfl) (mth_gd (a := 18) (b := 7) rfl) hX.2.2.2.1 fk_X12_pardon hT has hc).2 _ _ (wfr_ok fww_X12_pardon hg h1 h2)
set_option maxRecDepth 40000 in
set_option maxHeartbeats 1600000 in
theorem v_c_pardon {sl : Nat} {si : Nat → Int} {fm : ZV} {K : Nat → PH → ZL → List ZV → Prop} {Q : PH → List ZV → Prop} {h : PH} {i : Int} (H : 0 ≤ w32 (i + 1) ∧ w32 (i + 1) < sl → R32 (si (w32 (i + 1)).toNat) → 0 ≤ w32 (i + 2) ∧ w32 (i + 2) < sl → R32 (si (w32 (i + 2)).toNat) → ∀ h1 v1, CP (zz sl si fm) mX11_pardon h [(2, 0), (0, (si (w32 (i + 1)).toNat)), (0, (si (w32 (i + 2)).toNat))] h1 [(0, v1)] → R32 v1 → 0 ≤ w32 (i + 1) ∧ w32 (i + 1) < sl → R32 (si (w32 (i + 1)).toNat) → 0 ≤ w32 (i + 2) ∧ w32 (i + 2) < sl → R32 (si (w32 (i + 2)).toNat) → ∀ h2 v2, CP (zz sl si fm) mX12_pardon h1 [(2, 169), (0, (si (w32 (i + 1)).toNat)), (0, (si (w32 (i + 2)).toNat))] h2 [(0, v2)] → R32 v2 → K 2296 h2 [(3, (0, i)), (2, (2, 169)), (1, (2, 0)), (0, (6, 0))] []) : vc (zz sl si fm) (fun p => Nat.beq p 2296) K Q mL_law 29 1958 (ax_jmp mL_law.2.2.2.2.2.2 1958) h [(3, (0, i)), (2, (2, 169)), (1, (2, 0)), (0, (6, 0))] [] := H
set_option maxRecDepth 100000 in
theorem gv_pardon (hX : CTX dC dI dA sp H0 l ρ0 ad rf L) : GC J12 L sp ad ρ0 1958 := gc_vc (fun h i hT hJ => v_c_pardon (fun b1 r2 => (fun b3 r4 => (fun h1 v1 p1 q1 => (fun b5 r6 => (fun b7 r8 => (fun h2 v2 p2 q2 => (by exact ⟨rfl, fr_X12_pardon hX (fr_X11_pardon hX hT (by exact (And.intro rfl (And.intro (And.intro rfl r2) (And.intro (And.intro rfl r4) trivial)))) p1) (by exact (And.intro rfl (And.intro (And.intro rfl r2) (And.intro (And.intro rfl r4) trivial)))) p2, tr12 hJ (fw_X11_pardon hX hT (by exact (And.intro rfl (And.intro (And.intro rfl r2) (And.intro (And.intro rfl r4) trivial)))) p1) (fw_X12_pardon hX (fr_X11_pardon hX hT (by exact (And.intro rfl (And.intro (And.intro rfl r2) (And.intro (And.intro rfl r4) trivial)))) p1) (by exact (And.intro rfl (And.intro (And.intro rfl r2) (And.intro (And.intro rfl r4) trivial)))) p2) (c_X12_pardon (tq_B (fr_X11_pardon hX hT (by exact (And.intro rfl (And.intro (And.intro rfl r2) (And.intro (And.intro rfl r4) trivial)))) p1)).1 (tq_B (fr_X11_pardon hX hT (by exact (And.intro rfl (And.intro (And.intro rfl r2) (And.intro (And.intro rfl r4) trivial)))) p1)).2.1 (tq_B (fr_X11_pardon hX hT (by exact (And.intro rfl (And.intro (And.intro rfl r2) (And.intro (And.intro rfl r4) trivial)))) p1)).2.2 p2), rfl, rfl, rfl, rfl, trivial⟩))))))))
set_option maxRecDepth 100000 in
theorem fk_X11_pardonSet : frk tbq U0q un236 [(2, 0), (0, 0), (0, 0)] = true := by decide +kernel
theorem fr_X11_pardonSet (hX : CTX dC dI dA sp H0 l ρ0 ad rf L) {h h' : PH} {as r : List ZV} (hT : Tq tbq L sp ad U0q h) (has : asok [(2, 0), (0, 0), (0, 0)] as) (hc : CP (zq sp ρ0) mX11_pardonSet h as h' r) : Tq tbq L sp ad U0q h' :=
  (fr_ok u0_n u0_w u0_l u0_f (ug236 dC dI dA sp H0 l ρ0 ad rf L hX.1 (by have := hX.2.1; omega) hX.2.2.1) (show mqq 9 14 = some mX11_pardonSet from rfl) (mth_gd (a := 9) (b := 14) rfl) hX.2.2.2.1 fk_X11_pardonSet hT has hc).1
set_option maxRecDepth 100000 in
theorem fww_X11_pardonSet : wfr F12 un236.2.2.2.1 = true := by decide +kernel
theorem fw_X11_pardonSet (hX : CTX dC dI dA sp H0 l ρ0 ad rf L) {h h' : PH} {as r : List ZV} (hT : Tq tbq L sp ad U0q h) (has : asok [(2, 0), (0, 0), (0, 0)] as) (hc : CP (zq sp ρ0) mX11_pardonSet h as h' r) : Frm F12 h h' := fun g hg k h1 h2 =>
  (fr_ok u0_n u0_w u0_l u0_f (ug236 dC dI dA sp H0 l ρ0 ad rf L hX.1 (by have := hX.2.1; omega) hX.2.2.1) (show mqq 9 14 = some mX11_pardonSet from rfl) (mth_gd (a := 9) (b := 14) rfl) hX.2.2.2.1 fk_X11_pardonSet hT has hc).2 _ _ (wfr_ok fww_X11_pardonSet hg h1 h2)
set_option maxRecDepth 100000 in
theorem fk_X12_pardonSet : frk tbq U0q un251 [(2, 169), (0, 0), (0, 0)] = true := by decide +kernel
theorem fr_X12_pardonSet (hX : CTX dC dI dA sp H0 l ρ0 ad rf L) {h h' : PH} {as r : List ZV} (hT : Tq tbq L sp ad U0q h) (has : asok [(2, 169), (0, 0), (0, 0)] as) (hc : CP (zq sp ρ0) mX12_pardonSet h as h' r) : Tq tbq L sp ad U0q h' :=
  (fr_ok u0_n u0_w u0_l u0_f (ug251 dC dI dA sp H0 l ρ0 ad rf L hX.1 (by have := hX.2.1; omega) hX.2.2.1) (show mqq 18 8 = some mX12_pardonSet from rfl) (mth_gd (a := 18) (b := 8) rfl) hX.2.2.2.1 fk_X12_pardonSet hT has hc).1
set_option maxRecDepth 100000 in
theorem fww_X12_pardonSet : wfr F12a un251.2.2.2.1 = true := by decide +kernel
theorem fw_X12_pardonSet (hX : CTX dC dI dA sp H0 l ρ0 ad rf L) {h h' : PH} {as r : List ZV} (hT : Tq tbq L sp ad U0q h) (has : asok [(2, 169), (0, 0), (0, 0)] as) (hc : CP (zq sp ρ0) mX12_pardonSet h as h' r) : Frm F12a h h' := fun g hg k h1 h2 =>
  (fr_ok u0_n u0_w u0_l u0_f (ug251 dC dI dA sp H0 l ρ0 ad rf L hX.1 (by have := hX.2.1; omega) hX.2.2.1) (show mqq 18 8 = some mX12_pardonSet from rfl) (mth_gd (a := 18) (b := 8) rfl) hX.2.2.2.1 fk_X12_pardonSet hT has hc).2 _ _ (wfr_ok fww_X12_pardonSet hg h1 h2)
set_option maxRecDepth 40000 in
set_option maxHeartbeats 1600000 in
theorem v_c_pardonSet {sl : Nat} {si : Nat → Int} {fm : ZV} {K : Nat → PH → ZL → List ZV → Prop} {Q : PH → List ZV → Prop} {h : PH} {i : Int} (H : 0 ≤ w32 (i + 1) ∧ w32 (i + 1) < sl → R32 (si (w32 (i + 1)).toNat) → 0 ≤ w32 (i + 2) ∧ w32 (i + 2) < sl → R32 (si (w32 (i + 2)).toNat) → ∀ h1 v1, CP (zz sl si fm) mX11_pardonSet h [(2, 0), (0, (si (w32 (i + 1)).toNat)), (0, (si (w32 (i + 2)).toNat))] h1 [(0, v1)] → R32 v1 → 0 ≤ w32 (i + 1) ∧ w32 (i + 1) < sl → R32 (si (w32 (i + 1)).toNat) → 0 ≤ w32 (i + 2) ∧ w32 (i + 2) < sl → R32 (si (w32 (i + 2)).toNat) → ∀ h2 v2, CP (zz sl si fm) mX12_pardonSet h1 [(2, 169), (0, (si (w32 (i + 1)).toNat)), (0, (si (w32 (i + 2)).toNat))] h2 [(0, v2)] → R32 v2 → K 2296 h2 [(3, (0, i)), (2, (2, 169)), (1, (2, 0)), (0, (6, 0))] []) : vc (zz sl si fm) (fun p => Nat.beq p 2296) K Q mL_law 29 1991 (ax_jmp mL_law.2.2.2.2.2.2 1991) h [(3, (0, i)), (2, (2, 169)), (1, (2, 0)), (0, (6, 0))] [] := H
set_option maxRecDepth 100000 in
theorem gv_pardonSet (hX : CTX dC dI dA sp H0 l ρ0 ad rf L) : GC J12 L sp ad ρ0 1991 := gc_vc (fun h i hT hJ => v_c_pardonSet (fun b1 r2 => (fun b3 r4 => (fun h1 v1 p1 q1 => (fun b5 r6 => (fun b7 r8 => (fun h2 v2 p2 q2 => (by exact ⟨rfl, fr_X12_pardonSet hX (fr_X11_pardonSet hX hT (by exact (And.intro rfl (And.intro (And.intro rfl r2) (And.intro (And.intro rfl r4) trivial)))) p1) (by exact (And.intro rfl (And.intro (And.intro rfl r2) (And.intro (And.intro rfl r4) trivial)))) p2, tr12 hJ (fw_X11_pardonSet hX hT (by exact (And.intro rfl (And.intro (And.intro rfl r2) (And.intro (And.intro rfl r4) trivial)))) p1) (fw_X12_pardonSet hX (fr_X11_pardonSet hX hT (by exact (And.intro rfl (And.intro (And.intro rfl r2) (And.intro (And.intro rfl r4) trivial)))) p1) (by exact (And.intro rfl (And.intro (And.intro rfl r2) (And.intro (And.intro rfl r4) trivial)))) p2) (c_X12_pardonSet (tq_B (fr_X11_pardonSet hX hT (by exact (And.intro rfl (And.intro (And.intro rfl r2) (And.intro (And.intro rfl r4) trivial)))) p1)).1 (tq_B (fr_X11_pardonSet hX hT (by exact (And.intro rfl (And.intro (And.intro rfl r2) (And.intro (And.intro rfl r4) trivial)))) p1)).2.1 (tq_B (fr_X11_pardonSet hX hT (by exact (And.intro rfl (And.intro (And.intro rfl r2) (And.intro (And.intro rfl r4) trivial)))) p1)).2.2 p2), rfl, rfl, rfl, rfl, trivial⟩))))))))
set_option maxRecDepth 100000 in
theorem ck_2024 : cse tbq U0q un219 2296 = true := by decide +kernel
set_option maxRecDepth 100000 in
theorem wf_2024 : wfr F12 un219.2.2.2.1 = true := by decide +kernel
set_option maxRecDepth 100000 in
theorem ck_2047 : cse tbq U0q un211 2296 = true := by decide +kernel
set_option maxRecDepth 100000 in
theorem wf_2047 : wfr F12 un211.2.2.2.1 = true := by decide +kernel
set_option maxRecDepth 100000 in
theorem ck_2090 : cse tbq U0q un207 2296 = true := by decide +kernel
set_option maxRecDepth 100000 in
theorem wf_2090 : wfr F12 un207.2.2.2.1 = true := by decide +kernel
set_option maxRecDepth 100000 in
theorem ck_2103 : cse tbq U0q un198 2296 = true := by decide +kernel
set_option maxRecDepth 100000 in
theorem wf_2103 : wfr F12 un198.2.2.2.1 = true := by decide +kernel
set_option maxRecDepth 100000 in
theorem ck_2116 : cse tbq U0q un193 2296 = true := by decide +kernel
set_option maxRecDepth 100000 in
theorem wf_2116 : wfr F12 un193.2.2.2.1 = true := by decide +kernel
set_option maxRecDepth 100000 in
theorem ck_2129 : cse tbq U0q un186 2296 = true := by decide +kernel
set_option maxRecDepth 100000 in
theorem wf_2129 : wfr F12 un186.2.2.2.1 = true := by decide +kernel
set_option maxRecDepth 100000 in
theorem ck_2142 : cse tbq U0q un179 2296 = true := by decide +kernel
set_option maxRecDepth 100000 in
theorem wf_2142 : wfr F12 un179.2.2.2.1 = true := by decide +kernel
set_option maxRecDepth 100000 in
theorem ck_2155 : cse tbq U0q un165 2296 = true := by decide +kernel
set_option maxRecDepth 100000 in
theorem wf_2155 : wfr F12 un165.2.2.2.1 = true := by decide +kernel
set_option maxRecDepth 100000 in
theorem ck_2178 : cse tbq U0q un154 2296 = true := by decide +kernel
set_option maxRecDepth 100000 in
theorem wf_2178 : wfr F12 un154.2.2.2.1 = true := by decide +kernel
set_option maxRecDepth 100000 in
theorem ck_2191 : cse tbq U0q un142 2296 = true := by decide +kernel
set_option maxRecDepth 100000 in
theorem wf_2191 : wfr F12 un142.2.2.2.1 = true := by decide +kernel
set_option maxRecDepth 100000 in
theorem ck_2214 : cse tbq U0q un107 2296 = true := by decide +kernel
set_option maxRecDepth 100000 in
theorem wf_2214 : wfr F12 un107.2.2.2.1 = true := by decide +kernel
set_option maxRecDepth 100000 in
theorem fk_X11_mean : frk tbq U0q un73 [(2, 0), (0, 0), (0, 0)] = true := by decide +kernel
theorem fr_X11_mean (hX : CTX dC dI dA sp H0 l ρ0 ad rf L) {h h' : PH} {as r : List ZV} (hT : Tq tbq L sp ad U0q h) (has : asok [(2, 0), (0, 0), (0, 0)] as) (hc : CP (zq sp ρ0) mX11_mean h as h' r) : Tq tbq L sp ad U0q h' :=
  (fr_ok u0_n u0_w u0_l u0_f (ug73 dC dI dA sp H0 l ρ0 ad rf L hX.1 (by have := hX.2.1; omega) hX.2.2.1) (show mqq 10 6 = some mX11_mean from rfl) (mth_gd (a := 10) (b := 6) rfl) hX.2.2.2.1 fk_X11_mean hT has hc).1
set_option maxRecDepth 100000 in
theorem fww_X11_mean : wfr F12 un73.2.2.2.1 = true := by decide +kernel
theorem fw_X11_mean (hX : CTX dC dI dA sp H0 l ρ0 ad rf L) {h h' : PH} {as r : List ZV} (hT : Tq tbq L sp ad U0q h) (has : asok [(2, 0), (0, 0), (0, 0)] as) (hc : CP (zq sp ρ0) mX11_mean h as h' r) : Frm F12 h h' := fun g hg k h1 h2 =>
  (fr_ok u0_n u0_w u0_l u0_f (ug73 dC dI dA sp H0 l ρ0 ad rf L hX.1 (by have := hX.2.1; omega) hX.2.2.1) (show mqq 10 6 = some mX11_mean from rfl) (mth_gd (a := 10) (b := 6) rfl) hX.2.2.2.1 fk_X11_mean hT has hc).2 _ _ (wfr_ok fww_X11_mean hg h1 h2)
set_option maxRecDepth 100000 in
theorem fk_X12_mean : frk tbq U0q un104 [(2, 169), (0, 0), (0, 0)] = true := by decide +kernel
theorem fr_X12_mean (hX : CTX dC dI dA sp H0 l ρ0 ad rf L) {h h' : PH} {as r : List ZV} (hT : Tq tbq L sp ad U0q h) (has : asok [(2, 169), (0, 0), (0, 0)] as) (hc : CP (zq sp ρ0) mX12_mean h as h' r) : Tq tbq L sp ad U0q h' :=
  (fr_ok u0_n u0_w u0_l u0_f (ug104 dC dI dA sp H0 l ρ0 ad rf L hX.1 (by have := hX.2.1; omega) hX.2.2.1) (show mqq 19 9 = some mX12_mean from rfl) (mth_gd (a := 19) (b := 9) rfl) hX.2.2.2.1 fk_X12_mean hT has hc).1
set_option maxRecDepth 100000 in
theorem fww_X12_mean : wfr F12a un104.2.2.2.1 = true := by decide +kernel
theorem fw_X12_mean (hX : CTX dC dI dA sp H0 l ρ0 ad rf L) {h h' : PH} {as r : List ZV} (hT : Tq tbq L sp ad U0q h) (has : asok [(2, 169), (0, 0), (0, 0)] as) (hc : CP (zq sp ρ0) mX12_mean h as h' r) : Frm F12a h h' := fun g hg k h1 h2 =>
  (fr_ok u0_n u0_w u0_l u0_f (ug104 dC dI dA sp H0 l ρ0 ad rf L hX.1 (by have := hX.2.1; omega) hX.2.2.1) (show mqq 19 9 = some mX12_mean from rfl) (mth_gd (a := 19) (b := 9) rfl) hX.2.2.2.1 fk_X12_mean hT has hc).2 _ _ (wfr_ok fww_X12_mean hg h1 h2)
set_option maxRecDepth 40000 in
set_option maxHeartbeats 1600000 in
theorem v_c_mean {sl : Nat} {si : Nat → Int} {fm : ZV} {K : Nat → PH → ZL → List ZV → Prop} {Q : PH → List ZV → Prop} {h : PH} {i : Int} (H : 0 ≤ w32 (i + 1) ∧ w32 (i + 1) < sl → R32 (si (w32 (i + 1)).toNat) → 0 ≤ w32 (i + 2) ∧ w32 (i + 2) < sl → R32 (si (w32 (i + 2)).toNat) → ∀ h1 v1, CP (zz sl si fm) mX11_mean h [(2, 0), (0, (si (w32 (i + 1)).toNat)), (0, (si (w32 (i + 2)).toNat))] h1 [(0, v1)] → v1 = 0 ∨ v1 = 1 → 0 ≤ w32 (i + 1) ∧ w32 (i + 1) < sl → R32 (si (w32 (i + 1)).toNat) → 0 ≤ w32 (i + 2) ∧ w32 (i + 2) < sl → R32 (si (w32 (i + 2)).toNat) → ∀ h2 v2, CP (zz sl si fm) mX12_mean h1 [(2, 169), (0, (si (w32 (i + 1)).toNat)), (0, (si (w32 (i + 2)).toNat))] h2 [(0, v2)] → v2 = 0 ∨ v2 = 1 → K 2296 h2 [(3, (0, i)), (2, (2, 169)), (1, (2, 0)), (0, (6, 0))] []) : vc (zz sl si fm) (fun p => Nat.beq p 2296) K Q mL_law 29 2237 (ax_jmp mL_law.2.2.2.2.2.2 2237) h [(3, (0, i)), (2, (2, 169)), (1, (2, 0)), (0, (6, 0))] [] := H
set_option maxRecDepth 100000 in
theorem fk_lives : fsk tbq U1q un102 [(2, 169), (4, 16383)] = true := by decide +kernel
set_option maxRecDepth 100000 in
theorem fww_lives : wfr [(170, 4, 4), (170, 2640, 2803)] un102.2.2.2.1 = true := by decide +kernel
theorem li_mean (hX : CTX dC dI dA sp H0 l ρ0 ad rf L) {h h' : PH} {x : Int} (hT : Tq tbq L sp ad U1q h) (hx : 0 ≤ x ∧ x ≤ 16383) (hc : CP (zq sp ρ0) mX12_lives h [(2, 169), (0, x)] h' []) : Tq tbq L sp ad U1q h' ∧ h' 170 4 = h 170 4 ∧ ∀ k : Nat, k < 164 → h' 170 (2640 + k) = h 170 (2640 + k) := by
  have z := fs_ok (U0 := U1q) rfl u1_w rfl ⟨rfl, rfl⟩ (ug102 dC dI dA sp H0 l ρ0 ad rf L hX.1 (by have := hX.2.1; omega) hX.2.2.1) (show mqq 19 6 = some mX12_lives from rfl) (mth_gd (a := 19) (b := 6) rfl) hX.2.2.2.1 fk_lives hT (spec := [(2, 169), (4, 16383)]) (as := [(2, 169), (0, x)]) (by exact (And.intro rfl (And.intro (And.intro rfl (And.intro hx.1 (And.intro hx.2 (by decide)))) trivial))) hc
  exact ⟨z.1, z.2 _ _ (wfr_ok (f := (170, 4, 4)) fww_lives (by decide) (by decide) (by decide)), fun k hk => z.2 _ _ (wfr_ok (f := (170, 2640, 2803)) fww_lives (by decide) (by show (2640 : Int) ≤ _; omega) (by show _ ≤ (2803 : Int); omega))⟩
set_option maxRecDepth 100000 in
theorem gv_mean (hX : CTX dC dI dA sp H0 l ρ0 ad rf L) : GC J12 L sp ad ρ0 2237 := gc_vc (fun h i hT hJ => v_c_mean (fun b1 r2 => (fun b3 r4 => (fun h1 v1 p1 q1 => (fun b5 r6 => (fun b7 r8 => (fun h2 v2 p2 q2 => (by exact ⟨rfl, fr_X12_mean hX (fr_X11_mean hX hT (by exact (And.intro rfl (And.intro (And.intro rfl r2) (And.intro (And.intro rfl r4) trivial)))) p1) (by exact (And.intro rfl (And.intro (And.intro rfl r2) (And.intro (And.intro rfl r4) trivial)))) p2, tr12 hJ (fw_X11_mean hX hT (by exact (And.intro rfl (And.intro (And.intro rfl r2) (And.intro (And.intro rfl r4) trivial)))) p1) (fw_X12_mean hX (fr_X11_mean hX hT (by exact (And.intro rfl (And.intro (And.intro rfl r2) (And.intro (And.intro rfl r4) trivial)))) p1) (by exact (And.intro rfl (And.intro (And.intro rfl r2) (And.intro (And.intro rfl r4) trivial)))) p2) (c_X12_mean (P := Tq tbq L sp ad U1q) (fun _ _ hT p => tq_keeps kg1 (s := 5) (Or.inl rfl) hT p) (fun _ _ x hT hx p => li_mean hX hT hx p) (fun _ _ hT e p => tq_restores kg1 (s := 5) (Or.inl rfl) hT e p) (fun z => tq_10 (fr_X11_mean hX hT (by exact (And.intro rfl (And.intro (And.intro rfl r2) (And.intro (And.intro rfl r4) trivial)))) p1) (tq_4 (fr_X11_mean hX hT (by exact (And.intro rfl (And.intro (And.intro rfl r2) (And.intro (And.intro rfl r4) trivial)))) p1) z)) p2), rfl, rfl, rfl, rfl, trivial⟩))))))))
set_option maxRecDepth 100000 in
theorem fk_X11_mark : frk tbq U0q un26 [(2, 0)] = true := by decide +kernel
theorem fr_X11_mark (hX : CTX dC dI dA sp H0 l ρ0 ad rf L) {h h' : PH} {as r : List ZV} (hT : Tq tbq L sp ad U0q h) (has : asok [(2, 0)] as) (hc : CP (zq sp ρ0) mX11_mark h as h' r) : Tq tbq L sp ad U0q h' :=
  (fr_ok u0_n u0_w u0_l u0_f (ug26 dC dI dA sp H0 l ρ0 ad rf L hX.1 (by have := hX.2.1; omega) hX.2.2.1) (show mqq 10 7 = some mX11_mark from rfl) (mth_gd (a := 10) (b := 7) rfl) hX.2.2.2.1 fk_X11_mark hT has hc).1
set_option maxRecDepth 100000 in
theorem fk_X12_mark : frk tbq U0q un33 [(2, 169)] = true := by decide +kernel
theorem fr_X12_mark (hX : CTX dC dI dA sp H0 l ρ0 ad rf L) {h h' : PH} {as r : List ZV} (hT : Tq tbq L sp ad U0q h) (has : asok [(2, 169)] as) (hc : CP (zq sp ρ0) mX12_mark h as h' r) : Tq tbq L sp ad U0q h' :=
  (fr_ok u0_n u0_w u0_l u0_f (ug33 dC dI dA sp H0 l ρ0 ad rf L hX.1 (by have := hX.2.1; omega) hX.2.2.1) (show mqq 19 11 = some mX12_mark from rfl) (mth_gd (a := 19) (b := 11) rfl) hX.2.2.2.1 fk_X12_mark hT has hc).1
set_option maxRecDepth 40000 in
set_option maxHeartbeats 1600000 in
theorem v_c_mark {sl : Nat} {si : Nat → Int} {fm : ZV} {K : Nat → PH → ZL → List ZV → Prop} {Q : PH → List ZV → Prop} {h : PH} {i : Int} (H : ∀ h1 v1, CP (zz sl si fm) mX11_mark h [(2, 0)] h1 [(0, v1)] → R32 v1 → ∀ h2 v2, CP (zz sl si fm) mX12_mark h1 [(2, 169)] h2 [(0, v2)] → R32 v2 → K 2296 h2 [(3, (0, i)), (2, (2, 169)), (1, (2, 0)), (0, (6, 0))] []) : vc (zz sl si fm) (fun p => Nat.beq p 2296) K Q mL_law 9 2270 (ax_jmp mL_law.2.2.2.2.2.2 2270) h [(3, (0, i)), (2, (2, 169)), (1, (2, 0)), (0, (6, 0))] [] := H
set_option maxRecDepth 100000 in
theorem gv_mark (hX : CTX dC dI dA sp H0 l ρ0 ad rf L) : GC J12 L sp ad ρ0 2270 := gc_vc (fun h i hT hJ => v_c_mark (fun h1 v1 p1 q1 => (fun h2 v2 p2 q2 => (by exact ⟨rfl, fr_X12_mark hX (fr_X11_mark hX hT (by exact (And.intro rfl trivial)) p1) (by exact (And.intro rfl trivial)) p2, pr_mark12 hJ  p1 p2, rfl, rfl, rfl, rfl, trivial⟩))))
set_option maxRecDepth 100000 in
theorem fk_X11_undo : frk tbq U0q un14 [(2, 0)] = true := by decide +kernel
theorem fr_X11_undo (hX : CTX dC dI dA sp H0 l ρ0 ad rf L) {h h' : PH} {as r : List ZV} (hT : Tq tbq L sp ad U0q h) (has : asok [(2, 0)] as) (hc : CP (zq sp ρ0) mX11_undo h as h' r) : Tq tbq L sp ad U0q h' :=
  (fr_ok u0_n u0_w u0_l u0_f (ug14 dC dI dA sp H0 l ρ0 ad rf L hX.1 (by have := hX.2.1; omega) hX.2.2.1) (show mqq 10 8 = some mX11_undo from rfl) (mth_gd (a := 10) (b := 8) rfl) hX.2.2.2.1 fk_X11_undo hT has hc).1
set_option maxRecDepth 100000 in
theorem fk_X12_undo : frk tbq U0q un21 [(2, 169)] = true := by decide +kernel
theorem fr_X12_undo (hX : CTX dC dI dA sp H0 l ρ0 ad rf L) {h h' : PH} {as r : List ZV} (hT : Tq tbq L sp ad U0q h) (has : asok [(2, 169)] as) (hc : CP (zq sp ρ0) mX12_undo h as h' r) : Tq tbq L sp ad U0q h' :=
  (fr_ok u0_n u0_w u0_l u0_f (ug21 dC dI dA sp H0 l ρ0 ad rf L hX.1 (by have := hX.2.1; omega) hX.2.2.1) (show mqq 19 12 = some mX12_undo from rfl) (mth_gd (a := 19) (b := 12) rfl) hX.2.2.2.1 fk_X12_undo hT has hc).1
set_option maxRecDepth 40000 in
set_option maxHeartbeats 1600000 in
theorem v_c_undo {sl : Nat} {si : Nat → Int} {fm : ZV} {K : Nat → PH → ZL → List ZV → Prop} {Q : PH → List ZV → Prop} {h : PH} {i : Int} (H : ∀ h1 v1, CP (zz sl si fm) mX11_undo h [(2, 0)] h1 [(0, v1)] → R32 v1 → ∀ h2 v2, CP (zz sl si fm) mX12_undo h1 [(2, 169)] h2 [(0, v2)] → R32 v2 → K 2296 h2 [(3, (0, i)), (2, (2, 169)), (1, (2, 0)), (0, (6, 0))] []) : vc (zz sl si fm) (fun p => Nat.beq p 2296) K Q mL_law 9 2283 (ax_jmp mL_law.2.2.2.2.2.2 2283) h [(3, (0, i)), (2, (2, 169)), (1, (2, 0)), (0, (6, 0))] [] := H
set_option maxRecDepth 100000 in
theorem gv_undo (hX : CTX dC dI dA sp H0 l ρ0 ad rf L) : GC J12 L sp ad ρ0 2283 := gc_vc (fun h i hT hJ => v_c_undo (fun h1 v1 p1 q1 => (fun h2 v2 p2 q2 => (by exact ⟨rfl, fr_X12_undo hX (fr_X11_undo hX hT (by exact (And.intro rfl trivial)) p1) (by exact (And.intro rfl trivial)) p2, pr_undo12 hJ  p1 p2, rfl, rfl, rfl, rfl, trivial⟩))))
theorem cs_all (hX : CTX dC dI dA sp H0 l ρ0 ad rf L) : ∀ p ∈ csL, GC J12 L sp ad ρ0 p := by
  unfold csL
  refine List.forall_mem_cons.mpr ⟨gc_cse hX (fun _ _ => J12_frm) ug653 ck_328 wf_328, ?_⟩
  refine List.forall_mem_cons.mpr ⟨gc_cse hX (fun _ _ => J12_frm) ug652 ck_341 wf_341, ?_⟩
  refine List.forall_mem_cons.mpr ⟨gc_cse hX (fun _ _ => J12_frm) ug651 ck_354 wf_354, ?_⟩
  refine List.forall_mem_cons.mpr ⟨gc_cse hX (fun _ _ => J12_frm) ug650 ck_367 wf_367, ?_⟩
  refine List.forall_mem_cons.mpr ⟨gc_cse hX (fun _ _ => J12_frm) ug640 ck_410 wf_410, ?_⟩
  refine List.forall_mem_cons.mpr ⟨gc_cse hX (fun _ _ => J12_frm) ug637 ck_483 wf_483, ?_⟩
  refine List.forall_mem_cons.mpr ⟨gc_cse hX (fun _ _ => J12_frm) ug635 ck_516 wf_516, ?_⟩
  refine List.forall_mem_cons.mpr ⟨gv_feed hX, ?_⟩
  refine List.forall_mem_cons.mpr ⟨gv_land hX, ?_⟩
  refine List.forall_mem_cons.mpr ⟨gv_tales hX, ?_⟩
  refine List.forall_mem_cons.mpr ⟨gc_cse hX (fun _ _ => J12_frm) ug495 ck_688 wf_688, ?_⟩
  refine List.forall_mem_cons.mpr ⟨gc_cse hX (fun _ _ => J12_frm) ug494 ck_711 wf_711, ?_⟩
  refine List.forall_mem_cons.mpr ⟨gc_cse hX (fun _ _ => J12_frm) ug485 ck_734 wf_734, ?_⟩
  refine List.forall_mem_cons.mpr ⟨gc_cse hX (fun _ _ => J12_frm) ug482 ck_767 wf_767, ?_⟩
  refine List.forall_mem_cons.mpr ⟨gc_cse hX (fun _ _ => J12_frm) ug479 ck_800 wf_800, ?_⟩
  refine List.forall_mem_cons.mpr ⟨gc_cse hX (fun _ _ => J12_frm) ug477 ck_833 wf_833, ?_⟩
  refine List.forall_mem_cons.mpr ⟨gc_cse hX (fun _ _ => J12_frm) ug474 ck_866 wf_866, ?_⟩
  refine List.forall_mem_cons.mpr ⟨gc_cse hX (fun _ _ => J12_frm) ug473 ck_889 wf_889, ?_⟩
  refine List.forall_mem_cons.mpr ⟨gc_cse hX (fun _ _ => J12_frm) ug467 ck_922 wf_922, ?_⟩
  refine List.forall_mem_cons.mpr ⟨gc_cse hX (fun _ _ => J12_frm) ug464 ck_945 wf_945, ?_⟩
  refine List.forall_mem_cons.mpr ⟨gc_cse hX (fun _ _ => J12_frm) ug463 ck_968 wf_968, ?_⟩
  refine List.forall_mem_cons.mpr ⟨gc_cse hX (fun _ _ => J12_frm) ug460 ck_1001 wf_1001, ?_⟩
  refine List.forall_mem_cons.mpr ⟨gc_cse hX (fun _ _ => J12_frm) ug455 ck_1044 wf_1044, ?_⟩
  refine List.forall_mem_cons.mpr ⟨gc_cse hX (fun _ _ => J12_frm) ug452 ck_1093 wf_1093, ?_⟩
  refine List.forall_mem_cons.mpr ⟨gc_cse hX (fun _ _ => J12_frm) ug449 ck_1142 wf_1142, ?_⟩
  refine List.forall_mem_cons.mpr ⟨gc_cse hX (fun _ _ => J12_frm) ug446 ck_1201 wf_1201, ?_⟩
  refine List.forall_mem_cons.mpr ⟨gc_cse hX (fun _ _ => J12_frm) ug443 ck_1234 wf_1234, ?_⟩
  refine List.forall_mem_cons.mpr ⟨gc_cse hX (fun _ _ => J12_frm) ug440 ck_1267 wf_1267, ?_⟩
  refine List.forall_mem_cons.mpr ⟨gc_cse hX (fun _ _ => J12_frm) ug437 ck_1290 wf_1290, ?_⟩
  refine List.forall_mem_cons.mpr ⟨gv_walks hX, ?_⟩
  refine List.forall_mem_cons.mpr ⟨gv_later hX, ?_⟩
  refine List.forall_mem_cons.mpr ⟨gv_rest hX, ?_⟩
  refine List.forall_mem_cons.mpr ⟨gv_quiet hX, ?_⟩
  refine List.forall_mem_cons.mpr ⟨gv_harvest hX, ?_⟩
  refine List.forall_mem_cons.mpr ⟨gv_visitors hX, ?_⟩
  refine List.forall_mem_cons.mpr ⟨gv_stays hX, ?_⟩
  refine List.forall_mem_cons.mpr ⟨gc_cse hX (fun _ _ => J12_frm) ug385 ck_1534 wf_1534, ?_⟩
  refine List.forall_mem_cons.mpr ⟨gc_cse hX (fun _ _ => J12_frm) ug374 ck_1567 wf_1567, ?_⟩
  refine List.forall_mem_cons.mpr ⟨gv_tours hX, ?_⟩
  refine List.forall_mem_cons.mpr ⟨gv_meets hX, ?_⟩
  refine List.forall_mem_cons.mpr ⟨gc_cse hX (fun _ _ => J12_frm) ug359 ck_1656 wf_1656, ?_⟩
  refine List.forall_mem_cons.mpr ⟨gv_busiest hX, ?_⟩
  refine List.forall_mem_cons.mpr ⟨gc_cse hX (fun _ _ => J12_frm) ug339 ck_1692 wf_1692, ?_⟩
  refine List.forall_mem_cons.mpr ⟨gv_wells hX, ?_⟩
  refine List.forall_mem_cons.mpr ⟨gc_cse hX (fun _ _ => J12_frm) ug329 ck_1738 wf_1738, ?_⟩
  refine List.forall_mem_cons.mpr ⟨gc_cse hX (fun _ _ => J12_frm) ug316 ck_1771 wf_1771, ?_⟩
  refine List.forall_mem_cons.mpr ⟨gv_loss hX, ?_⟩
  refine List.forall_mem_cons.mpr ⟨gv_saint hX, ?_⟩
  refine List.forall_mem_cons.mpr ⟨gv_keeper hX, ?_⟩
  refine List.forall_mem_cons.mpr ⟨gc_cse hX (fun _ _ => J12_frm) ug283 ck_1853 wf_1853, ?_⟩
  refine List.forall_mem_cons.mpr ⟨gc_cse hX (fun _ _ => J12_frm) ug278 ck_1866 wf_1866, ?_⟩
  refine List.forall_mem_cons.mpr ⟨gc_cse hX (fun _ _ => J12_frm) ug273 ck_1889 wf_1889, ?_⟩
  refine List.forall_mem_cons.mpr ⟨gv_wedding hX, ?_⟩
  refine List.forall_mem_cons.mpr ⟨gv_weddingSet hX, ?_⟩
  refine List.forall_mem_cons.mpr ⟨gv_pardon hX, ?_⟩
  refine List.forall_mem_cons.mpr ⟨gv_pardonSet hX, ?_⟩
  refine List.forall_mem_cons.mpr ⟨gc_cse hX (fun _ _ => J12_frm) ug219 ck_2024 wf_2024, ?_⟩
  refine List.forall_mem_cons.mpr ⟨gc_cse hX (fun _ _ => J12_frm) ug211 ck_2047 wf_2047, ?_⟩
  refine List.forall_mem_cons.mpr ⟨gc_cse hX (fun _ _ => J12_frm) ug207 ck_2090 wf_2090, ?_⟩
  refine List.forall_mem_cons.mpr ⟨gc_cse hX (fun _ _ => J12_frm) ug198 ck_2103 wf_2103, ?_⟩
  refine List.forall_mem_cons.mpr ⟨gc_cse hX (fun _ _ => J12_frm) ug193 ck_2116 wf_2116, ?_⟩
  refine List.forall_mem_cons.mpr ⟨gc_cse hX (fun _ _ => J12_frm) ug186 ck_2129 wf_2129, ?_⟩
  refine List.forall_mem_cons.mpr ⟨gc_cse hX (fun _ _ => J12_frm) ug179 ck_2142 wf_2142, ?_⟩
  refine List.forall_mem_cons.mpr ⟨gc_cse hX (fun _ _ => J12_frm) ug165 ck_2155 wf_2155, ?_⟩
  refine List.forall_mem_cons.mpr ⟨gc_cse hX (fun _ _ => J12_frm) ug154 ck_2178 wf_2178, ?_⟩
  refine List.forall_mem_cons.mpr ⟨gc_cse hX (fun _ _ => J12_frm) ug142 ck_2191 wf_2191, ?_⟩
  refine List.forall_mem_cons.mpr ⟨gc_cse hX (fun _ _ => J12_frm) ug107 ck_2214 wf_2214, ?_⟩
  refine List.forall_mem_cons.mpr ⟨gv_mean hX, ?_⟩
  refine List.forall_mem_cons.mpr ⟨gv_mark hX, ?_⟩
  refine List.forall_mem_cons.mpr ⟨gv_undo hX, ?_⟩
  exact fun _ h => absurd h List.not_mem_nil
end LAW
