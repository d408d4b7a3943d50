section LAW
variable {dC : Nat → ClassId} {dI : Nat → Nat → Nat} {dA : Nat → ClassId} {sp : Nat → Nat} {H0 : Heap} {l : Launch} {ρ0 : List Nat} {ad : Nat → Nat} {rf : Nat → Nat → Option Nat} {L : LSc}
set_option maxRecDepth 100000 in
theorem ck_328 : cse tbq U0q un637 2296 = true := by decide +kernel
set_option maxRecDepth 100000 in
theorem wf_328 : wfr F10 un637.2.2.2.1 = true := by decide +kernel
set_option maxRecDepth 100000 in
theorem ck_341 : cse tbq U0q un636 2296 = true := by decide +kernel
set_option maxRecDepth 100000 in
theorem wf_341 : wfr F10 un636.2.2.2.1 = true := by decide +kernel
set_option maxRecDepth 100000 in
theorem ck_354 : cse tbq U0q un635 2296 = true := by decide +kernel
set_option maxRecDepth 100000 in
theorem wf_354 : wfr F10 un635.2.2.2.1 = true := by decide +kernel
set_option maxRecDepth 100000 in
theorem ck_367 : cse tbq U0q un634 2296 = true := by decide +kernel
set_option maxRecDepth 100000 in
theorem wf_367 : wfr F10 un634.2.2.2.1 = true := by decide +kernel
set_option maxRecDepth 100000 in
theorem ck_410 : cse tbq U0q un624 2296 = true := by decide +kernel
set_option maxRecDepth 100000 in
theorem wf_410 : wfr F10 un624.2.2.2.1 = true := by decide +kernel
set_option maxRecDepth 100000 in
theorem ck_483 : cse tbq U0q un621 2296 = true := by decide +kernel
set_option maxRecDepth 100000 in
theorem wf_483 : wfr F10 un621.2.2.2.1 = true := by decide +kernel
set_option maxRecDepth 100000 in
theorem ck_516 : cse tbq U0q un619 2296 = true := by decide +kernel
set_option maxRecDepth 100000 in
theorem wf_516 : wfr F10 un619.2.2.2.1 = true := by decide +kernel
set_option maxRecDepth 100000 in
theorem fk_X11_feed : frk tbq U0q un613 [(2, 0), (0, 0), (0, 0), (0, 0), (0, 0), (0, 0)] = true := by decide +kernel
theorem fr_X11_feed (hX : CTX dC dI dA sp H0 l ρ0 ad rf L) {h h' : PH} {as r : List ZV} (hT : Tq tbq L sp ad U0q h) (has : asok [(2, 0), (0, 0), (0, 0), (0, 0), (0, 0), (0, 0)] as) (hc : CP (zq sp ρ0) mX11_feed h as h' r) : Tq tbq L sp ad U0q h' :=
  (fr_ok u0_n u0_w u0_l u0_f (ug613 dC dI dA sp H0 l ρ0 ad rf L hX.1 (by have := hX.2.1; omega) hX.2.2.1) (show mqq 7 6 = some mX11_feed from rfl) (mth_gd (a := 7) (b := 6) rfl) hX.2.2.2.1 fk_X11_feed hT has hc).1
set_option maxRecDepth 100000 in
theorem fk_X12_feed : frk tbq U0q un614 [(2, 169), (0, 0), (0, 0), (0, 0), (0, 0), (0, 0)] = true := by decide +kernel
theorem fr_X12_feed (hX : CTX dC dI dA sp H0 l ρ0 ad rf L) {h h' : PH} {as r : List ZV} (hT : Tq tbq L sp ad U0q h) (has : asok [(2, 169), (0, 0), (0, 0), (0, 0), (0, 0), (0, 0)] as) (hc : CP (zq sp ρ0) mX12_feed h as h' r) : Tq tbq L sp ad U0q h' :=
  (fr_ok u0_n u0_w u0_l u0_f (ug614 dC dI dA sp H0 l ρ0 ad rf L hX.1 (by have := hX.2.1; omega) hX.2.2.1) (show mqq 12 2 = some mX12_feed from rfl) (mth_gd (a := 12) (b := 2) rfl) hX.2.2.2.1 fk_X12_feed hT has hc).1
set_option maxRecDepth 40000 in
set_option maxHeartbeats 1600000 in
theorem v_c_feed {sl : Nat} {si : Nat → Int} {fm : ZV} {K : Nat → PH → ZL → List ZV → Prop} {Q : PH → List ZV → Prop} {h : PH} {i : Int} (H : 0 ≤ w32 (i + 1) ∧ w32 (i + 1) < sl → R32 (si (w32 (i + 1)).toNat) → 0 ≤ w32 (i + 2) ∧ w32 (i + 2) < sl → R32 (si (w32 (i + 2)).toNat) → 0 ≤ w32 (i + 3) ∧ w32 (i + 3) < sl → R32 (si (w32 (i + 3)).toNat) → 0 ≤ w32 (i + 4) ∧ w32 (i + 4) < sl → R32 (si (w32 (i + 4)).toNat) → 0 ≤ w32 (i + 5) ∧ w32 (i + 5) < sl → R32 (si (w32 (i + 5)).toNat) → ∀ h1 v1, CP (zz sl si fm) mX11_feed h [(2, 0), (0, (si (w32 (i + 1)).toNat)), (0, (si (w32 (i + 2)).toNat)), (0, (si (w32 (i + 3)).toNat)), (0, (si (w32 (i + 4)).toNat)), (0, (si (w32 (i + 5)).toNat))] h1 [(0, v1)] → R32 v1 → 0 ≤ w32 (i + 1) ∧ w32 (i + 1) < sl → R32 (si (w32 (i + 1)).toNat) → 0 ≤ w32 (i + 2) ∧ w32 (i + 2) < sl → R32 (si (w32 (i + 2)).toNat) → 0 ≤ w32 (i + 3) ∧ w32 (i + 3) < sl → R32 (si (w32 (i + 3)).toNat) → 0 ≤ w32 (i + 4) ∧ w32 (i + 4) < sl → R32 (si (w32 (i + 4)).toNat) → 0 ≤ w32 (i + 5) ∧ w32 (i + 5) < sl → R32 (si (w32 (i + 5)).toNat) → ∀ h2 v2, CP (zz sl si fm) mX12_feed h1 [(2, 169), (0, (si (w32 (i + 1)).toNat)), (0, (si (w32 (i + 2)).toNat)), (0, (si (w32 (i + 3)).toNat)), (0, (si (w32 (i + 4)).toNat)), (0, (si (w32 (i + 5)).toNat))] h2 [(0, v2)] → R32 v2 → K 2296 h2 [(3, (0, i)), (2, (2, 169)), (1, (2, 0)), (0, (6, 0))] []) : vc (zz sl si fm) (fun p => Nat.beq p 2296) K Q mL_law 59 579 (ax_jmp mL_law.2.2.2.2.2.2 579) h [(3, (0, i)), (2, (2, 169)), (1, (2, 0)), (0, (6, 0))] [] := H
theorem gv_feed (hX : CTX dC dI dA sp H0 l ρ0 ad rf L) : GC J10 L sp ad ρ0 579 := gc_vc (fun h i hT hJ => v_c_feed (fun b1 r2 => (fun b3 r4 => (fun b5 r6 => (fun b7 r8 => (fun b9 r10 => (fun h1 v1 p1 q1 => (fun b11 r12 => (fun b13 r14 => (fun b15 r16 => (fun b17 r18 => (fun b19 r20 => (fun h2 v2 p2 q2 => (by exact ⟨rfl, fr_X12_feed hX (fr_X11_feed hX hT (by exact (And.intro rfl (And.intro (And.intro rfl r2) (And.intro (And.intro rfl r4) (And.intro (And.intro rfl r6) (And.intro (And.intro rfl r8) (And.intro (And.intro rfl r10) trivial))))))) p1) (by exact (And.intro rfl (And.intro (And.intro rfl r2) (And.intro (And.intro rfl r4) (And.intro (And.intro rfl r6) (And.intro (And.intro rfl r8) (And.intro (And.intro rfl r10) trivial))))))) p2, pr_feed10 hJ  p1 p2, rfl, rfl, rfl, rfl, trivial⟩))))))))))))))
set_option maxRecDepth 100000 in
theorem fk_X11_land : frk tbq U0q un575 [(2, 0), (0, 0)] = true := by decide +kernel
theorem fr_X11_land (hX : CTX dC dI dA sp H0 l ρ0 ad rf L) {h h' : PH} {as r : List ZV} (hT : Tq tbq L sp ad U0q h) (has : asok [(2, 0), (0, 0)] as) (hc : CP (zq sp ρ0) mX11_land h as h' r) : Tq tbq L sp ad U0q h' :=
  (fr_ok u0_n u0_w u0_l u0_f (ug575 dC dI dA sp H0 l ρ0 ad rf L hX.1 (by have := hX.2.1; omega) hX.2.2.1) (show mqq 7 7 = some mX11_land from rfl) (mth_gd (a := 7) (b := 7) rfl) hX.2.2.2.1 fk_X11_land hT has hc).1
set_option maxRecDepth 100000 in
theorem fk_X12_land : frk tbq U0q un609 [(2, 169), (0, 0)] = true := by decide +kernel
theorem fr_X12_land (hX : CTX dC dI dA sp H0 l ρ0 ad rf L) {h h' : PH} {as r : List ZV} (hT : Tq tbq L sp ad U0q h) (has : asok [(2, 169), (0, 0)] as) (hc : CP (zq sp ρ0) mX12_land h as h' r) : Tq tbq L sp ad U0q h' :=
  (fr_ok u0_n u0_w u0_l u0_f (ug609 dC dI dA sp H0 l ρ0 ad rf L hX.1 (by have := hX.2.1; omega) hX.2.2.1) (show mqq 13 10 = some mX12_land from rfl) (mth_gd (a := 13) (b := 10) rfl) hX.2.2.2.1 fk_X12_land hT has hc).1
set_option maxRecDepth 40000 in
set_option maxHeartbeats 1600000 in
theorem v_c_land {sl : Nat} {si : Nat → Int} {fm : ZV} {K : Nat → PH → ZL → List ZV → Prop} {Q : PH → List ZV → Prop} {h : PH} {i : Int} (H : 0 ≤ w32 (i + 1) ∧ w32 (i + 1) < sl → R32 (si (w32 (i + 1)).toNat) → ∀ h1 v1, CP (zz sl si fm) mX11_land h [(2, 0), (0, (si (w32 (i + 1)).toNat))] h1 [(0, v1)] → R32 v1 → 0 ≤ w32 (i + 1) ∧ w32 (i + 1) < sl → R32 (si (w32 (i + 1)).toNat) → ∀ h2 v2, CP (zz sl si fm) mX12_land h1 [(2, 169), (0, (si (w32 (i + 1)).toNat))] h2 [(0, v2)] → R32 v2 → (v1 = v2 → K 2296 h2 [(3, (0, i)), (2, (2, 169)), (1, (2, 0)), (0, (6, 0))] []) ∧ (¬ (v1 = v2) → Q h2 [(0, 0)])) : vc (zz sl si fm) (fun p => Nat.beq p 2296) K Q mL_law 19 642 (ax_jmp mL_law.2.2.2.2.2.2 642) h [(3, (0, i)), (2, (2, 169)), (1, (2, 0)), (0, (6, 0))] [] := H
theorem gv_land (hX : CTX dC dI dA sp H0 l ρ0 ad rf L) : GC J10 L sp ad ρ0 642 := gc_vc (fun h i hT hJ => v_c_land (fun b1 r2 => (fun h1 v1 p1 q1 => (fun b3 r4 => (fun h2 v2 p2 q2 => ⟨fun c5 => (by exact ⟨rfl, fr_X12_land hX (fr_X11_land hX hT (by exact (And.intro rfl (And.intro (And.intro rfl r2) trivial))) p1) (by exact (And.intro rfl (And.intro (And.intro rfl r2) trivial))) p2, (pr_land hJ  p1 p2).1, rfl, rfl, rfl, rfl, trivial⟩), fun c5 => (by exact absurd ((pr_land hJ  p1 p2).2) (by assumption))⟩)))))
set_option maxRecDepth 100000 in
theorem fk_X11_tales : frk tbq U0q un491 [(2, 0), (0, 0)] = true := by decide +kernel
theorem fr_X11_tales (hX : CTX dC dI dA sp H0 l ρ0 ad rf L) {h h' : PH} {as r : List ZV} (hT : Tq tbq L sp ad U0q h) (has : asok [(2, 0), (0, 0)] as) (hc : CP (zq sp ρ0) mX11_tales h as h' r) : Tq tbq L sp ad U0q h' :=
  (fr_ok u0_n u0_w u0_l u0_f (ug491 dC dI dA sp H0 l ρ0 ad rf L hX.1 (by have := hX.2.1; omega) hX.2.2.1) (show mqq 7 8 = some mX11_tales from rfl) (mth_gd (a := 7) (b := 8) rfl) hX.2.2.2.1 fk_X11_tales hT has hc).1
set_option maxRecDepth 100000 in
theorem fww_X11_tales : wfr FA10 un491.2.2.2.1 = true := by decide +kernel
theorem fw_X11_tales (hX : CTX dC dI dA sp H0 l ρ0 ad rf L) {h h' : PH} {as r : List ZV} (hT : Tq tbq L sp ad U0q h) (has : asok [(2, 0), (0, 0)] as) (hc : CP (zq sp ρ0) mX11_tales h as h' r) : Frm FA10 h h' := fun g hg k h1 h2 =>
  (fr_ok u0_n u0_w u0_l u0_f (ug491 dC dI dA sp H0 l ρ0 ad rf L hX.1 (by have := hX.2.1; omega) hX.2.2.1) (show mqq 7 8 = some mX11_tales from rfl) (mth_gd (a := 7) (b := 8) rfl) hX.2.2.2.1 fk_X11_tales hT has hc).2 _ _ (wfr_ok fww_X11_tales hg h1 h2)
set_option maxRecDepth 100000 in
theorem fk_X12_tales : frk tbq U0q un535 [(2, 169), (0, 0)] = true := by decide +kernel
theorem fr_X12_tales (hX : CTX dC dI dA sp H0 l ρ0 ad rf L) {h h' : PH} {as r : List ZV} (hT : Tq tbq L sp ad U0q h) (has : asok [(2, 169), (0, 0)] as) (hc : CP (zq sp ρ0) mX12_tales h as h' r) : Tq tbq L sp ad U0q h' :=
  (fr_ok u0_n u0_w u0_l u0_f (ug535 dC dI dA sp H0 l ρ0 ad rf L hX.1 (by have := hX.2.1; omega) hX.2.2.1) (show mqq 13 16 = some mX12_tales from rfl) (mth_gd (a := 13) (b := 16) rfl) hX.2.2.2.1 fk_X12_tales hT has hc).1
set_option maxRecDepth 100000 in
theorem fww_X12_tales : wfr FB10 un535.2.2.2.1 = true := by decide +kernel
theorem fw_X12_tales (hX : CTX dC dI dA sp H0 l ρ0 ad rf L) {h h' : PH} {as r : List ZV} (hT : Tq tbq L sp ad U0q h) (has : asok [(2, 169), (0, 0)] as) (hc : CP (zq sp ρ0) mX12_tales h as h' r) : Frm FB10 h h' := fun g hg k h1 h2 =>
  (fr_ok u0_n u0_w u0_l u0_f (ug535 dC dI dA sp H0 l ρ0 ad rf L hX.1 (by have := hX.2.1; omega) hX.2.2.1) (show mqq 13 16 = some mX12_tales from rfl) (mth_gd (a := 13) (b := 16) rfl) hX.2.2.2.1 fk_X12_tales hT has hc).2 _ _ (wfr_ok fww_X12_tales hg h1 h2)
set_option maxRecDepth 40000 in
set_option maxHeartbeats 1600000 in
theorem v_c_tales {sl : Nat} {si : Nat → Int} {fm : ZV} {K : Nat → PH → ZL → List ZV → Prop} {Q : PH → List ZV → Prop} {h : PH} {i : Int} (H : 0 ≤ w32 (i + 1) ∧ w32 (i + 1) < sl → R32 (si (w32 (i + 1)).toNat) → ∀ h1 v1, CP (zz sl si fm) mX11_tales h [(2, 0), (0, (si (w32 (i + 1)).toNat))] h1 [(0, v1)] → R32 v1 → 0 ≤ w32 (i + 1) ∧ w32 (i + 1) < sl → R32 (si (w32 (i + 1)).toNat) → ∀ h2 v2, CP (zz sl si fm) mX12_tales h1 [(2, 169), (0, (si (w32 (i + 1)).toNat))] h2 [(0, v2)] → R32 v2 → K 2296 h2 [(3, (0, i)), (2, (2, 169)), (1, (2, 0)), (0, (6, 0))] []) : vc (zz sl si fm) (fun p => Nat.beq p 2296) K Q mL_law 19 665 (ax_jmp mL_law.2.2.2.2.2.2 665) h [(3, (0, i)), (2, (2, 169)), (1, (2, 0)), (0, (6, 0))] [] := H
theorem gv_tales (hX : CTX dC dI dA sp H0 l ρ0 ad rf L) : GC J10 L sp ad ρ0 665 := gc_vc (fun h i hT hJ => v_c_tales (fun b1 r2 => (fun h1 v1 p1 q1 => (fun b3 r4 => (fun h2 v2 p2 q2 => (by exact ⟨rfl, fr_X12_tales hX (fr_X11_tales hX hT (by exact (And.intro rfl (And.intro (And.intro rfl r2) trivial))) p1) (by exact (And.intro rfl (And.intro (And.intro rfl r2) trivial))) p2, pr_tales hJ  (fw_X11_tales hX hT (by exact (And.intro rfl (And.intro (And.intro rfl r2) trivial))) p1) (fw_X12_tales hX (fr_X11_tales hX hT (by exact (And.intro rfl (And.intro (And.intro rfl r2) trivial))) p1) (by exact (And.intro rfl (And.intro (And.intro rfl r2) trivial))) p2) p1 p2, rfl, rfl, rfl, rfl, trivial⟩))))))
set_option maxRecDepth 100000 in
theorem ck_688 : cse tbq U0q un478 2296 = true := by decide +kernel
set_option maxRecDepth 100000 in
theorem wf_688 : wfr F10 un478.2.2.2.1 = true := by decide +kernel
set_option maxRecDepth 100000 in
theorem ck_711 : cse tbq U0q un477 2296 = true := by decide +kernel
set_option maxRecDepth 100000 in
theorem wf_711 : wfr F10 un477.2.2.2.1 = true := by decide +kernel
set_option maxRecDepth 100000 in
theorem ck_734 : cse tbq U0q un468 2296 = true := by decide +kernel
set_option maxRecDepth 100000 in
theorem wf_734 : wfr F10 un468.2.2.2.1 = true := by decide +kernel
set_option maxRecDepth 100000 in
theorem ck_767 : cse tbq U0q un465 2296 = true := by decide +kernel
set_option maxRecDepth 100000 in
theorem wf_767 : wfr F10 un465.2.2.2.1 = true := by decide +kernel
set_option maxRecDepth 100000 in
theorem ck_800 : cse tbq U0q un462 2296 = true := by decide +kernel
set_option maxRecDepth 100000 in
theorem wf_800 : wfr F10 un462.2.2.2.1 = true := by decide +kernel
set_option maxRecDepth 100000 in
theorem ck_833 : cse tbq U0q un460 2296 = true := by decide +kernel
set_option maxRecDepth 100000 in
theorem wf_833 : wfr F10 un460.2.2.2.1 = true := by decide +kernel
set_option maxRecDepth 100000 in
theorem ck_866 : cse tbq U0q un457 2296 = true := by decide +kernel
set_option maxRecDepth 100000 in
theorem wf_866 : wfr F10 un457.2.2.2.1 = true := by decide +kernel
set_option maxRecDepth 100000 in
theorem ck_889 : cse tbq U0q un456 2296 = true := by decide +kernel
set_option maxRecDepth 100000 in
theorem wf_889 : wfr F10 un456.2.2.2.1 = true := by decide +kernel
set_option maxRecDepth 100000 in
theorem ck_922 : cse tbq U0q un450 2296 = true := by decide +kernel
set_option maxRecDepth 100000 in
theorem wf_922 : wfr F10 un450.2.2.2.1 = true := by decide +kernel
set_option maxRecDepth 100000 in
theorem ck_945 : cse tbq U0q un447 2296 = true := by decide +kernel
set_option maxRecDepth 100000 in
theorem wf_945 : wfr F10 un447.2.2.2.1 = true := by decide +kernel
set_option maxRecDepth 100000 in
theorem ck_968 : cse tbq U0q un446 2296 = true := by decide +kernel
set_option maxRecDepth 100000 in
theorem wf_968 : wfr F10 un446.2.2.2.1 = true := by decide +kernel
set_option maxRecDepth 100000 in
theorem ck_1001 : cse tbq U0q un443 2296 = true := by decide +kernel
set_option maxRecDepth 100000 in
theorem wf_1001 : wfr F10 un443.2.2.2.1 = true := by decide +kernel
set_option maxRecDepth 100000 in
theorem ck_1044 : cse tbq U0q un438 2296 = true := by decide +kernel
set_option maxRecDepth 100000 in
theorem wf_1044 : wfr F10 un438.2.2.2.1 = true := by decide +kernel
set_option maxRecDepth 100000 in
theorem ck_1093 : cse tbq U0q un435 2296 = true := by decide +kernel
set_option maxRecDepth 100000 in
theorem wf_1093 : wfr F10 un435.2.2.2.1 = true := by decide +kernel
set_option maxRecDepth 100000 in
theorem ck_1142 : cse tbq U0q un432 2296 = true := by decide +kernel
set_option maxRecDepth 100000 in
theorem wf_1142 : wfr F10 un432.2.2.2.1 = true := by decide +kernel
set_option maxRecDepth 100000 in
theorem ck_1201 : cse tbq U0q un429 2296 = true := by decide +kernel
set_option maxRecDepth 100000 in
theorem wf_1201 : wfr F10 un429.2.2.2.1 = true := by decide +kernel
set_option maxRecDepth 100000 in
theorem ck_1234 : cse tbq U0q un426 2296 = true := by decide +kernel
set_option maxRecDepth 100000 in
theorem wf_1234 : wfr F10 un426.2.2.2.1 = true := by decide +kernel
set_option maxRecDepth 100000 in
theorem ck_1267 : cse tbq U0q un423 2296 = true := by decide +kernel
set_option maxRecDepth 100000 in
theorem wf_1267 : wfr F10 un423.2.2.2.1 = true := by decide +kernel
set_option maxRecDepth 100000 in
theorem ck_1290 : cse tbq U0q un420 2296 = true := by decide +kernel
set_option maxRecDepth 100000 in
theorem wf_1290 : wfr F10 un420.2.2.2.1 = true := by decide +kernel
set_option maxRecDepth 100000 in
theorem ck_1313 : cse tbq U0q un417 2296 = true := by decide +kernel
set_option maxRecDepth 100000 in
theorem wf_1313 : wfr F10 un417.2.2.2.1 = true := by decide +kernel
set_option maxRecDepth 100000 in
theorem ck_1346 : cse tbq U0q un414 2296 = true := by decide +kernel
set_option maxRecDepth 100000 in
theorem wf_1346 : wfr F10 un414.2.2.2.1 = true := by decide +kernel
set_option maxRecDepth 100000 in
theorem ck_1379 : cse tbq U0q un411 2296 = true := by decide +kernel
set_option maxRecDepth 100000 in
theorem wf_1379 : wfr F10 un411.2.2.2.1 = true := by decide +kernel
set_option maxRecDepth 100000 in
theorem ck_1402 : cse tbq U0q un403 2296 = true := by decide +kernel
set_option maxRecDepth 100000 in
theorem wf_1402 : wfr F10 un403.2.2.2.1 = true := by decide +kernel
set_option maxRecDepth 100000 in
theorem ck_1425 : cse tbq U0q un396 2296 = true := by decide +kernel
set_option maxRecDepth 100000 in
theorem wf_1425 : wfr F10 un396.2.2.2.1 = true := by decide +kernel
set_option maxRecDepth 100000 in
theorem ck_1458 : cse tbq U0q un388 2296 = true := by decide +kernel
set_option maxRecDepth 100000 in
theorem wf_1458 : wfr F10 un388.2.2.2.1 = true := by decide +kernel
set_option maxRecDepth 100000 in
theorem ck_1491 : cse tbq U0q un379 2296 = true := by decide +kernel
set_option maxRecDepth 100000 in
theorem wf_1491 : wfr F10 un379.2.2.2.1 = true := by decide +kernel
set_option maxRecDepth 100000 in
theorem ck_1534 : cse tbq U0q un373 2296 = true := by decide +kernel
set_option maxRecDepth 100000 in
theorem wf_1534 : wfr F10 un373.2.2.2.1 = true := by decide +kernel
set_option maxRecDepth 100000 in
theorem ck_1567 : cse tbq U0q un362 2296 = true := by decide +kernel
set_option maxRecDepth 100000 in
theorem wf_1567 : wfr F10 un362.2.2.2.1 = true := by decide +kernel
set_option maxRecDepth 100000 in
theorem ck_1590 : cse tbq U0q un359 2296 = true := by decide +kernel
set_option maxRecDepth 100000 in
theorem wf_1590 : wfr F10 un359.2.2.2.1 = true := by decide +kernel
set_option maxRecDepth 100000 in
theorem ck_1623 : cse tbq U0q un353 2296 = true := by decide +kernel
set_option maxRecDepth 100000 in
theorem wf_1623 : wfr F10 un353.2.2.2.1 = true := by decide +kernel
set_option maxRecDepth 100000 in
theorem ck_1656 : cse tbq U0q un347 2296 = true := by decide +kernel
set_option maxRecDepth 100000 in
theorem wf_1656 : wfr F10 un347.2.2.2.1 = true := by decide +kernel
set_option maxRecDepth 100000 in
theorem ck_1669 : cse tbq U0q un344 2296 = true := by decide +kernel
set_option maxRecDepth 100000 in
theorem wf_1669 : wfr F10 un344.2.2.2.1 = true := by decide +kernel
set_option maxRecDepth 100000 in
theorem ck_1692 : cse tbq U0q un328 2296 = true := by decide +kernel
set_option maxRecDepth 100000 in
theorem wf_1692 : wfr F10 un328.2.2.2.1 = true := by decide +kernel
set_option maxRecDepth 100000 in
theorem ck_1705 : cse tbq U0q un324 2296 = true := by decide +kernel
set_option maxRecDepth 100000 in
theorem wf_1705 : wfr F10 un324.2.2.2.1 = true := by decide +kernel
set_option maxRecDepth 100000 in
theorem ck_1738 : cse tbq U0q un318 2296 = true := by decide +kernel
set_option maxRecDepth 100000 in
theorem wf_1738 : wfr F10 un318.2.2.2.1 = true := by decide +kernel
set_option maxRecDepth 100000 in
theorem ck_1771 : cse tbq U0q un305 2296 = true := by decide +kernel
set_option maxRecDepth 100000 in
theorem wf_1771 : wfr F10 un305.2.2.2.1 = true := by decide +kernel
set_option maxRecDepth 100000 in
theorem ck_1804 : cse tbq U0q un301 2296 = true := by decide +kernel
set_option maxRecDepth 100000 in
theorem wf_1804 : wfr F10 un301.2.2.2.1 = true := by decide +kernel
set_option maxRecDepth 100000 in
theorem ck_1827 : cse tbq U0q un298 2296 = true := by decide +kernel
set_option maxRecDepth 100000 in
theorem wf_1827 : wfr F10 un298.2.2.2.1 = true := by decide +kernel
set_option maxRecDepth 100000 in
theorem ck_1840 : cse tbq U0q un283 2296 = true := by decide +kernel
set_option maxRecDepth 100000 in
theorem wf_1840 : wfr F10 un283.2.2.2.1 = true := by decide +kernel
set_option maxRecDepth 100000 in
theorem ck_1853 : cse tbq U0q un274 2296 = true := by decide +kernel
set_option maxRecDepth 100000 in
theorem wf_1853 : wfr F10 un274.2.2.2.1 = true := by decide +kernel
set_option maxRecDepth 100000 in
theorem ck_1866 : cse tbq U0q un269 2296 = true := by decide +kernel
set_option maxRecDepth 100000 in
theorem wf_1866 : wfr F10 un269.2.2.2.1 = true := by decide +kernel
set_option maxRecDepth 100000 in
theorem ck_1889 : cse tbq U0q un264 2296 = true := by decide +kernel
set_option maxRecDepth 100000 in
theorem wf_1889 : wfr F10 un264.2.2.2.1 = true := by decide +kernel
set_option maxRecDepth 100000 in
theorem ck_1912 : cse tbq U0q un263 2296 = true := by decide +kernel
set_option maxRecDepth 100000 in
theorem wf_1912 : wfr F10 un263.2.2.2.1 = true := by decide +kernel
set_option maxRecDepth 100000 in
theorem ck_1935 : cse tbq U0q un262 2296 = true := by decide +kernel
set_option maxRecDepth 100000 in
theorem wf_1935 : wfr F10 un262.2.2.2.1 = true := by decide +kernel
set_option maxRecDepth 100000 in
theorem ck_1958 : cse tbq U0q un251 2296 = true := by decide +kernel
set_option maxRecDepth 100000 in
theorem wf_1958 : wfr F10 un251.2.2.2.1 = true := by decide +kernel
set_option maxRecDepth 100000 in
theorem ck_1991 : cse tbq U0q un248 2296 = true := by decide +kernel
set_option maxRecDepth 100000 in
theorem wf_1991 : wfr F10 un248.2.2.2.1 = true := by decide +kernel
set_option maxRecDepth 100000 in
theorem ck_2024 : cse tbq U0q un215 2296 = true := by decide +kernel
set_option maxRecDepth 100000 in
theorem wf_2024 : wfr F10 un215.2.2.2.1 = true := by decide +kernel
set_option maxRecDepth 100000 in
theorem ck_2047 : cse tbq U0q un207 2296 = true := by decide +kernel
set_option maxRecDepth 100000 in
theorem wf_2047 : wfr F10 un207.2.2.2.1 = true := by decide +kernel
set_option maxRecDepth 100000 in
theorem ck_2090 : cse tbq U0q un203 2296 = true := by decide +kernel
set_option maxRecDepth 100000 in
theorem wf_2090 : wfr F10 un203.2.2.2.1 = true := by decide +kernel
set_option maxRecDepth 100000 in
theorem ck_2103 : cse tbq U0q un194 2296 = true := by decide +kernel
set_option maxRecDepth 100000 in
theorem wf_2103 : wfr F10 un194.2.2.2.1 = true := by decide +kernel
set_option maxRecDepth 100000 in
theorem ck_2116 : cse tbq U0q un189 2296 = true := by decide +kernel
set_option maxRecDepth 100000 in
theorem wf_2116 : wfr F10 un189.2.2.2.1 = true := by decide +kernel
set_option maxRecDepth 100000 in
theorem ck_2129 : cse tbq U0q un182 2296 = true := by decide +kernel
set_option maxRecDepth 100000 in
theorem wf_2129 : wfr F10 un182.2.2.2.1 = true := by decide +kernel
set_option maxRecDepth 100000 in
theorem ck_2142 : cse tbq U0q un175 2296 = true := by decide +kernel
set_option maxRecDepth 100000 in
theorem wf_2142 : wfr F10 un175.2.2.2.1 = true := by decide +kernel
set_option maxRecDepth 100000 in
theorem ck_2155 : cse tbq U0q un161 2296 = true := by decide +kernel
set_option maxRecDepth 100000 in
theorem wf_2155 : wfr F10 un161.2.2.2.1 = true := by decide +kernel
set_option maxRecDepth 100000 in
theorem ck_2178 : cse tbq U0q un150 2296 = true := by decide +kernel
set_option maxRecDepth 100000 in
theorem wf_2178 : wfr F10 un150.2.2.2.1 = true := by decide +kernel
set_option maxRecDepth 100000 in
theorem ck_2191 : cse tbq U0q un138 2296 = true := by decide +kernel
set_option maxRecDepth 100000 in
theorem wf_2191 : wfr F10 un138.2.2.2.1 = true := by decide +kernel
set_option maxRecDepth 100000 in
theorem ck_2214 : cse tbq U0q un103 2296 = true := by decide +kernel
set_option maxRecDepth 100000 in
theorem wf_2214 : wfr F10 un103.2.2.2.1 = true := by decide +kernel
set_option maxRecDepth 100000 in
theorem ck_2237 : cse tbq U0q un101 2296 = true := by decide +kernel
set_option maxRecDepth 100000 in
theorem wf_2237 : wfr F10 un101.2.2.2.1 = true := by decide +kernel
set_option maxRecDepth 100000 in
theorem ck_2270 : cse tbq U0q un30 2296 = true := by decide +kernel
set_option maxRecDepth 100000 in
theorem wf_2270 : wfr F10 un30.2.2.2.1 = true := by decide +kernel
set_option maxRecDepth 100000 in
theorem ck_2283 : cse tbq U0q un20 2296 = true := by decide +kernel
set_option maxRecDepth 100000 in
theorem wf_2283 : wfr F10 un20.2.2.2.1 = true := by decide +kernel
theorem cs_all (hX : CTX dC dI dA sp H0 l ρ0 ad rf L) : ∀ p ∈ csL, GC J10 L sp ad ρ0 p := by
  unfold csL
  refine List.forall_mem_cons.mpr ⟨gc_cse hX (fun _ _ => J10_frm) ug637 ck_328 wf_328, ?_⟩
  refine List.forall_mem_cons.mpr ⟨gc_cse hX (fun _ _ => J10_frm) ug636 ck_341 wf_341, ?_⟩
  refine List.forall_mem_cons.mpr ⟨gc_cse hX (fun _ _ => J10_frm) ug635 ck_354 wf_354, ?_⟩
  refine List.forall_mem_cons.mpr ⟨gc_cse hX (fun _ _ => J10_frm) ug634 ck_367 wf_367, ?_⟩
  refine List.forall_mem_cons.mpr ⟨gc_cse hX (fun _ _ => J10_frm) ug624 ck_410 wf_410, ?_⟩
  refine List.forall_mem_cons.mpr ⟨gc_cse hX (fun _ _ => J10_frm) ug621 ck_483 wf_483, ?_⟩
  refine List.forall_mem_cons.mpr ⟨gc_cse hX (fun _ _ => J10_frm) ug619 ck_516 wf_516, ?_⟩
  refine List.forall_mem_cons.mpr ⟨gv_feed hX, ?_⟩
  refine List.forall_mem_cons.mpr ⟨gv_land hX, ?_⟩
  refine List.forall_mem_cons.mpr ⟨gv_tales hX, ?_⟩
  refine List.forall_mem_cons.mpr ⟨gc_cse hX (fun _ _ => J10_frm) ug478 ck_688 wf_688, ?_⟩
  refine List.forall_mem_cons.mpr ⟨gc_cse hX (fun _ _ => J10_frm) ug477 ck_711 wf_711, ?_⟩
  refine List.forall_mem_cons.mpr ⟨gc_cse hX (fun _ _ => J10_frm) ug468 ck_734 wf_734, ?_⟩
  refine List.forall_mem_cons.mpr ⟨gc_cse hX (fun _ _ => J10_frm) ug465 ck_767 wf_767, ?_⟩
  refine List.forall_mem_cons.mpr ⟨gc_cse hX (fun _ _ => J10_frm) ug462 ck_800 wf_800, ?_⟩
  refine List.forall_mem_cons.mpr ⟨gc_cse hX (fun _ _ => J10_frm) ug460 ck_833 wf_833, ?_⟩
  refine List.forall_mem_cons.mpr ⟨gc_cse hX (fun _ _ => J10_frm) ug457 ck_866 wf_866, ?_⟩
  refine List.forall_mem_cons.mpr ⟨gc_cse hX (fun _ _ => J10_frm) ug456 ck_889 wf_889, ?_⟩
  refine List.forall_mem_cons.mpr ⟨gc_cse hX (fun _ _ => J10_frm) ug450 ck_922 wf_922, ?_⟩
  refine List.forall_mem_cons.mpr ⟨gc_cse hX (fun _ _ => J10_frm) ug447 ck_945 wf_945, ?_⟩
  refine List.forall_mem_cons.mpr ⟨gc_cse hX (fun _ _ => J10_frm) ug446 ck_968 wf_968, ?_⟩
  refine List.forall_mem_cons.mpr ⟨gc_cse hX (fun _ _ => J10_frm) ug443 ck_1001 wf_1001, ?_⟩
  refine List.forall_mem_cons.mpr ⟨gc_cse hX (fun _ _ => J10_frm) ug438 ck_1044 wf_1044, ?_⟩
  refine List.forall_mem_cons.mpr ⟨gc_cse hX (fun _ _ => J10_frm) ug435 ck_1093 wf_1093, ?_⟩
  refine List.forall_mem_cons.mpr ⟨gc_cse hX (fun _ _ => J10_frm) ug432 ck_1142 wf_1142, ?_⟩
  refine List.forall_mem_cons.mpr ⟨gc_cse hX (fun _ _ => J10_frm) ug429 ck_1201 wf_1201, ?_⟩
  refine List.forall_mem_cons.mpr ⟨gc_cse hX (fun _ _ => J10_frm) ug426 ck_1234 wf_1234, ?_⟩
  refine List.forall_mem_cons.mpr ⟨gc_cse hX (fun _ _ => J10_frm) ug423 ck_1267 wf_1267, ?_⟩
  refine List.forall_mem_cons.mpr ⟨gc_cse hX (fun _ _ => J10_frm) ug420 ck_1290 wf_1290, ?_⟩
  refine List.forall_mem_cons.mpr ⟨gc_cse hX (fun _ _ => J10_frm) ug417 ck_1313 wf_1313, ?_⟩
  refine List.forall_mem_cons.mpr ⟨gc_cse hX (fun _ _ => J10_frm) ug414 ck_1346 wf_1346, ?_⟩
  refine List.forall_mem_cons.mpr ⟨gc_cse hX (fun _ _ => J10_frm) ug411 ck_1379 wf_1379, ?_⟩
  refine List.forall_mem_cons.mpr ⟨gc_cse hX (fun _ _ => J10_frm) ug403 ck_1402 wf_1402, ?_⟩
  refine List.forall_mem_cons.mpr ⟨gc_cse hX (fun _ _ => J10_frm) ug396 ck_1425 wf_1425, ?_⟩
  refine List.forall_mem_cons.mpr ⟨gc_cse hX (fun _ _ => J10_frm) ug388 ck_1458 wf_1458, ?_⟩
  refine List.forall_mem_cons.mpr ⟨gc_cse hX (fun _ _ => J10_frm) ug379 ck_1491 wf_1491, ?_⟩
  refine List.forall_mem_cons.mpr ⟨gc_cse hX (fun _ _ => J10_frm) ug373 ck_1534 wf_1534, ?_⟩
  refine List.forall_mem_cons.mpr ⟨gc_cse hX (fun _ _ => J10_frm) ug362 ck_1567 wf_1567, ?_⟩
  refine List.forall_mem_cons.mpr ⟨gc_cse hX (fun _ _ => J10_frm) ug359 ck_1590 wf_1590, ?_⟩
  refine List.forall_mem_cons.mpr ⟨gc_cse hX (fun _ _ => J10_frm) ug353 ck_1623 wf_1623, ?_⟩
  refine List.forall_mem_cons.mpr ⟨gc_cse hX (fun _ _ => J10_frm) ug347 ck_1656 wf_1656, ?_⟩
  refine List.forall_mem_cons.mpr ⟨gc_cse hX (fun _ _ => J10_frm) ug344 ck_1669 wf_1669, ?_⟩
  refine List.forall_mem_cons.mpr ⟨gc_cse hX (fun _ _ => J10_frm) ug328 ck_1692 wf_1692, ?_⟩
  refine List.forall_mem_cons.mpr ⟨gc_cse hX (fun _ _ => J10_frm) ug324 ck_1705 wf_1705, ?_⟩
  refine List.forall_mem_cons.mpr ⟨gc_cse hX (fun _ _ => J10_frm) ug318 ck_1738 wf_1738, ?_⟩
  refine List.forall_mem_cons.mpr ⟨gc_cse hX (fun _ _ => J10_frm) ug305 ck_1771 wf_1771, ?_⟩
  refine List.forall_mem_cons.mpr ⟨gc_cse hX (fun _ _ => J10_frm) ug301 ck_1804 wf_1804, ?_⟩
  refine List.forall_mem_cons.mpr ⟨gc_cse hX (fun _ _ => J10_frm) ug298 ck_1827 wf_1827, ?_⟩
  refine List.forall_mem_cons.mpr ⟨gc_cse hX (fun _ _ => J10_frm) ug283 ck_1840 wf_1840, ?_⟩
  refine List.forall_mem_cons.mpr ⟨gc_cse hX (fun _ _ => J10_frm) ug274 ck_1853 wf_1853, ?_⟩
  refine List.forall_mem_cons.mpr ⟨gc_cse hX (fun _ _ => J10_frm) ug269 ck_1866 wf_1866, ?_⟩
  refine List.forall_mem_cons.mpr ⟨gc_cse hX (fun _ _ => J10_frm) ug264 ck_1889 wf_1889, ?_⟩
  refine List.forall_mem_cons.mpr ⟨gc_cse hX (fun _ _ => J10_frm) ug263 ck_1912 wf_1912, ?_⟩
  refine List.forall_mem_cons.mpr ⟨gc_cse hX (fun _ _ => J10_frm) ug262 ck_1935 wf_1935, ?_⟩
  refine List.forall_mem_cons.mpr ⟨gc_cse hX (fun _ _ => J10_frm) ug251 ck_1958 wf_1958, ?_⟩
  refine List.forall_mem_cons.mpr ⟨gc_cse hX (fun _ _ => J10_frm) ug248 ck_1991 wf_1991, ?_⟩
  refine List.forall_mem_cons.mpr ⟨gc_cse hX (fun _ _ => J10_frm) ug215 ck_2024 wf_2024, ?_⟩
  refine List.forall_mem_cons.mpr ⟨gc_cse hX (fun _ _ => J10_frm) ug207 ck_2047 wf_2047, ?_⟩
  refine List.forall_mem_cons.mpr ⟨gc_cse hX (fun _ _ => J10_frm) ug203 ck_2090 wf_2090, ?_⟩
  refine List.forall_mem_cons.mpr ⟨gc_cse hX (fun _ _ => J10_frm) ug194 ck_2103 wf_2103, ?_⟩
  refine List.forall_mem_cons.mpr ⟨gc_cse hX (fun _ _ => J10_frm) ug189 ck_2116 wf_2116, ?_⟩
  refine List.forall_mem_cons.mpr ⟨gc_cse hX (fun _ _ => J10_frm) ug182 ck_2129 wf_2129, ?_⟩
  refine List.forall_mem_cons.mpr ⟨gc_cse hX (fun _ _ => J10_frm) ug175 ck_2142 wf_2142, ?_⟩
  refine List.forall_mem_cons.mpr ⟨gc_cse hX (fun _ _ => J10_frm) ug161 ck_2155 wf_2155, ?_⟩
  refine List.forall_mem_cons.mpr ⟨gc_cse hX (fun _ _ => J10_frm) ug150 ck_2178 wf_2178, ?_⟩
  refine List.forall_mem_cons.mpr ⟨gc_cse hX (fun _ _ => J10_frm) ug138 ck_2191 wf_2191, ?_⟩
  refine List.forall_mem_cons.mpr ⟨gc_cse hX (fun _ _ => J10_frm) ug103 ck_2214 wf_2214, ?_⟩
  refine List.forall_mem_cons.mpr ⟨gc_cse hX (fun _ _ => J10_frm) ug101 ck_2237 wf_2237, ?_⟩
  refine List.forall_mem_cons.mpr ⟨gc_cse hX (fun _ _ => J10_frm) ug30 ck_2270 wf_2270, ?_⟩
  refine List.forall_mem_cons.mpr ⟨gc_cse hX (fun _ _ => J10_frm) ug20 ck_2283 wf_2283, ?_⟩
  exact fun _ h => absurd h List.not_mem_nil
end LAW
