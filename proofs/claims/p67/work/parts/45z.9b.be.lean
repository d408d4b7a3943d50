/-! live(): a life in the reference -/
def RFS (Y h : PH) (T : Nat → Int) (k : Int) : Prop := ∀ o : Nat, opk Y k o → Y 44 o = 21 → h 182 o = T o - 1
theorem RFS.st {L Y h g M M' : PH} {k k' x x' d d' m m' : Int} {T T' : Nat → Int} (w : WYc L Y) (t : lstp Y (k, M, x, T, d, m) (k', M', x', T', d', m')) (e : ENk Y T k) (r : RFS Y h T k) (h1 : ∀ o : Nat, (o : Int) < k → (Y 44 k.toNat = 22 → (o : Int) ≠ Y 48 k.toNat) → g 182 o = h 182 o) (h2 : Y 44 k.toNat = 21 → g 182 k.toNat = Y 47 k.toNat - 1) (h3 : Y 44 k.toNat = 22 → Y 44 (Y 48 k.toNat).toNat = 21 → 0 < w32 (T (Y 48 k.toNat).toNat - 1) → g 182 (Y 48 k.toNat).toNat = h 182 (Y 48 k.toNat).toNat - 1) : RFS Y g T' k' := fun o ho h21 => by
  have ks := t.1
  dsimp only at ks
  rcases (lstp_o w t).2 o ho with ⟨a, b, c⟩ | ⟨a, b, c⟩ | ⟨a, b, c, d, f, q⟩
  · dsimp only at a b c
    rw [h1 o a.1 c, b]; exact r o a h21
  · dsimp only at a b c
    have eo : o = k.toNat := by omega
    subst eo
    rw [h2 h21, c h21]
  · dsimp only at a b c d f q
    have eo : o = (Y 48 k.toNat).toNat := by omega
    have en := e o q c
    have ro := r o q c
    subst eo
    rw [h3 a c f, d, ro, w32_id (by omega) (by omega)]
def rwX (Y h : PH) : Prop := ∀ k : Nat, (k : Int) < Y 43 2 → (h 170 (164 + 6 * k) = kcd (Y 44 k)) ∧ (isP (Y 44 k) → h 170 (168 + 6 * k) = Y 48 k)
theorem RTl.x {h Y : PH} (t : RTl 0 h Y) : rwX Y h := fun k hk => ⟨by have := t.2.1 k hk 0 (by omega) (by omega); rw [show 528 * 0 + 164 + 6 * k + 0 = 164 + 6 * k by omega] at this; exact this, fun p => by have := t.2.2 k hk p; rw [show 528 * 0 + 168 + 6 * k = 168 + 6 * k by omega] at this; exact this⟩
theorem RTl.fr {h h' Y : PH} (t : RTl 0 h Y) (h60 : Y 43 2 ≤ 60) (e : ∀ k : Nat, k = 4 ∨ (164 ≤ k ∧ k < 528) → h' 170 k = h 170 k) : RTl 0 h' Y := ⟨(e _ (by omega)).trans t.1, fun k hk i hi h4 => (e _ (by omega)).trans (t.2.1 k hk i hi h4), fun k hk p => (e _ (by omega)).trans (t.2.2 k hk p)⟩
theorem kcd_19 {L : PH} {K a b n : Int} (o : okw L K a b n) : (kcd K = 19 ↔ K = 22) ∧ (kcd K = 18 ↔ K = 21) ∧ (kcd K = 20 ↔ K = 23) ∧ (1700 ≤ kcd K ↔ 18 ≤ K ∧ K ≤ 20) := by
  have kk := o.1
  unfold kcd
  by_cases q : K = 1
  · rw [if_pos q]; omega
  rw [if_neg q]
  by_cases q : K = 16
  · rw [if_pos q]; omega
  rw [if_neg q]
  by_cases q : K = 21
  · rw [if_pos q]; omega
  rw [if_neg q]
  by_cases q : K = 22
  · rw [if_pos q]; omega
  rw [if_neg q]
  by_cases q : K = 23
  · rw [if_pos q]; omega
  rw [if_neg q]
  by_cases q : K = 18
  · rw [if_pos q]; omega
  rw [if_neg q]
  by_cases q : K = 19
  · rw [if_pos q]; omega
  rw [if_neg q]
  by_cases q : K = 20
  · rw [if_pos q]; omega
  rw [if_neg q]
  omega
theorem ixw {k : Int} (h0 : 0 ≤ k) (h1 : k < 60) : w32 (164 + w32 (6 * k)) = 164 + 6 * k := by
  rw [w32_id (z := 6 * k) (by omega) (by omega), w32_id (by omega) (by omega)]
/-- between a place and the next, over the ENDs -/
def BE (Y M : PH) (x d m : Int) (f : (Int × PH × Int × (Nat → Int) × Int × Int)) (u : Int) (hx : PH) : Prop := ∃ n T, trL Y n (u, M, x, T, d, m) f ∧ (0 ≤ u ∧ u ≤ Y 43 2) ∧ ENk Y T u ∧ RFS Y hx T u
theorem BE.go {L Y M g hx : PH} {x d m u v : Int} {f : (Int × PH × Int × (Nat → Int) × Int × Int)} (b : BE Y M x d m f u hx) (w : WYc L Y) (ff : fin Y f) (hu : u < Y 43 2) (h22 : Y 44 u.toNat = 22) (h1 : ∀ o : Nat, (o : Int) ≠ Y 48 u.toNat → g 182 o = hx 182 o) (h2 : (Y 44 (Y 48 u.toNat).toNat = 21 ∧ 0 < hx 182 (Y 48 u.toNat).toNat ∧ v = Y 48 u.toNat + 1 ∧ g 182 (Y 48 u.toNat).toNat = hx 182 (Y 48 u.toNat).toNat - 1) ∨ (¬ (Y 44 (Y 48 u.toNat).toNat = 21 ∧ 0 < hx 182 (Y 48 u.toNat).toNat) ∧ v = u + 1)) : BE Y M x d m f v g := by
  obtain ⟨n, T, tr, ru, en, rs⟩ := b
  obtain ⟨n', ⟨k', M', x', T', d', m'⟩, -, t, tr'⟩ := trL_1 tr ff (fun q => q.elim (fun z => z ⟨ru.1, hu⟩) (fun z => z.1 h22))
  obtain ⟨o1, o2, o3⟩ := w.cl u.toNat (by omega) h22
  have t22 := t.2.2.2.2.1 h22
  have td : d' = d := t.2.2.1 h22
  obtain ⟨⟨e1, e2, e3⟩, e4, e5, e6⟩ := t22
  dsimp only at e1 e2 e3 e4 e5 e6
  have op : opk Y u (Y 48 u.toNat).toNat := ⟨by omega, by omega, o2⟩
  have eq : Y 44 (Y 48 u.toNat).toNat = 21 → (0 < w32 (T (Y 48 u.toNat).toNat - 1) ↔ 0 < hx 182 (Y 48 u.toNat).toNat) := fun h21 => by
    have := en _ op h21
    rw [rs _ op h21, w32_id (by omega) (by omega)]
  have ev : k' = v := by
    rcases h2 with ⟨q1, q2, q3, -⟩ | ⟨q1, q2⟩
    · rw [e5 ⟨q1, (eq q1).mpr q2⟩, q3]
    · rw [e6 (fun z => q1 ⟨z.1, (eq z.1).mp z.2⟩), q2]
  have rg := (lstp_o w t).1
  have en2 := lstp_en w t en
  dsimp only at rg en2
  have r2 := rs.st (g := g) w t en (fun o ho hn => h1 o (hn h22)) (fun q => by omega) (fun _ h21 hp => by
    rcases h2 with ⟨-, -, -, q⟩ | ⟨q, -⟩
    · exact q
    · exact absurd ⟨h21, (eq h21).mp hp⟩ q)
  subst ev e1 e2 e3 td
  exact ⟨n', T', tr', rg, en2, r2⟩
set_option maxRecDepth 10000 in
theorem v_X12_behindEndsL {sl : Nat} {si : Nat → Int} {K : Nat → PH → ZL → List ZV → Prop} {Q : PH → List ZV → Prop} {h : PH}   {a : Int} (H : K 2 h [(2, (0, a)), (0, (2, 169)), (1, (0, a))] []) : vc (zz sl si (7, 0)) (fun p => Nat.beq p 2) K Q mX12_behindEnds 4 0 mX12_behindEnds.2.2.2.2.2.2 h [(0, (2, 169)), (1, (0, a))] [] := H
set_option maxRecDepth 10000 in
theorem v_X12_behindEndsL_2 {sl : Nat} {si : Nat → Int} {K : Nat → PH → ZL → List ZV → Prop} {Q : PH → List ZV → Prop} {h : PH}   {a : Int} {k : Int} (H : 0 ≤ (4 : Int) ∧ (4 : Int) < (3696 : Nat) → R32 (h 170 4) → ((h 170 4) ≤ k → Q h [(0, k)]) ∧ (¬ ((h 170 4) ≤ k) → 0 ≤ w32 (164 + (w32 (6 * k))) ∧ w32 (164 + (w32 (6 * k))) < (3696 : Nat) → R32 (h 170 (w32 (164 + (w32 (6 * k)))).toNat) → ((h 170 (w32 (164 + (w32 (6 * k)))).toNat) ≠ 19 → Q h [(0, k)]) ∧ (¬ ((h 170 (w32 (164 + (w32 (6 * k)))).toNat) ≠ 19) → 0 ≤ w32 ((w32 (164 + (w32 (6 * k)))) + 4) ∧ w32 ((w32 (164 + (w32 (6 * k)))) + 4) < (3696 : Nat) → R32 (h 170 (w32 ((w32 (164 + (w32 (6 * k)))) + 4)).toNat) → 0 ≤ w32 (164 + (w32 (6 * (h 170 (w32 ((w32 (164 + (w32 (6 * k)))) + 4)).toNat)))) ∧ w32 (164 + (w32 (6 * (h 170 (w32 ((w32 (164 + (w32 (6 * k)))) + 4)).toNat)))) < (3696 : Nat) → R32 (h 170 (w32 (164 + (w32 (6 * (h 170 (w32 ((w32 (164 + (w32 (6 * k)))) + 4)).toNat))))).toNat) → ((h 170 (w32 (164 + (w32 (6 * (h 170 (w32 ((w32 (164 + (w32 (6 * k)))) + 4)).toNat))))).toNat) ≠ 18 → 0 ≤ (h 170 (w32 ((w32 (164 + (w32 (6 * k)))) + 4)).toNat) ∧ (h 170 (w32 ((w32 (164 + (w32 (6 * k)))) + 4)).toNat) < (80 : Nat) → R32 (h 182 (h 170 (w32 ((w32 (164 + (w32 (6 * k)))) + 4)).toNat).toNat) → ((0 : Int) = 0 → 0 ≤ (h 170 (w32 ((w32 (164 + (w32 (6 * k)))) + 4)).toNat) ∧ (h 170 (w32 ((w32 (164 + (w32 (6 * k)))) + 4)).toNat) < (80 : Nat) → ((0 : Int) = 0 → K 2 (uph h 182 (h 170 (w32 ((w32 (164 + (w32 (6 * k)))) + 4)).toNat).toNat (w32 ((h 182 (h 170 (w32 ((w32 (164 + (w32 (6 * k)))) + 4)).toNat).toNat) - 0))) [(2, (0, w32 (k + 1))), (4, (0, 0)), (3, (0, (h 170 (w32 ((w32 (164 + (w32 (6 * k)))) + 4)).toNat))), (0, (2, 169)), (1, (0, a))] []) ∧ (¬ ((0 : Int) = 0) → K 2 (uph h 182 (h 170 (w32 ((w32 (164 + (w32 (6 * k)))) + 4)).toNat).toNat (w32 ((h 182 (h 170 (w32 ((w32 (164 + (w32 (6 * k)))) + 4)).toNat).toNat) - 0))) [(2, (0, w32 ((h 170 (w32 ((w32 (164 + (w32 (6 * k)))) + 4)).toNat) + 1))), (4, (0, 0)), (3, (0, (h 170 (w32 ((w32 (164 + (w32 (6 * k)))) + 4)).toNat))), (0, (2, 169)), (1, (0, a))] [])) ∧ (¬ ((0 : Int) = 0) → 0 ≤ (h 170 (w32 ((w32 (164 + (w32 (6 * k)))) + 4)).toNat) ∧ (h 170 (w32 ((w32 (164 + (w32 (6 * k)))) + 4)).toNat) < (80 : Nat) → ((0 : Int) = 0 → K 2 (uph h 182 (h 170 (w32 ((w32 (164 + (w32 (6 * k)))) + 4)).toNat).toNat (w32 ((h 182 (h 170 (w32 ((w32 (164 + (w32 (6 * k)))) + 4)).toNat).toNat) - 1))) [(2, (0, w32 (k + 1))), (4, (0, 0)), (3, (0, (h 170 (w32 ((w32 (164 + (w32 (6 * k)))) + 4)).toNat))), (0, (2, 169)), (1, (0, a))] []) ∧ (¬ ((0 : Int) = 0) → K 2 (uph h 182 (h 170 (w32 ((w32 (164 + (w32 (6 * k)))) + 4)).toNat).toNat (w32 ((h 182 (h 170 (w32 ((w32 (164 + (w32 (6 * k)))) + 4)).toNat).toNat) - 1))) [(2, (0, w32 ((h 170 (w32 ((w32 (164 + (w32 (6 * k)))) + 4)).toNat) + 1))), (4, (0, 0)), (3, (0, (h 170 (w32 ((w32 (164 + (w32 (6 * k)))) + 4)).toNat))), (0, (2, 169)), (1, (0, a))] []))) ∧ (¬ ((h 170 (w32 (164 + (w32 (6 * (h 170 (w32 ((w32 (164 + (w32 (6 * k)))) + 4)).toNat))))).toNat) ≠ 18) → 0 ≤ (h 170 (w32 ((w32 (164 + (w32 (6 * k)))) + 4)).toNat) ∧ (h 170 (w32 ((w32 (164 + (w32 (6 * k)))) + 4)).toNat) < (80 : Nat) → R32 (h 182 (h 170 (w32 ((w32 (164 + (w32 (6 * k)))) + 4)).toNat).toNat) → ((h 182 (h 170 (w32 ((w32 (164 + (w32 (6 * k)))) + 4)).toNat).toNat) ≤ 0 → 0 ≤ (h 170 (w32 ((w32 (164 + (w32 (6 * k)))) + 4)).toNat) ∧ (h 170 (w32 ((w32 (164 + (w32 (6 * k)))) + 4)).toNat) < (80 : Nat) → R32 (h 182 (h 170 (w32 ((w32 (164 + (w32 (6 * k)))) + 4)).toNat).toNat) → ((0 : Int) = 0 → 0 ≤ (h 170 (w32 ((w32 (164 + (w32 (6 * k)))) + 4)).toNat) ∧ (h 170 (w32 ((w32 (164 + (w32 (6 * k)))) + 4)).toNat) < (80 : Nat) → ((0 : Int) = 0 → K 2 (uph h 182 (h 170 (w32 ((w32 (164 + (w32 (6 * k)))) + 4)).toNat).toNat (w32 ((h 182 (h 170 (w32 ((w32 (164 + (w32 (6 * k)))) + 4)).toNat).toNat) - 0))) [(2, (0, w32 (k + 1))), (4, (0, 0)), (3, (0, (h 170 (w32 ((w32 (164 + (w32 (6 * k)))) + 4)).toNat))), (0, (2, 169)), (1, (0, a))] []) ∧ (¬ ((0 : Int) = 0) → K 2 (uph h 182 (h 170 (w32 ((w32 (164 + (w32 (6 * k)))) + 4)).toNat).toNat (w32 ((h 182 (h 170 (w32 ((w32 (164 + (w32 (6 * k)))) + 4)).toNat).toNat) - 0))) [(2, (0, w32 ((h 170 (w32 ((w32 (164 + (w32 (6 * k)))) + 4)).toNat) + 1))), (4, (0, 0)), (3, (0, (h 170 (w32 ((w32 (164 + (w32 (6 * k)))) + 4)).toNat))), (0, (2, 169)), (1, (0, a))] [])) ∧ (¬ ((0 : Int) = 0) → 0 ≤ (h 170 (w32 ((w32 (164 + (w32 (6 * k)))) + 4)).toNat) ∧ (h 170 (w32 ((w32 (164 + (w32 (6 * k)))) + 4)).toNat) < (80 : Nat) → ((0 : Int) = 0 → K 2 (uph h 182 (h 170 (w32 ((w32 (164 + (w32 (6 * k)))) + 4)).toNat).toNat (w32 ((h 182 (h 170 (w32 ((w32 (164 + (w32 (6 * k)))) + 4)).toNat).toNat) - 1))) [(2, (0, w32 (k + 1))), (4, (0, 0)), (3, (0, (h 170 (w32 ((w32 (164 + (w32 (6 * k)))) + 4)).toNat))), (0, (2, 169)), (1, (0, a))] []) ∧ (¬ ((0 : Int) = 0) → K 2 (uph h 182 (h 170 (w32 ((w32 (164 + (w32 (6 * k)))) + 4)).toNat).toNat (w32 ((h 182 (h 170 (w32 ((w32 (164 + (w32 (6 * k)))) + 4)).toNat).toNat) - 1))) [(2, (0, w32 ((h 170 (w32 ((w32 (164 + (w32 (6 * k)))) + 4)).toNat) + 1))), (4, (0, 0)), (3, (0, (h 170 (w32 ((w32 (164 + (w32 (6 * k)))) + 4)).toNat))), (0, (2, 169)), (1, (0, a))] []))) ∧ (¬ ((h 182 (h 170 (w32 ((w32 (164 + (w32 (6 * k)))) + 4)).toNat).toNat) ≤ 0) → 0 ≤ (h 170 (w32 ((w32 (164 + (w32 (6 * k)))) + 4)).toNat) ∧ (h 170 (w32 ((w32 (164 + (w32 (6 * k)))) + 4)).toNat) < (80 : Nat) → R32 (h 182 (h 170 (w32 ((w32 (164 + (w32 (6 * k)))) + 4)).toNat).toNat) → ((1 : Int) = 0 → 0 ≤ (h 170 (w32 ((w32 (164 + (w32 (6 * k)))) + 4)).toNat) ∧ (h 170 (w32 ((w32 (164 + (w32 (6 * k)))) + 4)).toNat) < (80 : Nat) → ((1 : Int) = 0 → K 2 (uph h 182 (h 170 (w32 ((w32 (164 + (w32 (6 * k)))) + 4)).toNat).toNat (w32 ((h 182 (h 170 (w32 ((w32 (164 + (w32 (6 * k)))) + 4)).toNat).toNat) - 0))) [(2, (0, w32 (k + 1))), (4, (0, 1)), (3, (0, (h 170 (w32 ((w32 (164 + (w32 (6 * k)))) + 4)).toNat))), (0, (2, 169)), (1, (0, a))] []) ∧ (¬ ((1 : Int) = 0) → K 2 (uph h 182 (h 170 (w32 ((w32 (164 + (w32 (6 * k)))) + 4)).toNat).toNat (w32 ((h 182 (h 170 (w32 ((w32 (164 + (w32 (6 * k)))) + 4)).toNat).toNat) - 0))) [(2, (0, w32 ((h 170 (w32 ((w32 (164 + (w32 (6 * k)))) + 4)).toNat) + 1))), (4, (0, 1)), (3, (0, (h 170 (w32 ((w32 (164 + (w32 (6 * k)))) + 4)).toNat))), (0, (2, 169)), (1, (0, a))] [])) ∧ (¬ ((1 : Int) = 0) → 0 ≤ (h 170 (w32 ((w32 (164 + (w32 (6 * k)))) + 4)).toNat) ∧ (h 170 (w32 ((w32 (164 + (w32 (6 * k)))) + 4)).toNat) < (80 : Nat) → ((1 : Int) = 0 → K 2 (uph h 182 (h 170 (w32 ((w32 (164 + (w32 (6 * k)))) + 4)).toNat).toNat (w32 ((h 182 (h 170 (w32 ((w32 (164 + (w32 (6 * k)))) + 4)).toNat).toNat) - 1))) [(2, (0, w32 (k + 1))), (4, (0, 1)), (3, (0, (h 170 (w32 ((w32 (164 + (w32 (6 * k)))) + 4)).toNat))), (0, (2, 169)), (1, (0, a))] []) ∧ (¬ ((1 : Int) = 0) → K 2 (uph h 182 (h 170 (w32 ((w32 (164 + (w32 (6 * k)))) + 4)).toNat).toNat (w32 ((h 182 (h 170 (w32 ((w32 (164 + (w32 (6 * k)))) + 4)).toNat).toNat) - 1))) [(2, (0, w32 ((h 170 (w32 ((w32 (164 + (w32 (6 * k)))) + 4)).toNat) + 1))), (4, (0, 1)), (3, (0, (h 170 (w32 ((w32 (164 + (w32 (6 * k)))) + 4)).toNat))), (0, (2, 169)), (1, (0, a))] []))))))) : vc (zz sl si (7, 0)) (fun p => Nat.beq p 2) K Q mX12_behindEnds 66 2 (ax_jmp mX12_behindEnds.2.2.2.2.2.2 2) h [(0, (2, 169)), (1, (0, a)), (2, (0, k))] [] := H
set_option maxHeartbeats 600000 in
theorem c_X12_behindEndsL {sl : Nat} {si : Nat → Int} {h h' : PH} {L Y M : PH} {f : (Int × PH × Int × (Nat → Int) × Int × Int)} {x d m a : Int} {v : Int} (ht : RTl 0 h Y) (w : WYc L Y) (h60 : Y 43 2 ≤ 60) (ff : fin Y f) (b0 : BE Y M x d m f a h) (hc : CP (zz sl si (7, 0)) mX12_behindEnds h [(2, 169), (0, a)] h' [(0, v)]) : (BE Y M x d m f v h' ∧ (v < Y 43 2 → Y 44 v.toNat ≠ 22)) ∧ ∀ c k : Nat, c ≠ 182 → h' c k = h c k := by
  have q : (fun (xh : PH) (r : List ZV) => ∀ v : Int, r = [(0, v)] → ((BE Y M x d m f v xh ∧ (v < Y 43 2 → Y 44 v.toNat ≠ 22)) ∧ ∀ c k : Nat, c ≠ 182 → xh c k = h c k)) h' [(0, v)] := by
    refine cp_vc (cut := (fun p => Nat.beq p 2)) (K := fun p hx lv st => (p = 2 ∧ lK (fun u : Int => [(0, (2, 169)), (1, (0, a)), (2, (0, u))]) (fun u hx => BE Y M x d m f u hx ∧ ∀ c k : Nat, c ≠ 182 → hx c k = h c k) p hx lv st)) (Q := fun (xh : PH) (r : List ZV) => ∀ v : Int, r = [(0, v)] → ((BE Y M x d m f v xh ∧ (v < Y 43 2 → Y 44 v.toNat ≠ 22)) ∧ ∀ c k : Nat, c ≠ 182 → xh c k = h c k)) (v_X12_behindEndsL ?_) (fun pc hx lv st hcut hK => ?_) hc
    · exact (by exact ⟨rfl, rfl, a, ⟨b0, fun _ _ _ => rfl⟩, rfl, rfl, rfl, trivial⟩)
    · rcases hK with ⟨rfl, rfl, u, hJ, hs⟩
      · obtain ⟨jb, jf⟩ := hJ
        have s4 : hx 170 4 = Y 43 2 := (jf 170 4 (by omega)).trans ht.1
        have rx := (ht.fr (h' := hx) h60 (fun k _ => jf 170 k (by omega))).x
        obtain ⟨-, -, -, u0, -⟩ := id jb
        exact ⟨_, _, hs, v_X12_behindEndsL_2 (fun b1 r2 => ⟨fun c3 => (by intro v e; cases e; exact ⟨⟨jb, fun z => by omega⟩, jf⟩), fun c3 => (fun b4 r5 => ⟨fun c6 => (by rw [s4] at c3; rw [ixw u0.1 (by omega)] at *; rw [show (164 + 6 * u).toNat = 164 + 6 * u.toNat by omega, (rx u.toNat (by omega)).1] at *; have k9 := kcd_19 (w.ok u.toNat (by omega)); intro v e; cases e; exact ⟨⟨jb, fun _ => by omega⟩, jf⟩), fun c6 => (fun b7 r8 => (fun b9 r10 => ⟨fun c11 => (fun b12 r13 => ⟨fun c14 => (fun b15 => ⟨fun c16 => (by rw [s4] at c3; rw [ixw u0.1 (by omega)] at *; rw [show (164 + 6 * u).toNat = 164 + 6 * u.toNat by omega, (rx u.toNat (by omega)).1] at *; have k9 := kcd_19 (w.ok u.toNat (by omega)); have h22 : Y 44 u.toNat = 22 := (by omega); have o := w.cl u.toNat (by omega) h22; rw [show (w32 (164 + 6 * u + 4)).toNat = 168 + 6 * u.toNat by (rw [w32_id (by omega) (by omega)]; omega), (rx u.toNat (by omega)).2 (by unfold isP; omega)] at *; rw [ixw o.1.1 (by omega)] at *; rw [show (164 + 6 * Y 48 u.toNat).toNat = 164 + 6 * (Y 48 u.toNat).toNat by omega, (rx (Y 48 u.toNat).toNat (by omega)).1] at *; have k8 := kcd_19 (w.ok (Y 48 u.toNat).toNat (by omega)); exact ⟨rfl, rfl, _, ⟨jb.go w ff (by omega) h22 (fun o ho => up_ne (by omega)) (Or.inr ⟨fun z => by omega, rfl⟩), fun c k q => (up_ne (by omega)).trans (jf c k q)⟩, rfl, rfl, wv (by omega) (by omega) rfl, trivial⟩), fun c16 => (by exact absurd rfl c16)⟩), fun c14 => (fun b17 => ⟨fun c18 => (by exact absurd rfl c14), fun c18 => (by exact absurd rfl c14)⟩)⟩), fun c11 => (fun b19 r20 => ⟨fun c21 => (fun b22 r23 => ⟨fun c24 => (fun b25 => ⟨fun c26 => (by rw [s4] at c3; rw [ixw u0.1 (by omega)] at *; rw [show (164 + 6 * u).toNat = 164 + 6 * u.toNat by omega, (rx u.toNat (by omega)).1] at *; have k9 := kcd_19 (w.ok u.toNat (by omega)); have h22 : Y 44 u.toNat = 22 := (by omega); have o := w.cl u.toNat (by omega) h22; rw [show (w32 (164 + 6 * u + 4)).toNat = 168 + 6 * u.toNat by (rw [w32_id (by omega) (by omega)]; omega), (rx u.toNat (by omega)).2 (by unfold isP; omega)] at *; rw [ixw o.1.1 (by omega)] at *; rw [show (164 + 6 * Y 48 u.toNat).toNat = 164 + 6 * (Y 48 u.toNat).toNat by omega, (rx (Y 48 u.toNat).toNat (by omega)).1] at *; have k8 := kcd_19 (w.ok (Y 48 u.toNat).toNat (by omega)); exact ⟨rfl, rfl, _, ⟨jb.go w ff (by omega) h22 (fun o ho => up_ne (by omega)) (Or.inr ⟨fun z => by omega, rfl⟩), fun c k q => (up_ne (by omega)).trans (jf c k q)⟩, rfl, rfl, wv (by omega) (by omega) rfl, trivial⟩), fun c26 => (by exact absurd rfl c26)⟩), fun c24 => (fun b27 => ⟨fun c28 => (by exact absurd rfl c24), fun c28 => (by exact absurd rfl c24)⟩)⟩), fun c21 => (fun b29 r30 => ⟨fun c31 => (fun b32 => ⟨fun c33 => (by omega), fun c33 => (by omega)⟩), fun c31 => (fun b34 => ⟨fun c35 => (by omega), fun c35 => (by rw [s4] at c3; rw [ixw u0.1 (by omega)] at *; rw [show (164 + 6 * u).toNat = 164 + 6 * u.toNat by omega, (rx u.toNat (by omega)).1] at *; have k9 := kcd_19 (w.ok u.toNat (by omega)); have h22 : Y 44 u.toNat = 22 := (by omega); have o := w.cl u.toNat (by omega) h22; rw [show (w32 (164 + 6 * u + 4)).toNat = 168 + 6 * u.toNat by (rw [w32_id (by omega) (by omega)]; omega), (rx u.toNat (by omega)).2 (by unfold isP; omega)] at *; rw [ixw o.1.1 (by omega)] at *; rw [show (164 + 6 * Y 48 u.toNat).toNat = 164 + 6 * (Y 48 u.toNat).toNat by omega, (rx (Y 48 u.toNat).toNat (by omega)).1] at *; have k8 := kcd_19 (w.ok (Y 48 u.toNat).toNat (by omega)); exact ⟨rfl, rfl, _, ⟨jb.go w ff (by omega) h22 (fun o ho => up_ne (by omega)) (Or.inl ⟨by omega, by omega, rfl, by rw [up_sm]; exact w32_id (by have := r30.1; omega) (by have := r30.2; omega)⟩), fun c k q => (up_ne (by omega)).trans (jf c k q)⟩, rfl, rfl, wv (by omega) (by omega) rfl, trivial⟩)⟩)⟩)⟩)⟩))⟩)⟩)⟩
  exact q v rfl
