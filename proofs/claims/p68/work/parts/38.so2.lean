section
/-! 38.so2 -/
/-! THE MACHINE BY FORMS is sound, 2: the heap, switches -/
theorem o32 {z : Int} (h1 : -2147483648 ≤ z) (h2 : z ≤ 2147483647) : (Int32.ofInt z).toInt = z := by
  rw [Int32.toInt_ofInt]
  exact bm32 h1 h2
theorem o64 {z : Int} (h1 : -9223372036854775808 ≤ z) (h2 : z ≤ 9223372036854775807) : (Int64.ofInt z).toInt = z := by
  rw [Int64.toInt_ofInt]
  exact bm64 h1 h2
theorem al2_s {l : List R2} {outs : List O2} (h : al2 l = some outs) : ∀ x ∈ l, ∃ o, x = some o ∧ ∀ z ∈ o, z ∈ outs := by
  induction l generalizing outs with
  | nil => intro x hx; cases hx
  | cons y t ih =>
    obtain ⟨u, v, e1, e2, rfl⟩ := two2_s (x := y) (y := al2 t) h
    intro x hx
    rcases List.mem_cons.mp hx with rfl | hx
    · exact ⟨u, e1, fun z hz => List.mem_append_left _ hz⟩
    · obtain ⟨o, e3, e4⟩ := ih e2 x hx
      exact ⟨o, e3, fun z hz => List.mem_append_right _ (e4 z hz)⟩
theorem spl_ok {ρ : List Int} {N : NS} (hN : Nk ρ N) {x : Nat} {z : Int} (hz : ρ[x]? = some z) {go : NS → R2} {outs : List O2} (h : spl N x go = some outs) : ∃ N' o, go N' = some o ∧ Nk ρ N' ∧ ∀ y ∈ o, y ∈ outs := by
  unfold spl at h
  rw [i_fc_eq, i_fc_eq] at h
  obtain ⟨g, h1⟩ := gd_s h
  have b := s_at_ok hN.1 hz
  obtain ⟨o, e1, e2⟩ := al2_s h1 _ (List.mem_map.mpr ⟨(z - (s_at N.1 x).1).toNat, List.mem_range.mpr (by omega), rfl⟩)
  rw [i_fc_eq, ax_set_eq] at e1
  have ez : (s_at N.1 x).1 + Int.ofNat (z - (s_at N.1 x).1).toNat = z := by
    show (s_at N.1 x).1 + (((z - (s_at N.1 x).1).toNat : Nat) : Int) = z
    omega
  rw [ez] at e1
  exact ⟨_, o, e1, ⟨hN.1.cut (fun y hy => by rw [hz] at hy; cases hy; exact ⟨Int.le_refl _, Int.le_refl _⟩), hN.2.1, hN.2.2⟩, e2⟩
theorem x_rf_ok {tb : TB} {L : LSc} {ρ : List Int} {h0 h : PH} {N : NS} {m : MM} (hN : Nk ρ N) (hm : Mk tb L ρ h0 h m) {c : Nat} {kk : NS → R2} {r : List O2} (hr : x_rf tb N m c kk = some r) : ∃ N', kk N' = some r ∧ Nk ρ N' := by
  unfold x_rf at hr
  cases h1 : isnil m.2.1 with
  | true => rw [h1] at hr; exact ⟨N, hr, hN⟩
  | false =>
    rw [h1] at hr
    simp only [cond_false] at hr
    cases h2 : gcell c tb.2.2.1 with
    | true => rw [h2] at hr; exact rfn_ok hN hm hr
    | false => rw [h2] at hr; exact ⟨N, hr, hN⟩
theorem x_bnd_ok {ρ : List Int} {N : NS} (hN : Nk ρ N) {I : LF} {i : Int} (hI : Lv ρ I i) {n : Nat} (h : x_bnd N I n = true) : 0 ≤ i ∧ i < n := by
  have w := bb_and h
  obtain ⟨f, f1, f2⟩ := lf_sc_ok (-1) I (Int.ofNat n - 1) (pv2 N)
  have w2 := w.2
  rw [f1] at w2
  have a := pv2_ok hN w.1 hI
  have b := pv2_ok hN w2 (f2 ρ _ hI)
  have : (Int.ofNat n : Int) = (n : Int) := rfl
  omega
theorem x_sw_ok {ρ : List Int} {v : LF} {x : Int32} (hv : Lv ρ v x.toInt) {N0 : NS} {go : Nat → NS → R2} {d : Nat} : ∀ (ks : List Nat) {N : NS} {outs : List O2}, Nk ρ N → x_sw N0 v go d ks N = some outs →
    (∃ k t N' o, ax_pr k t ks ∧ x = nI k ∧ go t N' = some o ∧ Nk ρ N' ∧ ∀ z ∈ o, z ∈ outs) ∨ ((∀ k t, ax_pr k t ks → x ≠ nI k) ∧ ∃ N' o, go d N' = some o ∧ Nk ρ N' ∧ ∀ z ∈ o, z ∈ outs)
  | [], N, outs, hN, h => Or.inr ⟨fun k t q => q.elim, N, outs, h, hN, fun _ hz => hz⟩
  | [_], N, outs, hN, h => Or.inr ⟨fun k t q => q.elim, N, outs, h, hN, fun _ hz => hz⟩
  | a :: b :: r, N, outs, hN, h => by
    have h : (bif Nat.blt a 4294967296 then br_eq N v (i32 a, []) (go b) (x_sw N0 v go d r) else none) = some outs := h
    cases hb : Nat.blt a 4294967296 with
    | false => rw [hb] at h; cases h
    | true =>
      rw [hb] at h
      have ha := i32_ok (bb_lt hb)
      have q := br_eq_ok hN hv (b := (i32 a, [])) (y := i32 a) (Lv.c ρ _) h
      by_cases c : x = nI a
      · obtain ⟨N', o, k1, k2, k3⟩ := q.1 (by rw [c, ha])
        exact Or.inl ⟨a, b, N', o, Or.inl ⟨rfl, rfl⟩, c, k1, k2, k3⟩
      · obtain ⟨N', o, k1, k2, k3⟩ := q.2 (fun e => c (Int32.toInt_inj.mp (by rw [e, ha])))
        rcases x_sw_ok hv r k2 k1 with ⟨k, t, N2, o2, l1, l2, l3, l4, l5⟩ | ⟨l1, N2, o2, l2, l3, l4⟩
        · exact Or.inl ⟨k, t, N2, o2, Or.inr l1, l2, l3, l4, fun z hz => k3 z (l5 z hz)⟩
        · refine Or.inr ⟨fun k t q => ?_, N2, o2, l2, l3, fun z hz => k3 z (l4 z hz)⟩
          rcases q with ⟨e1, e2⟩ | q
          · subst e1; exact c
          · exact l1 k t q
section SO
variable {tb : TB} {sb : Nat → List Nat} {dC : Nat → ClassId} {dI : Nat → Nat → Nat} {dA : Nat → ClassId} {sp : Nat → Nat} {H0 : Heap} {l : Launch} {ρ0 : List Nat} {ad : Nat → Nat} {rf : Nat → Nat → Option Nat} {L : LSc}
variable {M : MR} {pc len : Nat} {ins : Instr} {lk : List Nat} {h0 h : PH} {ρ : List Int} {N : NS} {m : MM} {lv : L2} {st : List V2} {LV : LVs} {SV : List Value} {P : PO} {outs : List O2}
theorem so_getf {kk : NS → MM → List V2 → R2} (hdg : Dg M pc ins len lk) (hlen : len = ax_len ins) (hlk : lok mth M pc ins lk = true) (ho : ax_op ins = 8) (hG : Ga tb L sp ad ρ h0 h (N, m, lv, st) LV SV) (hr : x_getf tb lk N m st kk = some outs)
    (GK : ∀ N' m' st', kk N' m' st' = some outs → ∀ ρ' SV', Sb ρ ρ' → Ga tb L sp ad ρ' h0 h (N', m', lv, st') LV SV' → Wp sb dC dI dA sp H0 l ρ0 ad rf tb.1 M (pc + len) h LV SV' P) : Wp sb dC dI dA sp H0 l ρ0 ad rf tb.1 M pc h LV SV P := by
  obtain ⟨hN, hm, hT, hL, hS⟩ := id hG
  unfold x_getf at hr
  obtain ⟨ci, lk1, rfl, hr1⟩ := lc_s hr
  obtain ⟨k, lk2', rfl, hr2⟩ := lc_s hr1
  obtain ⟨a, r, rfl, hr3⟩ := lc_s hr2
  obtain ⟨A, R, rfl, hA, hS2⟩ := hS.cons
  cases ha : Nat.beq a.1 2 with
  | true =>
    rw [ha] at hr3
    have hA2 : A = .ref (ad (cel a)) := hA.r ha
    subst hA2
    obtain ⟨q, q1, hr4⟩ := ob_s (o := ax_nth tb.1 (cel a)) hr3
    obtain ⟨g, hr5⟩ := gd_s hr4
    obtain ⟨f, f1, hr6⟩ := ob_s hr5
    have w := bb_and g
    rw [ax_nth_eq] at q1 f1
    have hq : tb.1[cel a]? = some (ci, q.2.1, q.2.2) := by rw [← bb_eq w.1]; exact q1
    cases hb : Nat.ble f.1 1 with
    | true =>
      rw [hb] at hr6
      simp only [cond_true] at hr6
      have hi : (Int.ofNat k).toNat = k := rfl
      obtain ⟨N', m', v, ρ', e1, e2, e3, e4, e5⟩ := ld_ok hN hm hT (Lv.c ρ (Int.ofNat k)) (Int.natCast_nonneg k) hr6
      obtain ⟨g2, e1'⟩ := gd_s e1
      rw [hi] at e5
      have := bb_le hb
      rcases (show f.1 = 0 ∨ f.1 = 1 by omega) with e | e
      · rw [e] at g2
        have b := in32_ok e3 g2 e5
        refine wp_getf hdg hlen hlk ho hq (bb_lt w.2) f1 (Or.inl ⟨e, b.1, b.2⟩) ?_
        refine GK _ _ _ e1' ρ' _ e2 ⟨e3, e4, hT, hL.mono e2, ?_, hS2.mono e2⟩
        unfold pf
        rw [e]
        exact ⟨_, rfl, by rw [o32 b.1 b.2]; exact e5⟩
      · rw [e] at g2
        have b := in64_ok e3 g2 e5
        refine wp_getf hdg hlen hlk ho hq (bb_lt w.2) f1 (Or.inr (Or.inl ⟨e, b.1, b.2⟩)) ?_
        refine GK _ _ _ e1' ρ' _ e2 ⟨e3, e4, hT, hL.mono e2, ?_, hS2.mono e2⟩
        unfold pf
        rw [e]
        exact ⟨_, rfl, by rw [o64 b.1 b.2]; exact e5⟩
    | false =>
      rw [hb] at hr6
      simp only [cond_false] at hr6
      obtain ⟨g2, hr7⟩ := gd_s hr6
      refine wp_getf hdg hlen hlk ho hq (bb_lt w.2) f1 (Or.inr (Or.inr (bb_eq g2))) ?_
      refine GK _ _ _ hr7 ρ _ (Sb.rf ρ) ⟨hN, hm, hT, hL, ?_, hS2⟩
      unfold pf
      rw [bb_eq g2]
      rfl
  | false =>
    rw [ha] at hr3
    simp only [cond_false] at hr3
    obtain ⟨g, hr8⟩ := gd_s hr3
    have w := bb_and g
    have w2 := bb_and w.2
    have hA2 : A = .retAddr (cel a) := hA.s w.1
    subst hA2
    have e2 := bb_eq w2.1
    subst e2
    refine wp_getS hdg hlen hlk ho (by
      rcases (Bool.or_eq_true _ _).mp w2.2 with z | z
      · exact Or.inl (bb_eq z)
      · exact Or.inr (bb_eq z)) ?_
    cases hk : Nat.beq k 0 with
    | true =>
      rw [hk] at hr8
      rw [if_pos (bb_eq hk)]
      exact GK _ _ _ hr8 ρ _ (Sb.rf ρ) ⟨hN, hm, hT, hL, rfl, hS2⟩
    | false =>
      rw [hk] at hr8
      rw [if_neg (bb_ne hk)]
      exact GK _ _ _ hr8 ρ _ (Sb.rf ρ) ⟨hN, hm, hT, hL, ⟨0, rfl, Lv.c ρ _⟩, hS2⟩
theorem so_putf {kk : MM → List V2 → R2} (hni : M.1.name ≠ "<init>") (hdg : Dg M pc ins len lk) (hlen : len = ax_len ins) (hlk : lok mth M pc ins lk = true) (ho : ax_op ins = 9) (hG : Ga tb L sp ad ρ h0 h (N, m, lv, st) LV SV) (hr : x_putf tb lk N m st kk = some outs)
    (GK : ∀ m' st', kk m' st' = some outs → ∀ h' SV', Ga tb L sp ad ρ h0 h' (N, m', lv, st') LV SV' → Wp sb dC dI dA sp H0 l ρ0 ad rf tb.1 M (pc + len) h' LV SV' P) : Wp sb dC dI dA sp H0 l ρ0 ad rf tb.1 M pc h LV SV P := by
  obtain ⟨hN, hm, hT, hL, hS⟩ := id hG
  unfold x_putf at hr
  obtain ⟨ci, lk1, rfl, hr9⟩ := lc_s hr
  obtain ⟨k, lk2', rfl, hr10⟩ := lc_s hr9
  obtain ⟨tc, lk3, rfl, hr11⟩ := lc_s hr10
  obtain ⟨v, st1, rfl, hr12⟩ := lc_s hr11
  obtain ⟨a, r, rfl, hr13⟩ := lc_s hr12
  obtain ⟨g0, hr14⟩ := gd_s hr13
  obtain ⟨q, q1, hr15⟩ := ob_s hr14
  obtain ⟨g1, hr16⟩ := gd_s hr15
  obtain ⟨f, f1, hr17⟩ := ob_s hr16
  obtain ⟨g2, hr18⟩ := gd_s hr17
  obtain ⟨V, R1, rfl, hV, hS1⟩ := hS.cons
  obtain ⟨A, R, rfl, hA, hS2⟩ := hS1.cons
  have hA2 : A = .ref (ad (cel a)) := hA.r g0
  subst hA2
  rw [ax_nth_eq] at q1 f1
  have w := bb_and g1
  have w2 := bb_and w.2
  have hq : tb.1[cel a]? = some (ci, q.2.1, q.2.2) := by rw [← bb_eq w.1]; exact q1
  have VX : ∃ x, Lv ρ v.2 x ∧ fok tc V x ∧ ((f.1 = 0 ∧ (tc = 0 ∨ tc = 1)) ∨ (f.1 = 1 ∧ tc = 2)) := by
    rcases (Bool.or_eq_true _ _).mp g2 with g | g
    · have u := bb_and g
      have u2 := bb_and u.2
      obtain ⟨x, rfl, hx⟩ := hV.i u2.1
      rcases (Bool.or_eq_true _ _).mp u2.2 with z | z
      · have e := bb_eq z
        subst e
        exact ⟨_, hx, ⟨x, rfl, rfl⟩, Or.inl ⟨bb_eq u.1, Or.inl rfl⟩⟩
      · have z2 := bb_and z
        have z3 := bb_and z2.2
        have e := bb_eq z2.1
        subst e
        obtain ⟨d, d1, d2⟩ := lf_sc_ok (-1) v.2 1 (pv1 N)
        have z4 := z3.2
        rw [d1] at z4
        have b1 := pv1_ok hN z3.1 hx
        have b2 := pv1_ok hN z4 (d2 ρ _ hx)
        exact ⟨_, hx, ⟨x, rfl, rfl, by omega⟩, Or.inl ⟨bb_eq u.1, Or.inr rfl⟩⟩
    · have u := bb_and g
      have u2 := bb_and u.2
      obtain ⟨x, rfl, hx⟩ := hV.l u2.1
      have e := bb_eq u2.2
      subst e
      exact ⟨_, hx, ⟨x, rfl, rfl⟩, Or.inr ⟨bb_eq u.1, rfl⟩⟩
  obtain ⟨x, hx, hfok, hft⟩ := VX
  have hi : (Int.ofNat k).toNat = k := rfl
  obtain ⟨-, m', e1, e2, e3⟩ := stq_ok hN hm hT (Lv.c ρ (Int.ofNat k)) hx (fun z => absurd z (nbq w2.2)) hr18
  rw [hi] at e2 e3
  exact wp_putf hdg hlen hlk ho hq (bb_lt w2.1) f1 hft hfok hni (GK _ _ e1 _ _ ⟨hN, e2, e3, hL, hS2⟩)
theorem so_ald {kd : Nat} {kk : NS → MM → List V2 → R2} {re : NS → R2} (hL6 : L6 sp ρ0 L) (hL31 : L.1 < 2147483648) (hrf : ∀ c q, tb.1[c]? = some q → 103 ≤ q.1 → ∀ j f, j < q.2.1 → q.2.2[j]? = some f → rf c j = some (ad f.2)) (hdg : Dg M pc ins len lk) (hlen : len = ax_len ins) (ho : ax_op ins + 90 = kd) (ho2 : 100 ≤ kd) (ho3 : kd ≤ 103) (hG : Ga tb L sp ad ρ h0 h (N, m, lv, st) LV SV) (hr : x_ald tb sb kd N m st kk re = some outs)
    (GK : ∀ N' m' st', kk N' m' st' = some outs → ∀ ρ' SV', Sb ρ ρ' → Ga tb L sp ad ρ' h0 h (N', m', lv, st') LV SV' → Wp sb dC dI dA sp H0 l ρ0 ad rf tb.1 M (pc + len) h LV SV' P)
    (GR : ∀ N' o, re N' = some o → (∀ z ∈ o, z ∈ outs) → Ga tb L sp ad ρ h0 h (N', m, lv, st) LV SV → Wp sb dC dI dA sp H0 l ρ0 ad rf tb.1 M pc h LV SV P) : Wp sb dC dI dA sp H0 l ρ0 ad rf tb.1 M pc h LV SV P := by
  obtain ⟨hN, hm, hT, hL, hS⟩ := id hG
  have hin2 : kd = 100 ∧ ins = .iaload ∨ kd = 101 ∧ ins = .laload ∨ kd = 102 ∧ ins = .baload ∨ kd = 103 ∧ ins = .aaload := by
    cases ins <;> first | (exfalso; simp only [ax_op] at ho; omega) | skip
    case iaload => exact Or.inl ⟨ho.symm, rfl⟩
    case laload => exact Or.inr (Or.inl ⟨ho.symm, rfl⟩)
    case baload => exact Or.inr (Or.inr (Or.inl ⟨ho.symm, rfl⟩))
    case aaload => exact Or.inr (Or.inr (Or.inr ⟨ho.symm, rfl⟩))
  have hlen1 : len = 1 := by rw [hlen]; rcases hin2 with ⟨-, rfl⟩ | ⟨-, rfl⟩ | ⟨-, rfl⟩ | ⟨-, rfl⟩ <;> rfl
  subst hlen1
  unfold x_ald at hr
  obtain ⟨i, st1, es1, hr19⟩ := lc_s hr
  obtain ⟨a, r, es2, hr20⟩ := lc_s hr19
  obtain ⟨g0, hr21⟩ := gd_s hr20
  have hS' := hS
  rw [show st = i :: a :: r by rw [es1, es2]] at hS'
  obtain ⟨IV, R1, eS1, hIV, hS1⟩ := Sk.cons hS'
  obtain ⟨A, R, eS2, hA, hS2⟩ := hS1.cons
  obtain ⟨x, rfl, hx⟩ := hIV.i g0
  obtain ⟨I, I1, I2⟩ := lf_nv_ok hN.1 i.2 (fun I =>
    bif Nat.beq a.1 2 then ob (ax_nth tb.1 (cel a)) (fun q =>
      bif Nat.beq kd 103 then gd (Nat.ble 103 q.1 && Nat.ble q.1 105) (bif cst I then gd (i_nn I.1 && Nat.blt I.1.toNat q.2.1) (ob (ax_nth q.2.2 I.1.toNat) (fun f => kk N m ((2, (Int.ofNat f.2, [])) :: r))) else lc I.2 (fun t _ => spl N t.1 re))
      else gd (Nat.beq q.1 kd && x_bnd N I q.2.1) (ld tb N m (cel a) I (fun N' m' v => gd (bif Nat.beq kd 101 then in64 N' v else in32 N' v) (x_rf tb N' m' (cel a) (fun N2 => kk N2 m' ((bif Nat.beq kd 101 then 1 else 0, v) :: r))))))
    else gd (Nat.beq a.1 6) (bif Nat.beq (cel a) 0 then gd (Nat.beq kd 100 && pv1 N I) (ld tb N m 999 (0, []) (fun N' m' L => gd (lf_add (-1) I (L.1 - 1, L.2) (pv1 N')) (ld tb N' m' 998 I (fun N2 m2 v => gd (in32 N2 v) (kk N2 m2 ((0, v) :: r))))))
      else gd (Nat.beq kd 102 && ((Nat.beq (cel a) 2 || Nat.beq (cel a) 4) && (cst I && i_nn I.1))) (ob (ax_nth (sb (cel a)) I.1.toNat) (fun n => gd (Nat.blt n 2147483648) (kk N m ((0, (Int.ofNat n, [])) :: r))))))
  rw [I1] at hr21
  have hI := I2 _ hx
  cases ha : Nat.beq a.1 2 with
  | true =>
    rw [ha] at hr21
    simp only [cond_true] at hr21
    have hA2 : A = .ref (ad (cel a)) := hA.r ha
    obtain ⟨q, q1, hr22⟩ := ob_s hr21
    rw [ax_nth_eq] at q1
    cases h3 : Nat.beq kd 103 with
    | true =>
      rw [h3] at hr22
      simp only [cond_true] at hr22
      obtain ⟨g1, hr23⟩ := gd_s hr22
      have w := bb_and g1
      have hins : ins = .aaload := by rcases hin2 with ⟨z, -⟩ | ⟨z, -⟩ | ⟨z, -⟩ | ⟨-, z⟩ <;> first | exact z | (rw [z] at h3; cases h3)
      subst hins
      cases hc : cst I with
      | true =>
        rw [hc] at hr23
        simp only [cond_true] at hr23
        obtain ⟨g2, hr24⟩ := gd_s hr23
        obtain ⟨f, f1, hr25⟩ := ob_s hr24
        rw [ax_nth_eq] at f1
        have w2 := bb_and g2
        have eI := cst_ok hc hI
        have n0 := i_nn_ok w2.1
        have n1 := bb_lt w2.2
        rw [eS1, eS2, hA2]
        rw [← eI] at f1 n1
        exact wp_aald (f := f) hdg (kd := q.1) (n := q.2.1) (fs := q.2.2) q1 (bb_le w.1) (bb_le w.2) (by omega) (by omega) f1 (hrf _ q q1 (bb_le w.1) _ f n1 f1) (GK _ _ _ hr25 ρ _ (Sb.rf ρ) ⟨hN, hm, hT, hL, rfl, hS2⟩)
      | false =>
        rw [hc] at hr23
        simp only [cond_false] at hr23
        obtain ⟨t, tt, et, hr26⟩ := lc_s hr23
        obtain ⟨y, y1, y2⟩ := id hI
        rw [et] at y1
        obtain ⟨z, u, z1, z2, z3⟩ := y1
        obtain ⟨N', o, k1, k2, k3⟩ := spl_ok hN z1 hr26
        exact GR N' o k1 k3 ⟨k2, hm, hT, hL, hS⟩
    | false =>
      rw [h3] at hr22
      simp only [cond_false] at hr22
      obtain ⟨g1, hr27⟩ := gd_s hr22
      have w := bb_and g1
      have bd := x_bnd_ok hN hI w.2
      obtain ⟨N', m', v, ρ', e1, e2, e3, e4, e5⟩ := ld_ok hN hm hT hI bd.1 hr27
      obtain ⟨g2, e1'⟩ := gd_s e1
      obtain ⟨N2, n1, n2⟩ := x_rf_ok e3 e4 e1'
      have ek := bb_eq w.1
      rw [eS1, eS2, hA2]
      rcases hin2 with ⟨rfl, rfl⟩ | ⟨rfl, rfl⟩ | ⟨rfl, rfl⟩ | ⟨rfl, rfl⟩
      · have b := in32_ok e3 g2 e5
        exact wp_iald hdg (n := q.2.1) (fs := q.2.2) (by rw [q1, ← ek]) bd.1 bd.2 ⟨b.1, b.2⟩ (GK _ _ _ n1 ρ' _ e2 ⟨n2, e4, hT, hL.mono e2, ⟨_, rfl, by rw [o32 b.1 b.2]; exact e5⟩, hS2.mono e2⟩)
      · have b := in64_ok e3 g2 e5
        exact wp_lald hdg (n := q.2.1) (fs := q.2.2) (by rw [q1, ← ek]) bd.1 bd.2 ⟨b.1, b.2⟩ (GK _ _ _ n1 ρ' _ e2 ⟨n2, e4, hT, hL.mono e2, ⟨_, rfl, by rw [o64 b.1 b.2]; exact e5⟩, hS2.mono e2⟩)
      · have b := in32_ok e3 g2 e5
        exact wp_bald hdg (n := q.2.1) (fs := q.2.2) (by rw [q1, ← ek]) bd.1 bd.2 ⟨b.1, b.2⟩ (GK _ _ _ n1 ρ' _ e2 ⟨n2, e4, hT, hL.mono e2, ⟨_, rfl, by rw [o32 b.1 b.2]; exact e5⟩, hS2.mono e2⟩)
      · cases h3
  | false =>
    rw [ha] at hr21
    simp only [cond_false] at hr21
    obtain ⟨g1, hr28⟩ := gd_s hr21
    have hA2 : A = .retAddr (cel a) := hA.s g1
    cases hz : Nat.beq (cel a) 0 with
    | true =>
      rw [hz] at hr28
      simp only [cond_true] at hr28
      obtain ⟨g2, hr29⟩ := gd_s hr28
      have w := bb_and g2
      have i0 := pv1_ok hN w.2 hI
      obtain ⟨N', m', v, ρ', e1, e2, e3, e4, e5⟩ := ld_ok hN hm hT (Lv.c ρ 0) (Int.le_refl 0) hr29
      obtain ⟨g3, e1'⟩ := gd_s e1
      rw [show h 999 (0 : Int).toNat = (L.1 : Int) from hT.2.1] at e5
      obtain ⟨d, d1, d2⟩ := lf_add_ok (-1) I (v.1 - 1, v.2) (pv1 N')
      rw [d1] at g3
      have i1 := pv1_ok e3 g3 (d2 ρ' _ _ (hI.mono e2) (e5.dec 1))
      have hins : ins = .iaload := by rcases hin2 with ⟨-, z⟩ | ⟨z, -⟩ | ⟨z, -⟩ | ⟨z, -⟩ <;> first | exact z | (rw [z] at w; exact absurd w.1 (by decide))
      subst hins
      rw [eS1, eS2, hA2, bb_eq hz]
      obtain ⟨N2, m2, u, ρ2, k1, k2, k3, k4, k5⟩ := ld_ok e3 e4 hT (hI.mono e2) i0 e1'
      obtain ⟨g4, k1'⟩ := gd_s k1
      have b := in32_ok k3 g4 k5
      have hlt : x.toInt.toNat < L.1 := by omega
      have hv := hT.2.2 _ hlt
      rw [hL6.2] at hv
      refine wp_sld hdg hL6.1 (by omega) (by omega) (by rw [← hv]; exact ⟨b.1, b.2⟩) ?_
      rw [← hv]
      exact GK _ _ _ k1' ρ2 _ (e2.tr k2) ⟨k3, k4, hT, hL.mono (e2.tr k2), ⟨_, rfl, by rw [o32 b.1 b.2]; exact k5⟩, hS2.mono (e2.tr k2)⟩
    | false =>
      rw [hz] at hr28
      simp only [cond_false] at hr28
      obtain ⟨g2, hr30⟩ := gd_s hr28
      obtain ⟨n, n1, hr31⟩ := ob_s hr30
      obtain ⟨g3, hr32⟩ := gd_s hr31
      rw [ax_nth_eq] at n1
      have w := bb_and g2
      have w2 := bb_and w.2
      have w3 := bb_and w2.2
      have eI := cst_ok w3.1 hI
      have n0 := i_nn_ok w3.2
      have hins : ins = .baload := by rcases hin2 with ⟨z, -⟩ | ⟨z, -⟩ | ⟨-, z⟩ | ⟨z, -⟩ <;> first | exact z | (rw [z] at w; exact absurd w.1 (by decide))
      subst hins
      rw [eS1, eS2, hA2]
      refine wp_tld (n := n) hdg (by
        rcases (Bool.or_eq_true _ _).mp w2.1 with z | z
        · exact Or.inl (bb_eq z)
        · exact Or.inr (bb_eq z)) (by omega) (by rw [eI]; exact n1) ?_
      exact GK _ _ _ hr32 ρ _ (Sb.rf ρ) ⟨hN, hm, hT, hL, ⟨_, rfl, by rw [nI_toInt (by have := bb_lt g3; omega)]; exact Lv.c ρ _⟩, hS2⟩
theorem so_ast {kd : Nat} {kk : MM → List V2 → R2} (hdg : Dg M pc ins len lk) (hlen : len = ax_len ins) (ho : ax_op ins + 86 = kd) (ho2 : 100 ≤ kd) (ho3 : kd ≤ 102) (hG : Ga tb L sp ad ρ h0 h (N, m, lv, st) LV SV) (hr : x_ast tb kd N m st kk = some outs)
    (GK : ∀ m' st', kk m' st' = some outs → ∀ h' SV', Ga tb L sp ad ρ h0 h' (N, m', lv, st') LV SV' → Wp sb dC dI dA sp H0 l ρ0 ad rf tb.1 M (pc + len) h' LV SV' P) : Wp sb dC dI dA sp H0 l ρ0 ad rf tb.1 M pc h LV SV P := by
  obtain ⟨hN, hm, hT, hL, hS⟩ := id hG
  have hin2 : kd = 100 ∧ ins = .iastore ∨ kd = 101 ∧ ins = .lastore ∨ kd = 102 ∧ ins = .bastore := by
    cases ins <;> first | (exfalso; simp only [ax_op] at ho; omega) | skip
    case iastore => exact Or.inl ⟨ho.symm, rfl⟩
    case lastore => exact Or.inr (Or.inl ⟨ho.symm, rfl⟩)
    case bastore => exact Or.inr (Or.inr ⟨ho.symm, rfl⟩)
  have hlen1 : len = 1 := by rw [hlen]; rcases hin2 with ⟨-, rfl⟩ | ⟨-, rfl⟩ | ⟨-, rfl⟩ <;> rfl
  subst hlen1
  unfold x_ast at hr
  obtain ⟨v, st0, rfl, hr33⟩ := lc_s hr
  obtain ⟨i, st1, rfl, hr34⟩ := lc_s hr33
  obtain ⟨a, r, rfl, hr35⟩ := lc_s hr34
  obtain ⟨g0, hr36⟩ := gd_s hr35
  have u := bb_and g0
  have u2 := bb_and u.2
  obtain ⟨V, R0, rfl, hV, hS0⟩ := hS.cons
  obtain ⟨IV, R1, rfl, hIV, hS1⟩ := hS0.cons
  obtain ⟨A, R, rfl, hA, hS2⟩ := hS1.cons
  obtain ⟨x, rfl, hx⟩ := hIV.i u.1
  have hA2 : A = .ref (ad (cel a)) := hA.r u2.1
  subst hA2
  obtain ⟨I, I1, I2⟩ := lf_nv_ok hN.1 i.2 (fun I => lf_nv N.1 v.2 (fun w => ob (ax_nth tb.1 (cel a)) (fun q =>
    gd (Nat.beq q.1 kd && (x_bnd N I q.2.1 && ((!(Nat.beq (cel a) tb.2.2.2.2) || Nat.ble q.2.1 80) && (!(Nat.beq kd 102) || (pv1 N (w.1 + 128, w.2) && lf_sc (-1) w 127 (pv1 N)))))) (stq tb N m (cel a) I w (fun m' => kk m' r)))))
  rw [I1] at hr36
  have hI := I2 _ hx
  obtain ⟨w, W1, W2⟩ := lf_nv_ok hN.1 v.2 (fun w => ob (ax_nth tb.1 (cel a)) (fun q =>
    gd (Nat.beq q.1 kd && (x_bnd N I q.2.1 && ((!(Nat.beq (cel a) tb.2.2.2.2) || Nat.ble q.2.1 80) && (!(Nat.beq kd 102) || (pv1 N (w.1 + 128, w.2) && lf_sc (-1) w 127 (pv1 N)))))) (stq tb N m (cel a) I w (fun m' => kk m' r))))
  rw [W1] at hr36
  obtain ⟨q, q1, hr37⟩ := ob_s hr36
  obtain ⟨g1, hr38⟩ := gd_s hr37
  rw [ax_nth_eq] at q1
  have y1 := bb_and g1
  have y2 := bb_and y1.2
  have y3 := bb_and y2.2
  have bd := x_bnd_ok hN hI y2.1
  have ek := bb_eq y1.1
  have h80 : cel a = tb.2.2.2.2 → x.toInt < 80 := fun z => by
    rcases (Bool.or_eq_true _ _).mp y3.1 with q | q
    · exact absurd z (nbq q)
    · have := bb_le q; omega
  rcases hin2 with ⟨rfl, rfl⟩ | ⟨rfl, rfl⟩ | ⟨rfl, rfl⟩
  · obtain ⟨y, rfl, hy⟩ := hV.i u2.2
    obtain ⟨-, m', e1, e2, e3⟩ := stq_ok hN hm hT hI (W2 _ hy) h80 hr38
    exact wp_iast hdg (n := q.2.1) (fs := q.2.2) (by show tb.1[cel a]? = _; rw [q1, ← ek]) bd.1 bd.2 (GK _ _ e1 _ _ ⟨hN, e2, e3, hL, hS2⟩)
  · obtain ⟨y, rfl, hy⟩ := hV.l u2.2
    obtain ⟨-, m', e1, e2, e3⟩ := stq_ok hN hm hT hI (W2 _ hy) h80 hr38
    exact wp_last hdg (n := q.2.1) (fs := q.2.2) (by show tb.1[cel a]? = _; rw [q1, ← ek]) bd.1 bd.2 (GK _ _ e1 _ _ ⟨hN, e2, e3, hL, hS2⟩)
  · obtain ⟨y, rfl, hy⟩ := hV.i u2.2
    have z : (pv1 N (w.1 + 128, w.2) && lf_sc (-1) w 127 (pv1 N)) = true := by
      rcases (Bool.or_eq_true _ _).mp y3.2 with q | q
      · cases q
      · exact q
    have z2 := bb_and z
    obtain ⟨d, d1, d2⟩ := lf_sc_ok (-1) w 127 (pv1 N)
    have z3 := z2.2
    rw [d1] at z3
    have b2 := pv1_ok hN z3 (d2 ρ _ (W2 _ hy))
    have b1 : 0 ≤ y.toInt + 128 := pv1_ok hN z2.1 (by
      obtain ⟨t, t1, t2⟩ := W2 _ hy
      exact ⟨t, t1, by show y.toInt + 128 = w.1 + 128 + t; omega⟩)
    obtain ⟨-, m', e1, e2, e3⟩ := stq_ok hN hm hT hI (W2 _ hy) h80 hr38
    exact wp_bast hdg (n := q.2.1) (fs := q.2.2) (by show tb.1[cel a]? = _; rw [q1, ← ek]) bd.1 bd.2 (by omega) (by omega) (GK _ _ e1 _ _ ⟨hN, e2, e3, hL, hS2⟩)
theorem so_alen {kk : NS → MM → V2 → R2} {a : V2} {A : Value} {R : List Value} (hL6 : L6 sp ρ0 L) (hL31 : L.1 < 2147483648) (hdg : Dg M pc .arraylength 1 lk) (hN : Nk ρ N) (hm : Mk tb L ρ h0 h m) (hT : Th tb L h) (hA : Vk sp ad ρ a A) (hr : x_alen tb sb N m a kk = some outs)
    (GK : ∀ N' m' v, kk N' m' v = some outs → ∀ ρ' V, Sb ρ ρ' → Nk ρ' N' → Mk tb L ρ' h0 h m' → Vk sp ad ρ' v V → Wp sb dC dI dA sp H0 l ρ0 ad rf tb.1 M (pc + 1) h LV (V :: R) P) : Wp sb dC dI dA sp H0 l ρ0 ad rf tb.1 M pc h LV (A :: R) P := by
  unfold x_alen at hr
  cases ha : Nat.beq a.1 2 with
  | true =>
    rw [ha] at hr
    simp only [cond_true] at hr
    obtain ⟨q, q1, hr39⟩ := ob_s hr
    obtain ⟨g, hr40⟩ := gd_s hr39
    rw [ax_nth_eq] at q1
    have w := bb_and g
    have w2 := bb_and w.2
    have hA2 : A = .ref (ad (cel a)) := hA.r ha
    subst hA2
    exact wp_alen hdg (n := q.2.1) (kd := q.1) (fs := q.2.2) q1 (bb_le w.1) (bb_le w2.1) (GK _ _ _ hr40 ρ _ (Sb.rf ρ) hN hm ⟨_, rfl, by rw [nI_toInt (by have := bb_lt w2.2; omega)]; exact Lv.c ρ _⟩)
  | false =>
    rw [ha] at hr
    simp only [cond_false] at hr
    obtain ⟨g, hr41⟩ := gd_s hr
    have hA2 : A = .retAddr (cel a) := hA.s g
    subst hA2
    cases hz : Nat.beq (cel a) 0 with
    | true =>
      rw [hz] at hr41
      simp only [cond_true] at hr41
      obtain ⟨N', m', v, ρ', e1, e2, e3, e4, e5⟩ := ld_ok hN hm hT (Lv.c ρ 0) (Int.le_refl 0) hr41
      rw [show h 999 (0 : Int).toNat = (L.1 : Int) from hT.2.1] at e5
      rw [bb_eq hz]
      exact wp_slen hdg hL6.1 (GK _ _ _ e1 ρ' _ e2 e3 e4 ⟨_, rfl, by rw [nI_toInt (by omega)]; exact e5⟩)
    | false =>
      rw [hz] at hr41
      simp only [cond_false] at hr41
      obtain ⟨g2, hr42⟩ := gd_s hr41
      have w := bb_and g2
      exact wp_tlen hdg (by
        rcases (Bool.or_eq_true _ _).mp w.1 with z | z
        · exact Or.inl (bb_eq z)
        · exact Or.inr (bb_eq z)) (GK _ _ _ hr42 ρ _ (Sb.rf ρ) hN hm ⟨_, rfl, by rw [nI_toInt (by have := bb_lt w.2; omega)]; exact Lv.c ρ _⟩)
end SO
end
section
/-! 39.so3 -/
/-! THE MACHINE BY FORMS is sound, 3: units, calls -/
def rte (M : MR) (pc : Nat) (SV : List Value) : Prop := ∃ ins, decode M.2.1 pc = .ok (ins, 1) ∧ rokc M.2.2.2.1 ins SV
def Oe (M : MR) (k p pc : Nat) (SV : List Value) : Prop := (k = 0 ∧ rte M pc SV) ∨ (k = 1 ∧ pc = p)
theorem Sk.split {sp ad : Nat → Nat} {ρ : List Int} : ∀ {a b : List V2} {S : List Value}, Sk sp ad ρ (a ++ b) S → ∃ A B, S = A ++ B ∧ Sk sp ad ρ a A ∧ Sk sp ad ρ b B
  | [], b, S, h => ⟨[], S, rfl, trivial, h⟩
  | v :: r, b, S, h => by
    obtain ⟨V, R, rfl, h1, h2⟩ := Sk.cons (v := v) (r := r ++ b) h
    obtain ⟨A, B, rfl, h3, h4⟩ := Sk.split h2
    exact ⟨V :: A, B, rfl, ⟨h1, h3⟩, h4⟩
theorem Sk.app {sp ad : Nat → Nat} {ρ : List Int} : ∀ {a b : List V2} {A B : List Value}, Sk sp ad ρ a A → Sk sp ad ρ b B → Sk sp ad ρ (a ++ b) (A ++ B)
  | [], _, [], _, _, h => h
  | _ :: _, _, _ :: _, _, h1, h2 => ⟨h1.1, Sk.app h1.2 h2⟩
theorem Sk.rev {sp ad : Nat → Nat} {ρ : List Int} : ∀ {a : List V2} {S : List Value}, Sk sp ad ρ a S → Sk sp ad ρ a.reverse S.reverse
  | [], [], _ => trivial
  | v :: r, V :: R, h => by
    rw [List.reverse_cons, List.reverse_cons]
    exact (Sk.rev h.2).app ⟨h.1, trivial⟩
theorem Sk.len {sp ad : Nat → Nat} {ρ : List Int} : ∀ {a : List V2} {S : List Value}, Sk sp ad ρ a S → S.length = a.length
  | [], [], _ => rfl
  | _ :: _, _ :: _, h => by rw [List.length_cons, List.length_cons, Sk.len h.2]
theorem Sk.wt {sp ad : Nat → Nat} {ρ : List Int} : ∀ {as : List V2} {VS : List Value}, Sk sp ad ρ as VS → (VS.map fun v => v.category).sum = v_wt as
  | [], [], _ => rfl
  | v :: r, V :: R, h => by
    have e : V.category = (bif Nat.beq v.1 1 then 2 else 1) := by
      rw [h.1.cat]
      cases Nat.beq v.1 1 <;> rfl
    show (V.category :: R.map fun v => v.category).sum = (bif Nat.beq v.1 1 then 2 else 1) + v_wt r
    rw [List.sum_cons, Sk.wt h.2, e]
theorem Lk.locs {sp ad : Nat → Nat} {ρ : List Int} : ∀ {as : List V2} {VS : List Value} (i : Nat), Sk sp ad ρ as VS → Lk sp ad ρ (v_locs i as) (lv_args i VS)
  | [], [], _, _ => trivial
  | v :: r, V :: R, i, h => by
    refine ⟨⟨rfl, h.1⟩, ?_⟩
    have e : (if V.category = 2 then i + 2 else i + 1) = (bif Nat.beq v.1 1 then i + 2 else i + 1) := by
      rw [h.1.cat]
      cases Nat.beq v.1 1 <;> rfl
    show Lk sp ad ρ (v_locs (bif Nat.beq v.1 1 then i + 2 else i + 1) r) (lv_args (if V.category = 2 then i + 2 else i + 1) R)
    rw [e]
    exact Lk.locs _ h.2
theorem v_args_ok : ∀ (n : Nat) {st acc as rest : List V2}, v_args n st acc = some (as, rest) → ∃ u, as = u ++ acc ∧ st = u.reverse ++ rest ∧ u.length = n
  | 0, st, acc, as, rest, h => by
    have h : some (acc, st) = some (as, rest) := h
    cases h
    exact ⟨[], rfl, rfl, rfl⟩
  | n + 1, st, acc, as, rest, h => by
    cases st with
    | nil => cases h
    | cons v r =>
      have h : v_args n r (v :: acc) = some (as, rest) := h
      obtain ⟨u, e1, e2, e3⟩ := v_args_ok n h
      exact ⟨u ++ [v], by rw [e1]; simp, by rw [e2]; simp, by simp [e3]⟩
section SO
variable (tb : TB) (sb : Nat → List Nat) (mq : Nat → Nat → Option MR) (dC : Nat → ClassId) (dI : Nat → Nat → Nat) (dA : Nat → ClassId) (sp : Nat → Nat) (H0 : Heap) (l : Launch) (ρ0 : List Nat) (ad : Nat → Nat) (rf : Nat → Nat → Option Nat) (L : LSc)
/-- where a run ends -/
def Pq (outs : List O2) (ρ : List Int) (h0 : PH) (M : MR) : PO := fun pc' h' LV' SV' => ∃ o ∈ outs, Oe M o.1 o.2.1 pc' SV' ∧ ∃ ρ', Sb ρ ρ' ∧ Ga tb L sp ad ρ' h0 h' o.2.2 LV' SV'
/-- where a unit ends -/
def Pu (U : UN) (ρ : List Int) (h0 : PH) (M : MR) : PO := fun pc' h' LV' SV' => ∃ o ∈ U.2.2.1, Oe M o.1 o.2.1 pc' SV' ∧ ∃ e, Ga tb L sp ad (ρ ++ e) h0 h' (tO U.2.1.1 U.2.2.2.1 o.2.2.2) LV' SV'
def UOK (M : MR) (pc : Nat) (U : UN) : Prop := ∀ (ρ : List Int) (h : PH) (LV : LVs), Ga tb L sp ad ρ h h (tA U.2.1) LV [] → Wp sb dC dI dA sp H0 l ρ0 ad rf tb.1 M pc h LV [] (Pu tb sp ad L U ρ h M)
def ULOK (ul : UL) : Prop := ∀ e ∈ ul, isnil e.2.2.1.2.2.2.2.2.2.2.2 = true ∧ st_wf e.2.2.1.1.length e.2.2.1 = true ∧ ∀ M, mq e.1.1 e.1.2.1 = some M → UOK tb sb dC dI dA sp H0 l ρ0 ad rf L M (if 100000 ≤ e.1.2.2 then e.1.2.2 - 100000 else e.1.2.2) e.2
/-- a run is sound -/
def Snd2 (f : GO2) : Prop := ∀ (M : MR) (ct : CT) (pc : Nat) (cd : List ME) (N : NS) (m : MM) (lv : L2) (st : List V2) (outs : List O2), Mok mth M → mq ct.1.1 ct.1.2 = some M → M.1.name ≠ "<init>" → (∀ x ∈ cd, x ∈ M.2.2.2.2.2.2) → f M ct pc cd N m lv st = some outs → ∀ (ρ : List Int) (h0 h : PH) (LV : LVs) (SV : List Value), Ga tb L sp ad ρ h0 h (N, m, lv, st) LV SV → Wp sb dC dI dA sp H0 l ρ0 ad rf tb.1 M pc h LV SV (Pq tb sp ad L outs ρ h0 M)
end SO
section SO
variable {tb : TB} {sb : Nat → List Nat} {mq : Nat → Nat → Option MR} {dC : Nat → ClassId} {dI : Nat → Nat → Nat} {dA : Nat → ClassId} {sp : Nat → Nat} {H0 : Heap} {l : Launch} {ρ0 : List Nat} {ad : Nat → Nat} {rf : Nat → Nat → Option Nat} {L : LSc}
variable {M : MR} {pc len : Nat} {ins : Instr} {lk : List Nat} {h0 h : PH} {ρ : List Int} {N : NS} {m : MM} {lv : L2} {st : List V2} {LV : LVs} {SV : List Value} {P P' : PO} {outs : List O2}
theorem wp_mono (K : Wp sb dC dI dA sp H0 l ρ0 ad rf tb.1 M pc h LV SV P') (KK : ∀ pc' h' lv' st', P' pc' h' lv' st' → P pc' h' lv' st') : Wp sb dC dI dA sp H0 l ρ0 ad rf tb.1 M pc h LV SV P := wp_bd K (fun pc' h' lv' st' q => wp_rf (KK pc' h' lv' st' q))
theorem Pq_in {o : List O2} {ρ' : List Int} (hs : Sb ρ ρ') (ho : ∀ z ∈ o, z ∈ outs) (K : Wp sb dC dI dA sp H0 l ρ0 ad rf tb.1 M pc h LV SV (Pq tb sp ad L o ρ' h0 M)) : Wp sb dC dI dA sp H0 l ρ0 ad rf tb.1 M pc h LV SV (Pq tb sp ad L outs ρ h0 M) := wp_mono K (fun pc' h' lv' st' q => by
  obtain ⟨z, z1, z2, ρ2, z3, z4⟩ := q
  exact ⟨z, ho z z1, z2, ρ2, hs.tr z3, z4⟩)
theorem Mk.self (hm : Mk tb L ρ h0 h m) : Mk tb L ρ h h (m.1, m.2.1, m.2.2.1, [], m.2.2.2.2) := ⟨hm.1, hm.2.1, hm.2.2.1, fun _ _ _ => rfl, hm.2.2.2.2⟩
theorem um_ok {U : UN} (hnil : isnil U.2.1.2.2.2.2.2.2.2.2 = true) (hwf : st_wf U.2.1.1.length U.2.1 = true) (hG : Ga tb L sp ad ρ h0 h (N, m, lv, st) LV SV) {N' : NS} {m' : MM} {mu : List LF} (hr : um tb U N m lv st = some (N', m', mu)) : SV = [] ∧ ∃ ρ' ρT LV', Sb ρ ρ' ∧ Ga tb L sp ad ρ' h0 h (N', m', lv, st) LV SV ∧ Mu ρ' mu ρT ∧ Sr ρT U.2.1.1 ∧ (∀ q ∈ LV', q ∈ LV) ∧ Ga tb L sp ad ρT h h (tA U.2.1) LV' [] := by
  unfold um at hr
  obtain ⟨N1, m1, mu1, ρ', ρT, e1, e2, e3, e4, e5, -⟩ := bds_ok (tb := tb) (bk := false) U.1 hG (mu := []) (ρT := []) ⟨rfl, fun k z hz => by simp at hz⟩ (fun q => by cases q) hr
  rw [ax_fc_eq] at e1
  obtain ⟨g, e1'⟩ := gd_s e1
  cases e1'
  have w := bb_and g
  have hσ := sb_rg_ok e3.1 w.2 e4
  have hG' : Ga tb L sp ad ρ' h h (N', (m'.1, m'.2.1, m'.2.2.1, [], m'.2.2.2.2), lv, st) LV SV := ⟨e3.1, e3.2.1.self, e3.2.2.1, e3.2.2.2.1, e3.2.2.2.2⟩
  obtain ⟨LV', v1, v2⟩ := sub_ok hG' e4 hσ.1.symm (T := U.2.1) (W := []) hσ (fun _ _ _ => rfl) hwf w.1
  have hS : Sk sp ad ρT U.2.1.2.2.2.2.2.2.2.2 SV := v2.2.2.2.2
  have hSV : SV = [] := by
    cases hT : U.2.1.2.2.2.2.2.2.2.2 with
    | nil => rw [hT] at hS; exact hS.nil
    | cons a b => rw [hT] at hnil; cases hnil
  subst hSV
  exact ⟨rfl, ρ', ρT, LV', e2, e3, e4, hσ, v1, v2⟩
theorem uf_ok {a b p : Nat} {ul : UL} {q : UN × NS × MM × List LF} : ∀ {l : UL}, uf tb a b p N m lv st l = some q → ∃ e ∈ l, e.1 = (a, b, p) ∧ e.2 = q.1 ∧ um tb q.1 N m lv st = some q.2
  | [], h => by cases h
  | e :: t, h => by
    have h : (bif Nat.beq e.1.1 a && (Nat.beq e.1.2.1 b && Nat.beq e.1.2.2 p) then (match um tb e.2 N m lv st with | some q => some (e.2, q) | none => uf tb a b p N m lv st t) else uf tb a b p N m lv st t) = some q := h
    have REC : uf tb a b p N m lv st t = some q → ∃ e' ∈ e :: t, e'.1 = (a, b, p) ∧ e'.2 = q.1 ∧ um tb q.1 N m lv st = some q.2 := fun h => by
      obtain ⟨e', a1, a2⟩ := uf_ok (ul := ul) h
      exact ⟨e', List.mem_cons_of_mem _ a1, a2⟩
    cases hb : (Nat.beq e.1.1 a && (Nat.beq e.1.2.1 b && Nat.beq e.1.2.2 p)) with
    | false => rw [hb] at h; exact REC h
    | true =>
      rw [hb] at h
      simp only [cond_true] at h
      have w := bb_and hb
      have w2 := bb_and w.2
      cases hu : um tb e.2 N m lv st with
      | none => rw [hu] at h; exact REC h
      | some r =>
        rw [hu] at h
        cases h
        refine ⟨e, List.mem_cons_self, ?_, rfl, hu⟩
        obtain ⟨⟨x, y, z⟩, u⟩ := e
        have e1 : x = a := bb_eq w.1
        have e2 : y = b := bb_eq w2.1
        have e3 : z = p := bb_eq w2.2
        subst e1
        subst e2
        subst e3
        rfl
theorem x_os_ok {mu : List LF} {W : List WE} {go : Nat → Nat → NS → MM → L2 → List V2 → R2} : ∀ {l : List ON} {outs : List O2}, x_os tb N m mu W go l = some outs → ∀ o ∈ l, ∃ r, ap tb N m mu W o.2.2.2 (go o.1 o.2.1) = some r ∧ ∀ z ∈ r, z ∈ outs
  | [], _, _, o, ho => by cases ho
  | x :: t, outs, h, o, ho => by
    have h : two2 (ap tb N m mu W x.2.2.2 (go x.1 x.2.1)) (x_os tb N m mu W go t) = some outs := h
    obtain ⟨u, v, e1, e2, rfl⟩ := two2_s h
    rcases List.mem_cons.mp ho with rfl | ho
    · exact ⟨u, e1, fun z hz => List.mem_append_left _ hz⟩
    · obtain ⟨r, e3, e4⟩ := x_os_ok e2 o ho
      exact ⟨r, e3, fun z hz => List.mem_append_right _ (e4 z hz)⟩
/-- a unit's ends are taken here -/
theorem unit_at {U : UN} {N' : NS} {m' : MM} {mu : List LF} {go : Nat → Nat → NS → MM → L2 → List V2 → R2} {ρ' ρT : List Int} (hG : Ga tb L sp ad ρ' h0 h (N', m', lv, st) LV SV) (hM : Mu ρ' mu ρT) (hσ : Sr ρT U.2.1.1) (hx : x_os tb N' m' mu U.2.2.2.1 go U.2.2.1 = some outs) {pc' : Nat} {h' : PH} {LV' : LVs} {SV' : List Value} (hp : Pu tb sp ad L U ρT h M pc' h' LV' SV') :
    ∃ o ∈ U.2.2.1, Oe M o.1 o.2.1 pc' SV' ∧ ∃ r N2 m2 lv2 st2 ρ2, go o.1 o.2.1 N2 m2 lv2 st2 = some r ∧ (∀ z ∈ r, z ∈ outs) ∧ Sb ρ' ρ2 ∧ Ga tb L sp ad ρ2 h0 h' (N2, m2, lv2, st2) LV' SV' := by
  obtain ⟨o, o1, o2, e, o3⟩ := hp
  obtain ⟨r, r1, r2⟩ := x_os_ok hx o o1
  obtain ⟨N2, m2, lv2, st2, k1, k2⟩ := ap_ok hG.1 hG.2.1 hM hσ.1 o3 r1
  exact ⟨o, o1, o2, r, N2, m2, lv2, st2, _, k1, r2, Sb.app _ _, k2⟩
theorem x_pk_ok {tu : TU} {a b : Nat} (hN : Nk ρ N) {as : List V2} {AV : List Value} (hS : Sk sp ad ρ as AV) {key : Nat × LF} (h : x_pk tu a b N as = some key) : ∃ i, Lv ρ key.2 i ∧ 0 ≤ i ∧ AV = pxv sp ad (key.1 / 100000) i.toNat ∧ key.1 / 1000 % 100 = a ∧ key.1 % 1000 = b := by
  unfold x_pk at h
  obtain ⟨kd, -, h1⟩ := ob_s h
  obtain ⟨g0, h2⟩ := gd_s h1
  have w0 := bb_and g0
  have a1 := bb_lt w0.1
  have b1 := bb_lt w0.2
  match as, hS, h2 with
  | [], _, h2 => cases h2
  | [r], hS, h2 =>
    have h2 : gd (Nat.beq kd 3 && (Nat.beq r.1 2 && Nat.beq (cel r) 169)) (some ((300000 + (a * 1000 + b), ((0 : Int), [])) : Nat × LF)) = some key := h2
    obtain ⟨g1, h3⟩ := gd_s h2
    have w1 := bb_and g1
    have w2 := bb_and w1.2
    obtain ⟨VR, R1, rfl, hR, hS1⟩ := hS.cons
    obtain rfl := hS1.nil
    have eR : VR = .ref (ad 169) := by
      have z : VR = .ref (ad (cel r)) := hR.r w2.1
      rw [z, bb_eq w2.2]
    subst eR
    cases h3
    refine ⟨0, Lv.c ρ _, Int.le_refl 0, ?_, ?_, ?_⟩
    · unfold pxv
      rw [if_neg (show ¬ (300000 + (a * 1000 + b)) / 100000 = 1 by omega), if_pos (show (300000 + (a * 1000 + b)) / 100000 = 3 by omega)]
    · show (300000 + (a * 1000 + b)) / 1000 % 100 = a
      omega
    · show (300000 + (a * 1000 + b)) % 1000 = b
      omega
  | r :: s :: t, hS, h2 =>
    have h2 : gd (Nat.beq r.1 2 && Nat.beq (cel r) 169) (bif Nat.beq kd 1 then gd (isnil t && (Nat.beq s.1 6 && i_nn s.2.1)) (some ((100000 + (a * 1000 + b), (s.2.1, [])) : Nat × LF))
      else lc t (fun n u => gd (Nat.beq kd 2 && (isnil u && (Nat.beq s.1 0 && (cst s.2 && (i_nn s.2.1 && (Nat.beq n.1 0 && (pv1 N n.2 && lf_sc (-1) n.2 4095 (pv1 N)))))))) (lf_nv N.1 n.2 (fun f => i_fc (f.1 + 4096 * s.2.1) (fun z => some ((200000 + (a * 1000 + b), (z, f.2)) : Nat × LF)))))) = some key := h2
    obtain ⟨g1, h3⟩ := gd_s h2
    have w1 := bb_and g1
    obtain ⟨VR, R1, rfl, hR, hS1⟩ := hS.cons
    obtain ⟨VS, R2', rfl, hVS, hS2⟩ := hS1.cons
    have eR : VR = .ref (ad 169) := by
      have z : VR = .ref (ad (cel r)) := hR.r w1.1
      rw [z, bb_eq w1.2]
    subst eR
    cases hk : Nat.beq kd 1 with
    | true =>
      rw [hk] at h3
      simp only [cond_true] at h3
      obtain ⟨g2, h4⟩ := gd_s h3
      have w2 := bb_and g2
      have w3 := bb_and w2.2
      cases h4
      have ht : t = [] := by
        cases t with
        | nil => rfl
        | cons _ _ => exact absurd w2.1 (fun z => by cases z)
      subst ht
      obtain rfl := hS2.nil
      have n0 := i_nn_ok w3.2
      have eS : VS = .retAddr s.2.1.toNat := hVS.s w3.1
      refine ⟨s.2.1, Lv.c ρ _, n0, ?_, ?_, ?_⟩
      · unfold pxv
        rw [if_pos (show (100000 + (a * 1000 + b)) / 100000 = 1 by omega), eS]
      · show (100000 + (a * 1000 + b)) / 1000 % 100 = a
        omega
      · show (100000 + (a * 1000 + b)) % 1000 = b
        omega
    | false =>
      rw [hk] at h3
      simp only [cond_false] at h3
      obtain ⟨n, u, rfl, h4⟩ := lc_s h3
      obtain ⟨g2, h5⟩ := gd_s h4
      have y1 := bb_and g2
      have y2 := bb_and y1.2
      have y3 := bb_and y2.2
      have y4 := bb_and y3.2
      have y5 := bb_and y4.2
      have y6 := bb_and y5.2
      have y7 := bb_and y6.2
      have hu : u = [] := by
        cases u with
        | nil => rfl
        | cons _ _ => exact absurd y2.1 (fun z => by cases z)
      subst hu
      obtain ⟨VN, R3, rfl, hVN, hS3⟩ := hS2.cons
      obtain rfl := hS3.nil
      obtain ⟨xs, rfl, hxs⟩ := hVS.i y3.1
      obtain ⟨xn, rfl, hxn⟩ := hVN.i y6.1
      have es := cst_ok y4.1 hxs
      have s0 := i_nn_ok y5.1
      have n0 := pv1_ok hN y7.1 hxn
      obtain ⟨d, d1, d2⟩ := lf_sc_ok (-1) n.2 4095 (pv1 N)
      have y8 := y7.2
      rw [d1] at y8
      have n1 := pv1_ok hN y8 (d2 ρ _ hxn)
      obtain ⟨f, f1, f2⟩ := lf_nv_ok hN.1 n.2 (fun f => i_fc (f.1 + 4096 * s.2.1) (fun z => some ((200000 + (a * 1000 + b), (z, f.2)) : Nat × LF)))
      rw [f1, i_fc_eq] at h5
      cases h5
      obtain ⟨q, q1, q2⟩ := f2 _ hxn
      refine ⟨xn.toInt + 4096 * s.2.1, ⟨q, q1, ?_⟩, by omega, ?_, ?_, ?_⟩
      · show xn.toInt + 4096 * s.2.1 = f.1 + 4096 * s.2.1 + q
        omega
      · unfold pxv
        rw [if_neg (show ¬ (200000 + (a * 1000 + b)) / 100000 = 1 by omega), if_neg (show ¬ (200000 + (a * 1000 + b)) / 100000 = 3 by omega)]
        have e1 : (((xn.toInt + 4096 * s.2.1).toNat / 4096 : Nat) : Int) = xs.toInt := by omega
        have e2 : (((xn.toInt + 4096 * s.2.1).toNat % 4096 : Nat) : Int) = xn.toInt := by omega
        rw [e1, e2, Int32.ofInt_toInt, Int32.ofInt_toInt]
      · show (200000 + (a * 1000 + b)) / 1000 % 100 = a
        omega
      · show (200000 + (a * 1000 + b)) % 1000 = b
        omega
theorem so_call {ul : UL} {tu : TU} {ih : GO2} {go : NS → MM → List V2 → R2} (hPX : L.2.2 = PXd sb mq dC dI dA sp H0 l ρ0 ad rf tb.1) (hUL : ULOK tb sb mq dC dI dA sp H0 l ρ0 ad rf L ul) (hMT : ∀ a b C, mth a b = some C → (Mok mth C ∧ Mcw C) ∧ mq a b = some C) (hI : Snd2 tb sb mq dC dI dA sp H0 l ρ0 ad rf L ih) (hdg : Dg M pc ins len lk) (hlen : len = ax_len ins) (hlk : lok mth M pc ins lk = true) (ho : ax_op ins = 21) (h900 : ∀ x lk', lk = x :: lk' → (Nat.beq x 900 = false ∧ Nat.beq x 901 = false ∧ Nat.beq x 902 = false) ∧ Nat.beq x 903 = false) (hG : Ga tb L sp ad ρ h0 h (N, m, lv, st) LV SV) (hr : x_call tb tu ul mth ih M lk N m st go = some outs)
    (GK : ∀ N' m' st' o, go N' m' st' = some o → (∀ z ∈ o, z ∈ outs) → ∀ ρ' h' SV', Sb ρ ρ' → Ga tb L sp ad ρ' h0 h' (N', m', lv, st') LV SV' → Wp sb dC dI dA sp H0 l ρ0 ad rf tb.1 M (pc + len) h' LV SV' P) : Wp sb dC dI dA sp H0 l ρ0 ad rf tb.1 M pc h LV SV P := by
  obtain ⟨hN, hm, hT, hL, hS⟩ := id hG
  unfold x_call at hr
  obtain ⟨a, lk1, rfl, hr1⟩ := lc_s hr
  obtain ⟨b, lk2', rfl, hr2⟩ := lc_s hr1
  obtain ⟨kc, lk3, rfl, hr3⟩ := lc_s hr2
  obtain ⟨ci, lk4, rfl, hr4⟩ := lc_s hr3
  obtain ⟨C, hC, hr5⟩ := ob_s hr4
  obtain ⟨⟨as, rest⟩, has, hr6⟩ := ob_s hr5
  obtain ⟨g, hr7⟩ := gd_s hr6
  dsimp only at g hr7
  obtain ⟨u, e1, e2, e3⟩ := v_args_ok _ has
  rw [List.append_nil] at e1
  subst e1
  subst e2
  have w1 := bb_and g
  have w2 := bb_and w1.2
  have w3 := bb_and w2.2
  have w4 := bb_and w3.2
  have w5 := bb_and w4.2
  have w6 := bb_and w5.2
  have w7 := bb_and w6.2
  have hCn : C.1.name ≠ "<init>" := of_decide_eq_true w7.1
  obtain ⟨⟨hMC, hCC⟩, hCq⟩ := hMT a b C hC
  obtain ⟨UA, R, rfl, hUA, hRest⟩ := Sk.split hS
  have hAS := hUA.rev
  rw [List.reverse_reverse] at hAS
  have hLA := Lk.locs 0 hAS
  have hkc : kc = 0 ∨ kc = 2 := by
    rcases (Bool.or_eq_true _ _).mp w7.2 with z | z
    · exact Or.inr (bb_eq z)
    · exact Or.inl (bb_eq (bb_and z).1)
  have hrcv : kc = 0 → rcvt ad tb.1 ci UA.reverse := fun hk => by
    have z : v_rcv tb ci as = true := by
      rcases (Bool.or_eq_true _ _).mp w7.2 with z | z
      · rw [hk] at z; cases z
      · exact (bb_and z).2
    cases as with
    | nil => cases z
    | cons a0 ar =>
      obtain ⟨VA, VR, ev, hVA, -⟩ := Sk.cons hAS
      rw [ev]
      have z : (bif Nat.beq a0.1 2 then (match ax_nth tb.1 (cel a0) with | some q => Nat.beq q.1 ci && Nat.blt ci 100 | none => false) else Nat.beq a0.1 6 && (Nat.beq ci 200 && (Nat.beq (cel a0) 1 || Nat.beq (cel a0) 3))) = true := z
      cases ht : Nat.beq a0.1 2 with
      | true =>
        rw [ht] at z
        simp only [cond_true] at z
        rw [ax_nth_eq] at z
        have hA2 : VA = .ref (ad (cel a0)) := hVA.r ht
        cases hq : tb.1[cel a0]? with
        | none => rw [hq] at z; cases z
        | some q =>
          rw [hq] at z
          have y := bb_and z
          exact Or.inl ⟨bb_lt y.2, cel a0, q.2.1, q.2.2, by rw [hA2]; rfl, by rw [hq, ← bb_eq y.1]⟩
      | false =>
        rw [ht] at z
        have y := bb_and z
        have y1 := bb_and y.2
        have hA2 : VA = .retAddr (cel a0) := hVA.s y.1
        exact Or.inr ⟨bb_eq y1.1, cel a0, by
          rcases (Bool.or_eq_true _ _).mp y1.2 with q | q
          · exact Or.inl (bb_eq q)
          · exact Or.inr (bb_eq q), by rw [hA2]; rfl⟩
  have hst : UA = UA.reverse.reverse := by rw [List.reverse_reverse]
  have CALL : ∀ {P1 : PO}, Wp sb dC dI dA sp H0 l ρ0 ad rf tb.1 C 0 h (lv_args 0 UA.reverse) [] P1 → Rt C P1 → (∀ pc' h' lv' st', P1 pc' h' lv' st' → Wp sb dC dI dA sp H0 l ρ0 ad rf tb.1 M (pc + len) h' LV (st' ++ R) P) → Wp sb dC dI dA sp H0 l ρ0 ad rf tb.1 M pc h LV (UA ++ R) P := fun hW hRt K => by
    rw [hst]
    exact wp_call hC hCC hdg hlen hlk ho (h900 a _ rfl) hkc (by rw [List.length_reverse, hUA.len, List.length_reverse]; exact e3) (bb_lt w1.1) (bb_le w2.1) (by rw [hRest.wt]; exact bb_le w3.1) (by rw [hAS.wt]; exact bb_le w6.1) ⟨bb_eq w4.1, bb_eq w5.1⟩ hrcv hW hRt K
  have hG1 : Ga tb L sp ad ρ h0 h (N, m, v_locs 0 as, []) (lv_args 0 UA.reverse) [] := ⟨hN, hm, hT, hLA, trivial⟩
  cases hk : x_pk tu a b N as with
  | none =>
    rw [hk] at hr7
    dsimp only at hr7
    cases hu : uf tb a b 0 N m (v_locs 0 as) [] ul with
    | some q =>
      rw [hu] at hr7
      dsimp only at hr7
      obtain ⟨e, m1, m2, m3, m4⟩ := uf_ok (ul := ul) hu
      obtain ⟨n1, n2, n3⟩ := hUL e m1
      have n4 := n3 C (by rw [m2]; exact hCq)
      rw [m3] at n1 n2 n4
      rw [m2] at n4
      obtain ⟨-, ρ', ρT, LV', k1, k2, k3, k4, k5, k6⟩ := um_ok n1 n2 hG1 m4
      have hUW : Wp sb dC dI dA sp H0 l ρ0 ad rf tb.1 C 0 h (lv_args 0 UA.reverse) [] (Pu tb sp ad L q.1 ρT h C) := wp_less k5 (n4 ρT h LV' k6)
      refine CALL hUW (fun pc' h' lv' st' hp => ?_) (fun pc' h' lv' st' hp => ?_)
      · obtain ⟨o, o1, o2, r, N2, m2', lv2, st2, ρ2, p1, p2, p3, p4⟩ := unit_at k2 k3 k4 hr7 hp
        obtain ⟨g0, -⟩ := gd_s p1
        rcases o2 with ⟨-, z⟩ | ⟨z, -⟩
        · exact z
        · rw [z] at g0; cases g0
      · obtain ⟨o, o1, o2, r, N2, m2', lv2, st2, ρ2, p1, p2, p3, p4⟩ := unit_at k2 k3 k4 hr7 hp
        obtain ⟨g0, p1'⟩ := gd_s p1
        exact GK _ _ _ r p1' p2 ρ2 h' _ (k1.tr p3) ⟨p4.1, p4.2.1, p4.2.2.1, hL.mono (k1.tr p3), p4.2.2.2.2.app (hRest.mono (k1.tr p3))⟩
    | none =>
      rw [hu] at hr7
      dsimp only at hr7
      obtain ⟨outs0, i1, hr8⟩ := ob_s hr7
      have hIW := hI C (ct0 tu a b) 0 C.2.2.2.2.2.2 N m (v_locs 0 as) [] outs0 hMC hCq hCn (fun _ hx => hx) i1 ρ h0 h _ _ hG1
      have AL : ∀ o ∈ outs0, ∃ r, (gd (Nat.beq o.1 0) (go o.2.2.1 o.2.2.2.1 (o.2.2.2.2.2 ++ rest)) : R2) = some r ∧ ∀ z ∈ r, z ∈ outs := fun o hoo => al2_s hr8 _ (List.mem_map.mpr ⟨o, hoo, rfl⟩)
      refine CALL hIW (fun pc' h' lv' st' hp => ?_) (fun pc' h' lv' st' hp => ?_)
      · obtain ⟨o, o1, o2, -⟩ := hp
        obtain ⟨r, r1, -⟩ := AL o o1
        obtain ⟨g0, -⟩ := gd_s r1
        rcases o2 with ⟨-, z⟩ | ⟨z, -⟩
        · exact z
        · rw [z] at g0; cases g0
      · obtain ⟨o, o1, o2, ρ2, o3, o4⟩ := hp
        obtain ⟨r, r1, r2⟩ := AL o o1
        obtain ⟨g0, r1'⟩ := gd_s r1
        exact GK _ _ _ r r1' r2 ρ2 h' _ o3 ⟨o4.1, o4.2.1, o4.2.2.1, hL.mono o3, o4.2.2.2.2.app (hRest.mono o3)⟩
  | some key =>
    rw [hk] at hr7
    dsimp only at hr7
    obtain ⟨i, k1, k2, k3, k4, k5⟩ := x_pk_ok hN hAS hk
    cases hc : ca_fd key.1 key.2 m.2.2.2.2.2 with
    | some v =>
      rw [hc] at hr7
      dsimp only at hr7
      obtain ⟨i', x, y1, y2, y3, y4⟩ := hm.2.2.2.2.2 _ (ca_fd_ok hc)
      have ei : i = i' := k1.fn y1
      subst ei
      rw [hPX] at y4
      obtain ⟨C', c1, pc', lv', y, c2, c3, c4⟩ := y4
      rw [k4, k5, hCq] at c1
      cases c1
      rw [← k3] at c2
      obtain ⟨v', v1, v2⟩ := lf_nv_ok hN.1 v (fun v' => go N m ((0, v') :: rest))
      rw [v1] at hr7
      refine CALL (P1 := one pc' h lv' [.int y]) ⟨pc', h, lv', [.int y], ⟨rfl, rfl, rfl, rfl⟩, c2⟩ (fun p1 h1 l1 s1 q => ?_) (fun p1 h1 l1 s1 q => ?_)
      · obtain ⟨rfl, rfl, rfl, rfl⟩ := q
        exact c3
      · obtain ⟨rfl, rfl, rfl, rfl⟩ := q
        exact GK _ _ _ _ hr7 (fun _ z => z) ρ _ _ (Sb.rf ρ) ⟨hN, hm, hT, hL, ⟨y, rfl, by rw [c4]; exact v2 x y3⟩, hRest⟩
    | none =>
      rw [hc] at hr7
      dsimp only at hr7
      cases hu : uf tb a b 0 N m (v_locs 0 as) [] ul with
      | none => rw [hu] at hr7; cases hr7
      | some q =>
        rw [hu] at hr7
        dsimp only at hr7
        obtain ⟨gW, hr8⟩ := gd_s hr7
        obtain ⟨e, m1, m2, m3, m4⟩ := uf_ok (ul := ul) hu
        obtain ⟨n1, n2, n3⟩ := hUL e m1
        have n4 := n3 C (by rw [m2]; exact hCq)
        rw [m3] at n1 n2 n4
        rw [m2] at n4
        obtain ⟨-, ρ', ρT, LV', l1, l2, l3, l4, l5, l6⟩ := um_ok n1 n2 hG1 m4
        obtain ⟨pc1, h1, lv1, st1, p1, W1⟩ : Wp sb dC dI dA sp H0 l ρ0 ad rf tb.1 C 0 h (lv_args 0 UA.reverse) [] (Pu tb sp ad L q.1 ρT h C) := wp_less l5 (n4 ρT h LV' l6)
        obtain ⟨o, o1, o2, r, N2, m2', lv2, st2, ρ2, p2, p3, p4, p5⟩ := unit_at l2 l3 l4 hr8 p1
        obtain ⟨g0, p6⟩ := gd_s p2
        obtain ⟨v, rr, rfl, p7⟩ := lc_s p6
        obtain ⟨g1, p8⟩ := gd_s p7
        have w8 := bb_and g1
        have hrr : rr = [] := by
          cases rr with
          | nil => rfl
          | cons _ _ => exact absurd w8.1 (fun z => by cases z)
        subst hrr
        obtain ⟨V, R1, rfl, hV, hR1⟩ := Sk.cons p5.2.2.2.2
        obtain rfl := hR1.nil
        obtain ⟨y, rfl, hy⟩ := hV.i w8.2
        have hrte : rte C pc1 [.int y] := by
          rcases o2 with ⟨-, z⟩ | ⟨z, -⟩
          · exact z
          · rw [z] at g0; cases g0
        have hh : h1 = h := by
          obtain ⟨o', -, -, e', ho'⟩ := p1
          have gW' : q.1.2.2.2.1 = [] := by
            cases hw : q.1.2.2.2.1 with
            | nil => rfl
            | cons _ _ => rw [hw] at gW; cases gW
          exact funext (fun c => funext (fun k => ho'.2.1.2.2.2.1 c k (fun w hw => by
            have hw : w ∈ q.1.2.2.2.1 := hw
            rw [gW'] at hw
            cases hw)))
        subst hh
        refine CALL (P1 := one pc1 h1 lv1 [.int y]) ⟨pc1, h1, lv1, [.int y], ⟨rfl, rfl, rfl, rfl⟩, W1⟩ (fun p1' h1' l1' s1' q => ?_) (fun p1' h1' l1' s1' q => ?_)
        · obtain ⟨rfl, rfl, rfl, rfl⟩ := q
          exact hrte
        · obtain ⟨rfl, rfl, rfl, rfl⟩ := q
          have hs := l1.tr p4
          have pm := p5.2.1
          refine GK _ _ _ r p8 p3 ρ2 _ _ hs ⟨p5.1, ⟨pm.1, pm.2.1, pm.2.2.1, pm.2.2.2.1, pm.2.2.2.2.1, fun e he => ?_⟩, p5.2.2.1, hL.mono hs, ⟨hV, hRest.mono hs⟩⟩
          rcases List.mem_cons.mp he with rfl | he
          · refine ⟨i, y.toInt, k1.mono hs, k2, hy, ?_⟩
            show L.2.2 _ key.1 _ _
            rw [hPX]
            exact ⟨C, by rw [k4, k5]; exact hCq, _, _, y, by rw [← k3]; exact W1, hrte, rfl⟩
          · exact pm.2.2.2.2.2 e he
theorem so_inv {ul : UL} {tu : TU} {ih : GO2} {go : NS → MM → List V2 → R2} (hPX : L.2.2 = PXd sb mq dC dI dA sp H0 l ρ0 ad rf tb.1) (hUL : ULOK tb sb mq dC dI dA sp H0 l ρ0 ad rf L ul) (hMT : ∀ a b C, mth a b = some C → (Mok mth C ∧ Mcw C) ∧ mq a b = some C) (hI : Snd2 tb sb mq dC dI dA sp H0 l ρ0 ad rf L ih) (hdg : Dg M pc ins len lk) (hlen : len = ax_len ins) (hlk : lok mth M pc ins lk = true) (ho : ax_op ins = 21) (hG : Ga tb L sp ad ρ h0 h (N, m, lv, st) LV SV) (hr : x_inv tb tu ul mth ih M lk N m st go = some outs)
    (GK : ∀ N' m' st' o, go N' m' st' = some o → (∀ z ∈ o, z ∈ outs) → ∀ ρ' h' SV', Sb ρ ρ' → Ga tb L sp ad ρ' h0 h' (N', m', lv, st') LV SV' → Wp sb dC dI dA sp H0 l ρ0 ad rf tb.1 M (pc + len) h' LV SV' P) : Wp sb dC dI dA sp H0 l ρ0 ad rf tb.1 M pc h LV SV P := by
  obtain ⟨hN, hm, hT, hL, hS⟩ := id hG
  unfold x_inv at hr
  obtain ⟨x, lk1, e0, hr9⟩ := lc_s hr
  cases h0' : Nat.beq x 900 with
  | true => rw [h0'] at hr9; cases hr9
  | false =>
    rw [h0'] at hr9
    simp only [cond_false] at hr9
    cases h1 : Nat.beq x 901 with
    | true =>
      rw [h1] at hr9
      simp only [cond_true] at hr9
      have ex := bb_eq h1
      subst ex
      obtain ⟨n, st1, rfl, hr10⟩ := lc_s hr9
      obtain ⟨dp, st2, rfl, hr11⟩ := lc_s hr10
      obtain ⟨d, st3, rfl, hr12⟩ := lc_s hr11
      obtain ⟨sq, st4, rfl, hr13⟩ := lc_s hr12
      obtain ⟨s, r, rfl, hr14⟩ := lc_s hr13
      obtain ⟨g, hr15⟩ := gd_s hr14
      obtain ⟨q0, q1, hr16⟩ := ob_s hr15
      obtain ⟨q2, q3, hr17⟩ := ob_s hr16
      obtain ⟨g2, hr18⟩ := gd_s hr17
      rw [ax_nth_eq] at q1 q3
      have w1 := bb_and g
      have w2 := bb_and w1.2
      have w3 := bb_and w2.2
      have w4 := bb_and w3.2
      have w5 := bb_and w4.2
      have w6 := bb_and w5.2
      obtain ⟨NV, R1, rfl, hn, hS1⟩ := hS.cons
      obtain ⟨DP, R2', rfl, hdp, hS2⟩ := hS1.cons
      obtain ⟨D, R3, rfl, hd, hS3⟩ := hS2.cons
      obtain ⟨SQ, R4, rfl, hsq, hS4⟩ := hS3.cons
      obtain ⟨S, R, rfl, hs, hS5⟩ := hS4.cons
      obtain ⟨xn, rfl, hxn⟩ := hn.i w1.1
      obtain ⟨xd, rfl, hxd⟩ := hdp.i w2.1
      obtain ⟨xs, rfl, hxs⟩ := hsq.i w4.1
      have hD : D = .ref (ad (cel d)) := hd.r w3.1
      have hSs : S = .ref (ad (cel s)) := hs.r w5.1
      subst hD
      subst hSs
      obtain ⟨s0, s1, m', c1, c2, c3, c4, c5, c6, c7, c8, c9, c10⟩ := cpq_ok hN hm hT hxs hxd hxn hr18
      rw [q1] at c1
      rw [q3] at c2
      cases c1
      cases c2
      have y := bb_and g2
      rw [e0] at hlk hdg
      exact wp_copy (cs := cel s) (cd := cel d) (kd := q0.1) (n0 := q0.2.1) (n1 := q2.2.1) (f0 := q0.2.2) (f1 := q2.2.2) hdg hlen hlk ho (bb_le w6.1) (by rw [hS5.wt]; exact bb_le w6.2) q1 (by rw [q3, bb_eq y.1]) (by
        rcases (Bool.or_eq_true _ _).mp y.2 with z | z
        · exact Or.inl (bb_eq z)
        · exact Or.inr (bb_eq z)) c3 c4 c5 c6 c7 (GK _ _ _ _ c8 (fun _ hz => hz) ρ _ _ (Sb.rf ρ) ⟨hN, c9, c10, hL, hS5⟩)
    | false =>
      rw [h1] at hr9
      simp only [cond_false] at hr9
      cases h2 : Nat.beq x 902 with
      | true =>
        rw [h2] at hr9
        simp only [cond_true] at hr9
        have ex := bb_eq h2
        subst ex
        obtain ⟨b, st1, rfl, hr19⟩ := lc_s hr9
        obtain ⟨a, r, rfl, hr20⟩ := lc_s hr19
        obtain ⟨g, hr21⟩ := gd_s hr20
        have w1 := bb_and g
        have w2 := bb_and w1.2
        have w3 := bb_and w2.2
        obtain ⟨B, R1, rfl, hB, hS1⟩ := hS.cons
        obtain ⟨A, R, rfl, hA, hS2⟩ := hS1.cons
        obtain ⟨xa, rfl, hxa⟩ := hA.i w1.1
        obtain ⟨xb, rfl, hxb⟩ := hB.i w2.1
        obtain ⟨N', f, ρ', k1, k2, k3, k4⟩ := n_min_ok hN hxa hxb hr21
        rw [e0] at hlk hdg
        exact wp_min hdg hlen hlk ho (bb_le w3.1) (by rw [hS2.wt]; exact bb_le w3.2) (GK _ _ _ _ k1 (fun _ hz => hz) ρ' _ _ k2 ⟨k3, hm.mono k2, hT, hL.mono k2, ⟨_, rfl, k4⟩, hS2.mono k2⟩)
      | false =>
        rw [h2] at hr9
        simp only [cond_false] at hr9
        cases h3 : Nat.beq x 903 with
        | true =>
          rw [h3] at hr9
          simp only [cond_true] at hr9
          have ex := bb_eq h3
          subst ex
          obtain ⟨x', l1, e1, hr30⟩ := lc_s hr9
          obtain ⟨y', l2, e2, hr31⟩ := lc_s hr30
          rw [e0] at e1
          cases e1
          subst e2
          cases hmt : mth 903 y' with
          | some _ => rw [hmt] at hr31; cases hr31
          | none =>
            rw [hmt] at hr31
            dsimp only at hr31
            obtain ⟨b, st1, rfl, hr32⟩ := lc_s hr31
            obtain ⟨a, r, rfl, hr33⟩ := lc_s hr32
            obtain ⟨g, hr34⟩ := gd_s hr33
            have w1 := bb_and g
            have w2 := bb_and w1.2
            have w3 := bb_and w2.2
            obtain ⟨B, R1, rfl, hB, hS1⟩ := hS.cons
            obtain ⟨A, R, rfl, hA, hS2⟩ := hS1.cons
            obtain ⟨xa, rfl, hxa⟩ := hA.i w1.1
            obtain ⟨xb, rfl, hxb⟩ := hB.i w2.1
            obtain ⟨N', f, ρ', k1, k2, k3, k4⟩ := n_max_ok hN hxa hxb hr34
            rw [e0] at hlk hdg
            exact wp_max hmt hdg hlen hlk ho (bb_le w3.1) (by rw [hS2.wt]; exact bb_le w3.2) (GK _ _ _ _ k1 (fun _ hz => hz) ρ' _ _ k2 ⟨k3, hm.mono k2, hT, hL.mono k2, ⟨_, rfl, k4⟩, hS2.mono k2⟩)
        | false =>
          rw [h3] at hr9
          simp only [cond_false] at hr9
          exact so_call hPX hUL hMT hI hdg hlen hlk ho (fun y lk' e => by
            rw [e0] at e
            cases e
            exact ⟨⟨h0', h1, h2⟩, h3⟩) hG hr9 GK
end SO
end
section
/-! 3a.run -/
/-! THE MACHINE BY FORMS is sound, 4: all steps -/
section SO
variable {tb : TB} {sb : Nat → List Nat} {mq : Nat → Nat → Option MR} {dC : Nat → ClassId} {dI : Nat → Nat → Nat} {dA : Nat → ClassId} {sp : Nat → Nat} {H0 : Heap} {l : Launch} {ρ0 : List Nat} {ad : Nat → Nat} {rf : Nat → Nat → Option Nat} {L : LSc}
theorem v_rok_ok {N : NS} {ρ : List Int} (hN : Nk ρ N) {M : MR} {pc : Nat} {ins : Instr} {st : List V2} {SV : List Value} (hS : Sk sp ad ρ st SV) (hdg : decode M.2.1 pc = .ok (ins, 1)) (hv : v_rok N M.2.2.2.1 (ax_op ins) st = true) : rte M pc SV := by
  refine ⟨ins, hdg, ?_⟩
  have RG : ∀ (v : V2) (x n : Int), Lv ρ v.2 x → (pv1 N v.2 && lf_sc (-1) v.2 n (pv1 N)) = true → 0 ≤ x ∧ x ≤ n := fun v x n hx hb => by
    have w := bb_and hb
    obtain ⟨d, d1, d2⟩ := lf_sc_ok (-1) v.2 n (pv1 N)
    have w2 := w.2
    rw [d1] at w2
    have a := pv1_ok hN w.1 hx
    have b := pv1_ok hN w2 (d2 ρ _ hx)
    omega
  cases ins <;> first | (cases hv; done) | skip
  case ireturn =>
    match st, hS, hv with
    | [v], hS, hv =>
      obtain ⟨V, R, rfl, hV, hR⟩ := hS.cons
      obtain rfl := hR.nil
      have hv : (Nat.beq v.1 0 && (match M.2.2.2.1 with | some .int => true | some .boolean => pv1 N v.2 && lf_sc (-1) v.2 1 (pv1 N) | some .byte => pv1 N v.2 && lf_sc (-1) v.2 1 (pv1 N) | some .char => pv1 N v.2 && lf_sc (-1) v.2 65535 (pv1 N) | _ => false)) = true := hv
      have w := bb_and hv
      obtain ⟨x, rfl, hx⟩ := hV.i w.1
      have w2 := w.2
      refine ⟨x, rfl, ?_⟩
      cases hty : M.2.2.2.1 with
      | none => rw [hty] at w2; cases w2
      | some ty =>
        rw [hty] at w2
        cases ty <;> first | (cases w2; done) | skip
        case int => exact Or.inl rfl
        case boolean => have b := RG v _ 1 hx w2; exact Or.inr (Or.inl ⟨rfl, by omega⟩)
        case byte => have b := RG v _ 1 hx w2; exact Or.inr (Or.inr (Or.inl ⟨rfl, by omega⟩))
        case char => have b := RG v _ 65535 hx w2; exact Or.inr (Or.inr (Or.inr ⟨rfl, b.1, b.2⟩))
  case lreturn =>
    match st, hS, hv with
    | [v], hS, hv =>
      obtain ⟨V, R, rfl, hV, hR⟩ := hS.cons
      obtain rfl := hR.nil
      have hv : (Nat.beq v.1 1 && (match M.2.2.2.1 with | some .long => true | _ => false)) = true := hv
      have w := bb_and hv
      obtain ⟨x, rfl, hx⟩ := hV.l w.1
      have w2 := w.2
      refine ⟨x, rfl, ?_⟩
      cases hty : M.2.2.2.1 with
      | none => rw [hty] at w2; cases w2
      | some ty =>
        rw [hty] at w2
        cases ty <;> first | (cases w2; done) | rfl
  case areturn =>
    match st, hS, hv with
    | [v], hS, hv =>
      obtain ⟨V, R, rfl, hV, hR⟩ := hS.cons
      obtain rfl := hR.nil
      have hv : (Nat.beq v.1 2 && (match M.2.2.2.1 with | some (.object _) => true | _ => false)) = true := hv
      have w := bb_and hv
      have hV2 := hV.r w.1
      subst hV2
      have w2 := w.2
      refine ⟨_, rfl, ?_⟩
      cases hty : M.2.2.2.1 with
      | none => rw [hty] at w2; cases w2
      | some ty =>
        rw [hty] at w2
        cases ty <;> first | (cases w2; done) | skip
        case object n => exact ⟨n, rfl⟩
  case return_ =>
    match st, hS, hv with
    | [], hS, hv =>
      obtain rfl := hS.nil
      have hv : (match M.2.2.2.1 with | none => true | _ => false) = true := hv
      refine ⟨rfl, ?_⟩
      cases hty : M.2.2.2.1 with
      | none => rfl
      | some ty => rw [hty] at hv; cases hv
set_option maxHeartbeats 2000000 in
theorem so_st {ul : UL} {tu : TU} {ih : GO2} (hL6 : LOK sb mq dC dI dA sp H0 l ρ0 ad rf tb.1 L) (hL31 : L.1 < 2147483648) (hrf : ∀ c q, tb.1[c]? = some q → 103 ≤ q.1 → ∀ j f, j < q.2.1 → q.2.2[j]? = some f → rf c j = some (ad f.2)) (hUL : ULOK tb sb mq dC dI dA sp H0 l ρ0 ad rf L ul) (hMT : ∀ a b C, mth a b = some C → (Mok mth C ∧ Mcw C) ∧ mq a b = some C) (hI : Snd2 tb sb mq dC dI dA sp H0 l ρ0 ad rf L ih) : Snd2 tb sb mq dC dI dA sp H0 l ρ0 ad rf L (x_st tb tu ul sb mth ih) := by
  intro M ct pc cd N m lv st outs hM hMt hni hcd hr ρ h0 h LV SV hG
  unfold x_st at hr
  obtain ⟨⟨pc0, op, len, lk, ins⟩, tl, hcd1, hr1⟩ := lc_s (l := cd) hr
  obtain ⟨g1, hr2⟩ := gd_s hr1
  have hpc : pc0 = pc := bb_eq g1
  subst hpc
  have hmem : ((pc0, op, len, lk, ins) : ME) ∈ cd := by rw [hcd1]; exact List.mem_cons_self
  have htl : ∀ x ∈ tl, x ∈ M.2.2.2.2.2.2 := fun x hx => hcd x (by rw [hcd1]; exact List.mem_cons_of_mem _ hx)
  have hok := hM _ (hcd _ hmem)
  unfold eok at hok
  have k1 := bb_and hok
  have k2 := bb_and k1.2
  have k3 := bb_and k2.2
  have hop : op = ax_op ins := bb_eq k2.1
  have hdg : Dg M pc0 ins len lk := ⟨of_decide_eq_true k1.1, by rw [← hop]; exact hcd _ hmem⟩
  have hlk : lok mth M pc0 ins lk = true := k3.2
  have hle : op < 57 → len = ax_len ins := fun q => by
    rcases (Bool.or_eq_true _ _).mp k3.1 with z | z
    · have := bb_le z; dsimp only at this; omega
    · exact bb_eq z
  dsimp only at hr2
  obtain ⟨hN, hm, hT, hL, hS⟩ := id hG
  -- the next place
  have NX : ∀ N' m' lv' st' o, ih M ct (pc0 + len) tl N' m' lv' st' = some o → (∀ z ∈ o, z ∈ outs) → ∀ ρ' h' LV' SV', Sb ρ ρ' → Ga tb L sp ad ρ' h0 h' (N', m', lv', st') LV' SV' → Wp sb dC dI dA sp H0 l ρ0 ad rf tb.1 M (pc0 + len) h' LV' SV' (Pq tb sp ad L outs ρ h0 M) := fun N' m' lv' st' o a1 a2 ρ' h' LV' SV' a3 a4 =>
    Pq_in a3 a2 (hI M ct _ tl N' m' lv' st' o hM hMt hni htl a1 ρ' h0 h' LV' SV' a4)
  have JP : ∀ t N' m' lv' st' o, ih M ct t (ax_jmp M.2.2.2.2.2.2 t) N' m' lv' st' = some o → (∀ z ∈ o, z ∈ outs) → ∀ ρ' h' LV' SV', Sb ρ ρ' → Ga tb L sp ad ρ' h0 h' (N', m', lv', st') LV' SV' → Wp sb dC dI dA sp H0 l ρ0 ad rf tb.1 M t h' LV' SV' (Pq tb sp ad L outs ρ h0 M) := fun t N' m' lv' st' o a1 a2 ρ' h' LV' SV' a3 a4 =>
    Pq_in a3 a2 (hI M ct _ _ N' m' lv' st' o hM hMt hni (ax_jmp_in _ _) a1 ρ' h0 h' LV' SV' a4)
  cases b1 : Nat.ble op 7 with
  | true =>
    rw [b1] at hr2
    have b1' := bb_le b1
    simp only [cond_true] at hr2
    exact so_b0 hdg (hle (by omega)) hlk hop.symm b1' hG hr2 (fun N' lv' st' z ρ' LV' SV' z1 z2 => NX _ _ _ _ _ z (fun _ q => q) ρ' h LV' SV' z1 z2)
  | false =>
    rw [b1] at hr2
    simp only [cond_false] at hr2
    have b1' := bb_nle b1
    cases b2 : Nat.ble op 17 with
    | true =>
      rw [b2] at hr2
      simp only [cond_true] at hr2
      have b2' := bb_le b2
      have hlen := hle (by omega)
      cases b3 : Nat.beq op 8 with
      | true =>
        rw [b3] at hr2
        have e8 := bb_eq b3
        exact so_getf hdg hlen hlk (by omega) hG hr2 (fun N' m' st' z ρ' SV' z1 z2 => NX _ _ _ _ _ z (fun _ q => q) ρ' h LV SV' z1 z2)
      | false =>
        rw [b3] at hr2
        simp only [cond_false] at hr2
        cases b4 : Nat.beq op 9 with
        | true =>
          rw [b4] at hr2
          have e9 := bb_eq b4
          exact so_putf hni hdg hlen hlk (by omega) hG hr2 (fun m' st' z h' SV' z1 => NX _ _ _ _ _ z (fun _ q => q) ρ h' LV SV' (Sb.rf ρ) z1)
        | false =>
          rw [b4] at hr2
          simp only [cond_false] at hr2
          have n8 := bb_ne b3
          have n9 := bb_ne b4
          cases b5 : Nat.ble op 13 with
          | true =>
            rw [b5] at hr2
            have b5' := bb_le b5
            simp only [cond_true] at hr2
            exact so_ald (kd := op + 90) hL6.1 hL31 hrf hdg hlen (by omega) (by omega) (by omega) hG hr2 (fun N' m' st' z ρ' SV' z1 z2 => NX _ _ _ _ _ z (fun _ q => q) ρ' h LV SV' z1 z2) (fun N' o z z1 z2 => Pq_in (Sb.rf ρ) z1 (hI M ct _ cd N' m lv st o hM hMt hni hcd z ρ h0 h LV SV z2))
          | false =>
            rw [b5] at hr2
            simp only [cond_false] at hr2
            obtain ⟨g2, hr3⟩ := gd_s hr2
            have b6 := bb_le g2
            have b5' := bb_nle b5
            exact so_ast (kd := op + 86) hdg hlen (by omega) (by omega) (by omega) hG hr3 (fun m' st' z h' SV' z1 => NX _ _ _ _ _ z (fun _ q => q) ρ h' LV SV' (Sb.rf ρ) z1)
    | false =>
      rw [b2] at hr2
      simp only [cond_false] at hr2
      have b2' := bb_nle b2
      cases b3 : Nat.ble op 25 with
      | true =>
        rw [b3] at hr2
        simp only [cond_true] at hr2
        have b3' := bb_le b3
        have hlen := hle (by omega)
        cases b4 : Nat.ble op 19 with
        | true =>
          rw [b4] at hr2
          simp only [cond_true] at hr2
          have b4' := bb_le b4
          obtain ⟨t, lk1, e1, hr4⟩ := lc_s hr2
          obtain ⟨c, lk2', e2, hr5⟩ := lc_s hr4
          obtain ⟨g2, hr6⟩ := gd_s hr5
          rw [e1, e2] at hlk hdg
          cases b5 : Nat.beq op 18 with
          | true =>
            rw [b5] at hr6
            simp only [cond_true] at hr6
            have e18 := bb_eq b5
            obtain ⟨b, st1, rfl, hr7⟩ := lc_s hr6
            obtain ⟨a, r, rfl, hr8⟩ := lc_s hr7
            obtain ⟨g3, hr9⟩ := gd_s hr8
            have w := bb_and g3
            obtain ⟨B, R1, rfl, hB, hS1⟩ := hS.cons
            obtain ⟨A, R, rfl, hA, hS2⟩ := hS1.cons
            obtain ⟨x, rfl, hx⟩ := hA.i w.1
            obtain ⟨y, rfl, hy⟩ := hB.i w.2
            have q := bc_c_ok hN (bb_lt g2) hx hy hr9
            refine wp_icmp hdg hlen hlk (by omega) (fun z => ?_) (fun z => ?_)
            · obtain ⟨N', o, p1, p2, p3⟩ := q.1 z
              exact JP _ _ _ _ _ _ p1 p3 ρ h LV R (Sb.rf ρ) ⟨p2, hm, hT, hL, hS2⟩
            · obtain ⟨N', o, p1, p2, p3⟩ := q.2 z
              exact NX _ _ _ _ _ p1 p3 ρ h LV R (Sb.rf ρ) ⟨p2, hm, hT, hL, hS2⟩
          | false =>
            rw [b5] at hr6
            simp only [cond_false] at hr6
            have n18 := bb_ne b5
            obtain ⟨a, r, rfl, hr10⟩ := lc_s hr6
            obtain ⟨g3, hr11⟩ := gd_s hr10
            obtain ⟨A, R, rfl, hA, hS2⟩ := hS.cons
            obtain ⟨x, rfl, hx⟩ := hA.i g3
            have q := bc_c_ok hN (bb_lt g2) hx (b := (0, [])) (y := 0) (Lv.c ρ 0) hr11
            refine wp_ifc hdg hlen hlk (by omega) (fun z => ?_) (fun z => ?_)
            · obtain ⟨N', o, p1, p2, p3⟩ := q.1 z
              exact JP _ _ _ _ _ _ p1 p3 ρ h LV R (Sb.rf ρ) ⟨p2, hm, hT, hL, hS2⟩
            · obtain ⟨N', o, p1, p2, p3⟩ := q.2 z
              exact NX _ _ _ _ _ p1 p3 ρ h LV R (Sb.rf ρ) ⟨p2, hm, hT, hL, hS2⟩
        | false =>
          rw [b4] at hr2
          simp only [cond_false] at hr2
          have b4' := bb_nle b4
          cases b5 : Nat.beq op 20 with
          | true =>
            rw [b5] at hr2
            simp only [cond_true] at hr2
            have e20 := bb_eq b5
            obtain ⟨t, lk1, e1, hr12⟩ := lc_s hr2
            rw [e1] at hlk hdg
            exact wp_goto hdg hlen hlk (by omega) (JP _ _ _ _ _ _ hr12 (fun _ q => q) ρ h LV SV (Sb.rf ρ) hG)
          | false =>
            rw [b5] at hr2
            simp only [cond_false] at hr2
            have n20 := bb_ne b5
            cases b6 : Nat.beq op 21 with
            | true =>
              rw [b6] at hr2
              simp only [cond_true] at hr2
              have e21 := bb_eq b6
              exact so_inv hL6.2 hUL hMT hI hdg hlen hlk (by omega) hG hr2 (fun N' m' st' o z z0 ρ' h' SV' z1 z2 => NX _ _ _ _ _ z z0 ρ' h' LV SV' z1 z2)
            | false =>
              rw [b6] at hr2
              simp only [cond_false] at hr2
              obtain ⟨g2, hr13⟩ := gd_s hr2
              have w := bb_and g2
              have hr14' := Option.some.inj hr13
              have e1 := bb_eq w.2
              subst e1
              refine wp_rf ⟨_, by rw [← hr14']; exact List.mem_cons_self, Or.inl ⟨rfl, v_rok_ok hN hS hdg.1 (by rw [← hop]; exact w.1)⟩, ρ, Sb.rf ρ, hG⟩
      | false =>
        rw [b3] at hr2
        simp only [cond_false] at hr2
        have b3' := bb_nle b3
        cases b4 : Nat.ble op 52 with
        | true =>
          rw [b4] at hr2
          have b4' := bb_le b4
          exact so_b3 hdg (fun _ => hle (by omega)) (fun q => by omega) hop.symm (by omega) (Or.inl b4') hG hr2 (fun N' st' o z z0 ρ' SV' z1 z2 => NX _ _ _ _ _ z z0 ρ' h LV SV' z1 z2)
        | false =>
          rw [b4] at hr2
          simp only [cond_false] at hr2
          have b4' := bb_nle b4
          cases b5 : Nat.beq op 53 with
          | true =>
            rw [b5] at hr2
            simp only [cond_true] at hr2
            have e53 := bb_eq b5
            obtain ⟨a, r, rfl, hr15⟩ := lc_s hr2
            obtain ⟨A, R, rfl, hA, hS2⟩ := hS.cons
            have hlen := hle (by omega)
            have hins : ins = .arraylength := by
              cases ins <;> first | (exfalso; simp only [ax_op] at hop; omega) | rfl
            subst hins
            have hlen : len = 1 := hlen
            subst hlen
            exact so_alen hL6.1 hL31 hdg hN hm hT hA hr15 (fun N' m' v z ρ' V z1 z2 z3 z4 => NX _ _ _ _ _ z (fun _ q => q) ρ' h LV (V :: R) z1 ⟨z2, z3, hT, hL.mono z1, z4, hS2.mono z1⟩)
          | false =>
            rw [b5] at hr2
            simp only [cond_false] at hr2
            cases b6 : Nat.beq op 56 with
            | true =>
              rw [b6] at hr2
              simp only [cond_true] at hr2
              have e56 := bb_eq b6
              obtain ⟨x, lk1, e1, hr16⟩ := lc_s hr2
              rw [e1] at hlk hdg
              refine wp_gets hdg (hle (by omega)) hlk (by omega) (fun z => ?_) (fun z => ?_)
              · rw [show Nat.beq x 0 = true from by rw [z]; rfl] at hr16
                exact NX _ _ _ _ _ hr16 (fun _ q => q) ρ h LV _ (Sb.rf ρ) ⟨hN, hm, hT, hL, ⟨1, rfl, Lv.c ρ 1⟩, hS⟩
              · rw [show Nat.beq x 0 = false from bb_nb z] at hr16
                exact NX _ _ _ _ _ hr16 (fun _ q => q) ρ h LV _ (Sb.rf ρ) ⟨hN, hm, hT, hL, rfl, hS⟩
            | false =>
              rw [b6] at hr2
              simp only [cond_false] at hr2
              cases b7 : Nat.beq op 57 with
              | true =>
                rw [b7] at hr2
                simp only [cond_true] at hr2
                have e57 := bb_eq b7
                obtain ⟨v, r, rfl, hr17⟩ := lc_s hr2
                obtain ⟨g2, hr18⟩ := gd_s hr17
                obtain ⟨d, lk1, e1, hr19⟩ := lc_s hr18
                obtain ⟨lo, lk2', e2, hr20⟩ := lc_s hr19
                obtain ⟨hi, ks, e3, hr21⟩ := lc_s hr20
                obtain ⟨g3, hr22⟩ := gd_s hr21
                have w := bb_and g3
                rw [e1, e2, e3] at hlk hdg
                obtain ⟨A, R, rfl, hA, hS2⟩ := hS.cons
                obtain ⟨x, rfl, hx⟩ := hA.i g2
                have elo := i32_ok (bb_lt w.1)
                have ehi := i32_ok (bb_lt w.2)
                have q := br_lt_ok hN hx (b := (i32 lo, [])) (y := i32 lo) (Lv.c ρ _) hr22
                by_cases c1 : x.toInt < i32 lo
                · obtain ⟨N', o, p1, p2, p3⟩ := q.1 c1
                  have K := JP _ _ _ _ _ _ p1 p3 ρ h LV R (Sb.rf ρ) ⟨p2, hm, hT, hL, hS2⟩
                  refine wp_table hdg hlk (by omega) K (fun _ => rfl) (fun _ => rfl) (fun k t z1 z2 => ?_)
                  exfalso
                  have hpair := hlk
                  cases ins <;> first | (exfalso; simp only [ax_op] at hop; omega) | skip
                  case tableswitch d0 lo0 hi0 offs =>
                    have u1 := bb_and (a := decide ((pc0 : Int) + d0 = (d : Int))) hpair
                    have u2 := bb_and u1.2
                    have u3 := bb_and u2.2
                    have u4 := bb_and u3.2
                    have u5 := bb_and u4.2
                    have u6 := bb_and u5.2
                    have hlo : (nI lo).toInt = lo0 := of_decide_eq_true u2.1
                    have y := ax_sk_pr ks u6.1 z1
                    have y2 := (bb_and (a := Nat.blt k 4294967296) y).2
                    cases ho2 : offs[((nI k).toInt - lo0).toNat]? with
                    | none => rw [ho2] at y2; cases y2
                    | some off =>
                      rw [ho2] at y2
                      have y3 := bb_and (a := decide ((pc0 : Int) + off = (t : Int))) y2
                      have y4 := bb_and y3.2
                      have y5 : lo0 ≤ (nI k).toInt := of_decide_eq_true y4.1
                      rw [← z2] at y5
                      omega
                · obtain ⟨N1, o, p1, p2, p3⟩ := q.2 c1
                  have q2 := br_lt_ok p2 (a := (i32 hi, [])) (x := i32 hi) (Lv.c ρ _) hx p1
                  by_cases c2 : i32 hi < x.toInt
                  · obtain ⟨N', o', r1, r2, r3⟩ := q2.1 c2
                    have K := JP _ _ _ _ _ _ r1 (fun z hz => p3 z (r3 z hz)) ρ h LV R (Sb.rf ρ) ⟨r2, hm, hT, hL, hS2⟩
                    refine wp_table hdg hlk (by omega) K (fun _ => rfl) (fun _ => rfl) (fun k t z1 z2 => ?_)
                    exfalso
                    have hpair := hlk
                    cases ins <;> first | (exfalso; simp only [ax_op] at hop; omega) | skip
                    case tableswitch d0 lo0 hi0 offs =>
                      have u1 := bb_and (a := decide ((pc0 : Int) + d0 = (d : Int))) hpair
                      have u2 := bb_and u1.2
                      have u3 := bb_and u2.2
                      have u4 := bb_and u3.2
                      have u5 := bb_and u4.2
                      have u6 := bb_and u5.2
                      have hlo : (nI lo).toInt = lo0 := of_decide_eq_true u2.1
                      have hhi : (nI hi).toInt = hi0 := of_decide_eq_true u3.1
                      have y := ax_sk_pr ks u6.1 z1
                      have y2 := (bb_and (a := Nat.blt k 4294967296) y).2
                      cases ho2 : offs[((nI k).toInt - lo0).toNat]? with
                      | none => rw [ho2] at y2; cases y2
                      | some off =>
                        rw [ho2] at y2
                        have y3 := bb_and (a := decide ((pc0 : Int) + off = (t : Int))) y2
                        have y4 := bb_and y3.2
                        have y5 : (nI k).toInt ≤ hi0 := of_decide_eq_true y4.2
                        rw [← z2] at y5
                        omega
                  · obtain ⟨N', o', r1, r2, r3⟩ := q2.2 c2
                    rcases x_sw_ok hx ks r2 r1 with ⟨k, t, N2, o2, s1, s2, s3, s4, s5⟩ | ⟨s1, N2, o2, s2, s3, s4⟩
                    · obtain ⟨N3, t1, t2⟩ := rfn_ok s4 hm s3
                      have K := JP _ _ _ _ _ _ t1 (fun z hz => p3 z (r3 z (s5 z hz))) ρ h LV R (Sb.rf ρ) ⟨t2, hm, hT, hL, hS2⟩
                      refine wp_table hdg hlk (by omega) K (fun z => by rw [elo, ehi] at z; omega) (fun z => absurd s2 (z k t s1)) (fun k' t' z1 z2 => ?_)
                      -- the same key has one target
                      have hpair := hlk
                      cases ins <;> first | (exfalso; simp only [ax_op] at hop; omega) | skip
                      case tableswitch d0 lo0 hi0 offs =>
                        have u1 := bb_and (a := decide ((pc0 : Int) + d0 = (d : Int))) hpair
                        have u2 := bb_and u1.2
                        have u3 := bb_and u2.2
                        have u4 := bb_and u3.2
                        have u5 := bb_and u4.2
                        have u6 := bb_and u5.2
                        have ya := (bb_and (a := Nat.blt k 4294967296) (ax_sk_pr ks u6.1 s1)).2
                        have yb := (bb_and (a := Nat.blt k' 4294967296) (ax_sk_pr ks u6.1 z1)).2
                        rw [← s2] at ya
                        rw [← z2] at yb
                        cases ho2 : offs[(x.toInt - lo0).toNat]? with
                        | none => rw [ho2] at ya; cases ya
                        | some off =>
                          rw [ho2] at ya yb
                          have ya1 : (pc0 : Int) + off = (t : Int) := of_decide_eq_true (bb_and (a := decide ((pc0 : Int) + off = (t : Int))) ya).1
                          have yb1 : (pc0 : Int) + off = (t' : Int) := of_decide_eq_true (bb_and (a := decide ((pc0 : Int) + off = (t' : Int))) yb).1
                          have : t = t' := by omega
                          exact this.symm
                    · obtain ⟨N3, t1, t2⟩ := rfn_ok s3 hm s2
                      have K := JP _ _ _ _ _ _ t1 (fun z hz => p3 z (r3 z (s4 z hz))) ρ h LV R (Sb.rf ρ) ⟨t2, hm, hT, hL, hS2⟩
                      exact wp_table hdg hlk (by omega) K (fun _ => rfl) (fun _ => rfl) (fun k' t' z1 z2 => absurd z2 (s1 k' t' z1))
              | false =>
                rw [b7] at hr2
                simp only [cond_false] at hr2
                cases b8 : Nat.beq op 58 with
                | true =>
                  rw [b8] at hr2
                  simp only [cond_true] at hr2
                  have e58 := bb_eq b8
                  obtain ⟨v, r, rfl, hr23⟩ := lc_s hr2
                  obtain ⟨g2, hr24⟩ := gd_s hr23
                  obtain ⟨d, ks, e1, hr25⟩ := lc_s hr24
                  rw [e1] at hlk hdg
                  obtain ⟨A, R, rfl, hA, hS2⟩ := hS.cons
                  obtain ⟨x, rfl, hx⟩ := hA.i g2
                  rcases x_sw_ok hx ks hN hr25 with ⟨k, t, N2, o2, s1, s2, s3, s4, s5⟩ | ⟨s1, N2, o2, s2, s3, s4⟩
                  · obtain ⟨N3, t1, t2⟩ := rfn_ok s4 hm s3
                    have K := JP _ _ _ _ _ _ t1 s5 ρ h LV R (Sb.rf ρ) ⟨t2, hm, hT, hL, hS2⟩
                    refine wp_look hdg hlk (by omega) K (fun z => absurd s2 (z k t s1)) (fun k' t' z1 z2 => ?_)
                    have hpair := hlk
                    cases ins <;> first | (exfalso; simp only [ax_op] at hop; omega) | skip
                    case lookupswitch d0 ps =>
                      have u1 := bb_and (a := decide ((pc0 : Int) + d0 = (d : Int))) hpair
                      have u2 := bb_and u1.2
                      have u3 := bb_and u2.2
                      have ya := of_decide_eq_true (bb_and (a := Nat.blt k 4294967296) (ax_sk_pr ks u3.1 s1)).2
                      have yb := of_decide_eq_true (bb_and (a := Nat.blt k' 4294967296) (ax_sk_pr ks u3.1 z1)).2
                      rw [← s2] at ya
                      rw [← z2] at yb
                      have : t = t' := by omega
                      exact this.symm
                  · obtain ⟨N3, t1, t2⟩ := rfn_ok s3 hm s2
                    have K := JP _ _ _ _ _ _ t1 s4 ρ h LV R (Sb.rf ρ) ⟨t2, hm, hT, hL, hS2⟩
                    exact wp_look hdg hlk (by omega) K (fun _ => rfl) (fun k' t' z1 z2 => absurd z2 (s1 k' t' z1))
                | false =>
                  rw [b8] at hr2
                  simp only [cond_false] at hr2
                  obtain ⟨g2, hr26⟩ := gd_s hr2
                  have w := bb_and g2
                  have w2 := bb_and w.2
                  have a1 := bb_le w.1
                  have a2 := bb_le w2.1
                  exact so_b3 hdg (fun q => by omega) (fun _ => bb_eq w2.2) hop.symm (by omega) (Or.inr ⟨a1, a2⟩) hG hr26 (fun N' st' o z z0 ρ' SV' z1 z2 => NX _ _ _ _ _ z z0 ρ' h LV SV' z1 z2)
theorem so_sp {ul : UL} {tu : TU} {ih : GO2} (hL6 : LOK sb mq dC dI dA sp H0 l ρ0 ad rf tb.1 L) (hL31 : L.1 < 2147483648) (hrf : ∀ c q, tb.1[c]? = some q → 103 ≤ q.1 → ∀ j f, j < q.2.1 → q.2.2[j]? = some f → rf c j = some (ad f.2)) (hUL : ULOK tb sb mq dC dI dA sp H0 l ρ0 ad rf L ul) (hMT : ∀ a b C, mth a b = some C → (Mok mth C ∧ Mcw C) ∧ mq a b = some C) (hI : Snd2 tb sb mq dC dI dA sp H0 l ρ0 ad rf L ih) : Snd2 tb sb mq dC dI dA sp H0 l ρ0 ad rf L (x_sp tb tu ul sb mth ih) := by
  have hST := so_st (tu := tu) hL6 hL31 hrf hUL hMT hI
  intro M ct pc cd N m lv st outs hM hMt hni hcd hr ρ h0 h LV SV hG
  unfold x_sp at hr
  cases h1 : at2 ct.2.2.2 pc with
  | none => rw [h1] at hr; exact hST M ct pc cd N m lv st outs hM hMt hni hcd hr ρ h0 h LV SV hG
  | some i =>
    rw [h1] at hr
    dsimp only at hr
    cases h2 : lk2 lv i with
    | none => rw [h2] at hr; cases hr
    | some v =>
      rw [h2] at hr
      dsimp only at hr
      obtain ⟨hN, hm, hT, hL, hS⟩ := id hG
      obtain ⟨V, V1, V2⟩ := lk2_ok hL h2
      obtain ⟨hn, hrx⟩ := gd_s hr
      obtain ⟨f, f1, f2⟩ := lf_nv_ok hN.1 v.2 (fun f => bif cst f then x_st tb tu ul sb mth ih M ct pc cd N m lv st else lc f.2 (fun t _ => spl N t.1 (fun N' => x_st tb tu ul sb mth ih M ct pc cd N' m lv st)))
      rw [f1] at hrx
      cases hc : cst f with
      | true => rw [hc] at hrx; exact hST M ct pc cd N m lv st outs hM hMt hni hcd hrx ρ h0 h LV SV hG
      | false =>
        rw [hc] at hrx
        simp only [cond_false] at hrx
        obtain ⟨t, tt, et, hry⟩ := lc_s hrx
        obtain ⟨x, hx2⟩ := V2.n hn
        obtain ⟨y, y1, -⟩ := f2 x hx2
        rw [et] at y1
        obtain ⟨z, u, z1, -⟩ := y1
        obtain ⟨N', o, k1, k2, k3⟩ := spl_ok hN z1 hry
        exact Pq_in (Sb.rf ρ) k3 (hST M ct pc cd N' m lv st o hM hMt hni hcd k1 ρ h0 h LV SV ⟨k2, hm, hT, hL, hS⟩)
end SO
end
section
/-! 3b.uck -/
/-! THE MACHINE BY FORMS is sound, 5: runs; a unit is checked -/
section SO
variable {tb : TB} {sb : Nat → List Nat} {mq : Nat → Nat → Option MR} {dC : Nat → ClassId} {dI : Nat → Nat → Nat} {dA : Nat → ClassId} {sp : Nat → Nat} {H0 : Heap} {l : Launch} {ρ0 : List Nat} {ad : Nat → Nat} {rf : Nat → Nat → Option Nat} {L : LSc}
theorem so_bd {ul : UL} {tu : TU} {ih : GO2} (hL6 : LOK sb mq dC dI dA sp H0 l ρ0 ad rf tb.1 L) (hL31 : L.1 < 2147483648) (hrf : ∀ c q, tb.1[c]? = some q → 103 ≤ q.1 → ∀ j f, j < q.2.1 → q.2.2[j]? = some f → rf c j = some (ad f.2)) (hUL : ULOK tb sb mq dC dI dA sp H0 l ρ0 ad rf L ul) (hMT : ∀ a b C, mth a b = some C → (Mok mth C ∧ Mcw C) ∧ mq a b = some C) (hI : Snd2 tb sb mq dC dI dA sp H0 l ρ0 ad rf L ih) : Snd2 tb sb mq dC dI dA sp H0 l ρ0 ad rf L (x_bd tb tu ul sb mth ih) := by
  have hSP := so_sp (tu := tu) hL6 hL31 hrf hUL hMT hI
  intro M ct pc cd N m lv st outs hM hMt hni hcd hr ρ h0 h LV SV hG
  have SPK : x_sp tb tu ul sb mth ih M ct pc cd N m lv st = some outs → Wp sb dC dI dA sp H0 l ρ0 ad rf tb.1 M pc h LV SV (Pq tb sp ad L outs ρ h0 M) := fun z => hSP M ct pc cd N m lv st outs hM hMt hni hcd z ρ h0 h LV SV hG
  unfold x_bd at hr
  cases h1 : (Nat.beq pc ct.2.1.1 || (Nat.blt pc ct.2.1.2.1 || Nat.blt ct.2.1.2.2 pc)) with
  | true =>
    rw [h1] at hr
    have hr' := Option.some.inj hr
    exact wp_rf ⟨_, by rw [← hr']; exact List.mem_cons_self, Or.inr ⟨rfl, rfl⟩, ρ, Sb.rf ρ, hG⟩
  | false =>
    rw [h1] at hr
    simp only [cond_false] at hr
    cases h2 : at2 ct.2.2.1 pc with
    | none => rw [h2] at hr; exact SPK hr
    | some u =>
      rw [h2] at hr
      dsimp only at hr
      cases hbb : hc_k N lv u with
      | true => rw [hbb] at hr; exact SPK hr
      | false =>
        rw [hbb] at hr
        simp only [cond_false] at hr
        cases h3 : uf tb ct.1.1 ct.1.2 (pc + 100000) N m lv st ul with
        | none => rw [h3] at hr; exact SPK hr
        | some q =>
          rw [h3] at hr
          dsimp only at hr
          obtain ⟨e, m1, m2, m3, m4⟩ := uf_ok (ul := ul) h3
          obtain ⟨n1, n2, n3⟩ := hUL e m1
          have n4 := n3 M (by rw [m2]; exact hMt)
          rw [m3] at n1 n2 n4
          rw [m2] at n4
          rw [show (if 100000 ≤ pc + 100000 then pc + 100000 - 100000 else pc + 100000) = pc by rw [if_pos (by omega)]; omega] at n4
          obtain ⟨hSV, ρ', ρT, LV', k1, k2, k3, k4, k5, k6⟩ := um_ok n1 n2 hG m4
          subst hSV
          refine wp_bd (wp_less k5 (n4 ρT h LV' k6)) (fun pc' h' lv' st' hp => ?_)
          obtain ⟨o, o1, o2, r, N2, m2', lv2, st2, ρ2, p1, p2, p3, p4⟩ := unit_at k2 k3 k4 hr hp
          rcases o2 with ⟨z1, z2⟩ | ⟨z1, z2⟩
          · rw [z1] at p1
            have p1' : [((0, o.2.1, N2, m2', lv2, st2) : O2)] = r := Option.some.inj p1
            exact wp_rf ⟨_, p2 _ (by rw [← p1']; exact List.mem_cons_self), Or.inl ⟨rfl, z2⟩, ρ2, k1.tr p3, p4⟩
          · rw [z1] at p1
            have p1' : ih M ct o.2.1 (ax_jmp M.2.2.2.2.2.2 o.2.1) N2 m2' lv2 st2 = some r := p1
            rw [z2]
            exact Pq_in (k1.tr p3) p2 (hI M ct _ _ N2 m2' lv2 st2 r hM hMt hni (ax_jmp_in _ _) p1' ρ2 h0 h' lv' st' p4)
theorem so_run {ul : UL} {tu : TU} (hL6 : LOK sb mq dC dI dA sp H0 l ρ0 ad rf tb.1 L) (hL31 : L.1 < 2147483648) (hrf : ∀ c q, tb.1[c]? = some q → 103 ≤ q.1 → ∀ j f, j < q.2.1 → q.2.2[j]? = some f → rf c j = some (ad f.2)) (hUL : ULOK tb sb mq dC dI dA sp H0 l ρ0 ad rf L ul) (hMT : ∀ a b C, mth a b = some C → (Mok mth C ∧ Mcw C) ∧ mq a b = some C) : ∀ n, Snd2 tb sb mq dC dI dA sp H0 l ρ0 ad rf L (x_run tb tu ul sb mth n)
  | 0 => fun M ct pc cd N m lv st outs _ _ _ _ hr => by cases hr
  | n + 1 => so_bd hL6 hL31 hrf hUL hMT (so_run hL6 hL31 hrf hUL hMT n)
end SO
/-! the check of a unit -/
/-- forms that name what stays alone -/
noncomputable def lf_iv (n : Nat) (iv : List Nat) (f : LF) : Bool := alls (fun q => Nat.ble n q.1 || anys (fun k => Nat.beq k q.1) iv) f.2
noncomputable def st_iv (n : Nat) (iv : List Nat) (T : ST) : Bool := alls (lf_iv n iv) T.2.1 && (alls (lf_iv n iv) T.2.2.1 && (alls (fun e => lf_iv n iv e.2.1 && lf_iv n iv e.2.2) T.2.2.2.1 && (alls (fun e => lf_iv n iv e.2) T.2.2.2.2.1 && (alls (fun e => lf_iv n iv e.1.2 && (lf_iv n iv e.2.1.2 && lf_iv n iv e.2.2)) T.2.2.2.2.2.1 && (alls (lf_iv n iv) T.2.2.2.2.2.2.1 && (alls (fun t => !(Nat.ble t.2.1 1) || lf_iv n iv t.2.2) T.2.2.2.2.2.2.2.1 && alls (fun t => !(Nat.ble t.1 1) || lf_iv n iv t.2) T.2.2.2.2.2.2.2.2))))))
theorem lt_iv {ρ ρ' e : List Int} {n : Nat} {iv : List Nat} (h1 : ρ.length = n) (h2 : ρ'.length = n) (hiv : ∀ k ∈ iv, ∀ z, ρ[k]? = some z → ρ'[k]? = some z) : ∀ {l : List (Nat × Int)} {x : Int}, (∀ q ∈ l, (Nat.ble n q.1 || anys (fun k => Nat.beq k q.1) iv) = true) → Lt (ρ ++ e) l x → Lt (ρ' ++ e) l x
  | [], _, _, hx => hx
  | q :: t, x, hl, hx => by
    obtain ⟨z, y, a1, a2, a3⟩ := hx
    refine ⟨z, y, ?_, lt_iv h1 h2 hiv (fun p hp => hl p (List.mem_cons_of_mem _ hp)) a2, a3⟩
    by_cases hk : q.1 < n
    · rw [List.getElem?_append_left (by omega)] at a1
      rw [List.getElem?_append_left (by omega)]
      rcases (Bool.or_eq_true _ _).mp (hl q List.mem_cons_self) with w | w
      · have := bb_le w; omega
      · obtain ⟨k, k1, k2⟩ := anys_ok w
        have ek := bb_eq k2
        rw [← ek] at a1 ⊢
        exact hiv k k1 z a1
    · rw [List.getElem?_append_right (by omega)] at a1
      rw [List.getElem?_append_right (by omega), h2, ← h1]
      exact a1
theorem lf_iv_ok {ρ ρ' e : List Int} {n : Nat} {iv : List Nat} (h1 : ρ.length = n) (h2 : ρ'.length = n) (hiv : ∀ k ∈ iv, ∀ z, ρ[k]? = some z → ρ'[k]? = some z) {f : LF} {x : Int} (hf : lf_iv n iv f = true) (hx : Lv (ρ ++ e) f x) : Lv (ρ' ++ e) f x := by
  obtain ⟨y, a, b⟩ := hx
  exact ⟨y, lt_iv h1 h2 hiv (alls_ok hf) a, b⟩
theorem vk_iv {sp ad : Nat → Nat} {ρ ρ' e : List Int} {n : Nat} {iv : List Nat} (h1 : ρ.length = n) (h2 : ρ'.length = n) (hiv : ∀ k ∈ iv, ∀ z, ρ[k]? = some z → ρ'[k]? = some z) {v : V2} {V : Value} (hf : (!(Nat.ble v.1 1) || lf_iv n iv v.2) = true) (hV : Vk sp ad (ρ ++ e) v V) : Vk sp ad (ρ' ++ e) v V := by
  obtain ⟨t, f⟩ := v
  unfold Vk at hV ⊢
  split at hV
  · next e => have e : t = 0 := e; subst e; obtain ⟨x, a, b⟩ := hV; exact ⟨x, a, lf_iv_ok h1 h2 hiv hf b⟩
  · next e => have e : t = 1 := e; subst e; obtain ⟨x, a, b⟩ := hV; exact ⟨x, a, lf_iv_ok h1 h2 hiv hf b⟩
  · exact hV
  · exact hV
  · exact hV
  · exact hV.elim
theorem Lk.iv {sp ad : Nat → Nat} {ρ ρ' e : List Int} {n : Nat} {iv : List Nat} (h1 : ρ.length = n) (h2 : ρ'.length = n) (hiv : ∀ k ∈ iv, ∀ z, ρ[k]? = some z → ρ'[k]? = some z) : ∀ {lv : L2} {LV : LVs}, (∀ t ∈ lv, (!(Nat.ble t.2.1 1) || lf_iv n iv t.2.2) = true) → Lk sp ad (ρ ++ e) lv LV → Lk sp ad (ρ' ++ e) lv LV
  | [], [], _, _ => trivial
  | v :: r, V :: R, hl, h => ⟨⟨h.1.1, vk_iv h1 h2 hiv (hl v List.mem_cons_self) h.1.2⟩, Lk.iv h1 h2 hiv (fun t ht => hl t (List.mem_cons_of_mem _ ht)) h.2⟩
theorem Sk.iv {sp ad : Nat → Nat} {ρ ρ' e : List Int} {n : Nat} {iv : List Nat} (h1 : ρ.length = n) (h2 : ρ'.length = n) (hiv : ∀ k ∈ iv, ∀ z, ρ[k]? = some z → ρ'[k]? = some z) : ∀ {lv : List V2} {LV : List Value}, (∀ t ∈ lv, (!(Nat.ble t.1 1) || lf_iv n iv t.2) = true) → Sk sp ad (ρ ++ e) lv LV → Sk sp ad (ρ' ++ e) lv LV
  | [], [], _, _ => trivial
  | v :: r, V :: R, hl, h => ⟨vk_iv h1 h2 hiv (hl v List.mem_cons_self) h.1, Sk.iv h1 h2 hiv (fun t ht => hl t (List.mem_cons_of_mem _ ht)) h.2⟩
/-- the first n unknowns themselves -/
def idm (n : Nat) : List LF := (List.range n).map (fun k => (0, [(k, 1)]))
noncomputable def u_out (tb : TB) (U : UN) (n : Nat) (k pc : Nat) (A : AT) : Bool := anys (fun o => Nat.beq o.1 k && ((Nat.beq k 0 || Nat.beq o.2.1 pc) && (match bds tb false o.2.2.1 A.1 A.2.1 A.2.2.1 A.2.2.2 (idm n) (fun N' m' mu => gd (sub tb N' m' A.2.2.1 A.2.2.2 mu (n + o.2.2.2.1.length) o.2.2.2 && (sb_rg N' (U.2.1.1 ++ o.2.2.2.1) mu && alls (we_in U.2.2.2.1) m'.2.2.2.1)) (some true)) with
  | some b => b
  | none => false))) U.2.2.1
noncomputable def u_bk (tb : TB) (U : UN) (n : Nat) (A : AT) : Bool := match bds tb true U.1 A.1 A.2.1 A.2.2.1 A.2.2.2 [] (fun N' m' mu => gd (sub tb N' m' A.2.2.1 A.2.2.2 mu n U.2.1 && (sb_rg N' U.2.1.1 mu && (alls (we_in U.2.2.2.1) m'.2.2.2.1 && (sbf mu n 0 U.2.2.2.2.1 (fun g => lf_add (-1) U.2.2.2.2.1 g (fun d => pv2 N' (d.1 - 1, d.2))) && alls (fun k => eqv N' (nthf mu k) (0, [(k, 1)])) U.2.2.2.2.2.tail)))) (some true)) with
  | some b => b
  | none => false
/-- the unit for key (a, b, pc): hi the last place of a loop (0: none) -/
noncomputable def uck (tb : TB) (tu : TU) (ul : UL) (sb : Nat → List Nat) (mt mq : Nat → Nat → Option MR) (fuel a b pc : Nat) (U : UN) : Bool := ax_fc U.2.1.1.length (fun n =>
  isnil U.2.1.2.2.2.2.2.2.2.2 && (st_wf n U.2.1 && (lf_wf n U.2.2.2.2.1 && (alls (fun o => st_wf (n + o.2.2.2.1.length) o.2.2.2) U.2.2.1 && (match mq a b with
    | none => false
    | some M => decide (M.1.name ≠ "<init>") && (match U.2.2.2.2.2 with
      | [] => (match x_bd tb tu ul sb mth (x_run tb tu ul sb mth fuel) M (ct0 tu a b) 0 M.2.2.2.2.2.2 (tA U.2.1).1 (tA U.2.1).2.1 (tA U.2.1).2.2.1 [] with
        | none => false
        | some outs => Nat.beq pc 0 && alls (fun o => u_out tb U n o.1 o.2.1 o.2.2) outs)
      | hi :: iv => (match x_sp tb tu ul sb mth (x_run tb tu ul sb mth fuel) M ((a, b), (pc - 100000, pc - 100000, hi), tu a b) (pc - 100000) (ax_jmp M.2.2.2.2.2.2 (pc - 100000)) (tA U.2.1).1 (tA U.2.1).2.1 (tA U.2.1).2.2.1 [] with
        | none => false
        | some outs => (Nat.ble 100000 pc && Nat.beq U.1.length n) && (alls (fun o => st_iv n iv o.2.2.2) U.2.2.1 && alls (fun o => bif Nat.beq o.1 1 && Nat.beq o.2.1 (pc - 100000) then (u_bk tb U n o.2.2 || u_out tb U n o.1 o.2.1 o.2.2) else u_out tb U n o.1 o.2.1 o.2.2) outs))))))))
section SO
variable {tb : TB} {sb : Nat → List Nat} {mq : Nat → Nat → Option MR} {dC : Nat → ClassId} {dI : Nat → Nat → Nat} {dA : Nat → ClassId} {sp : Nat → Nat} {H0 : Heap} {l : Launch} {ρ0 : List Nat} {ad : Nat → Nat} {rf : Nat → Nat → Option Nat} {L : LSc}
theorem idm_mu {ρ ρ' : List Int} (hs : Sb ρ ρ') : Mu ρ' (idm ρ.length) ρ := by
  unfold idm
  refine ⟨by simp, fun k z hz => ?_⟩
  have hk := (List.getElem?_eq_some_iff.mp hz).1
  exact ⟨(0, [(k, 1)]), by rw [List.getElem?_map, List.getElem?_range hk]; rfl, Lv.v (hs _ _ hz)⟩
theorem wout_of {W wr : List WE} (h : alls (we_in W) wr = true) {c k : Nat} (hw : Wout W c k) : Wout wr c k := fun w hw' q => by
  obtain ⟨v, v1, v2, v3, v4⟩ := we_in_ok (alls_ok h w hw')
  exact hw v v1 ⟨v2.trans q.1, by omega, by omega⟩
theorem pre_eq {ρ ρT : List Int} (h : ∀ (k : Nat) (z : Int), ρ[k]? = some z → ρT[k]? = some z) : ρT = ρ ++ ρT.drop ρ.length := by
  apply List.ext_getElem?
  intro i
  by_cases hi : i < ρ.length
  · rw [List.getElem?_append_left hi, List.getElem?_eq_getElem hi]
    exact h i _ (List.getElem?_eq_getElem hi)
  · rw [List.getElem?_append_right (by omega), List.getElem?_drop]
    congr 1
    omega
theorem u_out_ok {U : UN} {n : Nat} (hwo : ∀ o ∈ U.2.2.1, st_wf (n + o.2.2.2.1.length) o.2.2.2 = true) {ρ ρ' : List Int} {h0 h : PH} {A : AT} {LV : LVs} {SV : List Value} {M : MR} {k pc pc' : Nat} (hn : n = ρ.length) (hnσ : n = U.2.1.1.length) (hs : Sb ρ ρ') (hG : Ga tb L sp ad ρ' h0 h A LV SV) (hO : Oe M k pc pc' SV) (hu : u_out tb U n k pc A = true) : ∃ LV', (∀ q ∈ LV', q ∈ LV) ∧ Pu tb sp ad L U ρ h0 M pc' h LV' SV := by
  obtain ⟨o, o1, o2⟩ := anys_ok hu
  have w := bb_and o2
  have w2 := bb_and w.2
  have ek := bb_eq w.1
  have w3 := w2.2
  cases hb : bds tb false o.2.2.1 A.1 A.2.1 A.2.2.1 A.2.2.2 (idm n) (fun N' m' mu => gd (sub tb N' m' A.2.2.1 A.2.2.2 mu (n + o.2.2.2.1.length) o.2.2.2 && (sb_rg N' (U.2.1.1 ++ o.2.2.2.1) mu && alls (we_in U.2.2.2.1) m'.2.2.2.1)) (some true)) with
  | none => rw [hb] at w3; cases w3
  | some r =>
    subst hn
    obtain ⟨N', m', mu, ρ2, ρT, e1, e2, e3, e4, e5, e6⟩ := bds_ok (tb := tb) (bk := false) o.2.2.1 (N := A.1) (m := A.2.1) (lv := A.2.2.1) (st := A.2.2.2) hG (idm_mu hs) (fun q => by cases q) hb
    obtain ⟨g, -⟩ := gd_s e1
    have y := bb_and g
    have y2 := bb_and y.2
    have hσ := sb_rg_ok e3.1 y2.1 e4
    have hpre : ∀ (k : Nat) (z : Int), ρ[k]? = some z → ρT[k]? = some z := fun k z hz => by
      have hk := (List.getElem?_eq_some_iff.mp hz).1
      have hm : mu[k]? = some (0, [(k, 1)]) := e6 _ _ (by unfold idm; rw [List.getElem?_map, List.getElem?_range hk]; rfl)
      have hk2 : k < ρT.length := by rw [e5]; omega
      obtain ⟨f, f1, f2⟩ := e4.2 k _ (List.getElem?_eq_getElem hk2)
      rw [hm] at f1
      cases f1
      have h3 := f2.fn (Lv.v (e2 _ _ (hs _ _ hz)))
      rw [List.getElem?_eq_getElem hk2, h3]
    have hW : ∀ c k, Wout U.2.2.2.1 c k → h c k = h0 c k := fun c k hw => e3.2.1.2.2.2.1 c k (wout_of y2.2 hw)
    obtain ⟨LV', v1, v2⟩ := sub_ok e3 e4 (n := ρ.length + o.2.2.2.1.length) (by rw [hσ.1, List.length_append, hnσ]) (T := o.2.2.2) (W := U.2.2.2.1) hσ hW (hwo o o1) y.1
    have eT := pre_eq hpre
    rw [eT] at v2
    refine ⟨LV', v1, o, o1, ?_, ρT.drop ρ.length, v2⟩
    rw [ek]
    rcases hO with z | ⟨z1, z2⟩
    · exact Or.inl z
    · refine Or.inr ⟨z1, ?_⟩
      rcases (Bool.or_eq_true _ _).mp w2.1 with q | q
      · have := bb_eq q; omega
      · rw [z2]; exact (bb_eq q).symm
theorem Pu_iv {U : UN} {n : Nat} {iv : List Nat} {W : List WE} (hUW : U.2.2.2.1 = W) (hiv : ∀ o ∈ U.2.2.1, st_iv n iv o.2.2.2 = true) {ρ ρ' : List Int} (h1 : ρ'.length = n) (h2 : Sr ρ U.2.1.1) (h2n : ρ.length = n) (heq : ∀ k ∈ iv, ∀ z, ρ'[k]? = some z → ρ[k]? = some z) {h0 h' : PH} (hW : ∀ c k, Wout W c k → h' c k = h0 c k) {M : MR} {pc : Nat} {h'' : PH} {LV : LVs} {SV : List Value} (hp : Pu tb sp ad L U ρ' h' M pc h'' LV SV) : Pu tb sp ad L U ρ h0 M pc h'' LV SV := by
  obtain ⟨o, o1, o2, e, oN, om, oT, oL, oS⟩ := hp
  have w1 := bb_and (hiv o o1)
  have w2 := bb_and w1.2
  have w3 := bb_and w2.2
  have w4 := bb_and w3.2
  have w5 := bb_and w4.2
  have w6 := bb_and w5.2
  have w7 := bb_and w6.2
  have LV1 : ∀ {f : LF} {x : Int}, lf_iv n iv f = true → Lv (ρ' ++ e) f x → Lv (ρ ++ e) f x := fun hf hx => lf_iv_ok h1 h2n heq hf hx
  refine ⟨o, o1, o2, e, ⟨h2.app2 (ρT := ρ') (σT := U.2.1.1) (by rw [h1, ← h2n]; exact h2.1) oN.1, fun f hf => ?_, fun f hf => ?_⟩, ⟨fun c hc => ?_, fun c hc => ?_, fun c hc => ?_, fun c k hw => ?_, fun f hf => ?_, fun c hc => by cases hc⟩, oT, Lk.iv h1 h2n heq (alls_ok w7.1) oL, Sk.iv h1 h2n heq (alls_ok w7.2) oS⟩
  · obtain ⟨x, x1, x2⟩ := oN.2.1 f hf
    exact ⟨x, LV1 (alls_ok w1.1 f hf) x1, x2⟩
  · obtain ⟨x, x1, x2⟩ := oN.2.2 f hf
    exact ⟨x, LV1 (alls_ok w2.1 f hf) x1, x2⟩
  · obtain ⟨i, x, x1, x2, x3, x4⟩ := om.1 c hc
    have q := bb_and (alls_ok w3.1 c hc)
    exact ⟨i, x, LV1 q.1 x1, x2, LV1 q.2 x3, x4⟩
  · obtain ⟨x, x1, x2⟩ := om.2.1 c hc
    exact ⟨x, LV1 (alls_ok w4.1 c hc) x1, x2⟩
  · obtain ⟨i, j, x, x1, x2, x3, x4⟩ := om.2.2.1 c hc
    have q := bb_and (alls_ok w5.1 c hc)
    have q2 := bb_and q.2
    exact ⟨i, j, x, LV1 q.1 x1, LV1 q2.1 x2, LV1 q2.2 x3, x4⟩
  · have hw' : Wout W c k := by rw [← hUW]; exact hw
    rw [om.2.2.2.1 c k hw, hW c k hw']
  · obtain ⟨x, x1, x2⟩ := om.2.2.2.2.1 f hf
    exact ⟨x, LV1 (alls_ok w6.1 f hf) x1, x2⟩
theorem u_bk_ok {U : UN} {n : Nat} (hnil : isnil U.2.1.2.2.2.2.2.2.2.2 = true) (hwf : st_wf n U.2.1 = true) (hwm : lf_wf n U.2.2.2.2.1 = true) (hsl : U.1.length = n) {ρ ρ' : List Int} {h0 h : PH} {A : AT} {LV : LVs} {SV : List Value} (hn : n = ρ.length) (hs : Sb ρ ρ') (hG : Ga tb L sp ad ρ' h0 h A LV SV) (hu : u_bk tb U n A = true) : SV = [] ∧ ∃ ρT LV', ρT.length = n ∧ (∀ q ∈ LV', q ∈ LV) ∧ Ga tb L sp ad ρT h h (tA U.2.1) LV' [] ∧ (∀ x, Lv ρ U.2.2.2.2.1 x → ∃ y, Lv ρT U.2.2.2.2.1 y ∧ x + 1 ≤ y) ∧ (∀ k ∈ U.2.2.2.2.2.tail, ∀ z, ρT[k]? = some z → ρ[k]? = some z) ∧ (∀ c k, Wout U.2.2.2.1 c k → h c k = h0 c k) := by
  unfold u_bk at hu
  cases hb : bds tb true U.1 A.1 A.2.1 A.2.2.1 A.2.2.2 [] (fun N' m' mu => gd (sub tb N' m' A.2.2.1 A.2.2.2 mu n U.2.1 && (sb_rg N' U.2.1.1 mu && (alls (we_in U.2.2.2.1) m'.2.2.2.1 && (sbf mu n 0 U.2.2.2.2.1 (fun g => lf_add (-1) U.2.2.2.2.1 g (fun d => pv2 N' (d.1 - 1, d.2))) && alls (fun k => eqv N' (nthf mu k) (0, [(k, 1)])) U.2.2.2.2.2.tail)))) (some true)) with
  | none => rw [hb] at hu; cases hu
  | some r =>
    have hl := hs.len
    obtain ⟨N', m', mu, ρ2, ρT, e1, e2, e3, e4, e5, -⟩ := bds_ok (tb := tb) (bk := true) U.1 (N := A.1) (m := A.2.1) (lv := A.2.2.1) (st := A.2.2.2) (mu := []) (ρT := []) hG ⟨rfl, fun k z hz => by simp at hz⟩ (fun _ => by rw [hsl, List.length_nil]; omega) hb
    obtain ⟨g, -⟩ := gd_s e1
    have y1 := bb_and g
    have y2 := bb_and y1.2
    have y3 := bb_and y2.2
    have y4 := bb_and y3.2
    have hσ := sb_rg_ok e3.1 y2.1 e4
    have hTn : ρT.length = n := by rw [e5, hsl]; simp
    have hG' : Ga tb L sp ad ρ2 h h (N', (m'.1, m'.2.1, m'.2.2.1, [], m'.2.2.2.2), A.2.2.1, A.2.2.2) LV SV := ⟨e3.1, e3.2.1.self, e3.2.2.1, e3.2.2.2.1, e3.2.2.2.2⟩
    obtain ⟨LV', v1, v2⟩ := sub_ok hG' e4 hTn.symm (T := U.2.1) (W := []) hσ (fun _ _ _ => rfl) hwf y1.1
    have hS : Sk sp ad ρT U.2.1.2.2.2.2.2.2.2.2 SV := v2.2.2.2.2
    have hSV : SV = [] := by
      cases hT : U.2.1.2.2.2.2.2.2.2.2 with
      | nil => rw [hT] at hS; exact hS.nil
      | cons a b => rw [hT] at hnil; cases hnil
    subst hSV
    refine ⟨rfl, ρT, LV', hTn, v1, v2, fun x hx => ?_, fun k hk z hz => ?_, fun c k hw => e3.2.1.2.2.2.1 c k (wout_of y3.1 hw)⟩
    · obtain ⟨g', y, g1, g2, g3⟩ := sbk e4 hTn.symm hwm (fun g => lf_add (-1) U.2.2.2.2.1 g (fun d => pv2 N' (d.1 - 1, d.2)))
      have z := y4.1
      rw [g1] at z
      obtain ⟨d, d1, d2⟩ := lf_add_ok (-1) U.2.2.2.2.1 g' (fun d => pv2 N' (d.1 - 1, d.2))
      rw [d1] at z
      have hx2 : Lv ρ2 U.2.2.2.2.1 x := (hx.mono hs).mono e2
      have q := pv2_ok e3.1 z ((d2 ρ2 _ _ hx2 g3).dec 1)
      exact ⟨y, g2, by omega⟩
    · have q := alls_ok y4.2 k hk
      obtain ⟨f, f1, f2⟩ := e4.2 k z hz
      have hf : nthf mu k = f := by unfold nthf; rw [ax_nth_eq, f1]
      rw [hf] at q
      have hk2 : k < ρ.length := by rw [← hn, ← hTn]; exact (List.getElem?_eq_some_iff.mp hz).1
      have h3 := eqv_ok e3.1 f2 (Lv.v (e2 _ _ (hs _ _ (List.getElem?_eq_getElem hk2)))) q
      rw [h3]
      exact List.getElem?_eq_getElem hk2
theorem uck_ok {ul : UL} {tu : TU} {fuel a b pc : Nat} {U : UN} (hL6 : LOK sb mq dC dI dA sp H0 l ρ0 ad rf tb.1 L) (hL31 : L.1 < 2147483648) (hrf : ∀ c q, tb.1[c]? = some q → 103 ≤ q.1 → ∀ j f, j < q.2.1 → q.2.2[j]? = some f → rf c j = some (ad f.2)) (hUL : ULOK tb sb mq dC dI dA sp H0 l ρ0 ad rf L ul) (hMT : ∀ a b C, mth a b = some C → (Mok mth C ∧ Mcw C) ∧ mq a b = some C) (hMQ : ∀ a b M, mq a b = some M → Mok mth M) (hu : uck tb tu ul sb mth mq fuel a b pc U = true) : ULOK tb sb mq dC dI dA sp H0 l ρ0 ad rf L (((a, b, pc), U) :: ul) := by
  intro e he
  rcases List.mem_cons.mp he with rfl | he
  · unfold uck at hu
    rw [ax_fc_eq] at hu
    have w1 := bb_and hu
    have w2 := bb_and w1.2
    have w3 := bb_and w2.2
    have w4 := bb_and w3.2
    refine ⟨w1.1, w2.1, fun M hM => ?_⟩
    have hM : mq a b = some M := hM
    have w5 := w4.2
    rw [hM] at w5
    dsimp only at w5
    have w6 := bb_and w5
    have hni : M.1.name ≠ "<init>" := of_decide_eq_true w6.1
    have w7 := w6.2
    have hMok := hMQ a b M hM
    have hwo : ∀ o ∈ U.2.2.1, st_wf (U.2.1.1.length + o.2.2.2.1.length) o.2.2.2 = true := alls_ok w4.1
    have hRun := so_run (tu := tu) hL6 hL31 hrf hUL hMT fuel
    dsimp only
    have TA : (tA U.2.1) = ((tA U.2.1).1, (tA U.2.1).2.1, (tA U.2.1).2.2.1, []) := by
      have hnil : isnil U.2.1.2.2.2.2.2.2.2.2 = true := w1.1
      cases hT : U.2.1.2.2.2.2.2.2.2.2 with
      | nil => show (_, _, _, U.2.1.2.2.2.2.2.2.2.2) = _; rw [hT]; rfl
      | cons x y => rw [hT] at hnil; cases hnil
    cases hiv : U.2.2.2.2.2 with
    | nil =>
      rw [hiv] at w7
      dsimp only at w7
      cases hx : x_bd tb tu ul sb mth (x_run tb tu ul sb mth fuel) M (ct0 tu a b) 0 M.2.2.2.2.2.2 (tA U.2.1).1 (tA U.2.1).2.1 (tA U.2.1).2.2.1 [] with
      | none => rw [hx] at w7; cases w7
      | some outs =>
        rw [hx] at w7
        have w8 := bb_and w7
        have epc := bb_eq w8.1
        subst epc
        rw [if_neg (by omega)]
        intro ρ h LV hG
        have hn : U.2.1.1.length = ρ.length := hG.1.1.1.symm
        rw [TA] at hG
        have K := so_bd (tu := tu) hL6 hL31 hrf hUL hMT hRun M (ct0 tu a b) 0 M.2.2.2.2.2.2 _ _ _ _ outs hMok hM hni (fun _ hx => hx) hx ρ h h LV [] hG
        refine wp_bd K (fun pc' h' lv' st' hp => ?_)
        obtain ⟨o, o1, o2, ρ', o3, o4⟩ := hp
        obtain ⟨LV', v1, v2⟩ := u_out_ok hwo hn rfl o3 o4 o2 (alls_ok w8.2 o o1)
        exact wp_less v1 (wp_rf v2)
    | cons hi iv =>
      rw [hiv] at w7
      dsimp only at w7
      cases hx : x_sp tb tu ul sb mth (x_run tb tu ul sb mth fuel) M ((a, b), (pc - 100000, pc - 100000, hi), tu a b) (pc - 100000) (ax_jmp M.2.2.2.2.2.2 (pc - 100000)) (tA U.2.1).1 (tA U.2.1).2.1 (tA U.2.1).2.2.1 [] with
      | none => rw [hx] at w7; cases w7
      | some outs =>
        rw [hx] at w7
        have w8 := bb_and w7
        have w80 := bb_and w8.1
        have w9 := bb_and w8.2
        rw [if_pos (bb_le w80.1)]
        have hsiv := alls_ok w9.1
        -- by the measure
        have MAIN : ∀ (k : Nat) (ρ : List Int) (h : PH) (LV : LVs) (x : Int), Ga tb L sp ad ρ h h (tA U.2.1) LV [] → Lv ρ U.2.2.2.2.1 x → (lf_hi U.2.1.1 U.2.2.2.2.1 - x).toNat < k → Wp sb dC dI dA sp H0 l ρ0 ad rf tb.1 M (pc - 100000) h LV [] (Pu tb sp ad L U ρ h M) := by
          intro k
          induction k with
          | zero => intro ρ h LV x hG hx0 hk; omega
          | succ k ih =>
            intro ρ h LV x hG hx0 hk
            have hn : U.2.1.1.length = ρ.length := hG.1.1.1.symm
            have hG2 := hG
            rw [TA] at hG2
            have K := so_sp (tu := tu) hL6 hL31 hrf hUL hMT hRun M ((a, b), (pc - 100000, pc - 100000, hi), tu a b) (pc - 100000) _ _ _ _ _ outs hMok hM hni (ax_jmp_in _ _) hx ρ h h LV [] hG2
            refine wp_bd K (fun pc' h' lv' st' hp => ?_)
            obtain ⟨o, o1, o2, ρ', o3, o4⟩ := hp
            have z := alls_ok w9.2 o o1
            cases hbk : (Nat.beq o.1 1 && Nat.beq o.2.1 (pc - 100000)) with
            | false =>
              rw [hbk] at z
              obtain ⟨LV', v1, v2⟩ := u_out_ok hwo hn rfl o3 o4 o2 z
              exact wp_less v1 (wp_rf v2)
            | true =>
              rw [hbk] at z
              rcases (Bool.or_eq_true _ _).mp z with z | z
              case inr =>
                obtain ⟨LV', v1, v2⟩ := u_out_ok hwo hn rfl o3 o4 o2 z
                exact wp_less v1 (wp_rf v2)
              have bk := bb_and hbk
              have epc : pc' = pc - 100000 := by
                rcases o2 with ⟨q, -⟩ | ⟨-, q⟩
                · have := bb_eq bk.1; omega
                · rw [q]; exact bb_eq bk.2
              obtain ⟨hSV, ρT, LV', t1, t2, t3, t4, t5, t6⟩ := u_bk_ok w1.1 w2.1 w3.1 (bb_eq w80.2) hn o3 o4 z
              subst hSV
              obtain ⟨y, y1, y2⟩ := t4 x hx0
              have bx := lf_b_ok (σ := U.2.1.1) hG.1.1 hx0
              have bx2 := lf_b_ok (σ := U.2.1.1) t3.1.1 y1
              rw [epc]
              rw [hiv] at t5
              exact wp_mono (wp_less t2 (ih ρT h' LV' y t3 y1 (by omega))) (fun pc2 h2 lv2 st2 hp2 => Pu_iv rfl hsiv t1 hG.1.1 hn.symm t5 t6 hp2)
        intro ρ h LV hG
        obtain ⟨x, hx0⟩ := lf_wf_ok (ρ := ρ) w3.1 (by rw [hG.1.1.1]; exact Nat.le_refl _)
        exact MAIN _ ρ h LV x hG hx0 (Nat.lt_succ_self _)
  · exact hUL e he
end SO
end
section
/-! 3c.vc -/
/-! WHAT HOLDS AT A RETURN, step by step: if a plain run comes to a return, then .. -/
def vcB (c a b : Prop) : Prop := (c → a) ∧ (¬ c → b)
def vcA (c a : Prop) : Prop := c → a
def vcC (Z : ZP) (C : MR) (h : PH) (as : List ZV) (k : PH → List ZV → Prop) : Prop := match C.2.2.2.1 with
  | none => ∀ h', CP Z C h as h' [] → k h' []
  | some .long => ∀ h' v, CP Z C h as h' [(1, v)] → R64 v → k h' [(1, v)]
  | some (.object _) => ∀ h' v, CP Z C h as h' [v] → k h' [v]
  | some .boolean => ∀ h' v, CP Z C h as h' [(0, v)] → v = 0 ∨ v = 1 → k h' [(0, v)]
  | some _ => ∀ h' v, CP Z C h as h' [(0, v)] → R32 v → k h' [(0, v)]
theorem vcC_ok {Z : ZP} {C : MR} {h : PH} {as : List ZV} {k : PH → List ZV → Prop} (H : vcC Z C h as k) {h' : PH} {r : List ZV} (hc : CP Z C h as h' r) : k h' r := by
  have hc' := hc
  obtain ⟨f, hf⟩ := hc
  match f, hf with
  | f + 1, hf =>
    obtain ⟨-, n, pc', lv', -, ins, -, hk⟩ := hf
    unfold vcC at H
    cases ins <;> first | exact hk.elim | skip
    case ireturn =>
      obtain ⟨x, rfl, e1, e⟩ := hk
      rcases e with e | ⟨e, e2⟩ | e | e <;> rw [e] at H
      · exact H h' x hc' e1
      · exact H h' x hc' e2
      · exact H h' x hc' e1
      · exact H h' x hc' e1
    case lreturn =>
      obtain ⟨x, rfl, e1, e⟩ := hk
      rw [e] at H
      exact H h' x hc' e1
    case areturn =>
      obtain ⟨x, rfl, n, e⟩ := hk
      rw [e] at H
      exact H h' x hc'
    case return_ =>
      obtain ⟨rfl, e⟩ := hk
      rw [e] at H
      exact H h' hc'
/-- the places of A are among those of lv -/
def zsb : ZL → ZL → Prop
  | [], _ => True
  | q :: t, lv => zlk lv q.1 = some q.2 ∧ zsb t lv
def zin (A lv : ZL) : Prop := ∀ q ∈ A, zlk lv q.1 = some q.2
theorem zsb_in : ∀ {A lv : ZL}, zsb A lv → zin A lv
  | [], _, _, q, h => by cases h
  | p :: t, lv, hs, q, h => by
    rcases List.mem_cons.mp h with rfl | h
    · exact hs.1
    · exact zsb_in hs.2 q h
theorem zlk_in {i : Nat} {v : ZV} : ∀ {A : ZL}, zlk A i = some v → (i, v) ∈ A
  | [], h => by cases h
  | q :: t, h => by
    rw [zlk_cons] at h
    cases hb : Nat.beq q.1 i with
    | true =>
      rw [hb] at h
      have e := bb_eq hb
      have e2 : q.2 = v := Option.some.inj h
      rw [← e, ← e2]
      exact List.mem_cons_self
    | false =>
      rw [hb] at h
      exact List.mem_cons_of_mem _ (zlk_in h)
theorem zfl_in {p : Nat × ZV → Bool} {q : Nat × ZV} : ∀ {A : ZL}, q ∈ zfl p A → q ∈ A ∧ p q = true
  | [], h => by cases h
  | x :: t, h => by
    rw [zfl_cons] at h
    cases hp : p x with
    | true =>
      rw [hp] at h
      rcases List.mem_cons.mp h with rfl | h
      · exact ⟨List.mem_cons_self, hp⟩
      · exact ⟨List.mem_cons_of_mem _ (zfl_in h).1, (zfl_in h).2⟩
    | false =>
      rw [hp] at h
      exact ⟨List.mem_cons_of_mem _ (zfl_in h).1, (zfl_in h).2⟩
theorem zin.sto {A lv : ZL} (h : zin A lv) {p : Nat × ZV → Bool} {k : Nat} (hp : ∀ q, p q = true → q.1 ≠ k) (v : ZV) : zin ((k, v) :: zfl p A) ((k, v) :: zfl p lv) := fun q hq => by
  rw [zlk_cons]
  rcases List.mem_cons.mp hq with rfl | hq
  · show (bif Nat.beq k k then _ else _) = _
    rw [bb_rf]; rfl
  · obtain ⟨a, b⟩ := zfl_in hq
    show (bif Nat.beq k q.1 then _ else _) = _
    rw [bb_nb (fun z => hp q b z.symm)]
    exact zlk_fl b (h q a)
theorem zk1_ne {k : Nat} (q : Nat × ZV) (h : zk1 k q = true) : q.1 ≠ k := znq (bb_and h).1
theorem zk2_ne {k : Nat} (q : Nat × ZV) (h : zk2 k q = true) : q.1 ≠ k := znq (bb_and h).1
theorem zlocs_ge : ∀ (as : List ZV) (i : Nat), ∀ q ∈ z_locs i as, i ≤ q.1
  | [], _, q, hq => by cases hq
  | v :: r, i, q, hq => by
    have hq : q ∈ (i, v) :: z_locs (bif Nat.beq v.1 1 then i + 2 else i + 1) r := hq
    rcases List.mem_cons.mp hq with rfl | hq
    · exact Nat.le_refl _
    · have := zlocs_ge r _ q hq
      cases hb : Nat.beq v.1 1 with
      | true => rw [hb] at this; simp only [cond_true] at this; omega
      | false => rw [hb] at this; simp only [cond_false] at this; omega
theorem zlocs_in (as : List ZV) (i : Nat) : zin (z_locs i as) (z_locs i as) := by
  induction as generalizing i with
  | nil => intro q hq; cases hq
  | cons v r ih =>
    intro q hq
    have hq : q ∈ (i, v) :: z_locs (bif Nat.beq v.1 1 then i + 2 else i + 1) r := hq
    show zlk ((i, v) :: z_locs (bif Nat.beq v.1 1 then i + 2 else i + 1) r) q.1 = some q.2
    rw [zlk_cons]
    rcases List.mem_cons.mp hq with rfl | hq
    · show (bif Nat.beq i i then _ else _) = _
      rw [bb_rf]; rfl
    · have g := zlocs_ge r _ q hq
      have g2 : i ≠ q.1 := by
        cases hb : Nat.beq v.1 1 with
        | true => rw [hb] at g; simp only [cond_true] at g; omega
        | false => rw [hb] at g; simp only [cond_false] at g; omega
      show (bif Nat.beq i q.1 then _ else _) = _
      rw [bb_nb g2]
      exact ih _ q hq
noncomputable def vc (Z : ZP) (cut : Nat → Bool) (K : Nat → PH → ZL → List ZV → Prop) (Q : PH → List ZV → Prop) (M : MR) (n : Nat) : Nat → List ME → PH → ZL → List ZV → Prop := Nat.rec (motive := fun _ => Nat → List ME → PH → ZL → List ZV → Prop) (fun _ _ _ _ _ => False) (fun _ ih pc cd h lv st => lcr False cd (fun e tl => gdr False (Nat.beq e.1 pc) (bif Nat.ble 22 e.2.1 && Nat.ble e.2.1 25 then Q h st else z_st (R := Prop) False vcB vcA (vcC Z) Z.2.2.2.1 Z.1 Z.2.1 Z.2.2.1 Z.2.2.2.2 mth e h lv st (fun h' lv' st' => bif cut (e.1 + e.2.2.1) then K (e.1 + e.2.2.1) h' lv' st' else ih (e.1 + e.2.2.1) tl h' lv' st') (fun t h' lv' st' => bif cut t then K t h' lv' st' else ih t (ax_jmp M.2.2.2.2.2.2 t) h' lv' st')))) n
section VC
variable {Z : ZP} {cut : Nat → Bool} {K : Nat → PH → ZL → List ZV → Prop} {Q : PH → List ZV → Prop} {M : MR}
theorem vb0 {G : Prop} {op : Nat} {lk : List Nat} {l1 l2 : ZL} {st : List ZV} {k1 k2 : ZL → List ZV → Prop} (hl : zin l2 l1) (hk : ∀ m1 m2 st, zin m2 m1 → k1 m1 st → k2 m2 st → G) (H1 : z_b0 (R := Prop) False op lk l1 st k1) (H2 : z_b0 (R := Prop) False op lk l2 st k2) : G := by
  unfold z_b0 z_psh at H1 H2
  cases b1 : Nat.ble op 3 with
  | true =>
    rw [b1] at H1 H2
    simp only [cond_true] at H1 H2
    cases b2 : Nat.beq op 0 with
    | true =>
      rw [b2] at H1 H2
      simp only [cond_true] at H1 H2
      match lk, H1, H2 with
      | t :: n :: _, H1, H2 =>
        have H1 : (bif Nat.beq t 0 then k1 l1 ((0, z32 n) :: st) else bif Nat.beq t 1 then k1 l1 ((1, z64 n) :: st) else k1 l1 ((6, Int.ofNat n) :: st)) := H1
        have H2 : (bif Nat.beq t 0 then k2 l2 ((0, z32 n) :: st) else bif Nat.beq t 1 then k2 l2 ((1, z64 n) :: st) else k2 l2 ((6, Int.ofNat n) :: st)) := H2
        cases c1 : Nat.beq t 0 with
        | true => rw [c1] at H1 H2; exact hk _ _ _ hl H1 H2
        | false =>
          rw [c1] at H1 H2
          cases c2 : Nat.beq t 1 with
          | true => rw [c2] at H1 H2; exact hk _ _ _ hl H1 H2
          | false => rw [c2] at H1 H2; exact hk _ _ _ hl H1 H2
    | false =>
      rw [b2] at H1 H2
      simp only [cond_false] at H1 H2
      match lk, H1, H2 with
      | i :: _, H1, H2 =>
        have H1 : obr False (zlk l1 i) (fun v => gdr False ((bif Nat.beq op 1 then ztI else bif Nat.beq op 2 then ztL else ztR) v.1) (k1 l1 (v :: st))) := H1
        have H2 : obr False (zlk l2 i) (fun v => gdr False ((bif Nat.beq op 1 then ztI else bif Nat.beq op 2 then ztL else ztR) v.1) (k2 l2 (v :: st))) := H2
        cases hv : zlk l2 i with
        | none => rw [hv] at H2; exact H2.elim
        | some v =>
          rw [hv] at H2
          rw [hl _ (zlk_in hv)] at H1
          have H1 : gdr False ((bif Nat.beq op 1 then ztI else bif Nat.beq op 2 then ztL else ztR) v.1) (k1 l1 (v :: st)) := H1
          have H2 : gdr False ((bif Nat.beq op 1 then ztI else bif Nat.beq op 2 then ztL else ztR) v.1) (k2 l2 (v :: st)) := H2
          cases hg : ((bif Nat.beq op 1 then ztI else bif Nat.beq op 2 then ztL else ztR) v.1) with
          | false => rw [hg] at H1; exact H1.elim
          | true => rw [hg] at H1 H2; exact hk _ _ _ hl H1 H2
  | false =>
    rw [b1] at H1 H2
    simp only [cond_false] at H1 H2
    cases b2 : Nat.ble op 6 with
    | true =>
      rw [b2] at H1 H2
      simp only [cond_true] at H1 H2
      match lk, st, H1, H2 with
      | i :: _, v :: r, H1, H2 =>
        have H1 : gdr False (bif Nat.beq op 4 then ztI v.1 else bif Nat.beq op 5 then ztL v.1 else ztR v.1) (k1 ((i, v) :: zfl (bif Nat.beq op 5 then zk2 i else zk1 i) l1) r) := H1
        have H2 : gdr False (bif Nat.beq op 4 then ztI v.1 else bif Nat.beq op 5 then ztL v.1 else ztR v.1) (k2 ((i, v) :: zfl (bif Nat.beq op 5 then zk2 i else zk1 i) l2) r) := H2
        cases hg : (bif Nat.beq op 4 then ztI v.1 else bif Nat.beq op 5 then ztL v.1 else ztR v.1) with
        | false => rw [hg] at H1; exact H1.elim
        | true =>
          rw [hg] at H1 H2
          refine hk _ _ _ (hl.sto (fun q hq => ?_) v) H1 H2
          cases h5 : Nat.beq op 5 with
          | true => rw [h5] at hq; exact zk2_ne q hq
          | false => rw [h5] at hq; exact zk1_ne q hq
      | i :: _, [], H1, H2 => exact H1.elim
    | false =>
      rw [b2] at H1 H2
      simp only [cond_false] at H1 H2
      match lk, H1, H2 with
      | i :: n :: _, H1, H2 =>
        have H1 : obr False (zlk l1 i) (fun v => gdr False (Nat.beq v.1 0) (k1 ((i, (0, w32 (v.2 + z32 n))) :: zfl (zk1 i) l1) st)) := H1
        have H2 : obr False (zlk l2 i) (fun v => gdr False (Nat.beq v.1 0) (k2 ((i, (0, w32 (v.2 + z32 n))) :: zfl (zk1 i) l2) st)) := H2
        cases hv : zlk l2 i with
        | none => rw [hv] at H2; exact H2.elim
        | some v =>
          rw [hv] at H2
          rw [hl _ (zlk_in hv)] at H1
          have H1 : gdr False (Nat.beq v.1 0) (k1 ((i, (0, w32 (v.2 + z32 n))) :: zfl (zk1 i) l1) st) := H1
          have H2 : gdr False (Nat.beq v.1 0) (k2 ((i, (0, w32 (v.2 + z32 n))) :: zfl (zk1 i) l2) st) := H2
          cases hg : Nat.beq v.1 0 with
          | false => rw [hg] at H1; exact H1.elim
          | true => rw [hg] at H1 H2; exact hk _ _ _ (hl.sto (fun q hq => zk1_ne q hq) _) H1 H2
/-- one step of a run beside one step of what is to hold -/
theorem vc_step {f : Nat} (hM : Mgd M) {n pc : Nat} {e : ME} {tl : List ME} {h : PH} {lv A : ZL} {st : List ZV} {s1 : ZS} (he : e ∈ M.2.2.2.2.2.2) (htl : ∀ x ∈ tl, x ∈ M.2.2.2.2.2.2) (hpc : e.1 = pc) (hA : zin A lv) (hz : zSt Z (Zc Z f) M (pc, h, lv, st) s1)
    (hv : z_st (R := Prop) False vcB vcA (vcC Z) Z.2.2.2.1 Z.1 Z.2.1 Z.2.2.1 Z.2.2.2.2 mth e h A st (fun h' lv' st' => bif cut (e.1 + e.2.2.1) then K (e.1 + e.2.2.1) h' lv' st' else vc Z cut K Q M n (e.1 + e.2.2.1) tl h' lv' st') (fun t h' lv' st' => bif cut t then K t h' lv' st' else vc Z cut K Q M n t (ax_jmp M.2.2.2.2.2.2 t) h' lv' st')) :
    ∃ B, zin B s1.2.2.1 ∧ ((cut s1.1 = true ∧ K s1.1 s1.2.1 B s1.2.2.2) ∨ (∃ cd, (∀ x ∈ cd, x ∈ M.2.2.2.2.2.2) ∧ vc Z cut K Q M n s1.1 cd s1.2.1 B s1.2.2.2)) := by
  obtain ⟨e', he', hpc', hz'⟩ := hz
  have hee := hM.2 e' he' e he (by rw [hpc', hpc])
  subst hee
  subst hpc
  have FIN : ∀ (t : Nat) (cd : List ME) (m1 m2 : ZL) (h1 : PH) (st1 : List ZV), (∀ x ∈ cd, x ∈ M.2.2.2.2.2.2) → zin m2 m1 → s1 = (t, h1, m1, st1) → (bif cut t then K t h1 m2 st1 else vc Z cut K Q M n t cd h1 m2 st1) → ∃ B, zin B s1.2.2.1 ∧ ((cut s1.1 = true ∧ K s1.1 s1.2.1 B s1.2.2.2) ∨ (∃ cd, (∀ x ∈ cd, x ∈ M.2.2.2.2.2.2) ∧ vc Z cut K Q M n s1.1 cd s1.2.1 B s1.2.2.2)) := fun t cd m1 m2 h1 st1 a1 a2 a3 a4 => by
    subst a3
    refine ⟨m2, a2, ?_⟩
    cases hc : cut t with
    | true => rw [hc] at a4; exact Or.inl ⟨rfl, a4⟩
    | false => rw [hc] at a4; exact Or.inr ⟨cd, a1, a4⟩
  refine z_st_pal (Rl := fun a b : Prop => a → b → ∃ B, zin B s1.2.2.1 ∧ ((cut s1.1 = true ∧ K s1.1 s1.2.1 B s1.2.2.2) ∨ (∃ cd, (∀ x ∈ cd, x ∈ M.2.2.2.2.2.2) ∧ vc Z cut K Q M n s1.1 cd s1.2.1 B s1.2.2.2))) (fun h _ => h.elim) (fun c x1 x2 y1 y2 hx hy a b => a.elim (fun q => hx q.2 (b.1 q.1)) (fun q => hy q.2 (b.2 q.1))) (fun c x1 x2 hx a b => hx a.2 (b a.1)) (fun C h as k1 k2 hk a b => by
    obtain ⟨h', r, a1, a2⟩ := a
    exact hk h' r a2 (vcC_ok b ⟨f, a1⟩)) (fun a b => vb0 hA (fun m1 m2 st' z1 z2 z3 => FIN _ tl m1 m2 h st' htl z1 z2 z3) a b) (fun h' st' a b => FIN _ tl lv A h' st' htl hA a b) (fun t h' st' a b => FIN t _ lv A h' st' (ax_jmp_in _ _) hA a b) hz' hv
theorem rtz_op (hM : Mgd M) {e : ME} (he : e ∈ M.2.2.2.2.2.2) {st : List ZV} (hr : rtz M e.1 st) : (Nat.ble 22 e.2.1 && Nat.ble e.2.1 25) = true := by
  obtain ⟨ins, hd, hk⟩ := hr
  have hok := hM.1 e he
  obtain ⟨pc0, op, len, lk, ins0⟩ := e
  unfold eok at hok
  have k1 := bb_and hok
  have k2 := bb_and k1.2
  have hdg : decode M.2.1 pc0 = .ok (ins0, len) := of_decide_eq_true k1.1
  have hop : op = ax_op ins0 := bb_eq k2.1
  have hd : decode M.2.1 pc0 = .ok (ins, 1) := hd
  rw [hd] at hdg
  cases hdg
  subst hop
  cases ins <;> first | (exact hk.elim) | rfl
theorem op_rtz {cr : CRl} (hM : Mgd M) {e : ME} (he : e ∈ M.2.2.2.2.2.2) {h : PH} {lv : ZL} {st : List ZV} {s1 : ZS} (ho : (Nat.ble 22 e.2.1 && Nat.ble e.2.1 25) = true) (H : zSt Z cr M (e.1, h, lv, st) s1) : False := by
  obtain ⟨e', he', hpc', hz'⟩ := H
  have hee := hM.2 e' he' e he hpc'
  subst hee
  have w := bb_and ho
  have a := bb_le w.1
  have b := bb_le w.2
  obtain ⟨pc0, op, len, lk, ins0⟩ := e'
  have a : 22 ≤ op := a
  have b : op ≤ 25 := b
  rcases (show op = 22 ∨ op = 23 ∨ op = 24 ∨ op = 25 by omega) with rfl | rfl | rfl | rfl <;> exact hz'.elim
theorem vc_ok {f : Nat} (hM : Mgd M) : ∀ (n : Nat) {m pc : Nat} {cd : List ME} {h : PH} {lv A : ZL} {st : List ZV} {s : ZS}, (∀ x ∈ cd, x ∈ M.2.2.2.2.2.2) → zin A lv → vc Z cut K Q M n pc cd h A st → Zn Z (Zc Z f) m M (pc, h, lv, st) s → rtz M s.1 s.2.2.2 → Q s.2.1 s.2.2.2 ∨ ∃ m', m' < m ∧ ∃ pc' h' lv' B st', cut pc' = true ∧ zin B lv' ∧ K pc' h' B st' ∧ Zn Z (Zc Z f) m' M (pc', h', lv', st') s
  | 0, _, _, _, _, _, _, _, _, _, _, H, _, _ => H.elim
  | n + 1, m, pc, cd, h, lv, A, st, s, hcd, hA, H, hZ, hr => by
    match cd, hcd, H with
    | e :: tl, hcd, H =>
      have H2 : gdr False (Nat.beq e.1 pc) (bif Nat.ble 22 e.2.1 && Nat.ble e.2.1 25 then Q h st else z_st (R := Prop) False vcB vcA (vcC Z) Z.2.2.2.1 Z.1 Z.2.1 Z.2.2.1 Z.2.2.2.2 mth e h A st (fun h' lv' st' => bif cut (e.1 + e.2.2.1) then K (e.1 + e.2.2.1) h' lv' st' else vc Z cut K Q M n (e.1 + e.2.2.1) tl h' lv' st') (fun t h' lv' st' => bif cut t then K t h' lv' st' else vc Z cut K Q M n t (ax_jmp M.2.2.2.2.2.2 t) h' lv' st')) := H
      have he := hcd e List.mem_cons_self
      have htl : ∀ x ∈ tl, x ∈ M.2.2.2.2.2.2 := fun x hx => hcd x (List.mem_cons_of_mem _ hx)
      cases hp : Nat.beq e.1 pc with
      | false => rw [hp] at H2; exact H2.elim
      | true =>
        rw [hp] at H2
        have H3 : (bif Nat.ble 22 e.2.1 && Nat.ble e.2.1 25 then Q h st else z_st (R := Prop) False vcB vcA (vcC Z) Z.2.2.2.1 Z.1 Z.2.1 Z.2.2.1 Z.2.2.2.2 mth e h A st (fun h' lv' st' => bif cut (e.1 + e.2.2.1) then K (e.1 + e.2.2.1) h' lv' st' else vc Z cut K Q M n (e.1 + e.2.2.1) tl h' lv' st') (fun t h' lv' st' => bif cut t then K t h' lv' st' else vc Z cut K Q M n t (ax_jmp M.2.2.2.2.2.2 t) h' lv' st')) := H2
        have epc := bb_eq hp
        subst epc
        cases ho : (Nat.ble 22 e.2.1 && Nat.ble e.2.1 25) with
        | true =>
          rw [ho] at H3
          match m, hZ with
          | 0, hZ =>
            have hZ : (e.1, h, lv, st) = s := hZ
            subst hZ
            exact Or.inl H3
          | m + 1, hZ =>
            obtain ⟨s1, a, -⟩ := hZ
            exact (op_rtz hM he ho a).elim
        | false =>
          rw [ho] at H3
          match m, hZ with
          | 0, hZ =>
            have hZ : (e.1, h, lv, st) = s := hZ
            subst hZ
            have := rtz_op hM he hr
            rw [ho] at this
            cases this
          | m + 1, hZ =>
            obtain ⟨s1, a, b⟩ := hZ
            obtain ⟨B, c1, c2⟩ := vc_step hM he htl rfl hA a H3
            obtain ⟨p1, h1, l1, t1⟩ := s1
            rcases c2 with ⟨d1, d2⟩ | ⟨cd', d1, d2⟩
            · exact Or.inr ⟨m, Nat.lt_succ_self m, p1, h1, l1, B, t1, d1, c1, d2, b⟩
            · rcases vc_ok hM n d1 c1 d2 b hr with q | ⟨m', q1, q2⟩
              · exact Or.inl q
              · exact Or.inr ⟨m', Nat.lt_succ_of_lt q1, q2⟩
theorem zin.tr {A B lv : ZL} (h1 : zin A B) (h2 : zin B lv) : zin A lv := fun q hq => h2 q (by have := zlk_in (h1 q hq); exact this)
/-- what holds at cut places holds again at each of them -/
theorem vc_all {f : Nat} (hM : Mgd M) (H : ∀ pc h lv st, cut pc = true → K pc h lv st → ∃ n A, zsb A lv ∧ vc Z cut K Q M n pc (ax_jmp M.2.2.2.2.2.2 pc) h A st) : ∀ (k m : Nat) {pc : Nat} {h : PH} {lv A : ZL} {st : List ZV} {s : ZS}, m < k → cut pc = true → zin A lv → K pc h A st → Zn Z (Zc Z f) m M (pc, h, lv, st) s → rtz M s.1 s.2.2.2 → Q s.2.1 s.2.2.2
  | 0, m, _, _, _, _, _, _, hm, _, _, _, _, _ => absurd hm (Nat.not_lt_zero m)
  | k + 1, m, pc, h, lv, A, st, s, hm, hc, hA, hK, hZ, hr => by
    obtain ⟨n, B, hB, hv⟩ := H pc h A st hc hK
    rcases vc_ok hM n (ax_jmp_in _ _) (zin.tr (zsb_in hB) hA) hv hZ hr with q | ⟨m', q1, pc', h', lv', B', st', q2, q3, q4, q5⟩
    · exact q
    · exact vc_all hM H k m' (by omega) q2 q3 q4 q5 hr
theorem cp_vc {n : Nat} {h h' : PH} {as r : List ZV} (H0 : vc Z cut K Q M n 0 M.2.2.2.2.2.2 h (z_locs 0 as) []) (H : ∀ pc h lv st, cut pc = true → K pc h lv st → ∃ n A, zsb A lv ∧ vc Z cut K Q M n pc (ax_jmp M.2.2.2.2.2.2 pc) h A st) (hc : CP Z M h as h' r) : Q h' r := by
  obtain ⟨f, hf⟩ := hc
  match f, hf with
  | f + 1, hf =>
    obtain ⟨hM, m, pc', lv', a, b⟩ := hf
    rcases vc_ok hM n (fun _ hx => hx) (zlocs_in as 0) H0 a b with q | ⟨m', q1, p1, h1, l1, B, t1, q2, q3, q4, q5⟩
    · exact q
    · exact vc_all hM H (m' + 1) m' (Nat.lt_succ_self _) q2 q3 q4 q5 b
/-- at a loop's head: places by an unknown, what holds of it -/
def lK {α : Type} (A : α → ZL) (J : α → PH → Prop) : Nat → PH → ZL → List ZV → Prop := fun _ hx lv st => st = [] ∧ ∃ a, J a hx ∧ zsb (A a) lv
theorem cp_loop {α : Type} {A : α → ZL} {J : α → PH → Prop} {hd n0 n1 : Nat} {h h' : PH} {as r : List ZV} (H0 : vc Z (fun p => Nat.beq p hd) (lK A J) Q M n0 0 M.2.2.2.2.2.2 h (z_locs 0 as) []) (H1 : ∀ a hx, J a hx → vc Z (fun p => Nat.beq p hd) (lK A J) Q M n1 hd (ax_jmp M.2.2.2.2.2.2 hd) hx (A a) []) (hc : CP Z M h as h' r) : Q h' r := by
  refine cp_vc H0 (fun pc hx lv st hcut hK => ?_) hc
  have e : pc = hd := bb_eq hcut
  subst e
  obtain ⟨rfl, a, hJ, hs⟩ := hK
  exact ⟨n1, A a, hs, H1 a hx hJ⟩
end VC
end
section
/-! 3d.fr -/
/-! WHAT A UNIT SAYS OF A PLAIN RUN -/
/-- arguments: 0 an int, 1 a long, 2 a cell, 3 a boolean -/
abbrev ASp : Type := List (Nat × Nat)
def as1 (s : Nat × Nat) (v : ZV) : Prop := match s.1 with
  | 0 => v.1 = 0 ∧ R32 v.2
  | 1 => v.1 = 1 ∧ R64 v.2
  | 2 => v = (2, Int.ofNat s.2)
  | _ => v.1 = 0 ∧ (v.2 = 0 ∨ v.2 = 1)
def asok : ASp → List ZV → Prop
  | [], [] => True
  | s :: t, v :: r => as1 s v ∧ asok t r
  | _, _ => False
def frS : ASp → SG
  | [] => []
  | s :: t => match s.1 with
    | 0 => (-2147483648, 2147483647) :: frS t
    | 1 => (-9223372036854775808, 9223372036854775807) :: frS t
    | 2 => frS t
    | _ => (0, 1) :: frS t
def frV (j : Nat) : ASp → List V2
  | [] => []
  | s :: t => match s.1 with
    | 0 => (0, (0, [(j, 1)])) :: frV (j + 1) t
    | 1 => (1, (0, [(j, 1)])) :: frV (j + 1) t
    | 2 => (2, (Int.ofNat s.2, [])) :: frV j t
    | _ => (0, (0, [(j, 1)])) :: frV (j + 1) t
theorem fr_args {sp ad : Nat → Nat} (hi : Inj ad) : ∀ (spec : ASp) (as : List ZV) (ρ : List Int) (σ : SG), asok spec as → Sr ρ σ → ∃ VS zs, VS.map (cz ad) = as ∧ Sr (ρ ++ zs) (σ ++ frS spec) ∧ Sk sp ad (ρ ++ zs) (frV ρ.length spec) VS
  | [], [], ρ, σ, _, hs => ⟨[], [], rfl, by simpa [frS] using hs, trivial⟩
  | [], _ :: _, _, _, h, _ => h.elim
  | _ :: _, [], _, _, h, _ => h.elim
  | (tg, c) :: t, v :: r, ρ, σ, h, hs => by
    have ONE : ∀ (lo hiv : Int) (V : Value), lo ≤ v.2 → v.2 ≤ hiv → cz ad V = v → ∃ VS zs, (V :: VS).map (cz ad) = v :: r ∧ Sr (ρ ++ (v.2 :: zs)) (σ ++ ((lo, hiv) :: frS t)) ∧ Sk sp ad (ρ ++ (v.2 :: zs)) (frV (ρ.length + 1) t) VS := fun lo hiv V h1 h2 h3 => by
      obtain ⟨VS, zs, a, b, d⟩ := fr_args hi t r (ρ ++ [v.2]) (σ ++ [(lo, hiv)]) h.2 (hs.app h1 h2)
      rw [List.append_assoc, List.append_assoc] at b
      rw [List.append_assoc, List.length_append] at d
      exact ⟨VS, zs, by rw [List.map_cons, h3, a], b, d⟩
    have AT : ∀ zs : List Int, (ρ ++ (v.2 :: zs))[ρ.length]? = some v.2 := fun zs => by
      rw [List.getElem?_append_right (Nat.le_refl _)]
      simp
    obtain ⟨vt, vz⟩ := v
    match tg, h with
    | 0, h =>
      obtain ⟨e, hr⟩ := h.1
      have e : vt = 0 := e
      subst e
      have e2 := o32R hr
      obtain ⟨VS, zs, a, b, d⟩ := ONE (-2147483648) 2147483647 (.int (Int32.ofInt vz)) hr.1 hr.2 (by rw [cz_i]; exact congrArg (fun z => ((0, z) : ZV)) e2)
      exact ⟨_, _, a, b, ⟨_, rfl, by rw [e2]; exact Lv.v (AT zs)⟩, d⟩
    | 1, h =>
      obtain ⟨e, hr⟩ := h.1
      have e : vt = 1 := e
      subst e
      have e2 := o64R hr
      obtain ⟨VS, zs, a, b, d⟩ := ONE (-9223372036854775808) 9223372036854775807 (.long (Int64.ofInt vz)) hr.1 hr.2 (by rw [cz_l]; exact congrArg (fun z => ((1, z) : ZV)) e2)
      exact ⟨_, _, a, b, ⟨_, rfl, by rw [e2]; exact Lv.v (AT zs)⟩, d⟩
    | 2, h =>
      have e : ((vt, vz) : ZV) = (2, Int.ofNat c) := h.1
      obtain ⟨VS, zs, a, b, d⟩ := fr_args hi t r ρ σ h.2 hs
      exact ⟨.ref (ad c) :: VS, zs, by rw [List.map_cons, cz_c hi, a, e], b, rfl, d⟩
    | n + 3, h =>
      obtain ⟨e, hr⟩ := h.1
      have e : vt = 0 := e
      have hr : vz = 0 ∨ vz = 1 := hr
      subst e
      have e2 := o32R (z := vz) ⟨by omega, by omega⟩
      obtain ⟨VS, zs, a, b, d⟩ := ONE 0 1 (.int (Int32.ofInt vz)) (by show (0 : Int) ≤ vz; omega) (by show vz ≤ 1; omega) (by rw [cz_i]; exact congrArg (fun z => ((0, z) : ZV)) e2)
      exact ⟨_, _, a, b, ⟨_, rfl, by rw [e2]; exact Lv.v (AT zs)⟩, d⟩
noncomputable def t0k (tb : TB) (U0 : UN) (N : NS) (m : MM) : Bool := match um tb U0 N m [] [] with
  | some _ => true
  | none => false
/-- a method's unit is fit for any arguments of these kinds, and what is to hold holds behind it -/
noncomputable def frk (tb : TB) (U0 U : UN) (spec : ASp) : Bool := match um tb U ((tA U0.2.1).1.1 ++ frS spec, [], []) (tA U0.2.1).2.1 (v_locs 0 (frV (tA U0.2.1).1.1.length spec)) [] with
  | none => false
  | some q => (match x_os tb q.1 q.2.1 q.2.2 U.2.2.2.1 (fun k _ N2 m2 _ _ => gd (Nat.beq k 0 && t0k tb U0 N2 m2) (some [])) U.2.2.1 with
    | some _ => true
    | none => false)
section FR
variable {tb : TB} {sb : Nat → List Nat} {mq : Nat → Nat → Option MR} {dC : Nat → ClassId} {dI : Nat → Nat → Nat} {dA : Nat → ClassId} {sp : Nat → Nat} {H0 : Heap} {l : Launch} {ρ0 : List Nat} {ad : Nat → Nat} {rf : Nat → Nat → Option Nat} {L : LSc}
/-- what holds between calls -/
def Tq (tb : TB) (L : LSc) (sp ad : Nat → Nat) (U0 : UN) (h : PH) : Prop := ∃ ρ, Ga tb L sp ad ρ h h (tA U0.2.1) [] []
theorem t0k_ok {U0 : UN} (hn : isnil U0.2.1.2.2.2.2.2.2.2.2 = true) (hw : st_wf U0.2.1.1.length U0.2.1 = true) (hl : U0.2.1.2.2.2.2.2.2.2.1 = []) {ρ : List Int} {h0 h : PH} {N : NS} {m : MM} {lv : L2} {st : List V2} {LV : LVs} {SV : List Value} (hG : Ga tb L sp ad ρ h0 h (N, m, lv, st) LV SV) (hk : t0k tb U0 N m = true) : Tq tb L sp ad U0 h := by
  unfold t0k at hk
  cases hu : um tb U0 N m [] [] with
  | none => rw [hu] at hk; cases hk
  | some q =>
    obtain ⟨N', m', mu⟩ := q
    have hG' : Ga tb L sp ad ρ h0 h (N, m, [], []) [] [] := ⟨hG.1, hG.2.1, hG.2.2.1, trivial, trivial⟩
    obtain ⟨-, ρ', ρT, LV', k1, k2, k3, k4, k5, k6⟩ := um_ok hn hw hG' hu
    refine ⟨ρT, k6.1, k6.2.1, k6.2.2.1, ?_, k6.2.2.2.2⟩
    show Lk sp ad ρT U0.2.1.2.2.2.2.2.2.2.1 []
    rw [hl]
    trivial
theorem fr_ok {a b : Nat} {U0 U : UN} {M : MR} {spec : ASp} (hn : isnil U0.2.1.2.2.2.2.2.2.2.2 = true) (hw : st_wf U0.2.1.1.length U0.2.1 = true) (hl : U0.2.1.2.2.2.2.2.2.2.1 = []) (hf : U0.2.1.2.1 = [] ∧ U0.2.1.2.2.1 = []) (hU : ULOK tb sb mq dC dI dA sp H0 l ρ0 ad rf L [((a, b, 0), U)]) (hM : mq a b = some M) (hg : Mgd M) (hi : Inj ad) (hk : frk tb U0 U spec = true) {h h' : PH} {as r : List ZV} (hT : Tq tb L sp ad U0 h) (has : asok spec as) (hc : CP (zp0 sb sp ρ0 tb.1) M h as h' r) : Tq tb L sp ad U0 h' ∧ ∀ c k, Wout U.2.2.2.1 c k → h' c k = h c k := by
  obtain ⟨ρ, hG⟩ := hT
  obtain ⟨VS, zs, hVS, hSr, hSk⟩ := fr_args hi spec as ρ (tA U0.2.1).1.1 has hG.1.1
  have hsb : Sb ρ (ρ ++ zs) := Sb.app _ _
  have hlen : ρ.length = (tA U0.2.1).1.1.length := hG.1.1.1
  rw [hlen] at hSk
  have hG1 : Ga tb L sp ad (ρ ++ zs) h h (((tA U0.2.1).1.1 ++ frS spec, [], []), (tA U0.2.1).2.1, v_locs 0 (frV (tA U0.2.1).1.1.length spec), []) (lv_args 0 VS) [] := ⟨⟨hSr, fun f hf => (by cases hf), fun f hf => (by cases hf)⟩, hG.2.1.mono hsb, hG.2.2.1, Lk.locs 0 hSk, trivial⟩
  unfold frk at hk
  cases hu : um tb U ((tA U0.2.1).1.1 ++ frS spec, [], []) (tA U0.2.1).2.1 (v_locs 0 (frV (tA U0.2.1).1.1.length spec)) [] with
  | none => rw [hu] at hk; cases hk
  | some q =>
    rw [hu] at hk
    dsimp only at hk
    cases hx : x_os tb q.1 q.2.1 q.2.2 U.2.2.2.1 (fun k _ N2 m2 _ _ => gd (Nat.beq k 0 && t0k tb U0 N2 m2) (some [])) U.2.2.1 with
    | none => rw [hx] at hk; cases hk
    | some outs =>
      obtain ⟨n1, n2, n3⟩ := hU _ List.mem_cons_self
      have n4 := n3 M hM
      obtain ⟨N', m', mu⟩ := q
      obtain ⟨-, ρ', ρT, LV', k1, k2, k3, k4, k5, k6⟩ := um_ok n1 n2 hG1 hu
      obtain ⟨pc1, h1, lv1, st1, p1, -, Z1⟩ := wp_less k5 (n4 ρT h LV' k6)
      obtain ⟨o, o1, o2, r', N2, m2, lv2, st2, ρ2, q1, q2, q3, q4⟩ := unit_at k2 k3 k4 hx p1
      obtain ⟨g, -⟩ := gd_s q1
      have w := bb_and g
      have hrt : rte M pc1 st1 := by
        rcases o2 with ⟨-, z⟩ | ⟨z, -⟩
        · exact z
        · have := bb_eq w.1
          omega
      obtain ⟨f, n, zl', z1, -⟩ := Z1 hi (z_locs 0 as) (by rw [← hVS]; exact (Zlr.args VS 0).1)
      have hc2 : CP (zp0 sb sp ρ0 tb.1) M h as h1 (st1.map (cz ad)) := ⟨f + 1, hg, n, pc1, zl', z1, rtz_of hrt⟩
      obtain ⟨e1, -⟩ := CP_det hc hc2
      subst e1
      refine ⟨t0k_ok hn hw hl q4 w.2, fun c k hwo => ?_⟩
      obtain ⟨o', -, -, e', ga⟩ := p1
      exact ga.2.1.2.2.2.1 c k hwo
end FR
end
section
/-! 3e.cse -/
/-! A CASE OF THE LAW, by its unit, as a piece of a plain run -/
section FR
variable {Z : ZP}
theorem Zn_pre {cr : CRl} (hc : ∀ C h as h1 r1 h2 r2, cr C h as h1 r1 → cr C h as h2 r2 → h1 = h2 ∧ r1 = r2) {M : MR} (hM : Mgd M) : ∀ (n : Nat) {m : Nat} {s s1 e : ZS}, Zn Z cr n M s s1 → Zn Z cr m M s e → rtz M e.1 e.2.2.2 → ∃ m', m = n + m' ∧ Zn Z cr m' M s1 e
  | 0, m, s, s1, e, a, b, _ => by
    have a : s = s1 := a
    subst a
    exact ⟨m, by omega, b⟩
  | n + 1, 0, s, s1, e, a, b, hr => by
    have b : s = e := b
    subst b
    obtain ⟨s2, c, -⟩ := a
    exact (zSt_rt hM hr c).elim
  | n + 1, m + 1, s, s1, e, a, b, hr => by
    obtain ⟨s2, c, d⟩ := a
    obtain ⟨s3, c', d'⟩ := b
    have q := zSt_det hc hM c c'
    subst q
    obtain ⟨m', e1, e2⟩ := Zn_pre hc hM n d d' hr
    exact ⟨m', by omega, e2⟩
end FR
/-- a place that holds a cell, an old cell -/
noncomputable def isl (lv : L2) (i t : Nat) (c : Int) : Bool := match lk2 lv i with
  | some v => Nat.beq v.1 t && decide (v.2.1 = c)
  | none => false
noncomputable def isi (N : NS) (lv : L2) (i n : Nat) : Bool := match lk2 lv i with
  | some v => Nat.beq v.1 0 && eqv N v.2 (0, [(n, 1)])
  | none => false
def lvL (n : Nat) : L2 := [(3, (0, (0, [(n, 1)]))), (2, (2, (169, []))), (1, (2, (0, []))), (0, (6, (0, [])))]
/-- the places of the law's loop -/
def zlL (i : Int) : ZL := [(3, (0, i)), (2, (2, 169)), (1, (2, 0)), (0, (6, 0))]
noncomputable def cse (tb : TB) (U0 U : UN) (e6 : Nat) : Bool := ax_fc (tA U0.2.1).1.1.length (fun n => match um tb U ((tA U0.2.1).1.1 ++ [(0, 3066), (0, 3072)], [(-6, [(n, -1), (n + 1, 1)])], []) ((999, (0, []), (0, [(n + 1, 1)])) :: (tA U0.2.1).2.1.1, (tA U0.2.1).2.1.2) (lvL n) [] with
  | none => false
  | some q => (match x_os tb q.1 q.2.1 q.2.2 U.2.2.2.1 (fun k pc N2 m2 lv2 st2 => gd (Nat.beq k 1 && (Nat.beq pc e6 && (t0k tb U0 N2 m2 && (isi N2 lv2 3 n && (isl lv2 2 2 169 && (isl lv2 1 2 0 && (isl lv2 0 6 0 && isnil st2))))))) (some [])) U.2.2.1 with
    | some _ => true
    | none => false))
section FR
variable {tb : TB} {sb : Nat → List Nat} {mq : Nat → Nat → Option MR} {dC : Nat → ClassId} {dI : Nat → Nat → Nat} {dA : Nat → ClassId} {sp : Nat → Nat} {H0 : Heap} {l : Launch} {ρ0 : List Nat} {ad : Nat → Nat} {rf : Nat → Nat → Option Nat} {L : LSc}
theorem isl_ok {ρ : List Int} {lv : L2} {LV : LVs} (hL : Lk sp ad ρ lv LV) {i t : Nat} {c : Int} (h : isl lv i t c = true) : ∃ v V, (i, V) ∈ LV ∧ Vk sp ad ρ v V ∧ v.1 = t ∧ v.2.1 = c := by
  unfold isl at h
  cases hk : lk2 lv i with
  | none => rw [hk] at h; cases h
  | some v =>
    rw [hk] at h
    have w := bb_and h
    obtain ⟨V, a, b⟩ := lk2_ok hL hk
    exact ⟨v, V, a, b, bb_eq w.1, of_decide_eq_true w.2⟩
theorem cse_ok {pc e6 : Nat} {U0 U : UN} {M : MR} (hn : isnil U0.2.1.2.2.2.2.2.2.2.2 = true) (hw : st_wf U0.2.1.1.length U0.2.1 = true) (hl : U0.2.1.2.2.2.2.2.2.2.1 = []) (hU : ULOK tb sb mq dC dI dA sp H0 l ρ0 ad rf L [((98, 0, 100000 + pc), U)]) (hM : mq 98 0 = some M) (hi : Inj ad) (hk : cse tb U0 U e6 = true) {h : PH} {i : Int} {zl : ZL} (hT : Tq tb L sp ad U0 h) (h0 : 0 ≤ i) (h6 : i + 6 ≤ L.1) (hLx : L.1 ≤ 3072) (hz : zin (zlL i) zl) :
    ∃ f n h' zl', Zn (zp0 sb sp ρ0 tb.1) (Zc (zp0 sb sp ρ0 tb.1) f) n M (pc, h, zl, []) (e6, h', zl', []) ∧ zin (zlL i) zl' ∧ Tq tb L sp ad U0 h' ∧ ∀ c k, Wout U.2.2.2.1 c k → h' c k = h c k := by
  obtain ⟨ρ, hG⟩ := hT
  have hlen : ρ.length = (tA U0.2.1).1.1.length := hG.1.1.1
  unfold cse at hk
  rw [ax_fc_eq] at hk
  generalize hnn : (tA U0.2.1).1.1.length = n at hk hlen
  have hsb : Sb ρ (ρ ++ [i] ++ [(L.1 : Int)]) := by rw [List.append_assoc]; exact Sb.app _ _
  have hSr : Sr (ρ ++ [i] ++ [(L.1 : Int)]) ((tA U0.2.1).1.1 ++ [(0, 3066)] ++ [(0, 3072)]) := (hG.1.1.app h0 (by omega)).app (by omega) (by omega)
  have e0 : (ρ ++ [i] ++ [(L.1 : Int)])[n]? = some i := by
    rw [List.append_assoc, List.getElem?_append_right (by omega)]
    simp [hlen]
  have e1 : (ρ ++ [i] ++ [(L.1 : Int)])[n + 1]? = some (L.1 : Int) := by
    rw [List.append_assoc, List.getElem?_append_right (by omega)]
    simp [hlen]
  have hI : R32 i := ⟨by omega, by omega⟩
  have hLV : Lk sp ad (ρ ++ [i] ++ [(L.1 : Int)]) (lvL n) [(3, .int (Int32.ofInt i)), (2, .ref (ad 169)), (1, .ref (ad 0)), (0, .retAddr 0)] := ⟨⟨rfl, ⟨_, rfl, by rw [o32R hI]; exact Lv.v e0⟩⟩, ⟨rfl, rfl⟩, ⟨rfl, rfl⟩, ⟨rfl, rfl⟩, trivial⟩
  have hmm := hG.2.1.mono hsb
  have hG1 : Ga tb L sp ad (ρ ++ [i] ++ [(L.1 : Int)]) h h (((tA U0.2.1).1.1 ++ [(0, 3066), (0, 3072)], [(-6, [(n, -1), (n + 1, 1)])], []), ((999, (0, []), (0, [(n + 1, 1)])) :: (tA U0.2.1).2.1.1, (tA U0.2.1).2.1.2), lvL n, []) [(3, .int (Int32.ofInt i)), (2, .ref (ad 169)), (1, .ref (ad 0)), (0, .retAddr 0)] [] := by
    refine ⟨⟨?_, fun f hf => ?_, fun f hf => (by cases hf)⟩, ⟨fun e he => ?_, hmm.2.1, hmm.2.2.1, hmm.2.2.2.1, hmm.2.2.2.2.1, hmm.2.2.2.2.2⟩, hG.2.2.1, hLV, trivial⟩
    · have e9 : (tA U0.2.1).1.1 ++ [(0, 3066)] ++ [(0, 3072)] = (tA U0.2.1).1.1 ++ [((0 : Int), (3066 : Int)), (0, 3072)] := by rw [List.append_assoc]; rfl
      rw [e9] at hSr
      exact hSr
    · have hf := List.mem_singleton.mp hf
      subst hf
      exact ⟨-6 + (-1 * i + (1 * (L.1 : Int) + 0)), ⟨_, ⟨i, _, e0, ⟨_, _, e1, rfl, rfl⟩, rfl⟩, rfl⟩, by omega⟩
    · rcases List.mem_cons.mp he with rfl | he
      · exact ⟨0, (L.1 : Int), Lv.c _ 0, Int.le_refl 0, Lv.v e1, hG.2.2.1.2.1⟩
      · exact hmm.1 e he
  cases hu : um tb U ((tA U0.2.1).1.1 ++ [(0, 3066), (0, 3072)], [(-6, [(n, -1), (n + 1, 1)])], []) ((999, (0, []), (0, [(n + 1, 1)])) :: (tA U0.2.1).2.1.1, (tA U0.2.1).2.1.2) (lvL n) [] with
  | none => rw [hu] at hk; cases hk
  | some q =>
    rw [hu] at hk
    dsimp only at hk
    cases hx : x_os tb q.1 q.2.1 q.2.2 U.2.2.2.1 (fun k pc N2 m2 lv2 st2 => gd (Nat.beq k 1 && (Nat.beq pc e6 && (t0k tb U0 N2 m2 && (isi N2 lv2 3 n && (isl lv2 2 2 169 && (isl lv2 1 2 0 && (isl lv2 0 6 0 && isnil st2))))))) (some [])) U.2.2.1 with
    | none => rw [hx] at hk; cases hk
    | some outs =>
      obtain ⟨n1, n2, n3⟩ := hU _ List.mem_cons_self
      have n4 := n3 M hM
      rw [show (if 100000 ≤ 100000 + pc then 100000 + pc - 100000 else 100000 + pc) = pc by rw [if_pos (by omega)]; omega] at n4
      obtain ⟨N', m', mu⟩ := q
      obtain ⟨-, ρ', ρT, LV', k1, k2, k3, k4, k5, k6⟩ := um_ok n1 n2 hG1 hu
      obtain ⟨pc1, h1, lv1, st1, p1, -, Z1⟩ := wp_less k5 (n4 ρT h LV' k6)
      obtain ⟨o, o1, o2, r', N2, m2, lv2, st2, ρ2, q1, q2, q3, q4⟩ := unit_at k2 k3 k4 hx p1
      obtain ⟨g, -⟩ := gd_s q1
      have w := bb_and g
      have w2 := bb_and w.2
      have w3 := bb_and w2.2
      have w4 := bb_and w3.2
      have w5 := bb_and w4.2
      have w6 := bb_and w5.2
      have w7 := bb_and w6.2
      have epc : pc1 = e6 := by
        rcases o2 with ⟨z, -⟩ | ⟨-, z⟩
        · have := bb_eq w.1
          omega
        · rw [z]; exact bb_eq w2.1
      have hz2 : Zlr ad zl [(3, .int (Int32.ofInt i)), (2, .ref (ad 169)), (1, .ref (ad 0)), (0, .retAddr 0)] := by
        intro q hq
        rcases List.mem_cons.mp hq with rfl | hq
        · rw [cz_i, o32R hI]; exact hz (3, (0, i)) List.mem_cons_self
        · rcases List.mem_cons.mp hq with rfl | hq
          · rw [cz_c hi]; exact hz (2, (2, 169)) (List.mem_cons_of_mem _ List.mem_cons_self)
          · rcases List.mem_cons.mp hq with rfl | hq
            · rw [cz_c hi]; exact hz (1, (2, 0)) (List.mem_cons_of_mem _ (List.mem_cons_of_mem _ List.mem_cons_self))
            · rw [List.mem_singleton.mp hq, cz_s]; exact hz (0, (6, 0)) (List.mem_cons_of_mem _ (List.mem_cons_of_mem _ (List.mem_cons_of_mem _ List.mem_cons_self)))
      obtain ⟨f, nn, zl', z1, z2⟩ := Z1 hi zl hz2
      have hst : st1 = [] := by
        have hS := q4.2.2.2.2
        cases hs2 : st2 with
        | nil => rw [hs2] at hS; exact hS.nil
        | cons x y => rw [hs2] at w7; exact absurd w7.2 (fun z => by cases z)
      subst hst
      subst epc
      refine ⟨f, nn, h1, zl', z1, ?_, t0k_ok hn hw hl q4 w3.1, fun c k hwo => ?_⟩
      · have hLk := q4.2.2.2.1
        have C1 : zlk zl' 3 = some (0, i) := by
          have hi3 := w4.1
          unfold isi at hi3
          cases hk3 : lk2 lv2 3 with
          | none => rw [hk3] at hi3; cases hi3
          | some v =>
            rw [hk3] at hi3
            have u := bb_and hi3
            obtain ⟨V, a1, a2⟩ := lk2_ok hLk hk3
            obtain ⟨x, rfl, hx0⟩ := a2.i u.1
            have e3 : x.toInt = i := eqv_ok q4.1 hx0 (Lv.v (q3 _ _ (k1 _ _ e0))) u.2
            rw [z2 _ a1, cz_i, e3]
        have C2 : ∀ {j c : Nat}, isl lv2 j 2 (Int.ofNat c) = true → zlk zl' j = some (2, Int.ofNat c) := fun {j c} hj => by
          obtain ⟨v, V, a1, a2, a3, a4⟩ := isl_ok hLk hj
          have a5 : V = .ref (ad v.2.1.toNat) := a2.r (by rw [a3]; rfl)
          rw [z2 _ a1, a5, a4]
          exact congrArg some (cz_c hi c)
        have C3 : isl lv2 0 6 0 = true → zlk zl' 0 = some (6, 0) := fun hj => by
          obtain ⟨v, V, a1, a2, a3, a4⟩ := isl_ok hLk hj
          have a5 : V = .retAddr v.2.1.toNat := a2.s (by rw [a3]; rfl)
          rw [z2 _ a1, a5, a4]
          rfl
        intro q hq
        rcases List.mem_cons.mp hq with rfl | hq
        · exact C1
        · rcases List.mem_cons.mp hq with rfl | hq
          · exact C2 (c := 169) w5.1
          · rcases List.mem_cons.mp hq with rfl | hq
            · exact C2 (c := 0) w6.1
            · rw [List.mem_singleton.mp hq]; exact C3 w7.1
      · obtain ⟨o', -, -, e', ga⟩ := p1
        exact ga.2.1.2.2.2.1 c k hwo
end FR
end
