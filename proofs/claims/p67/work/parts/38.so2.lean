/-! THE MACHINE BY FORMS is sound, 2: the heap, switches -/
theorem o32 {z : Int} (h1 : -2147483648 ≤ z) (h2 : z ≤ 2147483647) : (Int32.ofInt z).toInt = z := by
  rw [Int32.toInt_ofInt]
  exact bm32 h1 h2
theorem o64 {z : Int} (h1 : -9223372036854775808 ≤ z) (h2 : z ≤ 9223372036854775807) : (Int64.ofInt z).toInt = z := by
  rw [Int64.toInt_ofInt]
  exact bm64 h1 h2
theorem al2_s {l : List R2} {outs : List O2} (h : al2 l = some outs) : ∀ x ∈ l, ∃ o, x = some o ∧ ∀ z ∈ o, z ∈ outs := by
  induction l generalizing outs with
  | nil => intro x hx; cases hx
  | cons y t ih =>
    obtain ⟨u, v, e1, e2, rfl⟩ := two2_s (x := y) (y := al2 t) h
    intro x hx
    rcases List.mem_cons.mp hx with rfl | hx
    · exact ⟨u, e1, fun z hz => List.mem_append_left _ hz⟩
    · obtain ⟨o, e3, e4⟩ := ih e2 x hx
      exact ⟨o, e3, fun z hz => List.mem_append_right _ (e4 z hz)⟩
theorem spl_ok {ρ : List Int} {N : NS} (hN : Nk ρ N) {x : Nat} {z : Int} (hz : ρ[x]? = some z) {go : NS → R2} {outs : List O2} (h : spl N x go = some outs) : ∃ N' o, go N' = some o ∧ Nk ρ N' ∧ ∀ y ∈ o, y ∈ outs := by
  unfold spl at h
  rw [i_fc_eq, i_fc_eq] at h
  obtain ⟨g, h1⟩ := gd_s h
  have b := s_at_ok hN.1 hz
  obtain ⟨o, e1, e2⟩ := al2_s h1 _ (List.mem_map.mpr ⟨(z - (s_at N.1 x).1).toNat, List.mem_range.mpr (by omega), rfl⟩)
  rw [i_fc_eq, ax_set_eq] at e1
  have ez : (s_at N.1 x).1 + Int.ofNat (z - (s_at N.1 x).1).toNat = z := by
    show (s_at N.1 x).1 + (((z - (s_at N.1 x).1).toNat : Nat) : Int) = z
    omega
  rw [ez] at e1
  exact ⟨_, o, e1, ⟨hN.1.cut (fun y hy => by rw [hz] at hy; cases hy; exact ⟨Int.le_refl _, Int.le_refl _⟩), hN.2.1, hN.2.2⟩, e2⟩
theorem x_rf_ok {tb : TB} {L : LSc} {ρ : List Int} {h0 h : PH} {N : NS} {m : MM} (hN : Nk ρ N) (hm : Mk tb L ρ h0 h m) {c : Nat} {kk : NS → R2} {r : List O2} (hr : x_rf tb N m c kk = some r) : ∃ N', kk N' = some r ∧ Nk ρ N' := by
  unfold x_rf at hr
  cases h1 : isnil m.2.1 with
  | true => rw [h1] at hr; exact ⟨N, hr, hN⟩
  | false =>
    rw [h1] at hr
    simp only [cond_false] at hr
    cases h2 : gcell c tb.2.2.1 with
    | true => rw [h2] at hr; exact rfn_ok hN hm hr
    | false => rw [h2] at hr; exact ⟨N, hr, hN⟩
theorem x_bnd_ok {ρ : List Int} {N : NS} (hN : Nk ρ N) {I : LF} {i : Int} (hI : Lv ρ I i) {n : Nat} (h : x_bnd N I n = true) : 0 ≤ i ∧ i < n := by
  have w := bb_and h
  obtain ⟨f, f1, f2⟩ := lf_sc_ok (-1) I (Int.ofNat n - 1) (pv2 N)
  have w2 := w.2
  rw [f1] at w2
  have a := pv2_ok hN w.1 hI
  have b := pv2_ok hN w2 (f2 ρ _ hI)
  have : (Int.ofNat n : Int) = (n : Int) := rfl
  omega
theorem x_sw_ok {ρ : List Int} {v : LF} {x : Int32} (hv : Lv ρ v x.toInt) {N0 : NS} {go : Nat → NS → R2} {d : Nat} : ∀ (ks : List Nat) {N : NS} {outs : List O2}, Nk ρ N → x_sw N0 v go d ks N = some outs →
    (∃ k t N' o, ax_pr k t ks ∧ x = nI k ∧ go t N' = some o ∧ Nk ρ N' ∧ ∀ z ∈ o, z ∈ outs) ∨ ((∀ k t, ax_pr k t ks → x ≠ nI k) ∧ ∃ N' o, go d N' = some o ∧ Nk ρ N' ∧ ∀ z ∈ o, z ∈ outs)
  | [], N, outs, hN, h => Or.inr ⟨fun k t q => q.elim, N, outs, h, hN, fun _ hz => hz⟩
  | [_], N, outs, hN, h => Or.inr ⟨fun k t q => q.elim, N, outs, h, hN, fun _ hz => hz⟩
  | a :: b :: r, N, outs, hN, h => by
    have h : (bif Nat.blt a 4294967296 then br_eq N v (i32 a, []) (go b) (x_sw N0 v go d r) else none) = some outs := h
    cases hb : Nat.blt a 4294967296 with
    | false => rw [hb] at h; cases h
    | true =>
      rw [hb] at h
      have ha := i32_ok (bb_lt hb)
      have q := br_eq_ok hN hv (b := (i32 a, [])) (y := i32 a) (Lv.c ρ _) h
      by_cases c : x = nI a
      · obtain ⟨N', o, k1, k2, k3⟩ := q.1 (by rw [c, ha])
        exact Or.inl ⟨a, b, N', o, Or.inl ⟨rfl, rfl⟩, c, k1, k2, k3⟩
      · obtain ⟨N', o, k1, k2, k3⟩ := q.2 (fun e => c (Int32.toInt_inj.mp (by rw [e, ha])))
        rcases x_sw_ok hv r k2 k1 with ⟨k, t, N2, o2, l1, l2, l3, l4, l5⟩ | ⟨l1, N2, o2, l2, l3, l4⟩
        · exact Or.inl ⟨k, t, N2, o2, Or.inr l1, l2, l3, l4, fun z hz => k3 z (l5 z hz)⟩
        · refine Or.inr ⟨fun k t q => ?_, N2, o2, l2, l3, fun z hz => k3 z (l4 z hz)⟩
          rcases q with ⟨e1, e2⟩ | q
          · subst e1; exact c
          · exact l1 k t q
section SO
variable {tb : TB} {sb : Nat → List Nat} {dC : Nat → ClassId} {dI : Nat → Nat → Nat} {dA : Nat → ClassId} {sp : Nat → Nat} {H0 : Heap} {l : Launch} {ρ0 : List Nat} {ad : Nat → Nat} {rf : Nat → Nat → Option Nat} {L : LSc}
variable {M : MR} {pc len : Nat} {ins : Instr} {lk : List Nat} {h0 h : PH} {ρ : List Int} {N : NS} {m : MM} {lv : L2} {st : List V2} {LV : LVs} {SV : List Value} {P : PO} {outs : List O2}
theorem so_getf {kk : NS → MM → List V2 → R2} (hdg : Dg M pc ins len lk) (hlen : len = ax_len ins) (hlk : lok mth M pc ins lk = true) (ho : ax_op ins = 8) (hG : Ga tb L sp ad ρ h0 h (N, m, lv, st) LV SV) (hr : x_getf tb lk N m st kk = some outs)
    (GK : ∀ N' m' st', kk N' m' st' = some outs → ∀ ρ' SV', Sb ρ ρ' → Ga tb L sp ad ρ' h0 h (N', m', lv, st') LV SV' → Wp sb dC dI dA sp H0 l ρ0 ad rf tb.1 M (pc + len) h LV SV' P) : Wp sb dC dI dA sp H0 l ρ0 ad rf tb.1 M pc h LV SV P := by
  obtain ⟨hN, hm, hT, hL, hS⟩ := id hG
  unfold x_getf at hr
  obtain ⟨ci, lk1, rfl, hr1⟩ := lc_s hr
  obtain ⟨k, lk2', rfl, hr2⟩ := lc_s hr1
  obtain ⟨a, r, rfl, hr3⟩ := lc_s hr2
  obtain ⟨A, R, rfl, hA, hS2⟩ := hS.cons
  cases ha : Nat.beq a.1 2 with
  | true =>
    rw [ha] at hr3
    have hA2 : A = .ref (ad (cel a)) := hA.r ha
    subst hA2
    obtain ⟨q, q1, hr4⟩ := ob_s (o := ax_nth tb.1 (cel a)) hr3
    obtain ⟨g, hr5⟩ := gd_s hr4
    obtain ⟨f, f1, hr6⟩ := ob_s hr5
    have w := bb_and g
    rw [ax_nth_eq] at q1 f1
    have hq : tb.1[cel a]? = some (ci, q.2.1, q.2.2) := by rw [← bb_eq w.1]; exact q1
    cases hb : Nat.ble f.1 1 with
    | true =>
      rw [hb] at hr6
      simp only [cond_true] at hr6
      have hi : (Int.ofNat k).toNat = k := rfl
      obtain ⟨N', m', v, ρ', e1, e2, e3, e4, e5⟩ := ld_ok hN hm hT (Lv.c ρ (Int.ofNat k)) (Int.natCast_nonneg k) hr6
      obtain ⟨g2, e1'⟩ := gd_s e1
      rw [hi] at e5
      have := bb_le hb
      rcases (show f.1 = 0 ∨ f.1 = 1 by omega) with e | e
      · rw [e] at g2
        have b := in32_ok e3 g2 e5
        refine wp_getf hdg hlen hlk ho hq (bb_lt w.2) f1 (Or.inl ⟨e, b.1, b.2⟩) ?_
        refine GK _ _ _ e1' ρ' _ e2 ⟨e3, e4, hT, hL.mono e2, ?_, hS2.mono e2⟩
        unfold pf
        rw [e]
        exact ⟨_, rfl, by rw [o32 b.1 b.2]; exact e5⟩
      · rw [e] at g2
        have b := in64_ok e3 g2 e5
        refine wp_getf hdg hlen hlk ho hq (bb_lt w.2) f1 (Or.inr (Or.inl ⟨e, b.1, b.2⟩)) ?_
        refine GK _ _ _ e1' ρ' _ e2 ⟨e3, e4, hT, hL.mono e2, ?_, hS2.mono e2⟩
        unfold pf
        rw [e]
        exact ⟨_, rfl, by rw [o64 b.1 b.2]; exact e5⟩
    | false =>
      rw [hb] at hr6
      simp only [cond_false] at hr6
      obtain ⟨g2, hr7⟩ := gd_s hr6
      refine wp_getf hdg hlen hlk ho hq (bb_lt w.2) f1 (Or.inr (Or.inr (bb_eq g2))) ?_
      refine GK _ _ _ hr7 ρ _ (Sb.rf ρ) ⟨hN, hm, hT, hL, ?_, hS2⟩
      unfold pf
      rw [bb_eq g2]
      rfl
  | false =>
    rw [ha] at hr3
    simp only [cond_false] at hr3
    obtain ⟨g, hr8⟩ := gd_s hr3
    have w := bb_and g
    have w2 := bb_and w.2
    have hA2 : A = .retAddr (cel a) := hA.s w.1
    subst hA2
    have e2 := bb_eq w2.1
    subst e2
    refine wp_getS hdg hlen hlk ho (by
      rcases (Bool.or_eq_true _ _).mp w2.2 with z | z
      · exact Or.inl (bb_eq z)
      · exact Or.inr (bb_eq z)) ?_
    cases hk : Nat.beq k 0 with
    | true =>
      rw [hk] at hr8
      rw [if_pos (bb_eq hk)]
      exact GK _ _ _ hr8 ρ _ (Sb.rf ρ) ⟨hN, hm, hT, hL, rfl, hS2⟩
    | false =>
      rw [hk] at hr8
      rw [if_neg (bb_ne hk)]
      exact GK _ _ _ hr8 ρ _ (Sb.rf ρ) ⟨hN, hm, hT, hL, ⟨0, rfl, Lv.c ρ _⟩, hS2⟩
theorem so_putf {kk : MM → List V2 → R2} (hni : M.1.name ≠ "<init>") (hdg : Dg M pc ins len lk) (hlen : len = ax_len ins) (hlk : lok mth M pc ins lk = true) (ho : ax_op ins = 9) (hG : Ga tb L sp ad ρ h0 h (N, m, lv, st) LV SV) (hr : x_putf tb lk N m st kk = some outs)
    (GK : ∀ m' st', kk m' st' = some outs → ∀ h' SV', Ga tb L sp ad ρ h0 h' (N, m', lv, st') LV SV' → Wp sb dC dI dA sp H0 l ρ0 ad rf tb.1 M (pc + len) h' LV SV' P) : Wp sb dC dI dA sp H0 l ρ0 ad rf tb.1 M pc h LV SV P := by
  obtain ⟨hN, hm, hT, hL, hS⟩ := id hG
  unfold x_putf at hr
  obtain ⟨ci, lk1, rfl, hr9⟩ := lc_s hr
  obtain ⟨k, lk2', rfl, hr10⟩ := lc_s hr9
  obtain ⟨tc, lk3, rfl, hr11⟩ := lc_s hr10
  obtain ⟨v, st1, rfl, hr12⟩ := lc_s hr11
  obtain ⟨a, r, rfl, hr13⟩ := lc_s hr12
  obtain ⟨g0, hr14⟩ := gd_s hr13
  obtain ⟨q, q1, hr15⟩ := ob_s hr14
  obtain ⟨g1, hr16⟩ := gd_s hr15
  obtain ⟨f, f1, hr17⟩ := ob_s hr16
  obtain ⟨g2, hr18⟩ := gd_s hr17
  obtain ⟨V, R1, rfl, hV, hS1⟩ := hS.cons
  obtain ⟨A, R, rfl, hA, hS2⟩ := hS1.cons
  have hA2 : A = .ref (ad (cel a)) := hA.r g0
  subst hA2
  rw [ax_nth_eq] at q1 f1
  have w := bb_and g1
  have w2 := bb_and w.2
  have hq : tb.1[cel a]? = some (ci, q.2.1, q.2.2) := by rw [← bb_eq w.1]; exact q1
  have VX : ∃ x, Lv ρ v.2 x ∧ fok tc V x ∧ ((f.1 = 0 ∧ (tc = 0 ∨ tc = 1)) ∨ (f.1 = 1 ∧ tc = 2)) := by
    rcases (Bool.or_eq_true _ _).mp g2 with g | g
    · have u := bb_and g
      have u2 := bb_and u.2
      obtain ⟨x, rfl, hx⟩ := hV.i u2.1
      rcases (Bool.or_eq_true _ _).mp u2.2 with z | z
      · have e := bb_eq z
        subst e
        exact ⟨_, hx, ⟨x, rfl, rfl⟩, Or.inl ⟨bb_eq u.1, Or.inl rfl⟩⟩
      · have z2 := bb_and z
        have z3 := bb_and z2.2
        have e := bb_eq z2.1
        subst e
        obtain ⟨d, d1, d2⟩ := lf_sc_ok (-1) v.2 1 (pv1 N)
        have z4 := z3.2
        rw [d1] at z4
        have b1 := pv1_ok hN z3.1 hx
        have b2 := pv1_ok hN z4 (d2 ρ _ hx)
        exact ⟨_, hx, ⟨x, rfl, rfl, by omega⟩, Or.inl ⟨bb_eq u.1, Or.inr rfl⟩⟩
    · have u := bb_and g
      have u2 := bb_and u.2
      obtain ⟨x, rfl, hx⟩ := hV.l u2.1
      have e := bb_eq u2.2
      subst e
      exact ⟨_, hx, ⟨x, rfl, rfl⟩, Or.inr ⟨bb_eq u.1, rfl⟩⟩
  obtain ⟨x, hx, hfok, hft⟩ := VX
  have hi : (Int.ofNat k).toNat = k := rfl
  obtain ⟨-, m', e1, e2, e3⟩ := stq_ok hN hm hT (Lv.c ρ (Int.ofNat k)) hx (fun z => absurd z (nbq w2.2)) hr18
  rw [hi] at e2 e3
  exact wp_putf hdg hlen hlk ho hq (bb_lt w2.1) f1 hft hfok hni (GK _ _ e1 _ _ ⟨hN, e2, e3, hL, hS2⟩)
theorem so_ald {kd : Nat} {kk : NS → MM → List V2 → R2} {re : NS → R2} (hL6 : L6 sp ρ0 L) (hL31 : L.1 < 2147483648) (hrf : ∀ c q, tb.1[c]? = some q → 103 ≤ q.1 → ∀ j f, j < q.2.1 → q.2.2[j]? = some f → rf c j = some (ad f.2)) (hdg : Dg M pc ins len lk) (hlen : len = ax_len ins) (ho : ax_op ins + 90 = kd) (ho2 : 100 ≤ kd) (ho3 : kd ≤ 103) (hG : Ga tb L sp ad ρ h0 h (N, m, lv, st) LV SV) (hr : x_ald tb sb kd N m st kk re = some outs)
    (GK : ∀ N' m' st', kk N' m' st' = some outs → ∀ ρ' SV', Sb ρ ρ' → Ga tb L sp ad ρ' h0 h (N', m', lv, st') LV SV' → Wp sb dC dI dA sp H0 l ρ0 ad rf tb.1 M (pc + len) h LV SV' P)
    (GR : ∀ N' o, re N' = some o → (∀ z ∈ o, z ∈ outs) → Ga tb L sp ad ρ h0 h (N', m, lv, st) LV SV → Wp sb dC dI dA sp H0 l ρ0 ad rf tb.1 M pc h LV SV P) : Wp sb dC dI dA sp H0 l ρ0 ad rf tb.1 M pc h LV SV P := by
  obtain ⟨hN, hm, hT, hL, hS⟩ := id hG
  have hin2 : kd = 100 ∧ ins = .iaload ∨ kd = 101 ∧ ins = .laload ∨ kd = 102 ∧ ins = .baload ∨ kd = 103 ∧ ins = .aaload := by
    cases ins <;> first | (exfalso; simp only [ax_op] at ho; omega) | skip
    case iaload => exact Or.inl ⟨ho.symm, rfl⟩
    case laload => exact Or.inr (Or.inl ⟨ho.symm, rfl⟩)
    case baload => exact Or.inr (Or.inr (Or.inl ⟨ho.symm, rfl⟩))
    case aaload => exact Or.inr (Or.inr (Or.inr ⟨ho.symm, rfl⟩))
  have hlen1 : len = 1 := by rw [hlen]; rcases hin2 with ⟨-, rfl⟩ | ⟨-, rfl⟩ | ⟨-, rfl⟩ | ⟨-, rfl⟩ <;> rfl
  subst hlen1
  unfold x_ald at hr
  obtain ⟨i, st1, es1, hr19⟩ := lc_s hr
  obtain ⟨a, r, es2, hr20⟩ := lc_s hr19
  obtain ⟨g0, hr21⟩ := gd_s hr20
  have hS' := hS
  rw [show st = i :: a :: r by rw [es1, es2]] at hS'
  obtain ⟨IV, R1, eS1, hIV, hS1⟩ := Sk.cons hS'
  obtain ⟨A, R, eS2, hA, hS2⟩ := hS1.cons
  obtain ⟨x, rfl, hx⟩ := hIV.i g0
  obtain ⟨I, I1, I2⟩ := lf_nv_ok hN.1 i.2 (fun I =>
    bif Nat.beq a.1 2 then ob (ax_nth tb.1 (cel a)) (fun q =>
      bif Nat.beq kd 103 then gd (Nat.ble 103 q.1 && Nat.ble q.1 105) (bif cst I then gd (i_nn I.1 && Nat.blt I.1.toNat q.2.1) (ob (ax_nth q.2.2 I.1.toNat) (fun f => kk N m ((2, (Int.ofNat f.2, [])) :: r))) else lc I.2 (fun t _ => spl N t.1 re))
      else gd (Nat.beq q.1 kd && x_bnd N I q.2.1) (ld tb N m (cel a) I (fun N' m' v => gd (bif Nat.beq kd 101 then in64 N' v else in32 N' v) (x_rf tb N' m' (cel a) (fun N2 => kk N2 m' ((bif Nat.beq kd 101 then 1 else 0, v) :: r))))))
    else gd (Nat.beq a.1 6) (bif Nat.beq (cel a) 0 then gd (Nat.beq kd 100 && pv1 N I) (ld tb N m 999 (0, []) (fun N' m' L => gd (lf_add (-1) I (L.1 - 1, L.2) (pv1 N')) (ld tb N' m' 998 I (fun N2 m2 v => gd (in32 N2 v) (kk N2 m2 ((0, v) :: r))))))
      else gd (Nat.beq kd 102 && ((Nat.beq (cel a) 2 || Nat.beq (cel a) 4) && (cst I && i_nn I.1))) (ob (ax_nth (sb (cel a)) I.1.toNat) (fun n => gd (Nat.blt n 2147483648) (kk N m ((0, (Int.ofNat n, [])) :: r))))))
  rw [I1] at hr21
  have hI := I2 _ hx
  cases ha : Nat.beq a.1 2 with
  | true =>
    rw [ha] at hr21
    simp only [cond_true] at hr21
    have hA2 : A = .ref (ad (cel a)) := hA.r ha
    obtain ⟨q, q1, hr22⟩ := ob_s hr21
    rw [ax_nth_eq] at q1
    cases h3 : Nat.beq kd 103 with
    | true =>
      rw [h3] at hr22
      simp only [cond_true] at hr22
      obtain ⟨g1, hr23⟩ := gd_s hr22
      have w := bb_and g1
      have hins : ins = .aaload := by rcases hin2 with ⟨z, -⟩ | ⟨z, -⟩ | ⟨z, -⟩ | ⟨-, z⟩ <;> first | exact z | (rw [z] at h3; cases h3)
      subst hins
      cases hc : cst I with
      | true =>
        rw [hc] at hr23
        simp only [cond_true] at hr23
        obtain ⟨g2, hr24⟩ := gd_s hr23
        obtain ⟨f, f1, hr25⟩ := ob_s hr24
        rw [ax_nth_eq] at f1
        have w2 := bb_and g2
        have eI := cst_ok hc hI
        have n0 := i_nn_ok w2.1
        have n1 := bb_lt w2.2
        rw [eS1, eS2, hA2]
        rw [← eI] at f1 n1
        exact wp_aald (f := f) hdg (kd := q.1) (n := q.2.1) (fs := q.2.2) q1 (bb_le w.1) (bb_le w.2) (by omega) (by omega) f1 (hrf _ q q1 (bb_le w.1) _ f n1 f1) (GK _ _ _ hr25 ρ _ (Sb.rf ρ) ⟨hN, hm, hT, hL, rfl, hS2⟩)
      | false =>
        rw [hc] at hr23
        simp only [cond_false] at hr23
        obtain ⟨t, tt, et, hr26⟩ := lc_s hr23
        obtain ⟨y, y1, y2⟩ := id hI
        rw [et] at y1
        obtain ⟨z, u, z1, z2, z3⟩ := y1
        obtain ⟨N', o, k1, k2, k3⟩ := spl_ok hN z1 hr26
        exact GR N' o k1 k3 ⟨k2, hm, hT, hL, hS⟩
    | false =>
      rw [h3] at hr22
      simp only [cond_false] at hr22
      obtain ⟨g1, hr27⟩ := gd_s hr22
      have w := bb_and g1
      have bd := x_bnd_ok hN hI w.2
      obtain ⟨N', m', v, ρ', e1, e2, e3, e4, e5⟩ := ld_ok hN hm hT hI bd.1 hr27
      obtain ⟨g2, e1'⟩ := gd_s e1
      obtain ⟨N2, n1, n2⟩ := x_rf_ok e3 e4 e1'
      have ek := bb_eq w.1
      rw [eS1, eS2, hA2]
      rcases hin2 with ⟨rfl, rfl⟩ | ⟨rfl, rfl⟩ | ⟨rfl, rfl⟩ | ⟨rfl, rfl⟩
      · have b := in32_ok e3 g2 e5
        exact wp_iald hdg (n := q.2.1) (fs := q.2.2) (by rw [q1, ← ek]) bd.1 bd.2 ⟨b.1, b.2⟩ (GK _ _ _ n1 ρ' _ e2 ⟨n2, e4, hT, hL.mono e2, ⟨_, rfl, by rw [o32 b.1 b.2]; exact e5⟩, hS2.mono e2⟩)
      · have b := in64_ok e3 g2 e5
        exact wp_lald hdg (n := q.2.1) (fs := q.2.2) (by rw [q1, ← ek]) bd.1 bd.2 ⟨b.1, b.2⟩ (GK _ _ _ n1 ρ' _ e2 ⟨n2, e4, hT, hL.mono e2, ⟨_, rfl, by rw [o64 b.1 b.2]; exact e5⟩, hS2.mono e2⟩)
      · have b := in32_ok e3 g2 e5
        exact wp_bald hdg (n := q.2.1) (fs := q.2.2) (by rw [q1, ← ek]) bd.1 bd.2 ⟨b.1, b.2⟩ (GK _ _ _ n1 ρ' _ e2 ⟨n2, e4, hT, hL.mono e2, ⟨_, rfl, by rw [o32 b.1 b.2]; exact e5⟩, hS2.mono e2⟩)
      · cases h3
  | false =>
    rw [ha] at hr21
    simp only [cond_false] at hr21
    obtain ⟨g1, hr28⟩ := gd_s hr21
    have hA2 : A = .retAddr (cel a) := hA.s g1
    cases hz : Nat.beq (cel a) 0 with
    | true =>
      rw [hz] at hr28
      simp only [cond_true] at hr28
      obtain ⟨g2, hr29⟩ := gd_s hr28
      have w := bb_and g2
      have i0 := pv1_ok hN w.2 hI
      obtain ⟨N', m', v, ρ', e1, e2, e3, e4, e5⟩ := ld_ok hN hm hT (Lv.c ρ 0) (Int.le_refl 0) hr29
      obtain ⟨g3, e1'⟩ := gd_s e1
      rw [show h 999 (0 : Int).toNat = (L.1 : Int) from hT.2.1] at e5
      obtain ⟨d, d1, d2⟩ := lf_add_ok (-1) I (v.1 - 1, v.2) (pv1 N')
      rw [d1] at g3
      have i1 := pv1_ok e3 g3 (d2 ρ' _ _ (hI.mono e2) (e5.dec 1))
      have hins : ins = .iaload := by rcases hin2 with ⟨-, z⟩ | ⟨z, -⟩ | ⟨z, -⟩ | ⟨z, -⟩ <;> first | exact z | (rw [z] at w; exact absurd w.1 (by decide))
      subst hins
      rw [eS1, eS2, hA2, bb_eq hz]
      obtain ⟨N2, m2, u, ρ2, k1, k2, k3, k4, k5⟩ := ld_ok e3 e4 hT (hI.mono e2) i0 e1'
      obtain ⟨g4, k1'⟩ := gd_s k1
      have b := in32_ok k3 g4 k5
      have hlt : x.toInt.toNat < L.1 := by omega
      have hv := hT.2.2 _ hlt
      rw [hL6.2] at hv
      refine wp_sld hdg hL6.1 (by omega) (by omega) (by rw [← hv]; exact ⟨b.1, b.2⟩) ?_
      rw [← hv]
      exact GK _ _ _ k1' ρ2 _ (e2.tr k2) ⟨k3, k4, hT, hL.mono (e2.tr k2), ⟨_, rfl, by rw [o32 b.1 b.2]; exact k5⟩, hS2.mono (e2.tr k2)⟩
    | false =>
      rw [hz] at hr28
      simp only [cond_false] at hr28
      obtain ⟨g2, hr30⟩ := gd_s hr28
      obtain ⟨n, n1, hr31⟩ := ob_s hr30
      obtain ⟨g3, hr32⟩ := gd_s hr31
      rw [ax_nth_eq] at n1
      have w := bb_and g2
      have w2 := bb_and w.2
      have w3 := bb_and w2.2
      have eI := cst_ok w3.1 hI
      have n0 := i_nn_ok w3.2
      have hins : ins = .baload := by rcases hin2 with ⟨z, -⟩ | ⟨z, -⟩ | ⟨-, z⟩ | ⟨z, -⟩ <;> first | exact z | (rw [z] at w; exact absurd w.1 (by decide))
      subst hins
      rw [eS1, eS2, hA2]
      refine wp_tld (n := n) hdg (by
        rcases (Bool.or_eq_true _ _).mp w2.1 with z | z
        · exact Or.inl (bb_eq z)
        · exact Or.inr (bb_eq z)) (by omega) (by rw [eI]; exact n1) ?_
      exact GK _ _ _ hr32 ρ _ (Sb.rf ρ) ⟨hN, hm, hT, hL, ⟨_, rfl, by rw [nI_toInt (by have := bb_lt g3; omega)]; exact Lv.c ρ _⟩, hS2⟩
theorem so_ast {kd : Nat} {kk : MM → List V2 → R2} (hdg : Dg M pc ins len lk) (hlen : len = ax_len ins) (ho : ax_op ins + 86 = kd) (ho2 : 100 ≤ kd) (ho3 : kd ≤ 102) (hG : Ga tb L sp ad ρ h0 h (N, m, lv, st) LV SV) (hr : x_ast tb kd N m st kk = some outs)
    (GK : ∀ m' st', kk m' st' = some outs → ∀ h' SV', Ga tb L sp ad ρ h0 h' (N, m', lv, st') LV SV' → Wp sb dC dI dA sp H0 l ρ0 ad rf tb.1 M (pc + len) h' LV SV' P) : Wp sb dC dI dA sp H0 l ρ0 ad rf tb.1 M pc h LV SV P := by
  obtain ⟨hN, hm, hT, hL, hS⟩ := id hG
  have hin2 : kd = 100 ∧ ins = .iastore ∨ kd = 101 ∧ ins = .lastore ∨ kd = 102 ∧ ins = .bastore := by
    cases ins <;> first | (exfalso; simp only [ax_op] at ho; omega) | skip
    case iastore => exact Or.inl ⟨ho.symm, rfl⟩
    case lastore => exact Or.inr (Or.inl ⟨ho.symm, rfl⟩)
    case bastore => exact Or.inr (Or.inr ⟨ho.symm, rfl⟩)
  have hlen1 : len = 1 := by rw [hlen]; rcases hin2 with ⟨-, rfl⟩ | ⟨-, rfl⟩ | ⟨-, rfl⟩ <;> rfl
  subst hlen1
  unfold x_ast at hr
  obtain ⟨v, st0, rfl, hr33⟩ := lc_s hr
  obtain ⟨i, st1, rfl, hr34⟩ := lc_s hr33
  obtain ⟨a, r, rfl, hr35⟩ := lc_s hr34
  obtain ⟨g0, hr36⟩ := gd_s hr35
  have u := bb_and g0
  have u2 := bb_and u.2
  obtain ⟨V, R0, rfl, hV, hS0⟩ := hS.cons
  obtain ⟨IV, R1, rfl, hIV, hS1⟩ := hS0.cons
  obtain ⟨A, R, rfl, hA, hS2⟩ := hS1.cons
  obtain ⟨x, rfl, hx⟩ := hIV.i u.1
  have hA2 : A = .ref (ad (cel a)) := hA.r u2.1
  subst hA2
  obtain ⟨I, I1, I2⟩ := lf_nv_ok hN.1 i.2 (fun I => lf_nv N.1 v.2 (fun w => ob (ax_nth tb.1 (cel a)) (fun q =>
    gd (Nat.beq q.1 kd && (x_bnd N I q.2.1 && ((!(Nat.beq (cel a) tb.2.2.2.2) || Nat.ble q.2.1 80) && (!(Nat.beq kd 102) || (pv1 N (w.1 + 128, w.2) && lf_sc (-1) w 127 (pv1 N)))))) (stq tb N m (cel a) I w (fun m' => kk m' r)))))
  rw [I1] at hr36
  have hI := I2 _ hx
  obtain ⟨w, W1, W2⟩ := lf_nv_ok hN.1 v.2 (fun w => ob (ax_nth tb.1 (cel a)) (fun q =>
    gd (Nat.beq q.1 kd && (x_bnd N I q.2.1 && ((!(Nat.beq (cel a) tb.2.2.2.2) || Nat.ble q.2.1 80) && (!(Nat.beq kd 102) || (pv1 N (w.1 + 128, w.2) && lf_sc (-1) w 127 (pv1 N)))))) (stq tb N m (cel a) I w (fun m' => kk m' r))))
  rw [W1] at hr36
  obtain ⟨q, q1, hr37⟩ := ob_s hr36
  obtain ⟨g1, hr38⟩ := gd_s hr37
  rw [ax_nth_eq] at q1
  have y1 := bb_and g1
  have y2 := bb_and y1.2
  have y3 := bb_and y2.2
  have bd := x_bnd_ok hN hI y2.1
  have ek := bb_eq y1.1
  have h80 : cel a = tb.2.2.2.2 → x.toInt < 80 := fun z => by
    rcases (Bool.or_eq_true _ _).mp y3.1 with q | q
    · exact absurd z (nbq q)
    · have := bb_le q; omega
  rcases hin2 with ⟨rfl, rfl⟩ | ⟨rfl, rfl⟩ | ⟨rfl, rfl⟩
  · obtain ⟨y, rfl, hy⟩ := hV.i u2.2
    obtain ⟨-, m', e1, e2, e3⟩ := stq_ok hN hm hT hI (W2 _ hy) h80 hr38
    exact wp_iast hdg (n := q.2.1) (fs := q.2.2) (by show tb.1[cel a]? = _; rw [q1, ← ek]) bd.1 bd.2 (GK _ _ e1 _ _ ⟨hN, e2, e3, hL, hS2⟩)
  · obtain ⟨y, rfl, hy⟩ := hV.l u2.2
    obtain ⟨-, m', e1, e2, e3⟩ := stq_ok hN hm hT hI (W2 _ hy) h80 hr38
    exact wp_last hdg (n := q.2.1) (fs := q.2.2) (by show tb.1[cel a]? = _; rw [q1, ← ek]) bd.1 bd.2 (GK _ _ e1 _ _ ⟨hN, e2, e3, hL, hS2⟩)
  · obtain ⟨y, rfl, hy⟩ := hV.i u2.2
    have z : (pv1 N (w.1 + 128, w.2) && lf_sc (-1) w 127 (pv1 N)) = true := by
      rcases (Bool.or_eq_true _ _).mp y3.2 with q | q
      · cases q
      · exact q
    have z2 := bb_and z
    obtain ⟨d, d1, d2⟩ := lf_sc_ok (-1) w 127 (pv1 N)
    have z3 := z2.2
    rw [d1] at z3
    have b2 := pv1_ok hN z3 (d2 ρ _ (W2 _ hy))
    have b1 : 0 ≤ y.toInt + 128 := pv1_ok hN z2.1 (by
      obtain ⟨t, t1, t2⟩ := W2 _ hy
      exact ⟨t, t1, by show y.toInt + 128 = w.1 + 128 + t; omega⟩)
    obtain ⟨-, m', e1, e2, e3⟩ := stq_ok hN hm hT hI (W2 _ hy) h80 hr38
    exact wp_bast hdg (n := q.2.1) (fs := q.2.2) (by show tb.1[cel a]? = _; rw [q1, ← ek]) bd.1 bd.2 (by omega) (by omega) (GK _ _ e1 _ _ ⟨hN, e2, e3, hL, hS2⟩)
theorem so_alen {kk : NS → MM → V2 → R2} {a : V2} {A : Value} {R : List Value} (hL6 : L6 sp ρ0 L) (hL31 : L.1 < 2147483648) (hdg : Dg M pc .arraylength 1 lk) (hN : Nk ρ N) (hm : Mk tb L ρ h0 h m) (hT : Th tb L h) (hA : Vk sp ad ρ a A) (hr : x_alen tb sb N m a kk = some outs)
    (GK : ∀ N' m' v, kk N' m' v = some outs → ∀ ρ' V, Sb ρ ρ' → Nk ρ' N' → Mk tb L ρ' h0 h m' → Vk sp ad ρ' v V → Wp sb dC dI dA sp H0 l ρ0 ad rf tb.1 M (pc + 1) h LV (V :: R) P) : Wp sb dC dI dA sp H0 l ρ0 ad rf tb.1 M pc h LV (A :: R) P := by
  unfold x_alen at hr
  cases ha : Nat.beq a.1 2 with
  | true =>
    rw [ha] at hr
    simp only [cond_true] at hr
    obtain ⟨q, q1, hr39⟩ := ob_s hr
    obtain ⟨g, hr40⟩ := gd_s hr39
    rw [ax_nth_eq] at q1
    have w := bb_and g
    have w2 := bb_and w.2
    have hA2 : A = .ref (ad (cel a)) := hA.r ha
    subst hA2
    exact wp_alen hdg (n := q.2.1) (kd := q.1) (fs := q.2.2) q1 (bb_le w.1) (bb_le w2.1) (GK _ _ _ hr40 ρ _ (Sb.rf ρ) hN hm ⟨_, rfl, by rw [nI_toInt (by have := bb_lt w2.2; omega)]; exact Lv.c ρ _⟩)
  | false =>
    rw [ha] at hr
    simp only [cond_false] at hr
    obtain ⟨g, hr41⟩ := gd_s hr
    have hA2 : A = .retAddr (cel a) := hA.s g
    subst hA2
    cases hz : Nat.beq (cel a) 0 with
    | true =>
      rw [hz] at hr41
      simp only [cond_true] at hr41
      obtain ⟨N', m', v, ρ', e1, e2, e3, e4, e5⟩ := ld_ok hN hm hT (Lv.c ρ 0) (Int.le_refl 0) hr41
      rw [show h 999 (0 : Int).toNat = (L.1 : Int) from hT.2.1] at e5
      rw [bb_eq hz]
      exact wp_slen hdg hL6.1 (GK _ _ _ e1 ρ' _ e2 e3 e4 ⟨_, rfl, by rw [nI_toInt (by omega)]; exact e5⟩)
    | false =>
      rw [hz] at hr41
      simp only [cond_false] at hr41
      obtain ⟨g2, hr42⟩ := gd_s hr41
      have w := bb_and g2
      exact wp_tlen hdg (by
        rcases (Bool.or_eq_true _ _).mp w.1 with z | z
        · exact Or.inl (bb_eq z)
        · exact Or.inr (bb_eq z)) (GK _ _ _ hr42 ρ _ (Sb.rf ρ) hN hm ⟨_, rfl, by rw [nI_toInt (by have := bb_lt w.2; omega)]; exact Lv.c ρ _⟩)
end SO
