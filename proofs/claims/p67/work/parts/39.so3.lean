/-! THE MACHINE BY FORMS is sound, 3: units, calls -/
def rte (M : MR) (pc : Nat) (SV : List Value) : Prop := ∃ ins, decode M.2.1 pc = .ok (ins, 1) ∧ rokc M.2.2.2.1 ins SV
def Oe (M : MR) (k p pc : Nat) (SV : List Value) : Prop := (k = 0 ∧ rte M pc SV) ∨ (k = 1 ∧ pc = p)
theorem Sk.split {sp ad : Nat → Nat} {ρ : List Int} : ∀ {a b : List V2} {S : List Value}, Sk sp ad ρ (a ++ b) S → ∃ A B, S = A ++ B ∧ Sk sp ad ρ a A ∧ Sk sp ad ρ b B
  | [], b, S, h => ⟨[], S, rfl, trivial, h⟩
  | v :: r, b, S, h => by
    obtain ⟨V, R, rfl, h1, h2⟩ := Sk.cons (v := v) (r := r ++ b) h
    obtain ⟨A, B, rfl, h3, h4⟩ := Sk.split h2
    exact ⟨V :: A, B, rfl, ⟨h1, h3⟩, h4⟩
theorem Sk.app {sp ad : Nat → Nat} {ρ : List Int} : ∀ {a b : List V2} {A B : List Value}, Sk sp ad ρ a A → Sk sp ad ρ b B → Sk sp ad ρ (a ++ b) (A ++ B)
  | [], _, [], _, _, h => h
  | _ :: _, _, _ :: _, _, h1, h2 => ⟨h1.1, Sk.app h1.2 h2⟩
theorem Sk.rev {sp ad : Nat → Nat} {ρ : List Int} : ∀ {a : List V2} {S : List Value}, Sk sp ad ρ a S → Sk sp ad ρ a.reverse S.reverse
  | [], [], _ => trivial
  | v :: r, V :: R, h => by
    rw [List.reverse_cons, List.reverse_cons]
    exact (Sk.rev h.2).app ⟨h.1, trivial⟩
theorem Sk.len {sp ad : Nat → Nat} {ρ : List Int} : ∀ {a : List V2} {S : List Value}, Sk sp ad ρ a S → S.length = a.length
  | [], [], _ => rfl
  | _ :: _, _ :: _, h => by rw [List.length_cons, List.length_cons, Sk.len h.2]
theorem Sk.wt {sp ad : Nat → Nat} {ρ : List Int} : ∀ {as : List V2} {VS : List Value}, Sk sp ad ρ as VS → (VS.map fun v => v.category).sum = v_wt as
  | [], [], _ => rfl
  | v :: r, V :: R, h => by
    have e : V.category = (bif Nat.beq v.1 1 then 2 else 1) := by
      rw [h.1.cat]
      cases Nat.beq v.1 1 <;> rfl
    show (V.category :: R.map fun v => v.category).sum = (bif Nat.beq v.1 1 then 2 else 1) + v_wt r
    rw [List.sum_cons, Sk.wt h.2, e]
theorem Lk.locs {sp ad : Nat → Nat} {ρ : List Int} : ∀ {as : List V2} {VS : List Value} (i : Nat), Sk sp ad ρ as VS → Lk sp ad ρ (v_locs i as) (lv_args i VS)
  | [], [], _, _ => trivial
  | v :: r, V :: R, i, h => by
    refine ⟨⟨rfl, h.1⟩, ?_⟩
    have e : (if V.category = 2 then i + 2 else i + 1) = (bif Nat.beq v.1 1 then i + 2 else i + 1) := by
      rw [h.1.cat]
      cases Nat.beq v.1 1 <;> rfl
    show Lk sp ad ρ (v_locs (bif Nat.beq v.1 1 then i + 2 else i + 1) r) (lv_args (if V.category = 2 then i + 2 else i + 1) R)
    rw [e]
    exact Lk.locs _ h.2
theorem v_args_ok : ∀ (n : Nat) {st acc as rest : List V2}, v_args n st acc = some (as, rest) → ∃ u, as = u ++ acc ∧ st = u.reverse ++ rest ∧ u.length = n
  | 0, st, acc, as, rest, h => by
    have h : some (acc, st) = some (as, rest) := h
    cases h
    exact ⟨[], rfl, rfl, rfl⟩
  | n + 1, st, acc, as, rest, h => by
    cases st with
    | nil => cases h
    | cons v r =>
      have h : v_args n r (v :: acc) = some (as, rest) := h
      obtain ⟨u, e1, e2, e3⟩ := v_args_ok n h
      exact ⟨u ++ [v], by rw [e1]; simp, by rw [e2]; simp, by simp [e3]⟩
section SO
variable (tb : TB) (sb : Nat → List Nat) (mq : Nat → Nat → Option MR) (dC : Nat → ClassId) (dI : Nat → Nat → Nat) (dA : Nat → ClassId) (sp : Nat → Nat) (H0 : Heap) (l : Launch) (ρ0 : List Nat) (ad : Nat → Nat) (rf : Nat → Nat → Option Nat) (L : LSc)
/-- where a run ends -/
def Pq (outs : List O2) (ρ : List Int) (h0 : PH) (M : MR) : PO := fun pc' h' LV' SV' => ∃ o ∈ outs, Oe M o.1 o.2.1 pc' SV' ∧ ∃ ρ', Sb ρ ρ' ∧ Ga tb L sp ad ρ' h0 h' o.2.2 LV' SV'
/-- where a unit ends -/
def Pu (U : UN) (ρ : List Int) (h0 : PH) (M : MR) : PO := fun pc' h' LV' SV' => ∃ o ∈ U.2.2.1, Oe M o.1 o.2.1 pc' SV' ∧ ∃ e, Ga tb L sp ad (ρ ++ e) h0 h' (tO U.2.1.1 U.2.2.2.1 o.2.2.2) LV' SV'
def UOK (M : MR) (pc : Nat) (U : UN) : Prop := ∀ (ρ : List Int) (h : PH) (LV : LVs), Ga tb L sp ad ρ h h (tA U.2.1) LV [] → Wp sb dC dI dA sp H0 l ρ0 ad rf tb.1 M pc h LV [] (Pu tb sp ad L U ρ h M)
def ULOK (ul : UL) : Prop := ∀ e ∈ ul, isnil e.2.2.1.2.2.2.2.2.2.2.2 = true ∧ st_wf e.2.2.1.1.length e.2.2.1 = true ∧ ∀ M, mq e.1.1 e.1.2.1 = some M → UOK tb sb dC dI dA sp H0 l ρ0 ad rf L M (if 100000 ≤ e.1.2.2 then e.1.2.2 - 100000 else e.1.2.2) e.2
/-- a run is sound -/
def Snd2 (f : GO2) : Prop := ∀ (M : MR) (ct : CT) (pc : Nat) (cd : List ME) (N : NS) (m : MM) (lv : L2) (st : List V2) (outs : List O2), Mok mth M → mq ct.1.1 ct.1.2 = some M → M.1.name ≠ "<init>" → (∀ x ∈ cd, x ∈ M.2.2.2.2.2.2) → f M ct pc cd N m lv st = some outs → ∀ (ρ : List Int) (h0 h : PH) (LV : LVs) (SV : List Value), Ga tb L sp ad ρ h0 h (N, m, lv, st) LV SV → Wp sb dC dI dA sp H0 l ρ0 ad rf tb.1 M pc h LV SV (Pq tb sp ad L outs ρ h0 M)
end SO
section SO
variable {tb : TB} {sb : Nat → List Nat} {mq : Nat → Nat → Option MR} {dC : Nat → ClassId} {dI : Nat → Nat → Nat} {dA : Nat → ClassId} {sp : Nat → Nat} {H0 : Heap} {l : Launch} {ρ0 : List Nat} {ad : Nat → Nat} {rf : Nat → Nat → Option Nat} {L : LSc}
variable {M : MR} {pc len : Nat} {ins : Instr} {lk : List Nat} {h0 h : PH} {ρ : List Int} {N : NS} {m : MM} {lv : L2} {st : List V2} {LV : LVs} {SV : List Value} {P P' : PO} {outs : List O2}
theorem wp_mono (K : Wp sb dC dI dA sp H0 l ρ0 ad rf tb.1 M pc h LV SV P') (KK : ∀ pc' h' lv' st', P' pc' h' lv' st' → P pc' h' lv' st') : Wp sb dC dI dA sp H0 l ρ0 ad rf tb.1 M pc h LV SV P := wp_bd K (fun pc' h' lv' st' q => wp_rf (KK pc' h' lv' st' q))
theorem Pq_in {o : List O2} {ρ' : List Int} (hs : Sb ρ ρ') (ho : ∀ z ∈ o, z ∈ outs) (K : Wp sb dC dI dA sp H0 l ρ0 ad rf tb.1 M pc h LV SV (Pq tb sp ad L o ρ' h0 M)) : Wp sb dC dI dA sp H0 l ρ0 ad rf tb.1 M pc h LV SV (Pq tb sp ad L outs ρ h0 M) := wp_mono K (fun pc' h' lv' st' q => by
  obtain ⟨z, z1, z2, ρ2, z3, z4⟩ := q
  exact ⟨z, ho z z1, z2, ρ2, hs.tr z3, z4⟩)
theorem Mk.self (hm : Mk tb L ρ h0 h m) : Mk tb L ρ h h (m.1, m.2.1, m.2.2.1, [], m.2.2.2.2) := ⟨hm.1, hm.2.1, hm.2.2.1, fun _ _ _ => rfl, hm.2.2.2.2⟩
theorem um_ok {U : UN} (hnil : isnil U.2.1.2.2.2.2.2.2.2.2 = true) (hwf : st_wf U.2.1.1.length U.2.1 = true) (hG : Ga tb L sp ad ρ h0 h (N, m, lv, st) LV SV) {N' : NS} {m' : MM} {mu : List LF} (hr : um tb U N m lv st = some (N', m', mu)) : SV = [] ∧ ∃ ρ' ρT LV', Sb ρ ρ' ∧ Ga tb L sp ad ρ' h0 h (N', m', lv, st) LV SV ∧ Mu ρ' mu ρT ∧ Sr ρT U.2.1.1 ∧ (∀ q ∈ LV', q ∈ LV) ∧ Ga tb L sp ad ρT h h (tA U.2.1) LV' [] := by
  unfold um at hr
  obtain ⟨N1, m1, mu1, ρ', ρT, e1, e2, e3, e4, e5, -⟩ := bds_ok (tb := tb) (bk := false) U.1 hG (mu := []) (ρT := []) ⟨rfl, fun k z hz => by simp at hz⟩ (fun q => by cases q) hr
  rw [ax_fc_eq] at e1
  obtain ⟨g, e1'⟩ := gd_s e1
  cases e1'
  have w := bb_and g
  have hσ := sb_rg_ok e3.1 w.2 e4
  have hG' : Ga tb L sp ad ρ' h h (N', (m'.1, m'.2.1, m'.2.2.1, [], m'.2.2.2.2), lv, st) LV SV := ⟨e3.1, e3.2.1.self, e3.2.2.1, e3.2.2.2.1, e3.2.2.2.2⟩
  obtain ⟨LV', v1, v2⟩ := sub_ok hG' e4 hσ.1.symm (T := U.2.1) (W := []) hσ (fun _ _ _ => rfl) hwf w.1
  have hS : Sk sp ad ρT U.2.1.2.2.2.2.2.2.2.2 SV := v2.2.2.2.2
  have hSV : SV = [] := by
    cases hT : U.2.1.2.2.2.2.2.2.2.2 with
    | nil => rw [hT] at hS; exact hS.nil
    | cons a b => rw [hT] at hnil; cases hnil
  subst hSV
  exact ⟨rfl, ρ', ρT, LV', e2, e3, e4, hσ, v1, v2⟩
theorem uf_ok {a b p : Nat} {ul : UL} {q : UN × NS × MM × List LF} : ∀ {l : UL}, uf tb a b p N m lv st l = some q → ∃ e ∈ l, e.1 = (a, b, p) ∧ e.2 = q.1 ∧ um tb q.1 N m lv st = some q.2
  | [], h => by cases h
  | e :: t, h => by
    have h : (bif Nat.beq e.1.1 a && (Nat.beq e.1.2.1 b && Nat.beq e.1.2.2 p) then (match um tb e.2 N m lv st with | some q => some (e.2, q) | none => uf tb a b p N m lv st t) else uf tb a b p N m lv st t) = some q := h
    have REC : uf tb a b p N m lv st t = some q → ∃ e' ∈ e :: t, e'.1 = (a, b, p) ∧ e'.2 = q.1 ∧ um tb q.1 N m lv st = some q.2 := fun h => by
      obtain ⟨e', a1, a2⟩ := uf_ok (ul := ul) h
      exact ⟨e', List.mem_cons_of_mem _ a1, a2⟩
    cases hb : (Nat.beq e.1.1 a && (Nat.beq e.1.2.1 b && Nat.beq e.1.2.2 p)) with
    | false => rw [hb] at h; exact REC h
    | true =>
      rw [hb] at h
      simp only [cond_true] at h
      have w := bb_and hb
      have w2 := bb_and w.2
      cases hu : um tb e.2 N m lv st with
      | none => rw [hu] at h; exact REC h
      | some r =>
        rw [hu] at h
        cases h
        refine ⟨e, List.mem_cons_self, ?_, rfl, hu⟩
        obtain ⟨⟨x, y, z⟩, u⟩ := e
        have e1 : x = a := bb_eq w.1
        have e2 : y = b := bb_eq w2.1
        have e3 : z = p := bb_eq w2.2
        subst e1
        subst e2
        subst e3
        rfl
theorem x_os_ok {mu : List LF} {W : List WE} {go : Nat → Nat → NS → MM → L2 → List V2 → R2} : ∀ {l : List ON} {outs : List O2}, x_os tb N m mu W go l = some outs → ∀ o ∈ l, ∃ r, ap tb N m mu W o.2.2.2 (go o.1 o.2.1) = some r ∧ ∀ z ∈ r, z ∈ outs
  | [], _, _, o, ho => by cases ho
  | x :: t, outs, h, o, ho => by
    have h : two2 (ap tb N m mu W x.2.2.2 (go x.1 x.2.1)) (x_os tb N m mu W go t) = some outs := h
    obtain ⟨u, v, e1, e2, rfl⟩ := two2_s h
    rcases List.mem_cons.mp ho with rfl | ho
    · exact ⟨u, e1, fun z hz => List.mem_append_left _ hz⟩
    · obtain ⟨r, e3, e4⟩ := x_os_ok e2 o ho
      exact ⟨r, e3, fun z hz => List.mem_append_right _ (e4 z hz)⟩
/-- a unit's ends are taken here -/
theorem unit_at {U : UN} {N' : NS} {m' : MM} {mu : List LF} {go : Nat → Nat → NS → MM → L2 → List V2 → R2} {ρ' ρT : List Int} (hG : Ga tb L sp ad ρ' h0 h (N', m', lv, st) LV SV) (hM : Mu ρ' mu ρT) (hσ : Sr ρT U.2.1.1) (hx : x_os tb N' m' mu U.2.2.2.1 go U.2.2.1 = some outs) {pc' : Nat} {h' : PH} {LV' : LVs} {SV' : List Value} (hp : Pu tb sp ad L U ρT h M pc' h' LV' SV') :
    ∃ o ∈ U.2.2.1, Oe M o.1 o.2.1 pc' SV' ∧ ∃ r N2 m2 lv2 st2 ρ2, go o.1 o.2.1 N2 m2 lv2 st2 = some r ∧ (∀ z ∈ r, z ∈ outs) ∧ Sb ρ' ρ2 ∧ Ga tb L sp ad ρ2 h0 h' (N2, m2, lv2, st2) LV' SV' := by
  obtain ⟨o, o1, o2, e, o3⟩ := hp
  obtain ⟨r, r1, r2⟩ := x_os_ok hx o o1
  obtain ⟨N2, m2, lv2, st2, k1, k2⟩ := ap_ok hG.1 hG.2.1 hM hσ.1 o3 r1
  exact ⟨o, o1, o2, r, N2, m2, lv2, st2, _, k1, r2, Sb.app _ _, k2⟩
theorem x_pk_ok {tu : TU} {a b : Nat} (hN : Nk ρ N) {as : List V2} {AV : List Value} (hS : Sk sp ad ρ as AV) {key : Nat × LF} (h : x_pk tu a b N as = some key) : ∃ i, Lv ρ key.2 i ∧ 0 ≤ i ∧ AV = pxv sp ad (key.1 / 100000) i.toNat ∧ key.1 / 1000 % 100 = a ∧ key.1 % 1000 = b := by
  unfold x_pk at h
  obtain ⟨kd, -, h1⟩ := ob_s h
  obtain ⟨g0, h2⟩ := gd_s h1
  have w0 := bb_and g0
  have a1 := bb_lt w0.1
  have b1 := bb_lt w0.2
  match as, hS, h2 with
  | [], _, h2 => cases h2
  | [_], _, h2 => cases h2
  | r :: s :: t, hS, h2 =>
    have h2 : gd (Nat.beq r.1 2 && Nat.beq (cel r) 169) (bif Nat.beq kd 1 then gd (isnil t && (Nat.beq s.1 6 && i_nn s.2.1)) (some ((100000 + (a * 1000 + b), (s.2.1, [])) : Nat × LF))
      else lc t (fun n u => gd (Nat.beq kd 2 && (isnil u && (Nat.beq s.1 0 && (cst s.2 && (i_nn s.2.1 && (Nat.beq n.1 0 && (pv1 N n.2 && lf_sc (-1) n.2 4095 (pv1 N)))))))) (lf_nv N.1 n.2 (fun f => i_fc (f.1 + 4096 * s.2.1) (fun z => some ((200000 + (a * 1000 + b), (z, f.2)) : Nat × LF)))))) = some key := h2
    obtain ⟨g1, h3⟩ := gd_s h2
    have w1 := bb_and g1
    obtain ⟨VR, R1, rfl, hR, hS1⟩ := hS.cons
    obtain ⟨VS, R2', rfl, hVS, hS2⟩ := hS1.cons
    have eR : VR = .ref (ad 169) := by
      have z : VR = .ref (ad (cel r)) := hR.r w1.1
      rw [z, bb_eq w1.2]
    subst eR
    cases hk : Nat.beq kd 1 with
    | true =>
      rw [hk] at h3
      simp only [cond_true] at h3
      obtain ⟨g2, h4⟩ := gd_s h3
      have w2 := bb_and g2
      have w3 := bb_and w2.2
      cases h4
      have ht : t = [] := by
        cases t with
        | nil => rfl
        | cons _ _ => exact absurd w2.1 (fun z => by cases z)
      subst ht
      obtain rfl := hS2.nil
      have n0 := i_nn_ok w3.2
      have eS : VS = .retAddr s.2.1.toNat := hVS.s w3.1
      refine ⟨s.2.1, Lv.c ρ _, n0, ?_, ?_, ?_⟩
      · unfold pxv
        rw [if_pos (show (100000 + (a * 1000 + b)) / 100000 = 1 by omega), eS]
      · show (100000 + (a * 1000 + b)) / 1000 % 100 = a
        omega
      · show (100000 + (a * 1000 + b)) % 1000 = b
        omega
    | false =>
      rw [hk] at h3
      simp only [cond_false] at h3
      obtain ⟨n, u, rfl, h4⟩ := lc_s h3
      obtain ⟨g2, h5⟩ := gd_s h4
      have y1 := bb_and g2
      have y2 := bb_and y1.2
      have y3 := bb_and y2.2
      have y4 := bb_and y3.2
      have y5 := bb_and y4.2
      have y6 := bb_and y5.2
      have y7 := bb_and y6.2
      have hu : u = [] := by
        cases u with
        | nil => rfl
        | cons _ _ => exact absurd y2.1 (fun z => by cases z)
      subst hu
      obtain ⟨VN, R3, rfl, hVN, hS3⟩ := hS2.cons
      obtain rfl := hS3.nil
      obtain ⟨xs, rfl, hxs⟩ := hVS.i y3.1
      obtain ⟨xn, rfl, hxn⟩ := hVN.i y6.1
      have es := cst_ok y4.1 hxs
      have s0 := i_nn_ok y5.1
      have n0 := pv1_ok hN y7.1 hxn
      obtain ⟨d, d1, d2⟩ := lf_sc_ok (-1) n.2 4095 (pv1 N)
      have y8 := y7.2
      rw [d1] at y8
      have n1 := pv1_ok hN y8 (d2 ρ _ hxn)
      obtain ⟨f, f1, f2⟩ := lf_nv_ok hN.1 n.2 (fun f => i_fc (f.1 + 4096 * s.2.1) (fun z => some ((200000 + (a * 1000 + b), (z, f.2)) : Nat × LF)))
      rw [f1, i_fc_eq] at h5
      cases h5
      obtain ⟨q, q1, q2⟩ := f2 _ hxn
      refine ⟨xn.toInt + 4096 * s.2.1, ⟨q, q1, ?_⟩, by omega, ?_, ?_, ?_⟩
      · show xn.toInt + 4096 * s.2.1 = f.1 + 4096 * s.2.1 + q
        omega
      · unfold pxv
        rw [if_neg (show ¬ (200000 + (a * 1000 + b)) / 100000 = 1 by omega)]
        have e1 : (((xn.toInt + 4096 * s.2.1).toNat / 4096 : Nat) : Int) = xs.toInt := by omega
        have e2 : (((xn.toInt + 4096 * s.2.1).toNat % 4096 : Nat) : Int) = xn.toInt := by omega
        rw [e1, e2, Int32.ofInt_toInt, Int32.ofInt_toInt]
      · show (200000 + (a * 1000 + b)) / 1000 % 100 = a
        omega
      · show (200000 + (a * 1000 + b)) % 1000 = b
        omega
theorem so_call {ul : UL} {tu : TU} {ih : GO2} {go : NS → MM → List V2 → R2} (hPX : L.2.2 = PXd sb mq dC dI dA sp H0 l ρ0 ad rf tb.1) (hUL : ULOK tb sb mq dC dI dA sp H0 l ρ0 ad rf L ul) (hMT : ∀ a b C, mth a b = some C → (Mok mth C ∧ Mcw C) ∧ mq a b = some C) (hI : Snd2 tb sb mq dC dI dA sp H0 l ρ0 ad rf L ih) (hdg : Dg M pc ins len lk) (hlen : len = ax_len ins) (hlk : lok mth M pc ins lk = true) (ho : ax_op ins = 21) (h900 : ∀ x lk', lk = x :: lk' → (Nat.beq x 900 = false ∧ Nat.beq x 901 = false ∧ Nat.beq x 902 = false) ∧ Nat.beq x 903 = false) (hG : Ga tb L sp ad ρ h0 h (N, m, lv, st) LV SV) (hr : x_call tb tu ul mth ih M lk N m st go = some outs)
    (GK : ∀ N' m' st' o, go N' m' st' = some o → (∀ z ∈ o, z ∈ outs) → ∀ ρ' h' SV', Sb ρ ρ' → Ga tb L sp ad ρ' h0 h' (N', m', lv, st') LV SV' → Wp sb dC dI dA sp H0 l ρ0 ad rf tb.1 M (pc + len) h' LV SV' P) : Wp sb dC dI dA sp H0 l ρ0 ad rf tb.1 M pc h LV SV P := by
  obtain ⟨hN, hm, hT, hL, hS⟩ := id hG
  unfold x_call at hr
  obtain ⟨a, lk1, rfl, hr1⟩ := lc_s hr
  obtain ⟨b, lk2', rfl, hr2⟩ := lc_s hr1
  obtain ⟨kc, lk3, rfl, hr3⟩ := lc_s hr2
  obtain ⟨ci, lk4, rfl, hr4⟩ := lc_s hr3
  obtain ⟨C, hC, hr5⟩ := ob_s hr4
  obtain ⟨⟨as, rest⟩, has, hr6⟩ := ob_s hr5
  obtain ⟨g, hr7⟩ := gd_s hr6
  dsimp only at g hr7
  obtain ⟨u, e1, e2, e3⟩ := v_args_ok _ has
  rw [List.append_nil] at e1
  subst e1
  subst e2
  have w1 := bb_and g
  have w2 := bb_and w1.2
  have w3 := bb_and w2.2
  have w4 := bb_and w3.2
  have w5 := bb_and w4.2
  have w6 := bb_and w5.2
  have w7 := bb_and w6.2
  have hCn : C.1.name ≠ "<init>" := of_decide_eq_true w7.1
  obtain ⟨⟨hMC, hCC⟩, hCq⟩ := hMT a b C hC
  obtain ⟨UA, R, rfl, hUA, hRest⟩ := Sk.split hS
  have hAS := hUA.rev
  rw [List.reverse_reverse] at hAS
  have hLA := Lk.locs 0 hAS
  have hkc : kc = 0 ∨ kc = 2 := by
    rcases (Bool.or_eq_true _ _).mp w7.2 with z | z
    · exact Or.inr (bb_eq z)
    · exact Or.inl (bb_eq (bb_and z).1)
  have hrcv : kc = 0 → rcvt ad tb.1 ci UA.reverse := fun hk => by
    have z : v_rcv tb ci as = true := by
      rcases (Bool.or_eq_true _ _).mp w7.2 with z | z
      · rw [hk] at z; cases z
      · exact (bb_and z).2
    cases as with
    | nil => cases z
    | cons a0 ar =>
      obtain ⟨VA, VR, ev, hVA, -⟩ := Sk.cons hAS
      rw [ev]
      have z : (bif Nat.beq a0.1 2 then (match ax_nth tb.1 (cel a0) with | some q => Nat.beq q.1 ci && Nat.blt ci 100 | none => false) else Nat.beq a0.1 6 && (Nat.beq ci 200 && (Nat.beq (cel a0) 1 || Nat.beq (cel a0) 3))) = true := z
      cases ht : Nat.beq a0.1 2 with
      | true =>
        rw [ht] at z
        simp only [cond_true] at z
        rw [ax_nth_eq] at z
        have hA2 : VA = .ref (ad (cel a0)) := hVA.r ht
        cases hq : tb.1[cel a0]? with
        | none => rw [hq] at z; cases z
        | some q =>
          rw [hq] at z
          have y := bb_and z
          exact Or.inl ⟨bb_lt y.2, cel a0, q.2.1, q.2.2, by rw [hA2]; rfl, by rw [hq, ← bb_eq y.1]⟩
      | false =>
        rw [ht] at z
        have y := bb_and z
        have y1 := bb_and y.2
        have hA2 : VA = .retAddr (cel a0) := hVA.s y.1
        exact Or.inr ⟨bb_eq y1.1, cel a0, by
          rcases (Bool.or_eq_true _ _).mp y1.2 with q | q
          · exact Or.inl (bb_eq q)
          · exact Or.inr (bb_eq q), by rw [hA2]; rfl⟩
  have hst : UA = UA.reverse.reverse := by rw [List.reverse_reverse]
  have CALL : ∀ {P1 : PO}, Wp sb dC dI dA sp H0 l ρ0 ad rf tb.1 C 0 h (lv_args 0 UA.reverse) [] P1 → Rt C P1 → (∀ pc' h' lv' st', P1 pc' h' lv' st' → Wp sb dC dI dA sp H0 l ρ0 ad rf tb.1 M (pc + len) h' LV (st' ++ R) P) → Wp sb dC dI dA sp H0 l ρ0 ad rf tb.1 M pc h LV (UA ++ R) P := fun hW hRt K => by
    rw [hst]
    exact wp_call hC hCC hdg hlen hlk ho (h900 a _ rfl) hkc (by rw [List.length_reverse, hUA.len, List.length_reverse]; exact e3) (bb_lt w1.1) (bb_le w2.1) (by rw [hRest.wt]; exact bb_le w3.1) (by rw [hAS.wt]; exact bb_le w6.1) ⟨bb_eq w4.1, bb_eq w5.1⟩ hrcv hW hRt K
  have hG1 : Ga tb L sp ad ρ h0 h (N, m, v_locs 0 as, []) (lv_args 0 UA.reverse) [] := ⟨hN, hm, hT, hLA, trivial⟩
  cases hk : x_pk tu a b N as with
  | none =>
    rw [hk] at hr7
    dsimp only at hr7
    cases hu : uf tb a b 0 N m (v_locs 0 as) [] ul with
    | some q =>
      rw [hu] at hr7
      dsimp only at hr7
      obtain ⟨e, m1, m2, m3, m4⟩ := uf_ok (ul := ul) hu
      obtain ⟨n1, n2, n3⟩ := hUL e m1
      have n4 := n3 C (by rw [m2]; exact hCq)
      rw [m3] at n1 n2 n4
      rw [m2] at n4
      obtain ⟨-, ρ', ρT, LV', k1, k2, k3, k4, k5, k6⟩ := um_ok n1 n2 hG1 m4
      have hUW : Wp sb dC dI dA sp H0 l ρ0 ad rf tb.1 C 0 h (lv_args 0 UA.reverse) [] (Pu tb sp ad L q.1 ρT h C) := wp_less k5 (n4 ρT h LV' k6)
      refine CALL hUW (fun pc' h' lv' st' hp => ?_) (fun pc' h' lv' st' hp => ?_)
      · obtain ⟨o, o1, o2, r, N2, m2', lv2, st2, ρ2, p1, p2, p3, p4⟩ := unit_at k2 k3 k4 hr7 hp
        obtain ⟨g0, -⟩ := gd_s p1
        rcases o2 with ⟨-, z⟩ | ⟨z, -⟩
        · exact z
        · rw [z] at g0; cases g0
      · obtain ⟨o, o1, o2, r, N2, m2', lv2, st2, ρ2, p1, p2, p3, p4⟩ := unit_at k2 k3 k4 hr7 hp
        obtain ⟨g0, p1'⟩ := gd_s p1
        exact GK _ _ _ r p1' p2 ρ2 h' _ (k1.tr p3) ⟨p4.1, p4.2.1, p4.2.2.1, hL.mono (k1.tr p3), p4.2.2.2.2.app (hRest.mono (k1.tr p3))⟩
    | none =>
      rw [hu] at hr7
      dsimp only at hr7
      obtain ⟨outs0, i1, hr8⟩ := ob_s hr7
      have hIW := hI C (ct0 tu a b) 0 C.2.2.2.2.2.2 N m (v_locs 0 as) [] outs0 hMC hCq hCn (fun _ hx => hx) i1 ρ h0 h _ _ hG1
      have AL : ∀ o ∈ outs0, ∃ r, (gd (Nat.beq o.1 0) (go o.2.2.1 o.2.2.2.1 (o.2.2.2.2.2 ++ rest)) : R2) = some r ∧ ∀ z ∈ r, z ∈ outs := fun o hoo => al2_s hr8 _ (List.mem_map.mpr ⟨o, hoo, rfl⟩)
      refine CALL hIW (fun pc' h' lv' st' hp => ?_) (fun pc' h' lv' st' hp => ?_)
      · obtain ⟨o, o1, o2, -⟩ := hp
        obtain ⟨r, r1, -⟩ := AL o o1
        obtain ⟨g0, -⟩ := gd_s r1
        rcases o2 with ⟨-, z⟩ | ⟨z, -⟩
        · exact z
        · rw [z] at g0; cases g0
      · obtain ⟨o, o1, o2, ρ2, o3, o4⟩ := hp
        obtain ⟨r, r1, r2⟩ := AL o o1
        obtain ⟨g0, r1'⟩ := gd_s r1
        exact GK _ _ _ r r1' r2 ρ2 h' _ o3 ⟨o4.1, o4.2.1, o4.2.2.1, hL.mono o3, o4.2.2.2.2.app (hRest.mono o3)⟩
  | some key =>
    rw [hk] at hr7
    dsimp only at hr7
    obtain ⟨i, k1, k2, k3, k4, k5⟩ := x_pk_ok hN hAS hk
    cases hc : ca_fd key.1 key.2 m.2.2.2.2.2 with
    | some v =>
      rw [hc] at hr7
      dsimp only at hr7
      obtain ⟨i', x, y1, y2, y3, y4⟩ := hm.2.2.2.2.2 _ (ca_fd_ok hc)
      have ei : i = i' := k1.fn y1
      subst ei
      rw [hPX] at y4
      obtain ⟨C', c1, pc', lv', y, c2, c3, c4⟩ := y4
      rw [k4, k5, hCq] at c1
      cases c1
      rw [← k3] at c2
      obtain ⟨v', v1, v2⟩ := lf_nv_ok hN.1 v (fun v' => go N m ((0, v') :: rest))
      rw [v1] at hr7
      refine CALL (P1 := one pc' h lv' [.int y]) ⟨pc', h, lv', [.int y], ⟨rfl, rfl, rfl, rfl⟩, c2⟩ (fun p1 h1 l1 s1 q => ?_) (fun p1 h1 l1 s1 q => ?_)
      · obtain ⟨rfl, rfl, rfl, rfl⟩ := q
        exact c3
      · obtain ⟨rfl, rfl, rfl, rfl⟩ := q
        exact GK _ _ _ _ hr7 (fun _ z => z) ρ _ _ (Sb.rf ρ) ⟨hN, hm, hT, hL, ⟨y, rfl, by rw [c4]; exact v2 x y3⟩, hRest⟩
    | none =>
      rw [hc] at hr7
      dsimp only at hr7
      cases hu : uf tb a b 0 N m (v_locs 0 as) [] ul with
      | none => rw [hu] at hr7; cases hr7
      | some q =>
        rw [hu] at hr7
        dsimp only at hr7
        obtain ⟨gW, hr8⟩ := gd_s hr7
        obtain ⟨e, m1, m2, m3, m4⟩ := uf_ok (ul := ul) hu
        obtain ⟨n1, n2, n3⟩ := hUL e m1
        have n4 := n3 C (by rw [m2]; exact hCq)
        rw [m3] at n1 n2 n4
        rw [m2] at n4
        obtain ⟨-, ρ', ρT, LV', l1, l2, l3, l4, l5, l6⟩ := um_ok n1 n2 hG1 m4
        obtain ⟨pc1, h1, lv1, st1, p1, W1⟩ : Wp sb dC dI dA sp H0 l ρ0 ad rf tb.1 C 0 h (lv_args 0 UA.reverse) [] (Pu tb sp ad L q.1 ρT h C) := wp_less l5 (n4 ρT h LV' l6)
        obtain ⟨o, o1, o2, r, N2, m2', lv2, st2, ρ2, p2, p3, p4, p5⟩ := unit_at l2 l3 l4 hr8 p1
        obtain ⟨g0, p6⟩ := gd_s p2
        obtain ⟨v, rr, rfl, p7⟩ := lc_s p6
        obtain ⟨g1, p8⟩ := gd_s p7
        have w8 := bb_and g1
        have hrr : rr = [] := by
          cases rr with
          | nil => rfl
          | cons _ _ => exact absurd w8.1 (fun z => by cases z)
        subst hrr
        obtain ⟨V, R1, rfl, hV, hR1⟩ := Sk.cons p5.2.2.2.2
        obtain rfl := hR1.nil
        obtain ⟨y, rfl, hy⟩ := hV.i w8.2
        have hrte : rte C pc1 [.int y] := by
          rcases o2 with ⟨-, z⟩ | ⟨z, -⟩
          · exact z
          · rw [z] at g0; cases g0
        have hh : h1 = h := by
          obtain ⟨o', -, -, e', ho'⟩ := p1
          have gW' : q.1.2.2.2.1 = [] := by
            cases hw : q.1.2.2.2.1 with
            | nil => rfl
            | cons _ _ => rw [hw] at gW; cases gW
          exact funext (fun c => funext (fun k => ho'.2.1.2.2.2.1 c k (fun w hw => by
            have hw : w ∈ q.1.2.2.2.1 := hw
            rw [gW'] at hw
            cases hw)))
        subst hh
        refine CALL (P1 := one pc1 h1 lv1 [.int y]) ⟨pc1, h1, lv1, [.int y], ⟨rfl, rfl, rfl, rfl⟩, W1⟩ (fun p1' h1' l1' s1' q => ?_) (fun p1' h1' l1' s1' q => ?_)
        · obtain ⟨rfl, rfl, rfl, rfl⟩ := q
          exact hrte
        · obtain ⟨rfl, rfl, rfl, rfl⟩ := q
          have hs := l1.tr p4
          have pm := p5.2.1
          refine GK _ _ _ r p8 p3 ρ2 _ _ hs ⟨p5.1, ⟨pm.1, pm.2.1, pm.2.2.1, pm.2.2.2.1, pm.2.2.2.2.1, fun e he => ?_⟩, p5.2.2.1, hL.mono hs, ⟨hV, hRest.mono hs⟩⟩
          rcases List.mem_cons.mp he with rfl | he
          · refine ⟨i, y.toInt, k1.mono hs, k2, hy, ?_⟩
            show L.2.2 _ key.1 _ _
            rw [hPX]
            exact ⟨C, by rw [k4, k5]; exact hCq, _, _, y, by rw [← k3]; exact W1, hrte, rfl⟩
          · exact pm.2.2.2.2.2 e he
theorem so_inv {ul : UL} {tu : TU} {ih : GO2} {go : NS → MM → List V2 → R2} (hPX : L.2.2 = PXd sb mq dC dI dA sp H0 l ρ0 ad rf tb.1) (hUL : ULOK tb sb mq dC dI dA sp H0 l ρ0 ad rf L ul) (hMT : ∀ a b C, mth a b = some C → (Mok mth C ∧ Mcw C) ∧ mq a b = some C) (hI : Snd2 tb sb mq dC dI dA sp H0 l ρ0 ad rf L ih) (hdg : Dg M pc ins len lk) (hlen : len = ax_len ins) (hlk : lok mth M pc ins lk = true) (ho : ax_op ins = 21) (hG : Ga tb L sp ad ρ h0 h (N, m, lv, st) LV SV) (hr : x_inv tb tu ul mth ih M lk N m st go = some outs)
    (GK : ∀ N' m' st' o, go N' m' st' = some o → (∀ z ∈ o, z ∈ outs) → ∀ ρ' h' SV', Sb ρ ρ' → Ga tb L sp ad ρ' h0 h' (N', m', lv, st') LV SV' → Wp sb dC dI dA sp H0 l ρ0 ad rf tb.1 M (pc + len) h' LV SV' P) : Wp sb dC dI dA sp H0 l ρ0 ad rf tb.1 M pc h LV SV P := by
  obtain ⟨hN, hm, hT, hL, hS⟩ := id hG
  unfold x_inv at hr
  obtain ⟨x, lk1, e0, hr9⟩ := lc_s hr
  cases h0' : Nat.beq x 900 with
  | true => rw [h0'] at hr9; cases hr9
  | false =>
    rw [h0'] at hr9
    simp only [cond_false] at hr9
    cases h1 : Nat.beq x 901 with
    | true =>
      rw [h1] at hr9
      simp only [cond_true] at hr9
      have ex := bb_eq h1
      subst ex
      obtain ⟨n, st1, rfl, hr10⟩ := lc_s hr9
      obtain ⟨dp, st2, rfl, hr11⟩ := lc_s hr10
      obtain ⟨d, st3, rfl, hr12⟩ := lc_s hr11
      obtain ⟨sq, st4, rfl, hr13⟩ := lc_s hr12
      obtain ⟨s, r, rfl, hr14⟩ := lc_s hr13
      obtain ⟨g, hr15⟩ := gd_s hr14
      obtain ⟨q0, q1, hr16⟩ := ob_s hr15
      obtain ⟨q2, q3, hr17⟩ := ob_s hr16
      obtain ⟨g2, hr18⟩ := gd_s hr17
      rw [ax_nth_eq] at q1 q3
      have w1 := bb_and g
      have w2 := bb_and w1.2
      have w3 := bb_and w2.2
      have w4 := bb_and w3.2
      have w5 := bb_and w4.2
      have w6 := bb_and w5.2
      obtain ⟨NV, R1, rfl, hn, hS1⟩ := hS.cons
      obtain ⟨DP, R2', rfl, hdp, hS2⟩ := hS1.cons
      obtain ⟨D, R3, rfl, hd, hS3⟩ := hS2.cons
      obtain ⟨SQ, R4, rfl, hsq, hS4⟩ := hS3.cons
      obtain ⟨S, R, rfl, hs, hS5⟩ := hS4.cons
      obtain ⟨xn, rfl, hxn⟩ := hn.i w1.1
      obtain ⟨xd, rfl, hxd⟩ := hdp.i w2.1
      obtain ⟨xs, rfl, hxs⟩ := hsq.i w4.1
      have hD : D = .ref (ad (cel d)) := hd.r w3.1
      have hSs : S = .ref (ad (cel s)) := hs.r w5.1
      subst hD
      subst hSs
      obtain ⟨s0, s1, m', c1, c2, c3, c4, c5, c6, c7, c8, c9, c10⟩ := cpq_ok hN hm hT hxs hxd hxn hr18
      rw [q1] at c1
      rw [q3] at c2
      cases c1
      cases c2
      have y := bb_and g2
      rw [e0] at hlk hdg
      exact wp_copy (cs := cel s) (cd := cel d) (kd := q0.1) (n0 := q0.2.1) (n1 := q2.2.1) (f0 := q0.2.2) (f1 := q2.2.2) hdg hlen hlk ho (bb_le w6.1) (by rw [hS5.wt]; exact bb_le w6.2) q1 (by rw [q3, bb_eq y.1]) (by
        rcases (Bool.or_eq_true _ _).mp y.2 with z | z
        · exact Or.inl (bb_eq z)
        · exact Or.inr (bb_eq z)) c3 c4 c5 c6 c7 (GK _ _ _ _ c8 (fun _ hz => hz) ρ _ _ (Sb.rf ρ) ⟨hN, c9, c10, hL, hS5⟩)
    | false =>
      rw [h1] at hr9
      simp only [cond_false] at hr9
      cases h2 : Nat.beq x 902 with
      | true =>
        rw [h2] at hr9
        simp only [cond_true] at hr9
        have ex := bb_eq h2
        subst ex
        obtain ⟨b, st1, rfl, hr19⟩ := lc_s hr9
        obtain ⟨a, r, rfl, hr20⟩ := lc_s hr19
        obtain ⟨g, hr21⟩ := gd_s hr20
        have w1 := bb_and g
        have w2 := bb_and w1.2
        have w3 := bb_and w2.2
        obtain ⟨B, R1, rfl, hB, hS1⟩ := hS.cons
        obtain ⟨A, R, rfl, hA, hS2⟩ := hS1.cons
        obtain ⟨xa, rfl, hxa⟩ := hA.i w1.1
        obtain ⟨xb, rfl, hxb⟩ := hB.i w2.1
        obtain ⟨N', f, ρ', k1, k2, k3, k4⟩ := n_min_ok hN hxa hxb hr21
        rw [e0] at hlk hdg
        exact wp_min hdg hlen hlk ho (bb_le w3.1) (by rw [hS2.wt]; exact bb_le w3.2) (GK _ _ _ _ k1 (fun _ hz => hz) ρ' _ _ k2 ⟨k3, hm.mono k2, hT, hL.mono k2, ⟨_, rfl, k4⟩, hS2.mono k2⟩)
      | false =>
        rw [h2] at hr9
        simp only [cond_false] at hr9
        cases h3 : Nat.beq x 903 with
        | true =>
          rw [h3] at hr9
          simp only [cond_true] at hr9
          have ex := bb_eq h3
          subst ex
          obtain ⟨x', l1, e1, hr30⟩ := lc_s hr9
          obtain ⟨y', l2, e2, hr31⟩ := lc_s hr30
          rw [e0] at e1
          cases e1
          subst e2
          cases hmt : mth 903 y' with
          | some _ => rw [hmt] at hr31; cases hr31
          | none =>
            rw [hmt] at hr31
            dsimp only at hr31
            obtain ⟨b, st1, rfl, hr32⟩ := lc_s hr31
            obtain ⟨a, r, rfl, hr33⟩ := lc_s hr32
            obtain ⟨g, hr34⟩ := gd_s hr33
            have w1 := bb_and g
            have w2 := bb_and w1.2
            have w3 := bb_and w2.2
            obtain ⟨B, R1, rfl, hB, hS1⟩ := hS.cons
            obtain ⟨A, R, rfl, hA, hS2⟩ := hS1.cons
            obtain ⟨xa, rfl, hxa⟩ := hA.i w1.1
            obtain ⟨xb, rfl, hxb⟩ := hB.i w2.1
            obtain ⟨N', f, ρ', k1, k2, k3, k4⟩ := n_max_ok hN hxa hxb hr34
            rw [e0] at hlk hdg
            exact wp_max hmt hdg hlen hlk ho (bb_le w3.1) (by rw [hS2.wt]; exact bb_le w3.2) (GK _ _ _ _ k1 (fun _ hz => hz) ρ' _ _ k2 ⟨k3, hm.mono k2, hT, hL.mono k2, ⟨_, rfl, k4⟩, hS2.mono k2⟩)
        | false =>
          rw [h3] at hr9
          simp only [cond_false] at hr9
          exact so_call hPX hUL hMT hI hdg hlen hlk ho (fun y lk' e => by
            rw [e0] at e
            cases e
            exact ⟨⟨h0', h1, h2⟩, h3⟩) hG hr9 GK
end SO
