/-! THE ABSTRACT MACHINE, 13: lengths, new cells, statics, switches -/
section OPS
variable {sb : Nat → List Nat} {mt : Nat → Nat → Option MR} {dC : Nat → ClassId} {dI : Nat → Nat → Nat} {dA : Nat → ClassId} {sp : Nat → Nat} {H0 : Heap} {l : Launch}
variable {ih : GO} {p : Program} {e : Env} {R : Room} {s : State} {m : MethodId} {args : Array Value} {below : List Frame} {meth : Method} {c : Code} {Q : State → Prop} {ρ0 ad0 : List Nat} {M : MR} {cut pc len : Nat} {ins : Instr} {lk : List Nat} {cd tl : List ME} {σ : AS} {h : AH} {nc ns : Nat} {lv : AL} {st : List AV} {outs : List AO}

theorem sn_alen (hI : Snd sb mt dC dI dA sp H0 l ih) (hM : Mok mt M) (htl : ∀ x ∈ tl, x ∈ M.2.2.2.2.2.2) (hX : CX sb dC dI dA sp H0 ρ0 M p R s m args meth c) (hR : ∀ o ∈ outs, RO dC dI dA sp H0 l p e R s m args below meth c Q ρ0 ad0 M o) (hdg : decode M.2.1 pc = .ok (ins, len)) (hlen : len = ax_len ins) (hlk : lok mt M pc ins lk = true) (ho : ax_op ins = 53)
    (hr : lc st (fun a r => ax_alen sb h a (fun v => ih M cut (pc + len) tl σ h nc ns lv (v :: r))) = some outs) : GG dC dI dA sp H0 l p e R s m args below meth c Q ρ0 ad0 M.2.2.1 pc σ h nc ns lv st := by
  obtain ⟨a, r, rfl, hr1⟩ := lc_s hr
  obtain ⟨hx, hb, hml, hown, hts, hK, hlocks, hrt, hin, hRoom, hO⟩ := id hX
  intro ρ ad ws H locs ls LV ST q1 q2 q3 q4 q5 q6 q7 q8 q9 q10
  obtain ⟨A, ST2, rfl, hA, q12⟩ := q10.cons
  have hins : ins = .arraylength := by cases ins <;> first | (exact absurd ho (Nat.ne_of_beq_eq_false rfl)) | rfl
  subst hins
  have hlen : len = 1 := hlen
  subst hlen
  unfold ax_alen at hr1
  cases ha : Nat.beq a.1 2 with
  | true =>
    rw [ha] at hr1
    obtain ⟨cl, ec, hr2⟩ := ob_s (o := ax_hn h a.2) hr1
    obtain ⟨g1, hr3⟩ := gd_s hr2
    have w := bb_and g1
    have w1 := bb_le w.1
    have w2 := bb_le w.2
    rw [tg ha] at hA
    obtain ⟨a0, E, hw, rfl, hE⟩ := q4.get ec hA
    have KK := (hI p e _ s m args below meth c Q ρ0 ad0 M cut _ tl _ _ _ _ _ _ outs hM htl hX hr3 hR) ρ ad ws H locs ls LV (.int (nI cl.2.1) :: ST2) q1 q2 q3 q4 q5 q6 q7 q8 q9 ⟨rfl, q12⟩
    rcases (show cl.1 = 100 ∨ cl.1 = 101 ∨ cl.1 = 102 ∨ cl.1 = 103 ∨ cl.1 = 104 ∨ cl.1 = 105 by omega) with e | e | e | e | e | e
    · obtain ⟨f, rfl, -⟩ := hE.ints (Or.inl e); rw [e] at hw; exact va_alen hx hb hK q5 a.2 0 hw rfl rfl hdg KK
    · obtain ⟨f, rfl, -⟩ := hE.longs e; rw [e] at hw; exact va_alen hx hb hK q5 a.2 1 hw rfl rfl hdg KK
    · obtain ⟨f, rfl, -⟩ := hE.ints (Or.inr e); rw [e] at hw; exact va_alen hx hb hK q5 a.2 2 hw rfl rfl hdg KK
    · obtain ⟨f, rfl, -⟩ := hE.refs (by omega); rw [e] at hw; exact va_alen hx hb hK q5 a.2 3 hw rfl rfl hdg KK
    · obtain ⟨f, rfl, -⟩ := hE.refs (by omega); rw [e] at hw; exact va_alen hx hb hK q5 a.2 4 hw rfl rfl hdg KK
    · obtain ⟨f, rfl, -⟩ := hE.refs (by omega); rw [e] at hw; exact va_alen hx hb hK q5 a.2 5 hw rfl rfl hdg KK
  | false =>
    rw [ha] at hr1
    obtain ⟨g0, hr2⟩ := gd_s (b := Nat.beq a.1 6) hr1
    rw [tg g0] at hA
    have hA : A = .ref (sp a.2) := hA
    subst hA
    cases h0 : Nat.beq a.2 0 with
    | true =>
      rw [h0] at hr2
      rw [bb_eq h0]
      obtain ⟨⟨L, xs, x1, x2, x3, x4, x5, x6⟩, -⟩ := hO
      refine va_slen hx hb x1 x2 (Nat.not_le.mpr x2) q7 hdg ((hI p e _ s m args below meth c Q ρ0 ad0 M cut _ tl _ _ _ _ _ _ outs hM htl hX hr2 hR) ρ ad ws H locs ls LV (.int (Int32.ofNat L) :: ST2) q1 q2 q3 q4 q5 q6 q7 q8 q9 ⟨⟨_, q1 _ _ x4, ?_⟩, q12⟩)
      refine congrArg Value.int ?_
      show nI L = _
      apply Int32.toInt_inj.mp
      rw [nI_toInt (by omega), nI_z (by omega) (by omega)]
      omega
    | false =>
      rw [h0] at hr2
      obtain ⟨g1, hr3⟩ := gd_s (b := Nat.beq a.2 2 || Nat.beq a.2 4) hr2
      have hkp : ∀ a : Nat, a < H0.size → ¬ (aA H0) a → H[a]? = H0[a]? := fun a h1 h2 => q7.2.1 a h1 h2
      have hso : ∃ y, a.2 = y + 1 ∧ SO sp sb H0 y s := by
        rcases (Bool.or_eq_true _ _).mp g1 with z | z
        · exact ⟨1, bb_eq z, hO.2.1⟩
        · exact ⟨3, bb_eq z, hO.2.2.1⟩
      obtain ⟨y, ey, hso⟩ := hso
      have hT := hso.2.2.2.kept hkp
      rw [← ey] at hT
      obtain ⟨cell, z1, z2, z3, z4, z5, z6, z7⟩ := hT
      exact W.alen (n := nI (sb a.2).length) hx hb z1 z2 z5 rfl rfl hdg ((hI p e _ s m args below meth c Q ρ0 ad0 M cut _ tl _ _ _ _ _ _ outs hM htl hX hr3 hR) ρ ad ws H locs ls LV _ q1 q2 q3 q4 q5 q6 q7 q8 q9 ⟨rfl, q12⟩)

theorem ax_el1 {l : List AV} {j : Nat} {v : AV} (h : ax_el [l] j = some v) : l[j]? = some v ∨ False := by
  unfold ax_el at h
  rw [ax_nth_eq] at h
  by_cases hj : j < 64
  · rw [show j / 64 = 0 by omega] at h
    have h : ax_nth l (j % 64) = some v := h
    rw [ax_nth_eq, show j % 64 = j by omega] at h
    exact Or.inl h
  · have : ([l] : List (List AV))[j / 64]? = none := by rw [List.getElem?_eq_none]; simp; omega
    rw [this] at h
    cases h
def ax_dv (t : Nat) : Value := match t with
  | 0 => .int 0
  | 1 => .long 0
  | _ => .null
theorem ax_dv_ok {sp : Nat → Nat} {ρ ad : List Nat} {t : Nat} (h : t = 0 ∨ t = 1 ∨ t = 3) : Rp sp ρ ad (t, 0) (ax_dv t) := by
  rcases h with rfl | rfl | rfl
  · show Value.int 0 = Value.int (nI 0); rw [nI_0]
  · show Value.long 0 = Value.long (lN 0); rfl
  · rfl

theorem sn_new (hI : Snd sb mt dC dI dA sp H0 l ih) (hM : Mok mt M) (htl : ∀ x ∈ tl, x ∈ M.2.2.2.2.2.2) (hX : CX sb dC dI dA sp H0 ρ0 M p R s m args meth c) (hR : ∀ o ∈ outs, RO dC dI dA sp H0 l p e R s m args below meth c Q ρ0 ad0 M o) (hdg : decode M.2.1 pc = .ok (ins, len)) (hlen : len = ax_len ins) (hlk : lok mt M pc ins lk = true) (ho : ax_op ins = 54)
    (hr : ax_new M.2.2.2.2.1 lk h nc ns (fun h' nc' ns' => ih M cut (pc + len) tl σ h' nc' ns' lv ((2, h.1) :: st)) = some outs) : GG dC dI dA sp H0 l p e R s m args below meth c Q ρ0 ad0 M.2.2.1 pc σ h nc ns lv st := by
  unfold ax_new at hr
  obtain ⟨ci, lk1, rfl, hr1⟩ := lc_s hr
  obtain ⟨n, lk2, rfl, hr2⟩ := lc_s hr1
  obtain ⟨g1, hr3⟩ := gd_s hr2
  obtain ⟨h', hr4, hh1, hh2⟩ := ax_ha_ok hr3
  rw [ax_fc_eq, ax_fc_eq] at hr4
  obtain ⟨hx, hb, hml, hown, hts, hK, hlocks, hrt, hin, hRoom, hO⟩ := id hX
  intro ρ ad ws H locs ls LV ST q1 q2 q3 q4 q5 q6 q7 q8 q9 q10
  have w := bb_and g1
  have w1 := bb_le w.1
  have w2 := bb_le w.2
  cases ins <;> first | (exact absurd ho (Nat.ne_of_beq_eq_false rfl)) | skip
  case new idx =>
    subst hlen
    match lk2, hlk with
    | c1 :: j1 :: c2 :: j2 :: c3 :: j3 :: ts, hlk =>
      have hl : (match vwCl[ci]? with
        | some q => Nat.beq n q.2.2 && (wdq c1 j1 (.classLink M.1.cls idx q.1) && (wdq c2 j2 (.instantiable q.1 q.2.2) && (wdq c3 j3 (.initialized q.1) && (Nat.blt ci 100 && (Nat.beq ts.length n && (List.range n).all (fun k => match ax_ty (q.2.1 k).2.2.1 with
          | 0 => decide (ts[k]? = some 0)
          | 1 => decide (ts[k]? = some 0)
          | 2 => decide (ts[k]? = some 1)
          | 3 => decide (ts[k]? = some 3)
          | _ => false))))))
        | none => false) = true := hlk
      cases hq : vwCl[ci]? with
      | none => rw [hq] at hl; cases hl
      | some q =>
        rw [hq] at hl
        have u1 := bb_and (a := Nat.beq n q.2.2) hl
        have u2 := bb_and u1.2
        have u3 := bb_and u2.2
        have u4 := bb_and u3.2
        have u5 := bb_and u4.2
        have u6 := bb_and u5.2
        have hn : n = q.2.2 := bb_eq u1.1
        have hci := bb_lt u5.1
        have htl2 := bb_eq u6.1
        obtain ⟨hvw, ⟨ty0, hty⟩, hnm, -⟩ := vw_ok ci q hq
        have key : ∀ k, k < n → ∃ t, ts[k]? = some t ∧ (t = 0 ∨ t = 1 ∨ t = 3) ∧ defaultValue (ty0 k) = ax_dv t := by
          intro k hk
          have z := List.all_eq_true.mp u6.2 k (List.mem_range.mpr hk)
          have z2 := hty k (by omega)
          unfold ax_ty at z
          rw [z2] at z
          cases hz : ty0 k <;> rw [hz] at z <;> first | (cases z; done) | skip
          · exact ⟨0, of_decide_eq_true z, Or.inl rfl, rfl⟩
          · exact ⟨1, of_decide_eq_true z, Or.inr (Or.inl rfl), rfl⟩
          · exact ⟨0, of_decide_eq_true z, Or.inl rfl, rfl⟩
          · exact ⟨3, of_decide_eq_true z, Or.inr (Or.inr rfl), rfl⟩
          · exact ⟨3, of_decide_eq_true z, Or.inr (Or.inr rfl), rfl⟩
        have hfs : ∀ j, j < q.2.2 → defaultValue (ty0 j) = vp_V (ts.map ax_dv) j := by
          intro j hj
          obtain ⟨t, t1, t2, t3⟩ := key j (by omega)
          unfold vp_V
          rw [List.getD_eq_getElem?_getD, List.getElem?_map, t1, t3]
          rfl
        subst hRoom
        refine va_new (D := (dC, dI)) (ci := ci) (fs := ts.map ax_dv) (C := q.1) (T := q.2.1) (N := q.2.2) hx hb hts hvw ty0 hty hown (hts _ (wdq_in u2.1)) (hts _ (wdq_in u3.1)) (hts _ (wdq_in u4.1)) hK q5 q6 q7 (fun _ z => z) hq hfs w1 (by rw [← hn]; exact w2) hdg (fun qa H1 z1 z2 z3 => ?_)
        have hE' : Er sp dA ρ (ad ++ [qa]) (ci, n, [((c1 :: j1 :: c2 :: j2 :: c3 :: j3 :: ts).drop 6).map (fun t => (t, 0))]) (.inr (ci, ts.map ax_dv)) := Or.inl ⟨hci, _, rfl, by show (ts.map ax_dv).length = n; rw [List.length_map]; exact htl2, fun j v hv => by
          rcases ax_el1 hv with hv | hv
          · have hv : (ts.map (fun t => ((t, 0) : AV)))[j]? = some v := hv
            rw [List.getElem?_map] at hv
            cases hj : ts[j]? with
            | none => rw [hj] at hv; cases hv
            | some t =>
              rw [hj] at hv
              cases hv
              obtain ⟨t', t1, t2, t3⟩ := key j (by rw [← htl2]; exact (List.getElem?_eq_some_iff.mp hj).1)
              cases hj.symm.trans t1
              exact ⟨ax_dv t, by rw [List.getElem?_map, hj]; rfl, ax_dv_ok t2⟩
          · exact hv.elim⟩
        have HA := q4.add hh1 hh2 hE'
        rw [hn] at hr4
        exact (hI p e _ s m args below meth c Q ρ0 ad0 M cut _ tl _ _ _ _ _ _ outs hM htl hX hr4 hR) ρ (ad ++ [qa]) _ H1 locs ls LV (.ref qa :: ST) q1 (q2.tr HA.1) q3 HA.2.1 z1 z2 z3 (q8.mono (Sb.rf ρ) HA.1) q9 ⟨HA.2.2, q10.mono (Sb.rf ρ) HA.1⟩

theorem tys_new {dA : Nat → ClassId} {s : State} {cA : ClassId} {t : FieldType} (t0 : Nat) (kd : Nat) (hK : va_K (dC, dI) vwCl (ax_tys dA) s) (h0 : (ax_tys dA)[t0]? = some (dA kd, t)) (hn : ∀ C, va_RA s C t → va_RA s cA t → C = cA) (h : va_K (dC, dI) vwCl (ax_tys dA ++ [(cA, t)]) s) : cA = dA kd := by
  have h1 := (h.2 6 (cA, t) rfl).2
  have h2 := (hK.2 t0 _ h0).2
  exact (hn _ h2 h1).symm
theorem ra_int {s : State} {C cA : ClassId} (h1 : va_RA s C .int) (h2 : va_RA s cA .int) : C = cA := Option.some.inj (Eq.trans (Eq.symm h1) h2)
theorem ra_long {s : State} {C cA : ClassId} (h1 : va_RA s C .long) (h2 : va_RA s cA .long) : C = cA := Option.some.inj (Eq.trans (Eq.symm h1) h2)
theorem ra_byte {s : State} {C cA : ClassId} (h1 : va_RA s C .byte) (h2 : va_RA s cA .byte) : C = cA := Option.some.inj (Eq.trans (Eq.symm h1) h2)
theorem ra_obj {s : State} {X : String} {C cA : ClassId} (h1 : va_RA s C (.object X)) (h2 : va_RA s cA (.object X)) : C = cA := by
  obtain ⟨k, d, -, -, -, a⟩ := h1
  obtain ⟨k', d', -, -, -, b⟩ := h2
  exact Option.some.inj (Eq.trans (Eq.symm a) b)

theorem sn_newa (hI : Snd sb mt dC dI dA sp H0 l ih) (hM : Mok mt M) (htl : ∀ x ∈ tl, x ∈ M.2.2.2.2.2.2) (hX : CX sb dC dI dA sp H0 ρ0 M p R s m args meth c) (hR : ∀ o ∈ outs, RO dC dI dA sp H0 l p e R s m args below meth c Q ρ0 ad0 M o) (hdg : decode M.2.1 pc = .ok (ins, len)) (hlen : len = ax_len ins) (hlk : lok mt M pc ins lk = true) (ho : ax_op ins = 55)
    (hr : lc st (fun a r => ax_newa M.2.2.2.2.1 lk h nc ns (ax_nv σ a) (fun h' nc' ns' => ih M cut (pc + len) tl σ h' nc' ns' lv ((2, h.1) :: r))) = some outs) : GG dC dI dA sp H0 l p e R s m args below meth c Q ρ0 ad0 M.2.2.1 pc σ h nc ns lv st := by
  obtain ⟨a, r, rfl, hr0⟩ := lc_s hr
  unfold ax_newa at hr0
  obtain ⟨kd, lk1, rfl, hr1⟩ := lc_s hr0
  obtain ⟨t, lk2, rfl, hr2⟩ := lc_s hr1
  obtain ⟨g1, hr3⟩ := gd_s hr2
  obtain ⟨h', hr4, hh1, hh2⟩ := ax_ha_ok hr3
  rw [ax_fc_eq, ax_fc_eq] at hr4
  obtain ⟨hx, hb, hml, hown, hts, hK, hlocks, hrt, hin, hRoom, hO⟩ := id hX
  intro ρ ad ws H locs ls LV ST q1 q2 q3 q4 q5 q6 q7 q8 q9 q10
  obtain ⟨A, ST2, rfl, hA, q12⟩ := q10.cons
  have hnv := ax_nv_ok q3 hA
  generalize ax_nv σ a = av at *
  have w := bb_and g1
  have w1 := bb_and w.2
  have w2 := bb_le w1.1
  have w3 := bb_and w1.2
  have w4 := bb_le w3.1
  have w5 := bb_le w3.2
  rw [tg w.1] at hnv
  have hnv : A = .int (nI av.2) := hnv
  subst hnv
  subst hRoom
  have hcl : (nI av.2).toNatClampNeg = av.2 := nI_clamp (by omega)
  have hpos : ¬ nI av.2 < 0 := nI_pos (by omega)
  have FIN : ∀ (qa : Nat) (E : va_E) (H1 : Heap), Er sp dA ρ (ad ++ [qa]) (kd, av.2, ax_rep av.2 (t, 0)) E → va_P (dC, dI) vwCl (ws ++ [(qa, E)]) H1 → va_D (aA H0) (ws ++ [(qa, E)]) → va_S (aA H0) H0 H1 locs → W p l e M.2.2.2.2.1 s m args below meth c H1 locs (nc + 1) (ns + av.2) Q (F0 m (pc + len) ls (.ref qa :: ST2)) := fun qa E H1 hE z1 z2 z3 => by
    have HA := q4.add hh1 hh2 hE
    exact (hI p e _ s m args below meth c Q ρ0 ad0 M cut _ tl _ _ _ _ _ _ outs hM htl hX hr4 hR) ρ (ad ++ [qa]) _ H1 locs ls LV (.ref qa :: ST2) q1 (q2.tr HA.1) q3 HA.2.1 z1 z2 z3 (q8.mono (Sb.rf ρ) HA.1) q9 ⟨HA.2.2, q12.mono (Sb.rf ρ) HA.1⟩
  cases ins <;> first | (exact absurd ho (Nat.ne_of_beq_eq_false rfl)) | skip
  case newarray ty =>
    subst hlen
    match lk2, hlk with
    | c1 :: j1 :: _, hlk =>
      cases ty <;> first | (cases hlk; done) | skip
      case int =>
        have u := bb_and (a := Nat.beq kd 100) hlk
        have u2 := bb_and u.2
        obtain rfl := bb_eq u.1
        obtain rfl := bb_eq u2.1
        refine va_newa (D := (dC, dI)) (a0 := (av.2, .inl (fun _ => 0))) hx hb (hts _ (wdq_in u2.2)) rfl hK q5 q6 q7 (fun _ z => z) (fun cA => rfl) hpos hcl (by show av.2 * 4 ≤ _; omega) w4 w5 hdg (fun qa cA H1 z0 z1 z2 z3 => ?_)
        have e := tys_new (dC := dC) (dI := dI) 0 100 hK rfl (fun _ => ra_int) z0
        subst e
        exact FIN qa _ H1 (Or.inr (Or.inl ⟨Or.inl rfl, _, rfl, fun j v hv => ⟨ax_el_rep_lt hv, by rw [ax_el_rep hv]; show Value.int 0 = Value.int (nI 0); rw [nI_0]⟩⟩)) z1 z2 z3
      case long =>
        have u := bb_and (a := Nat.beq kd 101) hlk
        have u2 := bb_and u.2
        obtain rfl := bb_eq u.1
        obtain rfl := bb_eq u2.1
        refine va_newa (D := (dC, dI)) (a0 := (av.2, .inr (.inl (fun _ => 0)))) hx hb (hts _ (wdq_in u2.2)) rfl hK q5 q6 q7 (fun _ z => z) (fun cA => rfl) hpos hcl (by show av.2 * 8 ≤ _; omega) w4 w5 hdg (fun qa cA H1 z0 z1 z2 z3 => ?_)
        have e := tys_new (dC := dC) (dI := dI) 1 101 hK rfl (fun _ => ra_long) z0
        subst e
        exact FIN qa _ H1 (Or.inr (Or.inr (Or.inl ⟨rfl, _, rfl, fun j v hv => ⟨ax_el_rep_lt hv, by rw [ax_el_rep hv]; rfl⟩⟩))) z1 z2 z3
      case byte =>
        have u := bb_and (a := Nat.beq kd 102) hlk
        have u2 := bb_and u.2
        obtain rfl := bb_eq u.1
        obtain rfl := bb_eq u2.1
        refine va_newa (D := (dC, dI)) (a0 := (av.2, .inl (fun _ => 0))) hx hb (hts _ (wdq_in u2.2)) rfl hK q5 q6 q7 (fun _ z => z) (fun cA => rfl) hpos hcl (by show av.2 * 1 ≤ _; omega) w4 w5 hdg (fun qa cA H1 z0 z1 z2 z3 => ?_)
        have e := tys_new (dC := dC) (dI := dI) 2 102 hK rfl (fun _ => ra_byte) z0
        subst e
        exact FIN qa _ H1 (Or.inr (Or.inl ⟨Or.inr rfl, _, rfl, fun j v hv => ⟨ax_el_rep_lt hv, by rw [ax_el_rep hv]; show Value.int 0 = Value.int (nI 0); rw [nI_0]⟩⟩)) z1 z2 z3
  case anewarray idx =>
    subst hlen
    match lk2, hlk with
    | c1 :: j1 :: _, hlk =>
      have u := bb_and (a := Nat.beq t 3) hlk
      obtain rfl := bb_eq u.1
      rcases (Bool.or_eq_true _ _).mp u.2 with z | z
      · have y := bb_and z
        obtain rfl := bb_eq y.1
        refine va_newq (D := (dC, dI)) hx hb hown (hts _ (wdq_in y.2)) hO.2.2.2.2.2.2.2.1 hK q5 q6 q7 (fun _ z => z) hpos hcl (by omega) w4 w5 hdg (fun qa cA H1 z0 z1 z2 z3 => ?_)
        have e := tys_new (dC := dC) (dI := dI) 3 103 hK rfl (fun _ => ra_obj) z0
        subst e
        exact FIN qa _ H1 (Or.inr (Or.inr (Or.inr ⟨⟨Nat.le_of_ble_eq_true rfl, Nat.le_of_ble_eq_true rfl⟩, _, rfl, fun j v hv => ⟨ax_el_rep_lt hv, by rw [ax_el_rep hv]; rfl⟩⟩))) z1 z2 z3
      · rcases (Bool.or_eq_true _ _).mp z with z | z
        · have y := bb_and z
          obtain rfl := bb_eq y.1
          refine va_newq (D := (dC, dI)) hx hb hown (hts _ (wdq_in y.2)) hO.2.2.2.2.2.2.2.2.1 hK q5 q6 q7 (fun _ z => z) hpos hcl (by omega) w4 w5 hdg (fun qa cA H1 z0 z1 z2 z3 => ?_)
          have e := tys_new (dC := dC) (dI := dI) 4 104 hK rfl (fun _ => ra_obj) z0
          subst e
          exact FIN qa _ H1 (Or.inr (Or.inr (Or.inr ⟨⟨Nat.le_of_ble_eq_true rfl, Nat.le_of_ble_eq_true rfl⟩, _, rfl, fun j v hv => ⟨ax_el_rep_lt hv, by rw [ax_el_rep hv]; rfl⟩⟩))) z1 z2 z3
        · have y := bb_and z
          obtain rfl := bb_eq y.1
          refine va_newq (D := (dC, dI)) hx hb hown (hts _ (wdq_in y.2)) hO.2.2.2.2.2.2.2.2.2.1 hK q5 q6 q7 (fun _ z => z) hpos hcl (by omega) w4 w5 hdg (fun qa cA H1 z0 z1 z2 z3 => ?_)
          have e := tys_new (dC := dC) (dI := dI) 5 105 hK rfl (fun _ => ra_obj) z0
          subst e
          exact FIN qa _ H1 (Or.inr (Or.inr (Or.inr ⟨⟨Nat.le_of_ble_eq_true rfl, Nat.le_of_ble_eq_true rfl⟩, _, rfl, fun j v hv => ⟨ax_el_rep_lt hv, by rw [ax_el_rep hv]; rfl⟩⟩))) z1 z2 z3

theorem sn_gets (hI : Snd sb mt dC dI dA sp H0 l ih) (hM : Mok mt M) (htl : ∀ x ∈ tl, x ∈ M.2.2.2.2.2.2) (hX : CX sb dC dI dA sp H0 ρ0 M p R s m args meth c) (hR : ∀ o ∈ outs, RO dC dI dA sp H0 l p e R s m args below meth c Q ρ0 ad0 M o) (hdg : decode M.2.1 pc = .ok (ins, len)) (hlen : len = ax_len ins) (hlk : lok mt M pc ins lk = true) (ho : ax_op ins = 56)
    (hr : lc lk (fun x _ => bif Nat.beq x 0 then ih M cut (pc + len) tl σ h nc ns lv ((0, 1) :: st) else ih M cut (pc + len) tl σ h nc ns lv ((7, 0) :: st)) = some outs) : GG dC dI dA sp H0 l p e R s m args below meth c Q ρ0 ad0 M.2.2.1 pc σ h nc ns lv st := by
  obtain ⟨x, lk1, rfl, hr1⟩ := lc_s hr
  obtain ⟨hx, hb, hml, hown, hts, hK, hlocks, hrt, hin, hRoom, hO⟩ := id hX
  intro ρ ad ws H locs ls LV ST q1 q2 q3 q4 q5 q6 q7 q8 q9 q10
  cases ins <;> first | (exact absurd ho (Nat.ne_of_beq_eq_false rfl)) | skip
  case getstatic idx =>
    subst hlen
    match lk1, hlk with
    | c1 :: j1 :: _, hlk =>
      have hl : (bif Nat.beq x 0 then wdq c1 j1 (.fieldLink M.1.cls idx sSTR "COMPACT_STRINGS" "Z") else wdq c1 j1 (.fieldLink M.1.cls idx sPRE "SIOOBE_FORMATTER" "Ljava/util/function/BiFunction;")) = true := hlk
      have hkp : ∀ a : Nat, a < H0.size → ¬ (aA H0) a → H[a]? = H0[a]? := fun a h1 h2 => q7.2.1 a h1 h2
      have GS : ∀ (C n d : String) (v : Value), va_Z C n d v (aA H0) s H0 → (Cond.fieldLink M.1.cls idx C n d).before args s = true → W p l e R s m args below meth c H locs nc ns Q (F0 m (pc + 3) ls (v :: ST)) → W p l e R s m args below meth c H locs nc ns Q (F0 m pc ls ST) := fun C n d v hZ hli KK => by
        obtain ⟨cf, kf, fi, f, a, cell, h1, h2, h3, h4, h5, h6, h7, h8⟩ := hZ.kept hkp
        exact W.gets hx hb hown hli h1 h2 h3 h4 h5 (fun e => by rw [e] at h6; cases h6) h7 rfl hdg KK
      cases hx0 : Nat.beq x 0 with
      | true =>
        rw [hx0] at hr1 hl
        exact GS _ _ _ _ hO.2.2.2.2.2.1 (hts _ (wdq_in hl)) ((hI p e _ s m args below meth c Q ρ0 ad0 M cut _ tl _ _ _ _ _ _ outs hM htl hX hr1 hR) ρ ad ws H locs ls LV (.int 1 :: ST) q1 q2 q3 q4 q5 q6 q7 q8 q9 ⟨by show Value.int 1 = Value.int (nI 1); rfl, q10⟩)
      | false =>
        rw [hx0] at hr1 hl
        exact GS _ _ _ _ hO.2.2.2.2.2.2.1 (hts _ (wdq_in hl)) ((hI p e _ s m args below meth c Q ρ0 ad0 M cut _ tl _ _ _ _ _ _ outs hM htl hX hr1 hR) ρ ad ws H locs ls LV (vq sp :: ST) q1 q2 q3 q4 q5 q6 q7 q8 q9 ⟨vq_cat sp, q10⟩)

end OPS
