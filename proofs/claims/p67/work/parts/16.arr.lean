/-! THE ABSTRACT MACHINE, 12: arrays -/
section OPS
variable {sb : Nat → List Nat} {mt : Nat → Nat → Option MR} {dC : Nat → ClassId} {dI : Nat → Nat → Nat} {dA : Nat → ClassId} {sp : Nat → Nat} {H0 : Heap} {l : Launch}
variable {ih : GO} {p : Program} {e : Env} {R : Room} {s : State} {m : MethodId} {args : Array Value} {below : List Frame} {meth : Method} {c : Code} {Q : State → Prop} {ρ0 ad0 : List Nat} {M : MR} {cut pc len : Nat} {ins : Instr} {lk : List Nat} {cd tl : List ME} {σ : AS} {h : AH} {nc ns : Nat} {lv : AL} {st : List AV} {outs : List AO}

theorem ax_all_s {l : List RS} {outs : List AO} (h : ax_all l = some outs) : ∀ x ∈ l, ∃ o, x = some o ∧ ∀ z ∈ o, z ∈ outs := by
  induction l generalizing outs with
  | nil => intro x hx; cases hx
  | cons y t ih =>
    obtain ⟨u, v, e1, e2, rfl⟩ := ax_two_s (x := y) (y := ax_all t) h
    intro x hx
    rcases List.mem_cons.mp hx with rfl | hx
    · exact ⟨u, e1, fun z hz => List.mem_append_left _ hz⟩
    · obtain ⟨o, e3, e4⟩ := ih e2 x hx
      exact ⟨o, e3, fun z hz => List.mem_append_right _ (e4 z hz)⟩

theorem sn_spl {i : AV} {x : Int32} (hI : Snd sb mt dC dI dA sp H0 l ih) (hM : Mok mt M) (htl : ∀ x ∈ tl, x ∈ M.2.2.2.2.2.2) (hX : CX sb dC dI dA sp H0 ρ0 M p R s m args meth c) (hR : ∀ o ∈ outs, RO dC dI dA sp H0 l p e R s m args below meth c Q ρ0 ad0 M o)  (hcd : ∀ x ∈ cd, x ∈ M.2.2.2.2.2.2) (hr : ax_spl σ i (fun σ' => ih M cut pc cd σ' h nc ns lv st) = some outs) {ρ ad : List Nat} {ws : va_W} {H : Heap} {locs : List Loc} {ls : Array Slot} {LV : List (Nat × Value)} {ST : List Value} (q1 : Sb ρ0 ρ) (q2 : Sb ad0 ad) (q3 : St ρ σ) (q4 : Hr sp dA ρ ad h ws) (q5 : va_P (dC, dI) vwCl ws H) (q6 : va_D (aA H0) ws) (q7 : va_S (aA H0) H0 H locs) (q8 : Rl sp ρ ad lv LV) (q9 : lv_has ls M.2.2.1 LV) (q10 : Rs sp ρ ad st ST) (hi : Rp sp ρ ad i (.int x)) : W p l e R s m args below meth c H locs nc ns Q (F0 m pc ls ST) := by
  unfold ax_spl at hr
  obtain ⟨g1, hr1⟩ := gd_s hr
  obtain ⟨q, eq, hr2⟩ := ob_s hr1
  obtain ⟨g2, hr3⟩ := gd_s hr2
  rw [tg g1] at hi
  obtain ⟨z, hz, -⟩ := hi
  rw [ax_nth_eq] at eq
  obtain ⟨q', e1, e2, e3⟩ := q3.2 _ z hz
  cases eq.symm.trans e1
  obtain ⟨o, e4, e5⟩ := ax_all_s hr3 _ (List.mem_map.mpr ⟨z - q.1, List.mem_range.mpr (by omega), rfl⟩)
  rw [ax_set_eq] at e4
  refine (hI p e R s m args below meth c Q ρ0 ad0 M cut _ cd _ _ _ _ _ _ o hM hcd hX e4 (fun y hy => hR y (e5 y hy))) ρ ad ws H locs ls LV ST q1 q2 ?_ q4 q5 q6 q7 q8 q9 q10
  exact q3.cut (fun y hy => by rw [hz] at hy; cases hy; exact ⟨by omega, by omega⟩)

theorem sn_ald (hsb : ∀ x, (sb x).length ≤ 1000) {kd : Nat} (hI : Snd sb mt dC dI dA sp H0 l ih) (hM : Mok mt M) (htl : ∀ x ∈ tl, x ∈ M.2.2.2.2.2.2) (hX : CX sb dC dI dA sp H0 ρ0 M p R s m args meth c) (hR : ∀ o ∈ outs, RO dC dI dA sp H0 l p e R s m args below meth c Q ρ0 ad0 M o) (hdg : decode M.2.1 pc = .ok (ins, len)) (hlen : len = ax_len ins) (hlk : lok mt M pc ins lk = true) (hcd : ∀ x ∈ cd, x ∈ M.2.2.2.2.2.2) (ho : ax_op ins + 90 = kd) (ho2 : 100 ≤ kd) (ho3 : kd ≤ 103)
    (hr : ax_b1a kd sb ih M cut pc (pc + len) cd tl σ h nc ns lv st = some outs) : GG dC dI dA sp H0 l p e R s m args below meth c Q ρ0 ad0 M.2.2.1 pc σ h nc ns lv st := by
  unfold ax_b1a at hr
  obtain ⟨i, st1, e1, hr1⟩ := lc_s hr
  obtain ⟨a, r, e2, hr2⟩ := lc_s hr1
  obtain ⟨hx, hb, hml, hown, hts, hK, hlocks, hrt, hin, hRoom, hO⟩ := id hX
  intro ρ ad ws H locs ls LV ST q1 q2 q3 q4 q5 q6 q7 q8 q9 q10
  have q10' := q10
  rw [e1, e2] at q10'
  obtain ⟨I, ST1, hST1, hI1, q11⟩ := q10'.cons
  obtain ⟨A, ST2, hST2, hA, q12⟩ := q11.cons
  have hin2 : kd = 100 ∧ ins = .iaload ∨ kd = 101 ∧ ins = .laload ∨ kd = 102 ∧ ins = .baload ∨ kd = 103 ∧ ins = .aaload := by
    cases ins <;> first | (exfalso; simp only [ax_op] at ho; omega) | skip
    case iaload => exact Or.inl ⟨ho.symm, rfl⟩
    case laload => exact Or.inr (Or.inl ⟨ho.symm, rfl⟩)
    case baload => exact Or.inr (Or.inr (Or.inl ⟨ho.symm, rfl⟩))
    case aaload => exact Or.inr (Or.inr (Or.inr ⟨ho.symm, rfl⟩))
  have hlen1 : len = 1 := by rw [hlen]; rcases hin2 with ⟨-, rfl⟩ | ⟨-, rfl⟩ | ⟨-, rfl⟩ | ⟨-, rfl⟩ <;> rfl
  subst hlen1
  cases hn : Nat.beq (ax_nv σ i).1 0 with
  | false =>
    rw [hn] at hr2
    have hr3 : ax_spl σ i (fun σ' => ih M cut pc cd σ' h nc ns lv st) = some outs := hr2
    have hr4 := hr3
    unfold ax_spl at hr4
    obtain ⟨g1, -⟩ := gd_s hr4
    obtain ⟨x, rfl⟩ := hI1.tI (by unfold ax_tI; rw [g1]; exact Bool.or_true _)
    exact sn_spl hI hM htl hX hR hcd hr3 q1 q2 q3 q4 q5 q6 q7 q8 q9 q10 hI1
  | true =>
    rw [hn] at hr2
    have hnv := ax_nv_ok q3 hI1
    generalize ax_nv σ i = iv at hn hr2 hnv
    rw [tg hn] at hnv
    have hnv : I = .int (nI iv.2) := hnv
    subst hnv
    rw [hST1, hST2]
    cases ha : Nat.beq a.1 2 with
    | true =>
      rw [ha] at hr2
      have hr3 : ax_ald kd h iv a r (fun s' => ih M cut (pc + 1) tl σ h nc ns lv s') = some outs := hr2
      unfold ax_ald at hr3
      obtain ⟨cl, ec, hr4⟩ := ob_s hr3
      obtain ⟨g1, hr5⟩ := gd_s hr4
      obtain ⟨v, ev, hr6⟩ := ob_s hr5
      have w := bb_and g1
      have w2 := bb_and w.2
      have hlt := bb_lt w2.1
      have hb31 := bb_lt w2.2
      have hvp := vp_n hlt hb31
      have hcl : (nI iv.2).toNatClampNeg = iv.2 := nI_clamp (by omega)
      rw [tg ha] at hA
      obtain ⟨a0, E, hw, rfl, hE⟩ := q4.get ec hA
      have G := (hI p e R s m args below meth c Q ρ0 ad0 M cut _ tl _ _ _ _ _ _ outs hM htl hX hr6 hR)
      rcases hin2 with ⟨rfl, rfl⟩ | ⟨rfl, rfl⟩ | ⟨rfl, rfl⟩ | ⟨rfl, rfl⟩
      · have hk : cl.1 = 100 := bb_eq w.1
        obtain ⟨f, rfl, hf⟩ := hE.ints (Or.inl hk)
        rw [hk] at hw
        exact va_iald hx hb hK q5 a.2 0 hw rfl hvp hdg (G ρ ad ws H locs ls LV _ q1 q2 q3 q4 q5 q6 q7 q8 q9 ⟨by rw [hcl]; exact (hf _ _ ev).2, q12⟩)
      · have hk : cl.1 = 101 := bb_eq w.1
        obtain ⟨f, rfl, hf⟩ := hE.longs hk
        rw [hk] at hw
        exact va_lald hx hb hK q5 a.2 1 hw rfl hvp hdg (G ρ ad ws H locs ls LV _ q1 q2 q3 q4 q5 q6 q7 q8 q9 ⟨by rw [hcl]; exact (hf _ _ ev).2, q12⟩)
      · have hk : cl.1 = 102 := bb_eq w.1
        obtain ⟨f, rfl, hf⟩ := hE.ints (Or.inr hk)
        rw [hk] at hw
        exact va_bald hx hb hK q5 a.2 2 hw rfl hvp hdg (G ρ ad ws H locs ls LV _ q1 q2 q3 q4 q5 q6 q7 q8 q9 ⟨by rw [hcl]; exact (hf _ _ ev).2, q12⟩)
      · have hk := bb_and (a := Nat.ble 103 cl.1) w.1
        have k1 := bb_le hk.1
        have k2 := bb_le hk.2
        obtain ⟨f, rfl, hf⟩ := hE.refs ⟨k1, k2⟩
        have KK := G ρ ad ws H locs ls LV (va_rf (f (nI iv.2).toNatClampNeg) :: ST2) q1 q2 q3 q4 q5 q6 q7 q8 q9 ⟨by rw [hcl]; exact (hf _ _ ev).2, q12⟩
        rcases (show cl.1 = 103 ∨ cl.1 = 104 ∨ cl.1 = 105 by omega) with e | e | e
        · rw [e] at hw; exact va_aldq hx hb hK q5 a.2 3 hw rfl hvp hdg KK
        · rw [e] at hw; exact va_aldq hx hb hK q5 a.2 4 hw rfl hvp hdg KK
        · rw [e] at hw; exact va_aldq hx hb hK q5 a.2 5 hw rfl hvp hdg KK
    | false =>
      rw [ha] at hr2
      obtain ⟨g0, hr3⟩ := gd_s (b := Nat.beq a.1 6) hr2
      rw [tg g0] at hA
      have hA : A = .ref (sp a.2) := hA
      subst hA
      unfold ax_old at hr3
      have hkp : ∀ a : Nat, a < H0.size → ¬ (aA H0) a → H[a]? = H0[a]? := fun a h1 h2 => q7.2.1 a h1 h2
      cases hk : Nat.beq kd 100 with
      | true =>
        rw [hk] at hr3
        obtain ⟨g1, hr4⟩ := gd_s (b := Nat.beq a.2 0 && Nat.blt iv.2 6) hr3
        obtain ⟨q, eq, hr5⟩ := ob_s hr4
        obtain ⟨g2, hr6⟩ := gd_s hr5
        have w := bb_and g1
        have w1 := bb_eq w.1
        have w2 := bb_lt w.2
        have w3 := bb_eq g2
        rw [ax_nth_eq] at eq
        obtain ⟨⟨L, xs, x1, x2, x3, x4, x5, x6⟩, -⟩ := hO
        have x4' := q1 _ _ x4
        obtain ⟨q', e5, e6, e7⟩ := q3.2 _ _ x4'
        cases eq.symm.trans e5
        have hL : 6 ≤ L := by omega
        rw [w1]
        have hin3 : ins = .iaload := by rcases hin2 with ⟨-, h9⟩ | ⟨h9, -⟩ | ⟨h9, -⟩ | ⟨h9, -⟩ <;> first | exact h9 | (rw [h9] at hk; cases hk)
        subst hin3
        exact va_sld hx hb x1 x2 (Nat.not_le.mpr x2) q7 (vp_n (by omega) (by omega)) hdg ((hI p e R s m args below meth c Q ρ0 ad0 M cut _ tl _ _ _ _ _ _ outs hM htl hX hr6 hR) ρ ad ws H locs ls LV _ q1 q2 q3 q4 q5 q6 q7 q8 q9 ⟨by
          rw [nI_clamp (by omega)]
          exact ⟨zI (xs iv.2), q1 _ _ (x5 iv.2 w2), by rw [zI_back]⟩, q12⟩)
      | false =>
        rw [hk] at hr3
        obtain ⟨g1, hr4⟩ := gd_s (b := Nat.beq kd 102 && (Nat.beq a.2 2 || Nat.beq a.2 4)) hr3
        obtain ⟨n, en, hr5⟩ := ob_s hr4
        have w := bb_and g1
        rw [ax_nth_eq] at en
        have hin3 : ins = .baload := by rcases hin2 with ⟨h9, -⟩ | ⟨h9, -⟩ | ⟨-, h9⟩ | ⟨h9, -⟩ <;> first | exact h9 | (rw [h9] at w; exact absurd w.1 (by decide))
        subst hin3
        have hso : ∃ y, a.2 = y + 1 ∧ SO sp sb H0 y s := by
          rcases (Bool.or_eq_true _ _).mp w.2 with z | z
          · exact ⟨1, bb_eq z, hO.2.1⟩
          · exact ⟨3, bb_eq z, hO.2.2.1⟩
        obtain ⟨y, ey, hso⟩ := hso
        have hT := hso.2.2.2.kept hkp
        rw [← ey] at hT
        obtain ⟨cell, z1, z2, z3, z4, z5, z6, z7⟩ := hT
        have hlt : iv.2 < (sb a.2).length := (List.getElem?_eq_some_iff.mp en).1
        have hb31 : iv.2 < 2147483648 := by
          rcases Nat.lt_or_ge iv.2 2147483648 with z | z
          · exact z
          · exfalso
            have h8 : (sb a.2).length ≤ 1000 := hsb a.2
            omega
        have hcl : (nI iv.2).toNatClampNeg = iv.2 := nI_clamp (by omega)
        exact W.bald (v := .int (nI n)) hx hb z1 z2 z3 (fun q => q.elim (nI_pos (by omega)) (fun q => by rw [hcl] at q; omega)) (by rw [hcl, z6 _ hlt]; show some (Value.int (nI ((sb a.2).getD iv.2 0))) = _; rw [List.getD_eq_getElem?_getD, en]; rfl) rfl rfl hdg ((hI p e R s m args below meth c Q ρ0 ad0 M cut _ tl _ _ _ _ _ _ outs hM htl hX hr5 hR) ρ ad ws H locs ls LV _ q1 q2 q3 q4 q5 q6 q7 q8 q9 ⟨rfl, q12⟩)

theorem sn_ast {kd : Nat} (hI : Snd sb mt dC dI dA sp H0 l ih) (hM : Mok mt M) (htl : ∀ x ∈ tl, x ∈ M.2.2.2.2.2.2) (hX : CX sb dC dI dA sp H0 ρ0 M p R s m args meth c) (hR : ∀ o ∈ outs, RO dC dI dA sp H0 l p e R s m args below meth c Q ρ0 ad0 M o) (hdg : decode M.2.1 pc = .ok (ins, len)) (hlen : len = ax_len ins) (hlk : lok mt M pc ins lk = true) (hcd : ∀ x ∈ cd, x ∈ M.2.2.2.2.2.2) (ho : ax_op ins + 86 = kd) (ho2 : 100 ≤ kd) (ho3 : kd ≤ 103)
    (hr : ax_b1s kd ih M cut pc (pc + len) cd tl σ h nc ns lv st = some outs) : GG dC dI dA sp H0 l p e R s m args below meth c Q ρ0 ad0 M.2.2.1 pc σ h nc ns lv st := by
  unfold ax_b1s at hr
  obtain ⟨v, st0, e0, hr0⟩ := lc_s hr
  obtain ⟨i, st1, e1, hr1⟩ := lc_s hr0
  obtain ⟨a, r, e2, hr2⟩ := lc_s hr1
  obtain ⟨hx, hb, hml, hown, hts, hK, hlocks, hrt, hin, hRoom, hO⟩ := id hX
  intro ρ ad ws H locs ls LV ST q1 q2 q3 q4 q5 q6 q7 q8 q9 q10
  have q10' := q10
  rw [e0, e1, e2] at q10'
  obtain ⟨V, ST0, hST0, hV, q100⟩ := q10'.cons
  obtain ⟨I, ST1, hST1, hI1, q11⟩ := q100.cons
  obtain ⟨A, ST2, hST2, hA, q12⟩ := q11.cons
  have hin2 : kd = 100 ∧ ins = .iastore ∨ kd = 101 ∧ ins = .lastore ∨ kd = 102 ∧ ins = .bastore ∨ kd = 103 ∧ ins = .aastore := by
    cases ins <;> first | (exfalso; simp only [ax_op] at ho; omega) | skip
    case iastore => exact Or.inl ⟨ho.symm, rfl⟩
    case lastore => exact Or.inr (Or.inl ⟨ho.symm, rfl⟩)
    case bastore => exact Or.inr (Or.inr (Or.inl ⟨ho.symm, rfl⟩))
    case aastore => exact Or.inr (Or.inr (Or.inr ⟨ho.symm, rfl⟩))
  have hlen1 : len = 1 := by rw [hlen]; rcases hin2 with ⟨-, rfl⟩ | ⟨-, rfl⟩ | ⟨-, rfl⟩ | ⟨-, rfl⟩ <;> rfl
  subst hlen1
  cases hn : Nat.beq (ax_nv σ i).1 0 with
  | false =>
    rw [hn] at hr2
    have hr3 : ax_spl σ i (fun σ' => ih M cut pc cd σ' h nc ns lv st) = some outs := hr2
    have hr4 := hr3
    unfold ax_spl at hr4
    obtain ⟨g1, -⟩ := gd_s hr4
    obtain ⟨x, rfl⟩ := hI1.tI (by unfold ax_tI; rw [g1]; exact Bool.or_true _)
    exact sn_spl hI hM htl hX hR hcd hr3 q1 q2 q3 q4 q5 q6 q7 q8 q9 q10 hI1
  | true =>
    rw [hn] at hr2
    have hr3 : ax_ast kd σ h v (ax_nv σ i) a (fun h' => ih M cut (pc + 1) tl σ h' nc ns lv r) = some outs := hr2
    have hnv := ax_nv_ok q3 hI1
    generalize ax_nv σ i = iv at hn hr3 hnv
    rw [tg hn] at hnv
    have hnv : I = .int (nI iv.2) := hnv
    subst hnv
    rw [hST0, hST1, hST2]
    unfold ax_ast at hr3
    obtain ⟨g0, hr4⟩ := gd_s hr3
    obtain ⟨cl, ec, hr5⟩ := ob_s hr4
    obtain ⟨g1, hr6⟩ := gd_s hr5
    rw [ax_st_eq] at hr6
    obtain ⟨h', hr7, hh1, hh2⟩ := ax_hs_ok hr6
    have w := bb_and g1
    have w2 := bb_and w.2
    have hlt := bb_lt w2.1
    have hb31 := bb_lt w2.2
    have hvp := vp_n hlt hb31
    have hcl : (nI iv.2).toNatClampNeg = iv.2 := nI_clamp (by omega)
    rw [tg g0] at hA
    obtain ⟨a0, E, hw, rfl, hE⟩ := q4.get ec hA
    have G := (hI p e R s m args below meth c Q ρ0 ad0 M cut _ tl _ _ _ _ _ _ outs hM htl hX hr7 hR)
    have hsok := w.1
    unfold ax_sok at hsok
    rcases hin2 with ⟨rfl, rfl⟩ | ⟨rfl, rfl⟩ | ⟨rfl, rfl⟩ | ⟨rfl, rfl⟩
    · have y := bb_and (a := Nat.beq cl.1 100) hsok
      have hk : cl.1 = 100 := bb_eq y.1
      obtain ⟨x, rfl⟩ := hV.tI y.2
      obtain ⟨f, rfl, hf⟩ := hE.ints (Or.inl hk)
      have hE' : Er sp dA ρ ad (cl.1, cl.2.1, ax_stv cl.2.2 iv.2 v) (.inl (dA 100, cl.2.1, .inl (upd f (nI iv.2).toNatClampNeg x))) := Or.inr (Or.inl ⟨Or.inl hk, _, by rw [hk], fun j z hz => by
        rw [hcl]
        rcases ax_el_stv hz with ⟨rfl, rfl⟩ | ⟨hj, hz⟩
        · exact ⟨hlt, by rw [pk_us]; exact hV⟩
        · exact ⟨(hf j z hz).1, by rw [pk_un hj]; exact (hf j z hz).2⟩⟩)
      rw [hk] at hw
      exact va_iast hx hb hK q5 q6 q7 a.2 0 hw rfl hvp hdg (fun H1 locs1 z1 z2 z3 => G ρ ad _ H1 locs1 ls LV ST2 q1 q2 q3 (q4.set hw hh1 hh2 hE') z1 z2 z3 q8 q9 q12)
    · have y := bb_and (a := Nat.beq cl.1 101) hsok
      have hk : cl.1 = 101 := bb_eq y.1
      obtain ⟨x, rfl⟩ := hV.tL y.2
      obtain ⟨f, rfl, hf⟩ := hE.longs hk
      have hE' : Er sp dA ρ ad (cl.1, cl.2.1, ax_stv cl.2.2 iv.2 v) (.inl (dA 101, cl.2.1, .inr (.inl (vp_updL f (nI iv.2).toNatClampNeg x)))) := Or.inr (Or.inr (Or.inl ⟨hk, _, by rw [hk], fun j z hz => by
        rw [hcl]
        rcases ax_el_stv hz with ⟨rfl, rfl⟩ | ⟨hj, hz⟩
        · exact ⟨hlt, by rw [pk_uLs]; exact hV⟩
        · exact ⟨(hf j z hz).1, by rw [pk_uLn hj]; exact (hf j z hz).2⟩⟩))
      rw [hk] at hw
      exact va_last hx hb hK q5 q6 q7 a.2 1 hw rfl hvp hdg (fun H1 locs1 z1 z2 z3 => G ρ ad _ H1 locs1 ls LV ST2 q1 q2 q3 (q4.set hw hh1 hh2 hE') z1 z2 z3 q8 q9 q12)
    · have y := bb_and (a := Nat.beq cl.1 102) hsok
      have hk : cl.1 = 102 := bb_eq y.1
      have y2 := y.2
      cases er : ax_rI σ v with
      | none => rw [er] at y2; cases y2
      | some q =>
        rw [er] at y2
        have y3 := bb_and (a := Nat.ble 9223372036854775680 q.1) y2
        have y4 := bb_le y3.1
        have y5 := bb_le y3.2
        obtain ⟨x, rfl, x1, x2, -⟩ := ax_rI_ok q3 hV er
        have hx8 : vp_nar .byte x = x := by
          rw [vp_nar_byte]
          apply Int32.toInt_inj.mp
          have h8 := zI_cast x
          rw [Int8.toInt_toInt32, Int32.toInt_toInt8, Int.bmod_def]
          omega
        obtain ⟨f, rfl, hf⟩ := hE.ints (Or.inr hk)
        have hE' : Er sp dA ρ ad (cl.1, cl.2.1, ax_stv cl.2.2 iv.2 v) (.inl (dA 102, cl.2.1, .inl (upd f (nI iv.2).toNatClampNeg (vp_nar .byte x)))) := Or.inr (Or.inl ⟨Or.inr hk, _, by rw [hk], fun j z hz => by
          rw [hcl, hx8]
          rcases ax_el_stv hz with ⟨rfl, rfl⟩ | ⟨hj, hz⟩
          · exact ⟨hlt, by rw [pk_us]; exact hV⟩
          · exact ⟨(hf j z hz).1, by rw [pk_un hj]; exact (hf j z hz).2⟩⟩)
        rw [hk] at hw
        exact va_bast hx hb hK q5 q6 q7 a.2 2 hw rfl hvp hdg (fun H1 locs1 z1 z2 z3 => G ρ ad _ H1 locs1 ls LV ST2 q1 q2 q3 (q4.set hw hh1 hh2 hE') z1 z2 z3 q8 q9 q12)
    · have y := bb_and (a := Nat.beq v.1 2) hsok
      have y2 := y.2
      cases ek : ax_hn h v.2 with
      | none => rw [ek] at y2; cases y2
      | some cv =>
        rw [ek] at y2
        rw [tg y.1] at hV
        obtain ⟨v0, Ev, hwv, rfl, hEv⟩ := q4.get ek hV
        have y3 : (cl.1 = 103 ∧ cv.1 = 10) ∨ (cl.1 = 104 ∧ cv.1 = 1) ∨ (cl.1 = 105 ∧ cv.1 = 7) := by
          rcases (Bool.or_eq_true _ _).mp y2 with z | z
          · exact Or.inl ⟨bb_eq (bb_and z).1, bb_eq (bb_and z).2⟩
          · rcases (Bool.or_eq_true _ _).mp z with z | z
            · exact Or.inr (Or.inl ⟨bb_eq (bb_and z).1, bb_eq (bb_and z).2⟩)
            · exact Or.inr (Or.inr ⟨bb_eq (bb_and z).1, bb_eq (bb_and z).2⟩)
        obtain ⟨f, rfl, hf⟩ := hE.refs (by omega)
        obtain ⟨VS, rfl, -, -⟩ := hEv.obj (by omega)
        have hE' : Er sp dA ρ ad (cl.1, cl.2.1, ax_stv cl.2.2 iv.2 v) (.inl (dA cl.1, cl.2.1, .inr (.inr (.inr (.inr (va_up f (nI iv.2).toNatClampNeg (some v0))))))) := Or.inr (Or.inr (Or.inr ⟨by show 103 ≤ cl.1 ∧ cl.1 ≤ 105; omega, _, rfl, fun j z hz => by
          rw [hcl]
          rcases ax_el_stv hz with ⟨rfl, rfl⟩ | ⟨hj, hz⟩
          · exact ⟨hlt, by unfold va_up; rw [if_pos rfl, tg y.1]; exact hV⟩
          · exact ⟨(hf j z hz).1, by unfold va_up; rw [if_neg hj]; exact (hf j z hz).2⟩⟩))
        have KK : ∀ (H1 : Heap) (locs1 : List Loc), va_P (dC, dI) vwCl (ws.set a.2 (a0, .inl (dA cl.1, cl.2.1, .inr (.inr (.inr (.inr (va_up f (nI iv.2).toNatClampNeg (some v0)))))))) H1 → va_D (aA H0) (ws.set a.2 (a0, .inl (dA cl.1, cl.2.1, .inr (.inr (.inr (.inr (va_up f (nI iv.2).toNatClampNeg (some v0)))))))) → va_S (aA H0) H0 H1 locs1 → W p l e R s m args below meth c H1 locs1 nc ns Q (F0 m (pc + 1) ls ST2) := fun H1 locs1 z1 z2 z3 => G ρ ad _ H1 locs1 ls LV ST2 q1 q2 q3 (q4.set hw hh1 hh2 hE') z1 z2 z3 q8 q9 q12
        rcases y3 with ⟨k1, k2⟩ | ⟨k1, k2⟩ | ⟨k1, k2⟩
        · rw [k2] at hwv
          rw [k1] at hw KK
          exact va_astq (r := (RX10, TX10, 4)) hx hb hK q5 q6 q7 a.2 3 v.2 10 hw rfl hwv rfl hvp hdg KK
        · rw [k2] at hwv
          rw [k1] at hw KK
          exact va_astq (r := (RX1, TX1, 15)) hx hb hK q5 q6 q7 a.2 4 v.2 1 hw rfl hwv rfl hvp hdg KK
        · rw [k2] at hwv
          rw [k1] at hw KK
          exact va_astq (r := (RX7, TX7, 8)) hx hb hK q5 q6 q7 a.2 5 v.2 7 hw rfl hwv rfl hvp hdg KK

end OPS
