/-! THE ABSTRACT MACHINE, 11: fields and arrays -/

theorem Er.obj {sp : Nat → Nat} {dA : Nat → ClassId} {ρ ad : List Nat} {c : AC} {E : va_E} (h : Er sp dA ρ ad c E) (hk : c.1 < 100) : ∃ VS : List Value, E = .inr (c.1, VS) ∧ VS.length = c.2.1 ∧ ∀ (j : Nat) (v : AV), ax_el c.2.2 j = some v → ∃ V, VS[j]? = some V ∧ Rp sp ρ ad v V := by
  rcases h with ⟨-, h⟩ | ⟨a, -⟩ | ⟨a, -⟩ | ⟨a, -⟩
  · exact h
  · omega
  · omega
  · omega
theorem Er.ints {sp : Nat → Nat} {dA : Nat → ClassId} {ρ ad : List Nat} {c : AC} {E : va_E} (h : Er sp dA ρ ad c E) (hk : c.1 = 100 ∨ c.1 = 102) : ∃ f : Nat → Int32, E = .inl (dA c.1, c.2.1, .inl f) ∧ ∀ (j : Nat) (v : AV), ax_el c.2.2 j = some v → j < c.2.1 ∧ Rp sp ρ ad v (.int (f j)) := by
  rcases h with ⟨a, -⟩ | ⟨-, h⟩ | ⟨a, -⟩ | ⟨a, -⟩
  · omega
  · exact h
  · omega
  · omega
theorem Er.longs {sp : Nat → Nat} {dA : Nat → ClassId} {ρ ad : List Nat} {c : AC} {E : va_E} (h : Er sp dA ρ ad c E) (hk : c.1 = 101) : ∃ f : Nat → Int64, E = .inl (dA c.1, c.2.1, .inr (.inl f)) ∧ ∀ (j : Nat) (v : AV), ax_el c.2.2 j = some v → j < c.2.1 ∧ Rp sp ρ ad v (.long (f j)) := by
  rcases h with ⟨a, -⟩ | ⟨a, -⟩ | ⟨-, h⟩ | ⟨a, -⟩
  · omega
  · omega
  · exact h
  · omega
theorem Er.refs {sp : Nat → Nat} {dA : Nat → ClassId} {ρ ad : List Nat} {c : AC} {E : va_E} (h : Er sp dA ρ ad c E) (hk : 103 ≤ c.1 ∧ c.1 ≤ 105) : ∃ f : Nat → Option Nat, E = .inl (dA c.1, c.2.1, .inr (.inr (.inr (.inr f)))) ∧ ∀ (j : Nat) (v : AV), ax_el c.2.2 j = some v → j < c.2.1 ∧ Rp sp ρ ad v (va_rf (f j)) := by
  rcases h with ⟨a, -⟩ | ⟨a, -⟩ | ⟨a, -⟩ | ⟨-, h⟩
  · omega
  · omega
  · omega
  · exact h
theorem bb_nb {a b : Nat} (h : a ≠ b) : Nat.beq a b = false := by
  cases hq : Nat.beq a b with
  | false => rfl
  | true => exact absurd (bb_eq hq) h
theorem tg {v : AV} {t : Nat} (h : Nat.beq v.1 t = true) : v = (t, v.2) := by
  obtain ⟨a, b⟩ := v
  have : a = t := bb_eq h
  subst this
  rfl
theorem vp_n {n N : Nat} (h : n < N) (h2 : n < 2147483648) : vp_in (nI n) N := fun q => q.elim (nI_pos (by omega)) (fun q => by rw [nI_clamp (by omega)] at q; omega)
theorem ty_fit {d : String} {v : AV} (h : ax_fit (ax_ty d) v = true) {sp : Nat → Nat} {ρ ad : List Nat} {V : Value} (hV : Rp sp ρ ad v V) : ∃ ty, parseFieldDescriptor d = some ty ∧ narrow ty V = V ∧ fits ty V = true := by
  unfold ax_ty at h
  cases hp : parseFieldDescriptor d with
  | none => rw [hp] at h; cases h
  | some ty =>
    rw [hp] at h
    refine ⟨ty, rfl, ?_⟩
    cases ty <;> first | (cases h; done) | skip
    case int => obtain ⟨x, rfl⟩ := hV.tI h; exact ⟨rfl, rfl⟩
    case long => obtain ⟨x, rfl⟩ := hV.tL h; exact ⟨rfl, rfl⟩
    case boolean =>
      have w := bb_and (a := Nat.beq v.1 0) h
      rw [tg w.1] at hV
      have w2 := bb_le w.2
      have hV : V = .int (nI v.2) := hV
      subst hV
      rcases (show v.2 = 0 ∨ v.2 = 1 by omega) with e | e <;> rw [e] <;> exact ⟨by decide +kernel, by decide +kernel⟩
    case object n => rw [tg (v := v) (t := 2) h] at hV; obtain ⟨a, -, rfl⟩ := hV; exact ⟨rfl, rfl⟩
    case array t => rw [tg (v := v) (t := 2) h] at hV; obtain ⟨a, -, rfl⟩ := hV; exact ⟨rfl, rfl⟩

section OPS
variable {sb : Nat → List Nat} {mt : Nat → Nat → Option MR} {dC : Nat → ClassId} {dI : Nat → Nat → Nat} {dA : Nat → ClassId} {sp : Nat → Nat} {H0 : Heap} {l : Launch}
variable {ih : GO} {p : Program} {e : Env} {R : Room} {s : State} {m : MethodId} {args : Array Value} {below : List Frame} {meth : Method} {c : Code} {Q : State → Prop} {ρ0 ad0 : List Nat} {M : MR} {cut pc len : Nat} {ins : Instr} {lk : List Nat} {cd tl : List ME} {σ : AS} {h : AH} {nc ns : Nat} {lv : AL} {st : List AV} {outs : List AO}

theorem sn_getf (hI : Snd sb mt dC dI dA sp H0 l ih) (hM : Mok mt M) (htl : ∀ x ∈ tl, x ∈ M.2.2.2.2.2.2) (hX : CX sb dC dI dA sp H0 ρ0 M p R s m args meth c) (hR : ∀ o ∈ outs, RO dC dI dA sp H0 l p e R s m args below meth c Q ρ0 ad0 M o) (hdg : decode M.2.1 pc = .ok (ins, len)) (hlen : len = ax_len ins) (hlk : lok mt M pc ins lk = true) (ho : ax_op ins = 8)
    (hr : ax_getf lk h st (fun s' => ih M cut (pc + len) tl σ h nc ns lv s') = some outs) : GG dC dI dA sp H0 l p e R s m args below meth c Q ρ0 ad0 M.2.2.1 pc σ h nc ns lv st := by
  unfold ax_getf at hr
  obtain ⟨ci, lk1, rfl, hr1⟩ := lc_s hr
  obtain ⟨k, lk2, rfl, hr2⟩ := lc_s hr1
  obtain ⟨a, r, rfl, hr3⟩ := lc_s hr2
  obtain ⟨hx, hb, hml, hown, hts, hK, hlocks, hrt, hin, hRoom, hO⟩ := id hX
  intro ρ ad ws H locs ls LV ST q1 q2 q3 q4 q5 q6 q7 q8 q9 q10
  obtain ⟨A, ST2, rfl, hA, q12⟩ := q10.cons
  cases ins <;> first | (exact absurd ho (Nat.ne_of_beq_eq_false rfl)) | skip
  case getfield idx =>
    subst hlen
    cases lk2 with
    | nil => cases hlk
    | cons c1 lk3 =>
    cases lk3 with
    | nil => cases hlk
    | cons j1 lk4 =>
    have hl : (bif Nat.beq ci 200 then (bif Nat.beq k 0 then wdq c1 j1 (.fieldLink M.1.cls idx sSTR "value" "[B") else wdq c1 j1 (.fieldLink M.1.cls idx sSTR "coder" "B")) else (match vwCl[ci]? with
        | some q => Nat.blt k q.2.2 && wdq c1 j1 (.fieldLink M.1.cls idx (q.2.1 k).1 (q.2.1 k).2.1 (q.2.1 k).2.2.1)
        | none => false)) = true := hlk
    cases hb2 : Nat.beq a.1 2 with
    | true =>
      rw [hb2] at hr3
      obtain ⟨cl, ec, hr4⟩ := ob_s (o := ax_hn h a.2) hr3
      obtain ⟨g1, hr5⟩ := gd_s hr4
      obtain ⟨v, ev, hr6⟩ := ob_s hr5
      have w := bb_and g1
      have w1 := bb_eq w.1
      have w2 := bb_lt w.2
      rw [tg hb2] at hA
      obtain ⟨a0, E, hw, rfl, hE⟩ := q4.get ec hA
      obtain ⟨VS, rfl, hVl, hVS⟩ := hE.obj (by omega)
      obtain ⟨V, hV, hRV⟩ := hVS k v ev
      rw [show Nat.beq ci 200 = false from bb_nb (by omega)] at hl
      cases hq : vwCl[ci]? with
      | none => rw [show (bif false then (bif Nat.beq k 0 then wdq c1 j1 (.fieldLink M.1.cls idx sSTR "value" "[B") else wdq c1 j1 (.fieldLink M.1.cls idx sSTR "coder" "B")) else (match vwCl[ci]? with | some q => Nat.blt k q.2.2 && wdq c1 j1 (.fieldLink M.1.cls idx (q.2.1 k).1 (q.2.1 k).2.1 (q.2.1 k).2.2.1) | none => false)) = (match vwCl[ci]? with | some q => Nat.blt k q.2.2 && wdq c1 j1 (.fieldLink M.1.cls idx (q.2.1 k).1 (q.2.1 k).2.1 (q.2.1 k).2.2.1) | none => false) from rfl, hq] at hl; cases hl
      | some q =>
        have hl2 : (match vwCl[ci]? with | some q => Nat.blt k q.2.2 && wdq c1 j1 (.fieldLink M.1.cls idx (q.2.1 k).1 (q.2.1 k).2.1 (q.2.1 k).2.2.1) | none => false) = true := hl
        rw [hq] at hl2
        have u := bb_and (a := Nat.blt k q.2.2) hl2
        have hvw := vw_ok ci q hq
        exact va_get (D := (dC, dI)) (ci := ci) (v := V) (C := q.1) (T := q.2.1) (N := q.2.2) hx hb hts hvw.1 hown hK q5 a.2 (by rw [← w1]; exact hw) hq k (bb_lt u.1) (hts _ (wdq_in u.2)) (fun _ h9 => h9) hV hdg ((hI p e R s m args below meth c Q ρ0 ad0 M cut _ tl _ _ _ _ _ _ outs hM htl hX hr6 hR) ρ ad ws H locs ls LV (V :: ST2) q1 q2 q3 q4 q5 q6 q7 q8 q9 ⟨hRV, q12⟩)
    | false =>
      rw [hb2] at hr3
      obtain ⟨g1, hr4⟩ := gd_s (b := Nat.beq a.1 6 && (Nat.beq ci 200 && (Nat.beq a.2 1 || Nat.beq a.2 3))) hr3
      have w := bb_and g1
      have w1 := bb_and w.2
      rw [w1.1] at hl
      rw [tg w.1] at hA
      have hA : A = .ref (sp a.2) := hA
      subst hA
      have hso : SO sp sb H0 a.2 s := by
        rcases (Bool.or_eq_true _ _).mp w1.2 with z | z
        · rw [bb_eq z]; exact hO.2.1
        · rw [bb_eq z]; exact hO.2.2.1
      have hkp : ∀ a : Nat, a < H0.size → ¬ (aA H0) a → H[a]? = H0[a]? := fun a h1 h2 => q7.2.1 a h1 h2
      cases hk : Nat.beq k 0 with
      | true =>
        rw [hk] at hr4 hl
        obtain ⟨cf, k9, fi, f, cell, z1, z2, z3, z4, z5, z6⟩ := hso.2.2.1.kept hkp
        exact W.getf hx hb hown (hts _ (wdq_in hl)) z1 z2 z3 z4 (v := .ref (sp (a.2 + 1))) z5 rfl rfl hdg ((hI p e R s m args below meth c Q ρ0 ad0 M cut _ tl _ _ _ _ _ _ outs hM htl hX hr4 hR) ρ ad ws H locs ls LV (.ref (sp (a.2 + 1)) :: ST2) q1 q2 q3 q4 q5 q6 q7 q8 q9 ⟨rfl, q12⟩)
      | false =>
        rw [hk] at hr4 hl
        obtain ⟨cf, k9, fi, f, cell, z1, z2, z3, z4, z5, z6⟩ := hso.2.1.kept hkp
        exact W.getf hx hb hown (hts _ (wdq_in hl)) z1 z2 z3 z4 (v := .int 0) z5 rfl rfl hdg ((hI p e R s m args below meth c Q ρ0 ad0 M cut _ tl _ _ _ _ _ _ outs hM htl hX hr4 hR) ρ ad ws H locs ls LV (.int 0 :: ST2) q1 q2 q3 q4 q5 q6 q7 q8 q9 ⟨by show Value.int 0 = Value.int (nI 0); rw [nI_0], q12⟩)

theorem sn_putf (hI : Snd sb mt dC dI dA sp H0 l ih) (hM : Mok mt M) (htl : ∀ x ∈ tl, x ∈ M.2.2.2.2.2.2) (hX : CX sb dC dI dA sp H0 ρ0 M p R s m args meth c) (hR : ∀ o ∈ outs, RO dC dI dA sp H0 l p e R s m args below meth c Q ρ0 ad0 M o) (hdg : decode M.2.1 pc = .ok (ins, len)) (hlen : len = ax_len ins) (hlk : lok mt M pc ins lk = true) (ho : ax_op ins = 9)
    (hr : ax_putf lk h st (fun h' r => ih M cut (pc + len) tl σ h' nc ns lv r) = some outs) : GG dC dI dA sp H0 l p e R s m args below meth c Q ρ0 ad0 M.2.2.1 pc σ h nc ns lv st := by
  unfold ax_putf at hr
  obtain ⟨ci, lk1, rfl, hr1⟩ := lc_s hr
  obtain ⟨k, lk2, rfl, hr2⟩ := lc_s hr1
  obtain ⟨tc, lk3, rfl, hr3⟩ := lc_s hr2
  obtain ⟨v, st1, rfl, hr4⟩ := lc_s hr3
  obtain ⟨a, r, rfl, hr5⟩ := lc_s hr4
  obtain ⟨g1, hr6⟩ := gd_s hr5
  obtain ⟨cl, ec, hr7⟩ := ob_s hr6
  obtain ⟨g2, hr8⟩ := gd_s hr7
  rw [ax_st_eq] at hr8
  obtain ⟨h', hr9, hh1, hh2⟩ := ax_hs_ok hr8
  obtain ⟨hx, hb, hml, hown, hts, hK, hlocks, hrt, hin, hRoom, hO⟩ := id hX
  intro ρ ad ws H locs ls LV ST q1 q2 q3 q4 q5 q6 q7 q8 q9 q10
  obtain ⟨V, ST1, rfl, hV, q11⟩ := q10.cons
  obtain ⟨A, ST2, rfl, hA, q12⟩ := q11.cons
  have w := bb_and g1
  have u := bb_and g2
  have u1 := bb_eq u.1
  have u2 := bb_and u.2
  have u3 := bb_lt u2.1
  have u4 := bb_lt u2.2
  rw [tg w.1] at hA
  obtain ⟨a0, E, hw, rfl, hE⟩ := q4.get ec hA
  obtain ⟨VS, rfl, hVl, hVS⟩ := hE.obj (by omega)
  cases ins <;> first | (exact absurd ho (Nat.ne_of_beq_eq_false rfl)) | skip
  case putfield idx =>
    subst hlen
    cases lk3 with
    | nil => cases hlk
    | cons c1 lk4 =>
    cases lk4 with
    | nil => cases hlk
    | cons j1 lk5 =>
    have hl : (match vwCl[ci]? with
        | some q => Nat.blt k q.2.2 && (wdq c1 j1 (.fieldLink M.1.cls idx (q.2.1 k).1 (q.2.1 k).2.1 (q.2.1 k).2.2.1) && (Nat.beq (ax_ty (q.2.1 k).2.2.1) tc && (!(q.2.1 k).2.2.2 || (decide (M.1.name = "<init>") && decide ((q.2.1 k).1 = M.1.cls)))))
        | none => false) = true := hlk
    cases hq : vwCl[ci]? with
    | none => rw [hq] at hl; cases hl
    | some q =>
      rw [hq] at hl
      have e1 := bb_and (a := Nat.blt k q.2.2) hl
      have e2 := bb_and e1.2
      have e3 := bb_and e2.2
      have e4 := bb_eq e3.1
      obtain ⟨hvw, ⟨ty0, hty⟩, hnm, -⟩ := vw_ok ci q hq
      obtain ⟨ty, t1, t2, t3⟩ := ty_fit (d := (q.2.1 k).2.2.1) (by rw [e4]; exact w.2) hV
      have hE' : Er sp dA ρ ad (cl.1, cl.2.1, ax_stv cl.2.2 k v) (.inr (ci, VS.set k V)) := Or.inl ⟨by show cl.1 < 100; omega, VS.set k V, by rw [u1], by show (VS.set k V).length = cl.2.1; simp [hVl], fun j y hy => by
        rcases ax_el_stv hy with ⟨rfl, rfl⟩ | ⟨hj, hy⟩
        · exact ⟨V, by rw [List.getElem?_set_self (by omega)], hV⟩
        · obtain ⟨Y, y1, y2⟩ := hVS j y hy
          exact ⟨Y, by rw [List.getElem?_set_ne (fun z => hj z.symm)]; exact y1, y2⟩⟩
      have hw' : ws[a.2]? = some (a0, .inr (ci, VS)) := by rw [← u1]; exact hw
      have KK : ∀ (H1 : Heap) (locs1 : List Loc), va_P (dC, dI) vwCl (ws.set a.2 (a0, .inr (ci, VS.set k V))) H1 → va_D (aA H0) (ws.set a.2 (a0, .inr (ci, VS.set k V))) → va_S (aA H0) H0 H1 locs1 → W p l e R s m args below meth c H1 locs1 nc ns Q (F0 m (pc + 3) ls ST2) := fun H1 locs1 z1 z2 z3 =>
        (hI p e R s m args below meth c Q ρ0 ad0 M cut _ tl _ _ _ _ _ _ outs hM htl hX hr9 hR) ρ ad _ H1 locs1 ls LV ST2 q1 q2 q3 (q4.set hw' hh1 hh2 hE') z1 z2 z3 q8 q9 q12
      cases hf : (q.2.1 k).2.2.2 with
      | false => exact va_put (D := (dC, dI)) (ci := ci) (v := V) (ty := ty) (C := q.1) (T := q.2.1) (N := q.2.2) hx hb hts hvw ty0 hty hnm hown hK q5 q6 q7 a.2 hw' hq k (bb_lt e1.1) (hts _ (wdq_in e2.1)) (fun _ h9 => h9) hf t1 t2 t3 (by omega) hdg KK
      | true =>
        rw [hf] at e3
        have e5 := bb_and (a := decide (M.1.name = "<init>")) e3.2
        exact va_putF (D := (dC, dI)) (ci := ci) (v := V) (ty := ty) (C := q.1) (T := q.2.1) (N := q.2.2) hx hb hts hvw ty0 hty hnm hown hK q5 q6 q7 a.2 hw' hq k (bb_lt e1.1) (hts _ (wdq_in e2.1)) (fun _ h9 => h9) hf (hin (of_decide_eq_true e5.1)) (of_decide_eq_true e5.2) t1 t2 t3 (by omega) hdg KK

end OPS
