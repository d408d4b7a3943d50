section
/-! 14.vw -/
/-! the classes of the worlds: their words, types, names -/
theorem uw_of {C : String} {T : u_T} {N : Nat} (ps : List (Nat × Nat)) (h : (List.range N).all (fun k => match ps[k]? with | some q => wdq q.1 q.2 (u_lay C T k) | none => false) = true) : ∀ w ∈ u_ws C T N, w ∈ GW := by
  intro w hw
  obtain ⟨k, hk, rfl⟩ := List.mem_map.mp hw
  have h1 := List.all_eq_true.mp h k hk
  cases hp : ps[k]? with
  | none => rw [hp] at h1; cases h1
  | some q => rw [hp] at h1; exact wdq_in h1
theorem uwX0 : ∀ w ∈ u_ws RX0 TX0 2, w ∈ GW := uw_of [(0, 184), (0, 186)] (by decide +kernel)
theorem uwX1 : ∀ w ∈ u_ws RX1 TX1 15, w ∈ GW := uw_of [(1, 6), (1, 8), (1, 10), (1, 12), (1, 14), (1, 16), (1, 18), (1, 20), (1, 22), (1, 24), (1, 26), (1, 28), (1, 30), (1, 32), (1, 34)] (by decide +kernel)
theorem uwX2 : ∀ w ∈ u_ws RX2 TX2 2, w ∈ GW := uw_of [(1, 88), (1, 90)] (by decide +kernel)
theorem uwX3 : ∀ w ∈ u_ws RX3 TX3 9, w ∈ GW := uw_of [(1, 170), (1, 172), (1, 174), (1, 176), (1, 178), (1, 180), (1, 182), (1, 184), (1, 186)] (by decide +kernel)
theorem uwX4 : ∀ w ∈ u_ws RX4 TX4 3, w ∈ GW := uw_of [(1, 141), (1, 143), (1, 145)] (by decide +kernel)
theorem uwX5 : ∀ w ∈ u_ws RX5 TX5 6, w ∈ GW := uw_of [(0, 161), (0, 163), (0, 165), (0, 167), (0, 169), (0, 171)] (by decide +kernel)
theorem uwX6 : ∀ w ∈ u_ws RX6 TX6 2, w ∈ GW := uw_of [(1, 125), (1, 127)] (by decide +kernel)
theorem uwX7 : ∀ w ∈ u_ws RX7 TX7 8, w ∈ GW := uw_of [(1, 63), (1, 65), (1, 67), (1, 69), (1, 71), (1, 73), (1, 75), (1, 77)] (by decide +kernel)
theorem uwX8 : ∀ w ∈ u_ws RX8 TX8 5, w ∈ GW := uw_of [(1, 104), (1, 106), (1, 108), (1, 110), (1, 112)] (by decide +kernel)
theorem uwX9 : ∀ w ∈ u_ws RX9 TX9 12, w ∈ GW := uw_of [(0, 107), (0, 109), (0, 111), (0, 113), (0, 115), (0, 117), (0, 119), (0, 121), (0, 123), (0, 125), (0, 127), (0, 129)] (by decide +kernel)
theorem uwX10 : ∀ w ∈ u_ws RX10 TX10 4, w ∈ GW := uw_of [(1, 203), (1, 205), (1, 207), (1, 209)] (by decide +kernel)
theorem uwX11 : ∀ w ∈ u_ws RX11 TX11 18, w ∈ GW := uw_of [(1, 230), (1, 232), (1, 234), (1, 236), (1, 238), (2, 0), (2, 2), (2, 4), (2, 6), (2, 8), (2, 10), (2, 12), (2, 14), (2, 16), (2, 18), (2, 20), (2, 22), (2, 24)] (by decide +kernel)
theorem uwX12 : ∀ w ∈ u_ws RX12 TX12 34, w ∈ GW := uw_of [(6, 45), (6, 47), (6, 49), (6, 51), (6, 53), (6, 55), (6, 57), (6, 59), (6, 61), (6, 63), (6, 65), (6, 67), (6, 69), (6, 71), (6, 73), (6, 75), (6, 77), (6, 79), (6, 81), (6, 83), (6, 85), (6, 87), (6, 89), (6, 91), (6, 93), (6, 95), (6, 97), (6, 99), (6, 101), (6, 103), (6, 105), (6, 107), (6, 109), (6, 111)] (by decide +kernel)
def VwOk : Prop := ∀ (ci : Nat) (q : vw_C), vwCl[ci]? = some q → (∀ w ∈ u_ws q.1 q.2.1 q.2.2, w ∈ GW) ∧ (∃ ty0 : Nat → FieldType, ∀ k, k < q.2.2 → parseFieldDescriptor (q.2.1 k).2.2.1 = some (ty0 k)) ∧ (∀ a, a < q.2.2 → ∀ b, b < q.2.2 → a ≠ b → (q.2.1 a).2.1 ≠ (q.2.1 b).2.1) ∧ ci < 13
theorem vw_ok : VwOk := by
  intro ci q hq
  match ci, hq with
  | 0, hq => cases hq; exact ⟨uwX0, ⟨tyX0, tyX0_ok⟩, nmX0, by decide⟩
  | 1, hq => cases hq; exact ⟨uwX1, ⟨tyX1, tyX1_ok⟩, nmX1, by decide⟩
  | 2, hq => cases hq; exact ⟨uwX2, ⟨tyX2, tyX2_ok⟩, nmX2, by decide⟩
  | 3, hq => cases hq; exact ⟨uwX3, ⟨tyX3, tyX3_ok⟩, nmX3, by decide⟩
  | 4, hq => cases hq; exact ⟨uwX4, ⟨tyX4, tyX4_ok⟩, nmX4, by decide⟩
  | 5, hq => cases hq; exact ⟨uwX5, ⟨tyX5, tyX5_ok⟩, nmX5, by decide⟩
  | 6, hq => cases hq; exact ⟨uwX6, ⟨tyX6, tyX6_ok⟩, nmX6, by decide⟩
  | 7, hq => cases hq; exact ⟨uwX7, ⟨tyX7, tyX7_ok⟩, nmX7, by decide⟩
  | 8, hq => cases hq; exact ⟨uwX8, ⟨tyX8, tyX8_ok⟩, nmX8, by decide⟩
  | 9, hq => cases hq; exact ⟨uwX9, ⟨tyX9, tyX9_ok⟩, nmX9, by decide⟩
  | 10, hq => cases hq; exact ⟨uwX10, ⟨tyX10, tyX10_ok⟩, nmX10, by decide⟩
  | 11, hq => cases hq; exact ⟨uwX11, ⟨tyX11, tyX11_ok⟩, nmX11, by decide⟩
  | 12, hq => cases hq; exact ⟨uwX12, ⟨tyX12, tyX12_ok⟩, nmX12, by decide⟩
  | n + 13, hq => simp [vwCl] at hq
end
section
/-! 15.fld -/
/-! THE ABSTRACT MACHINE, 11: fields and arrays -/

theorem Er.obj {sp : Nat → Nat} {dA : Nat → ClassId} {ρ ad : List Nat} {c : AC} {E : va_E} (h : Er sp dA ρ ad c E) (hk : c.1 < 100) : ∃ VS : List Value, E = .inr (c.1, VS) ∧ VS.length = c.2.1 ∧ ∀ (j : Nat) (v : AV), ax_el c.2.2 j = some v → ∃ V, VS[j]? = some V ∧ Rp sp ρ ad v V := by
  rcases h with ⟨-, h⟩ | ⟨a, -⟩ | ⟨a, -⟩ | ⟨a, -⟩
  · exact h
  · omega
  · omega
  · omega
theorem Er.ints {sp : Nat → Nat} {dA : Nat → ClassId} {ρ ad : List Nat} {c : AC} {E : va_E} (h : Er sp dA ρ ad c E) (hk : c.1 = 100 ∨ c.1 = 102) : ∃ f : Nat → Int32, E = .inl (dA c.1, c.2.1, .inl f) ∧ ∀ (j : Nat) (v : AV), ax_el c.2.2 j = some v → j < c.2.1 ∧ Rp sp ρ ad v (.int (f j)) := by
  rcases h with ⟨a, -⟩ | ⟨-, h⟩ | ⟨a, -⟩ | ⟨a, -⟩
  · omega
  · exact h
  · omega
  · omega
theorem Er.longs {sp : Nat → Nat} {dA : Nat → ClassId} {ρ ad : List Nat} {c : AC} {E : va_E} (h : Er sp dA ρ ad c E) (hk : c.1 = 101) : ∃ f : Nat → Int64, E = .inl (dA c.1, c.2.1, .inr (.inl f)) ∧ ∀ (j : Nat) (v : AV), ax_el c.2.2 j = some v → j < c.2.1 ∧ Rp sp ρ ad v (.long (f j)) := by
  rcases h with ⟨a, -⟩ | ⟨a, -⟩ | ⟨-, h⟩ | ⟨a, -⟩
  · omega
  · omega
  · exact h
  · omega
theorem Er.refs {sp : Nat → Nat} {dA : Nat → ClassId} {ρ ad : List Nat} {c : AC} {E : va_E} (h : Er sp dA ρ ad c E) (hk : 103 ≤ c.1 ∧ c.1 ≤ 105) : ∃ f : Nat → Option Nat, E = .inl (dA c.1, c.2.1, .inr (.inr (.inr (.inr f)))) ∧ ∀ (j : Nat) (v : AV), ax_el c.2.2 j = some v → j < c.2.1 ∧ Rp sp ρ ad v (va_rf (f j)) := by
  rcases h with ⟨a, -⟩ | ⟨a, -⟩ | ⟨a, -⟩ | ⟨-, h⟩
  · omega
  · omega
  · omega
  · exact h
theorem bb_nb {a b : Nat} (h : a ≠ b) : Nat.beq a b = false := by
  cases hq : Nat.beq a b with
  | false => rfl
  | true => exact absurd (bb_eq hq) h
theorem tg {v : AV} {t : Nat} (h : Nat.beq v.1 t = true) : v = (t, v.2) := by
  obtain ⟨a, b⟩ := v
  have : a = t := bb_eq h
  subst this
  rfl
theorem vp_n {n N : Nat} (h : n < N) (h2 : n < 2147483648) : vp_in (nI n) N := fun q => q.elim (nI_pos (by omega)) (fun q => by rw [nI_clamp (by omega)] at q; omega)
theorem ty_fit {d : String} {v : AV} (h : ax_fit (ax_ty d) v = true) {sp : Nat → Nat} {ρ ad : List Nat} {V : Value} (hV : Rp sp ρ ad v V) : ∃ ty, parseFieldDescriptor d = some ty ∧ narrow ty V = V ∧ fits ty V = true := by
  unfold ax_ty at h
  cases hp : parseFieldDescriptor d with
  | none => rw [hp] at h; cases h
  | some ty =>
    rw [hp] at h
    refine ⟨ty, rfl, ?_⟩
    cases ty <;> first | (cases h; done) | skip
    case int => obtain ⟨x, rfl⟩ := hV.tI h; exact ⟨rfl, rfl⟩
    case long => obtain ⟨x, rfl⟩ := hV.tL h; exact ⟨rfl, rfl⟩
    case boolean =>
      have w := bb_and (a := Nat.beq v.1 0) h
      rw [tg w.1] at hV
      have w2 := bb_le w.2
      have hV : V = .int (nI v.2) := hV
      subst hV
      rcases (show v.2 = 0 ∨ v.2 = 1 by omega) with e | e <;> rw [e] <;> exact ⟨by decide +kernel, by decide +kernel⟩
    case object n => rw [tg (v := v) (t := 2) h] at hV; obtain ⟨a, -, rfl⟩ := hV; exact ⟨rfl, rfl⟩
    case array t => rw [tg (v := v) (t := 2) h] at hV; obtain ⟨a, -, rfl⟩ := hV; exact ⟨rfl, rfl⟩

section OPS
variable {sb : Nat → List Nat} {mt : Nat → Nat → Option MR} {dC : Nat → ClassId} {dI : Nat → Nat → Nat} {dA : Nat → ClassId} {sp : Nat → Nat} {H0 : Heap} {l : Launch}
variable {ih : GO} {p : Program} {e : Env} {R : Room} {s : State} {m : MethodId} {args : Array Value} {below : List Frame} {meth : Method} {c : Code} {Q : State → Prop} {ρ0 ad0 : List Nat} {M : MR} {cut pc len : Nat} {ins : Instr} {lk : List Nat} {cd tl : List ME} {σ : AS} {h : AH} {nc ns : Nat} {lv : AL} {st : List AV} {outs : List AO}

theorem sn_getf (hI : Snd sb mt dC dI dA sp H0 l ih) (hM : Mok mt M) (htl : ∀ x ∈ tl, x ∈ M.2.2.2.2.2.2) (hX : CX sb dC dI dA sp H0 ρ0 M p R s m args meth c) (hR : ∀ o ∈ outs, RO dC dI dA sp H0 l p e R s m args below meth c Q ρ0 ad0 M o) (hdg : decode M.2.1 pc = .ok (ins, len)) (hlen : len = ax_len ins) (hlk : lok mt M pc ins lk = true) (ho : ax_op ins = 8)
    (hr : ax_getf lk h st (fun s' => ih M cut (pc + len) tl σ h nc ns lv s') = some outs) : GG dC dI dA sp H0 l p e R s m args below meth c Q ρ0 ad0 M.2.2.1 pc σ h nc ns lv st := by
  unfold ax_getf at hr
  obtain ⟨ci, lk1, rfl, hr1⟩ := lc_s hr
  obtain ⟨k, lk2, rfl, hr2⟩ := lc_s hr1
  obtain ⟨a, r, rfl, hr3⟩ := lc_s hr2
  obtain ⟨hx, hb, hml, hown, hts, hK, hlocks, hrt, hin, hRoom, hO⟩ := id hX
  intro ρ ad ws H locs ls LV ST q1 q2 q3 q4 q5 q6 q7 q8 q9 q10
  obtain ⟨A, ST2, rfl, hA, q12⟩ := q10.cons
  cases ins <;> first | (exact absurd ho (Nat.ne_of_beq_eq_false rfl)) | skip
  case getfield idx =>
    subst hlen
    cases lk2 with
    | nil => cases hlk
    | cons c1 lk3 =>
    cases lk3 with
    | nil => cases hlk
    | cons j1 lk4 =>
    have hl : (bif Nat.beq ci 200 then (bif Nat.beq k 0 then wdq c1 j1 (.fieldLink M.1.cls idx sSTR "value" "[B") else wdq c1 j1 (.fieldLink M.1.cls idx sSTR "coder" "B")) else (match vwCl[ci]? with
        | some q => Nat.blt k q.2.2 && wdq c1 j1 (.fieldLink M.1.cls idx (q.2.1 k).1 (q.2.1 k).2.1 (q.2.1 k).2.2.1)
        | none => false)) = true := hlk
    cases hb2 : Nat.beq a.1 2 with
    | true =>
      rw [hb2] at hr3
      obtain ⟨cl, ec, hr4⟩ := ob_s (o := ax_hn h a.2) hr3
      obtain ⟨g1, hr5⟩ := gd_s hr4
      obtain ⟨v, ev, hr6⟩ := ob_s hr5
      have w := bb_and g1
      have w1 := bb_eq w.1
      have w2 := bb_lt w.2
      rw [tg hb2] at hA
      obtain ⟨a0, E, hw, rfl, hE⟩ := q4.get ec hA
      obtain ⟨VS, rfl, hVl, hVS⟩ := hE.obj (by omega)
      obtain ⟨V, hV, hRV⟩ := hVS k v ev
      rw [show Nat.beq ci 200 = false from bb_nb (by omega)] at hl
      cases hq : vwCl[ci]? with
      | none => rw [show (bif false then (bif Nat.beq k 0 then wdq c1 j1 (.fieldLink M.1.cls idx sSTR "value" "[B") else wdq c1 j1 (.fieldLink M.1.cls idx sSTR "coder" "B")) else (match vwCl[ci]? with | some q => Nat.blt k q.2.2 && wdq c1 j1 (.fieldLink M.1.cls idx (q.2.1 k).1 (q.2.1 k).2.1 (q.2.1 k).2.2.1) | none => false)) = (match vwCl[ci]? with | some q => Nat.blt k q.2.2 && wdq c1 j1 (.fieldLink M.1.cls idx (q.2.1 k).1 (q.2.1 k).2.1 (q.2.1 k).2.2.1) | none => false) from rfl, hq] at hl; cases hl
      | some q =>
        have hl2 : (match vwCl[ci]? with | some q => Nat.blt k q.2.2 && wdq c1 j1 (.fieldLink M.1.cls idx (q.2.1 k).1 (q.2.1 k).2.1 (q.2.1 k).2.2.1) | none => false) = true := hl
        rw [hq] at hl2
        have u := bb_and (a := Nat.blt k q.2.2) hl2
        have hvw := vw_ok ci q hq
        exact va_get (D := (dC, dI)) (ci := ci) (v := V) (C := q.1) (T := q.2.1) (N := q.2.2) hx hb hts hvw.1 hown hK q5 a.2 (by rw [← w1]; exact hw) hq k (bb_lt u.1) (hts _ (wdq_in u.2)) (fun _ h9 => h9) hV hdg ((hI p e R s m args below meth c Q ρ0 ad0 M cut _ tl _ _ _ _ _ _ outs hM htl hX hr6 hR) ρ ad ws H locs ls LV (V :: ST2) q1 q2 q3 q4 q5 q6 q7 q8 q9 ⟨hRV, q12⟩)
    | false =>
      rw [hb2] at hr3
      obtain ⟨g1, hr4⟩ := gd_s (b := Nat.beq a.1 6 && (Nat.beq ci 200 && (Nat.beq a.2 1 || Nat.beq a.2 3))) hr3
      have w := bb_and g1
      have w1 := bb_and w.2
      rw [w1.1] at hl
      rw [tg w.1] at hA
      have hA : A = .ref (sp a.2) := hA
      subst hA
      have hso : SO sp sb H0 a.2 s := by
        rcases (Bool.or_eq_true _ _).mp w1.2 with z | z
        · rw [bb_eq z]; exact hO.2.1
        · rw [bb_eq z]; exact hO.2.2.1
      have hkp : ∀ a : Nat, a < H0.size → ¬ (aA H0) a → H[a]? = H0[a]? := fun a h1 h2 => q7.2.1 a h1 h2
      cases hk : Nat.beq k 0 with
      | true =>
        rw [hk] at hr4 hl
        obtain ⟨cf, k9, fi, f, cell, z1, z2, z3, z4, z5, z6⟩ := hso.2.2.1.kept hkp
        exact W.getf hx hb hown (hts _ (wdq_in hl)) z1 z2 z3 z4 (v := .ref (sp (a.2 + 1))) z5 rfl rfl hdg ((hI p e R s m args below meth c Q ρ0 ad0 M cut _ tl _ _ _ _ _ _ outs hM htl hX hr4 hR) ρ ad ws H locs ls LV (.ref (sp (a.2 + 1)) :: ST2) q1 q2 q3 q4 q5 q6 q7 q8 q9 ⟨rfl, q12⟩)
      | false =>
        rw [hk] at hr4 hl
        obtain ⟨cf, k9, fi, f, cell, z1, z2, z3, z4, z5, z6⟩ := hso.2.1.kept hkp
        exact W.getf hx hb hown (hts _ (wdq_in hl)) z1 z2 z3 z4 (v := .int 0) z5 rfl rfl hdg ((hI p e R s m args below meth c Q ρ0 ad0 M cut _ tl _ _ _ _ _ _ outs hM htl hX hr4 hR) ρ ad ws H locs ls LV (.int 0 :: ST2) q1 q2 q3 q4 q5 q6 q7 q8 q9 ⟨by show Value.int 0 = Value.int (nI 0); rw [nI_0], q12⟩)

theorem sn_putf (hI : Snd sb mt dC dI dA sp H0 l ih) (hM : Mok mt M) (htl : ∀ x ∈ tl, x ∈ M.2.2.2.2.2.2) (hX : CX sb dC dI dA sp H0 ρ0 M p R s m args meth c) (hR : ∀ o ∈ outs, RO dC dI dA sp H0 l p e R s m args below meth c Q ρ0 ad0 M o) (hdg : decode M.2.1 pc = .ok (ins, len)) (hlen : len = ax_len ins) (hlk : lok mt M pc ins lk = true) (ho : ax_op ins = 9)
    (hr : ax_putf lk h st (fun h' r => ih M cut (pc + len) tl σ h' nc ns lv r) = some outs) : GG dC dI dA sp H0 l p e R s m args below meth c Q ρ0 ad0 M.2.2.1 pc σ h nc ns lv st := by
  unfold ax_putf at hr
  obtain ⟨ci, lk1, rfl, hr1⟩ := lc_s hr
  obtain ⟨k, lk2, rfl, hr2⟩ := lc_s hr1
  obtain ⟨tc, lk3, rfl, hr3⟩ := lc_s hr2
  obtain ⟨v, st1, rfl, hr4⟩ := lc_s hr3
  obtain ⟨a, r, rfl, hr5⟩ := lc_s hr4
  obtain ⟨g1, hr6⟩ := gd_s hr5
  obtain ⟨cl, ec, hr7⟩ := ob_s hr6
  obtain ⟨g2, hr8⟩ := gd_s hr7
  rw [ax_st_eq] at hr8
  obtain ⟨h', hr9, hh1, hh2⟩ := ax_hs_ok hr8
  obtain ⟨hx, hb, hml, hown, hts, hK, hlocks, hrt, hin, hRoom, hO⟩ := id hX
  intro ρ ad ws H locs ls LV ST q1 q2 q3 q4 q5 q6 q7 q8 q9 q10
  obtain ⟨V, ST1, rfl, hV, q11⟩ := q10.cons
  obtain ⟨A, ST2, rfl, hA, q12⟩ := q11.cons
  have w := bb_and g1
  have u := bb_and g2
  have u1 := bb_eq u.1
  have u2 := bb_and u.2
  have u3 := bb_lt u2.1
  have u4 := bb_lt u2.2
  rw [tg w.1] at hA
  obtain ⟨a0, E, hw, rfl, hE⟩ := q4.get ec hA
  obtain ⟨VS, rfl, hVl, hVS⟩ := hE.obj (by omega)
  cases ins <;> first | (exact absurd ho (Nat.ne_of_beq_eq_false rfl)) | skip
  case putfield idx =>
    subst hlen
    cases lk3 with
    | nil => cases hlk
    | cons c1 lk4 =>
    cases lk4 with
    | nil => cases hlk
    | cons j1 lk5 =>
    have hl : (match vwCl[ci]? with
        | some q => Nat.blt k q.2.2 && (wdq c1 j1 (.fieldLink M.1.cls idx (q.2.1 k).1 (q.2.1 k).2.1 (q.2.1 k).2.2.1) && (Nat.beq (ax_ty (q.2.1 k).2.2.1) tc && (!(q.2.1 k).2.2.2 || (decide (M.1.name = "<init>") && decide ((q.2.1 k).1 = M.1.cls)))))
        | none => false) = true := hlk
    cases hq : vwCl[ci]? with
    | none => rw [hq] at hl; cases hl
    | some q =>
      rw [hq] at hl
      have e1 := bb_and (a := Nat.blt k q.2.2) hl
      have e2 := bb_and e1.2
      have e3 := bb_and e2.2
      have e4 := bb_eq e3.1
      obtain ⟨hvw, ⟨ty0, hty⟩, hnm, -⟩ := vw_ok ci q hq
      obtain ⟨ty, t1, t2, t3⟩ := ty_fit (d := (q.2.1 k).2.2.1) (by rw [e4]; exact w.2) hV
      have hE' : Er sp dA ρ ad (cl.1, cl.2.1, ax_stv cl.2.2 k v) (.inr (ci, VS.set k V)) := Or.inl ⟨by show cl.1 < 100; omega, VS.set k V, by rw [u1], by show (VS.set k V).length = cl.2.1; simp [hVl], fun j y hy => by
        rcases ax_el_stv hy with ⟨rfl, rfl⟩ | ⟨hj, hy⟩
        · exact ⟨V, by rw [List.getElem?_set_self (by omega)], hV⟩
        · obtain ⟨Y, y1, y2⟩ := hVS j y hy
          exact ⟨Y, by rw [List.getElem?_set_ne (fun z => hj z.symm)]; exact y1, y2⟩⟩
      have hw' : ws[a.2]? = some (a0, .inr (ci, VS)) := by rw [← u1]; exact hw
      have KK : ∀ (H1 : Heap) (locs1 : List Loc), va_P (dC, dI) vwCl (ws.set a.2 (a0, .inr (ci, VS.set k V))) H1 → va_D (aA H0) (ws.set a.2 (a0, .inr (ci, VS.set k V))) → va_S (aA H0) H0 H1 locs1 → W p l e R s m args below meth c H1 locs1 nc ns Q (F0 m (pc + 3) ls ST2) := fun H1 locs1 z1 z2 z3 =>
        (hI p e R s m args below meth c Q ρ0 ad0 M cut _ tl _ _ _ _ _ _ outs hM htl hX hr9 hR) ρ ad _ H1 locs1 ls LV ST2 q1 q2 q3 (q4.set hw' hh1 hh2 hE') z1 z2 z3 q8 q9 q12
      cases hf : (q.2.1 k).2.2.2 with
      | false => exact va_put (D := (dC, dI)) (ci := ci) (v := V) (ty := ty) (C := q.1) (T := q.2.1) (N := q.2.2) hx hb hts hvw ty0 hty hnm hown hK q5 q6 q7 a.2 hw' hq k (bb_lt e1.1) (hts _ (wdq_in e2.1)) (fun _ h9 => h9) hf t1 t2 t3 (by omega) hdg KK
      | true =>
        rw [hf] at e3
        have e5 := bb_and (a := decide (M.1.name = "<init>")) e3.2
        exact va_putF (D := (dC, dI)) (ci := ci) (v := V) (ty := ty) (C := q.1) (T := q.2.1) (N := q.2.2) hx hb hts hvw ty0 hty hnm hown hK q5 q6 q7 a.2 hw' hq k (bb_lt e1.1) (hts _ (wdq_in e2.1)) (fun _ h9 => h9) hf (hin (of_decide_eq_true e5.1)) (of_decide_eq_true e5.2) t1 t2 t3 (by omega) hdg KK

end OPS
end
section
/-! 16.arr -/
/-! THE ABSTRACT MACHINE, 12: arrays -/
section OPS
variable {sb : Nat → List Nat} {mt : Nat → Nat → Option MR} {dC : Nat → ClassId} {dI : Nat → Nat → Nat} {dA : Nat → ClassId} {sp : Nat → Nat} {H0 : Heap} {l : Launch}
variable {ih : GO} {p : Program} {e : Env} {R : Room} {s : State} {m : MethodId} {args : Array Value} {below : List Frame} {meth : Method} {c : Code} {Q : State → Prop} {ρ0 ad0 : List Nat} {M : MR} {cut pc len : Nat} {ins : Instr} {lk : List Nat} {cd tl : List ME} {σ : AS} {h : AH} {nc ns : Nat} {lv : AL} {st : List AV} {outs : List AO}

theorem ax_all_s {l : List RS} {outs : List AO} (h : ax_all l = some outs) : ∀ x ∈ l, ∃ o, x = some o ∧ ∀ z ∈ o, z ∈ outs := by
  induction l generalizing outs with
  | nil => intro x hx; cases hx
  | cons y t ih =>
    obtain ⟨u, v, e1, e2, rfl⟩ := ax_two_s (x := y) (y := ax_all t) h
    intro x hx
    rcases List.mem_cons.mp hx with rfl | hx
    · exact ⟨u, e1, fun z hz => List.mem_append_left _ hz⟩
    · obtain ⟨o, e3, e4⟩ := ih e2 x hx
      exact ⟨o, e3, fun z hz => List.mem_append_right _ (e4 z hz)⟩

theorem sn_spl {i : AV} {x : Int32} (hI : Snd sb mt dC dI dA sp H0 l ih) (hM : Mok mt M) (htl : ∀ x ∈ tl, x ∈ M.2.2.2.2.2.2) (hX : CX sb dC dI dA sp H0 ρ0 M p R s m args meth c) (hR : ∀ o ∈ outs, RO dC dI dA sp H0 l p e R s m args below meth c Q ρ0 ad0 M o)  (hcd : ∀ x ∈ cd, x ∈ M.2.2.2.2.2.2) (hr : ax_spl σ i (fun σ' => ih M cut pc cd σ' h nc ns lv st) = some outs) {ρ ad : List Nat} {ws : va_W} {H : Heap} {locs : List Loc} {ls : Array Slot} {LV : List (Nat × Value)} {ST : List Value} (q1 : Sb ρ0 ρ) (q2 : Sb ad0 ad) (q3 : St ρ σ) (q4 : Hr sp dA ρ ad h ws) (q5 : va_P (dC, dI) vwCl ws H) (q6 : va_D (aA H0) ws) (q7 : va_S (aA H0) H0 H locs) (q8 : Rl sp ρ ad lv LV) (q9 : lv_has ls M.2.2.1 LV) (q10 : Rs sp ρ ad st ST) (hi : Rp sp ρ ad i (.int x)) : W p l e R s m args below meth c H locs nc ns Q (F0 m pc ls ST) := by
  unfold ax_spl at hr
  obtain ⟨g1, hr1⟩ := gd_s hr
  obtain ⟨q, eq, hr2⟩ := ob_s hr1
  obtain ⟨g2, hr3⟩ := gd_s hr2
  rw [tg g1] at hi
  obtain ⟨z, hz, -⟩ := hi
  rw [ax_nth_eq] at eq
  obtain ⟨q', e1, e2, e3⟩ := q3.2 _ z hz
  cases eq.symm.trans e1
  obtain ⟨o, e4, e5⟩ := ax_all_s hr3 _ (List.mem_map.mpr ⟨z - q.1, List.mem_range.mpr (by omega), rfl⟩)
  rw [ax_set_eq] at e4
  refine (hI p e R s m args below meth c Q ρ0 ad0 M cut _ cd _ _ _ _ _ _ o hM hcd hX e4 (fun y hy => hR y (e5 y hy))) ρ ad ws H locs ls LV ST q1 q2 ?_ q4 q5 q6 q7 q8 q9 q10
  exact q3.cut (fun y hy => by rw [hz] at hy; cases hy; exact ⟨by omega, by omega⟩)

theorem sn_ald (hsb : ∀ x, (sb x).length ≤ 1000) {kd : Nat} (hI : Snd sb mt dC dI dA sp H0 l ih) (hM : Mok mt M) (htl : ∀ x ∈ tl, x ∈ M.2.2.2.2.2.2) (hX : CX sb dC dI dA sp H0 ρ0 M p R s m args meth c) (hR : ∀ o ∈ outs, RO dC dI dA sp H0 l p e R s m args below meth c Q ρ0 ad0 M o) (hdg : decode M.2.1 pc = .ok (ins, len)) (hlen : len = ax_len ins) (hlk : lok mt M pc ins lk = true) (hcd : ∀ x ∈ cd, x ∈ M.2.2.2.2.2.2) (ho : ax_op ins + 90 = kd) (ho2 : 100 ≤ kd) (ho3 : kd ≤ 103)
    (hr : ax_b1a kd sb ih M cut pc (pc + len) cd tl σ h nc ns lv st = some outs) : GG dC dI dA sp H0 l p e R s m args below meth c Q ρ0 ad0 M.2.2.1 pc σ h nc ns lv st := by
  unfold ax_b1a at hr
  obtain ⟨i, st1, e1, hr1⟩ := lc_s hr
  obtain ⟨a, r, e2, hr2⟩ := lc_s hr1
  obtain ⟨hx, hb, hml, hown, hts, hK, hlocks, hrt, hin, hRoom, hO⟩ := id hX
  intro ρ ad ws H locs ls LV ST q1 q2 q3 q4 q5 q6 q7 q8 q9 q10
  have q10' := q10
  rw [e1, e2] at q10'
  obtain ⟨I, ST1, hST1, hI1, q11⟩ := q10'.cons
  obtain ⟨A, ST2, hST2, hA, q12⟩ := q11.cons
  have hin2 : kd = 100 ∧ ins = .iaload ∨ kd = 101 ∧ ins = .laload ∨ kd = 102 ∧ ins = .baload ∨ kd = 103 ∧ ins = .aaload := by
    cases ins <;> first | (exfalso; simp only [ax_op] at ho; omega) | skip
    case iaload => exact Or.inl ⟨ho.symm, rfl⟩
    case laload => exact Or.inr (Or.inl ⟨ho.symm, rfl⟩)
    case baload => exact Or.inr (Or.inr (Or.inl ⟨ho.symm, rfl⟩))
    case aaload => exact Or.inr (Or.inr (Or.inr ⟨ho.symm, rfl⟩))
  have hlen1 : len = 1 := by rw [hlen]; rcases hin2 with ⟨-, rfl⟩ | ⟨-, rfl⟩ | ⟨-, rfl⟩ | ⟨-, rfl⟩ <;> rfl
  subst hlen1
  cases hn : Nat.beq (ax_nv σ i).1 0 with
  | false =>
    rw [hn] at hr2
    have hr3 : ax_spl σ i (fun σ' => ih M cut pc cd σ' h nc ns lv st) = some outs := hr2
    have hr4 := hr3
    unfold ax_spl at hr4
    obtain ⟨g1, -⟩ := gd_s hr4
    obtain ⟨x, rfl⟩ := hI1.tI (by unfold ax_tI; rw [g1]; exact Bool.or_true _)
    exact sn_spl hI hM htl hX hR hcd hr3 q1 q2 q3 q4 q5 q6 q7 q8 q9 q10 hI1
  | true =>
    rw [hn] at hr2
    have hnv := ax_nv_ok q3 hI1
    generalize ax_nv σ i = iv at hn hr2 hnv
    rw [tg hn] at hnv
    have hnv : I = .int (nI iv.2) := hnv
    subst hnv
    rw [hST1, hST2]
    cases ha : Nat.beq a.1 2 with
    | true =>
      rw [ha] at hr2
      have hr3 : ax_ald kd h iv a r (fun s' => ih M cut (pc + 1) tl σ h nc ns lv s') = some outs := hr2
      unfold ax_ald at hr3
      obtain ⟨cl, ec, hr4⟩ := ob_s hr3
      obtain ⟨g1, hr5⟩ := gd_s hr4
      obtain ⟨v, ev, hr6⟩ := ob_s hr5
      have w := bb_and g1
      have w2 := bb_and w.2
      have hlt := bb_lt w2.1
      have hb31 := bb_lt w2.2
      have hvp := vp_n hlt hb31
      have hcl : (nI iv.2).toNatClampNeg = iv.2 := nI_clamp (by omega)
      rw [tg ha] at hA
      obtain ⟨a0, E, hw, rfl, hE⟩ := q4.get ec hA
      have G := (hI p e R s m args below meth c Q ρ0 ad0 M cut _ tl _ _ _ _ _ _ outs hM htl hX hr6 hR)
      rcases hin2 with ⟨rfl, rfl⟩ | ⟨rfl, rfl⟩ | ⟨rfl, rfl⟩ | ⟨rfl, rfl⟩
      · have hk : cl.1 = 100 := bb_eq w.1
        obtain ⟨f, rfl, hf⟩ := hE.ints (Or.inl hk)
        rw [hk] at hw
        exact va_iald hx hb hK q5 a.2 0 hw rfl hvp hdg (G ρ ad ws H locs ls LV _ q1 q2 q3 q4 q5 q6 q7 q8 q9 ⟨by rw [hcl]; exact (hf _ _ ev).2, q12⟩)
      · have hk : cl.1 = 101 := bb_eq w.1
        obtain ⟨f, rfl, hf⟩ := hE.longs hk
        rw [hk] at hw
        exact va_lald hx hb hK q5 a.2 1 hw rfl hvp hdg (G ρ ad ws H locs ls LV _ q1 q2 q3 q4 q5 q6 q7 q8 q9 ⟨by rw [hcl]; exact (hf _ _ ev).2, q12⟩)
      · have hk : cl.1 = 102 := bb_eq w.1
        obtain ⟨f, rfl, hf⟩ := hE.ints (Or.inr hk)
        rw [hk] at hw
        exact va_bald hx hb hK q5 a.2 2 hw rfl hvp hdg (G ρ ad ws H locs ls LV _ q1 q2 q3 q4 q5 q6 q7 q8 q9 ⟨by rw [hcl]; exact (hf _ _ ev).2, q12⟩)
      · have hk := bb_and (a := Nat.ble 103 cl.1) w.1
        have k1 := bb_le hk.1
        have k2 := bb_le hk.2
        obtain ⟨f, rfl, hf⟩ := hE.refs ⟨k1, k2⟩
        have KK := G ρ ad ws H locs ls LV (va_rf (f (nI iv.2).toNatClampNeg) :: ST2) q1 q2 q3 q4 q5 q6 q7 q8 q9 ⟨by rw [hcl]; exact (hf _ _ ev).2, q12⟩
        rcases (show cl.1 = 103 ∨ cl.1 = 104 ∨ cl.1 = 105 by omega) with e | e | e
        · rw [e] at hw; exact va_aldq hx hb hK q5 a.2 3 hw rfl hvp hdg KK
        · rw [e] at hw; exact va_aldq hx hb hK q5 a.2 4 hw rfl hvp hdg KK
        · rw [e] at hw; exact va_aldq hx hb hK q5 a.2 5 hw rfl hvp hdg KK
    | false =>
      rw [ha] at hr2
      obtain ⟨g0, hr3⟩ := gd_s (b := Nat.beq a.1 6) hr2
      rw [tg g0] at hA
      have hA : A = .ref (sp a.2) := hA
      subst hA
      unfold ax_old at hr3
      have hkp : ∀ a : Nat, a < H0.size → ¬ (aA H0) a → H[a]? = H0[a]? := fun a h1 h2 => q7.2.1 a h1 h2
      cases hk : Nat.beq kd 100 with
      | true =>
        rw [hk] at hr3
        obtain ⟨g1, hr4⟩ := gd_s (b := Nat.beq a.2 0 && Nat.blt iv.2 6) hr3
        obtain ⟨q, eq, hr5⟩ := ob_s hr4
        obtain ⟨g2, hr6⟩ := gd_s hr5
        have w := bb_and g1
        have w1 := bb_eq w.1
        have w2 := bb_lt w.2
        have w3 := bb_eq g2
        rw [ax_nth_eq] at eq
        obtain ⟨⟨L, xs, x1, x2, x3, x4, x5, x6⟩, -⟩ := hO
        have x4' := q1 _ _ x4
        obtain ⟨q', e5, e6, e7⟩ := q3.2 _ _ x4'
        cases eq.symm.trans e5
        have hL : 6 ≤ L := by omega
        rw [w1]
        have hin3 : ins = .iaload := by rcases hin2 with ⟨-, h9⟩ | ⟨h9, -⟩ | ⟨h9, -⟩ | ⟨h9, -⟩ <;> first | exact h9 | (rw [h9] at hk; cases hk)
        subst hin3
        exact va_sld hx hb x1 x2 (Nat.not_le.mpr x2) q7 (vp_n (by omega) (by omega)) hdg ((hI p e R s m args below meth c Q ρ0 ad0 M cut _ tl _ _ _ _ _ _ outs hM htl hX hr6 hR) ρ ad ws H locs ls LV _ q1 q2 q3 q4 q5 q6 q7 q8 q9 ⟨by
          rw [nI_clamp (by omega)]
          exact ⟨zI (xs iv.2), q1 _ _ (x5 iv.2 w2), by rw [zI_back]⟩, q12⟩)
      | false =>
        rw [hk] at hr3
        obtain ⟨g1, hr4⟩ := gd_s (b := Nat.beq kd 102 && (Nat.beq a.2 2 || Nat.beq a.2 4)) hr3
        obtain ⟨n, en, hr5⟩ := ob_s hr4
        have w := bb_and g1
        rw [ax_nth_eq] at en
        have hin3 : ins = .baload := by rcases hin2 with ⟨h9, -⟩ | ⟨h9, -⟩ | ⟨-, h9⟩ | ⟨h9, -⟩ <;> first | exact h9 | (rw [h9] at w; exact absurd w.1 (by decide))
        subst hin3
        have hso : ∃ y, a.2 = y + 1 ∧ SO sp sb H0 y s := by
          rcases (Bool.or_eq_true _ _).mp w.2 with z | z
          · exact ⟨1, bb_eq z, hO.2.1⟩
          · exact ⟨3, bb_eq z, hO.2.2.1⟩
        obtain ⟨y, ey, hso⟩ := hso
        have hT := hso.2.2.2.kept hkp
        rw [← ey] at hT
        obtain ⟨cell, z1, z2, z3, z4, z5, z6, z7⟩ := hT
        have hlt : iv.2 < (sb a.2).length := (List.getElem?_eq_some_iff.mp en).1
        have hb31 : iv.2 < 2147483648 := by
          rcases Nat.lt_or_ge iv.2 2147483648 with z | z
          · exact z
          · exfalso
            have h8 : (sb a.2).length ≤ 1000 := hsb a.2
            omega
        have hcl : (nI iv.2).toNatClampNeg = iv.2 := nI_clamp (by omega)
        exact W.bald (v := .int (nI n)) hx hb z1 z2 z3 (fun q => q.elim (nI_pos (by omega)) (fun q => by rw [hcl] at q; omega)) (by rw [hcl, z6 _ hlt]; show some (Value.int (nI ((sb a.2).getD iv.2 0))) = _; rw [List.getD_eq_getElem?_getD, en]; rfl) rfl rfl hdg ((hI p e R s m args below meth c Q ρ0 ad0 M cut _ tl _ _ _ _ _ _ outs hM htl hX hr5 hR) ρ ad ws H locs ls LV _ q1 q2 q3 q4 q5 q6 q7 q8 q9 ⟨rfl, q12⟩)

theorem sn_ast {kd : Nat} (hI : Snd sb mt dC dI dA sp H0 l ih) (hM : Mok mt M) (htl : ∀ x ∈ tl, x ∈ M.2.2.2.2.2.2) (hX : CX sb dC dI dA sp H0 ρ0 M p R s m args meth c) (hR : ∀ o ∈ outs, RO dC dI dA sp H0 l p e R s m args below meth c Q ρ0 ad0 M o) (hdg : decode M.2.1 pc = .ok (ins, len)) (hlen : len = ax_len ins) (hlk : lok mt M pc ins lk = true) (hcd : ∀ x ∈ cd, x ∈ M.2.2.2.2.2.2) (ho : ax_op ins + 86 = kd) (ho2 : 100 ≤ kd) (ho3 : kd ≤ 103)
    (hr : ax_b1s kd ih M cut pc (pc + len) cd tl σ h nc ns lv st = some outs) : GG dC dI dA sp H0 l p e R s m args below meth c Q ρ0 ad0 M.2.2.1 pc σ h nc ns lv st := by
  unfold ax_b1s at hr
  obtain ⟨v, st0, e0, hr0⟩ := lc_s hr
  obtain ⟨i, st1, e1, hr1⟩ := lc_s hr0
  obtain ⟨a, r, e2, hr2⟩ := lc_s hr1
  obtain ⟨hx, hb, hml, hown, hts, hK, hlocks, hrt, hin, hRoom, hO⟩ := id hX
  intro ρ ad ws H locs ls LV ST q1 q2 q3 q4 q5 q6 q7 q8 q9 q10
  have q10' := q10
  rw [e0, e1, e2] at q10'
  obtain ⟨V, ST0, hST0, hV, q100⟩ := q10'.cons
  obtain ⟨I, ST1, hST1, hI1, q11⟩ := q100.cons
  obtain ⟨A, ST2, hST2, hA, q12⟩ := q11.cons
  have hin2 : kd = 100 ∧ ins = .iastore ∨ kd = 101 ∧ ins = .lastore ∨ kd = 102 ∧ ins = .bastore ∨ kd = 103 ∧ ins = .aastore := by
    cases ins <;> first | (exfalso; simp only [ax_op] at ho; omega) | skip
    case iastore => exact Or.inl ⟨ho.symm, rfl⟩
    case lastore => exact Or.inr (Or.inl ⟨ho.symm, rfl⟩)
    case bastore => exact Or.inr (Or.inr (Or.inl ⟨ho.symm, rfl⟩))
    case aastore => exact Or.inr (Or.inr (Or.inr ⟨ho.symm, rfl⟩))
  have hlen1 : len = 1 := by rw [hlen]; rcases hin2 with ⟨-, rfl⟩ | ⟨-, rfl⟩ | ⟨-, rfl⟩ | ⟨-, rfl⟩ <;> rfl
  subst hlen1
  cases hn : Nat.beq (ax_nv σ i).1 0 with
  | false =>
    rw [hn] at hr2
    have hr3 : ax_spl σ i (fun σ' => ih M cut pc cd σ' h nc ns lv st) = some outs := hr2
    have hr4 := hr3
    unfold ax_spl at hr4
    obtain ⟨g1, -⟩ := gd_s hr4
    obtain ⟨x, rfl⟩ := hI1.tI (by unfold ax_tI; rw [g1]; exact Bool.or_true _)
    exact sn_spl hI hM htl hX hR hcd hr3 q1 q2 q3 q4 q5 q6 q7 q8 q9 q10 hI1
  | true =>
    rw [hn] at hr2
    have hr3 : ax_ast kd σ h v (ax_nv σ i) a (fun h' => ih M cut (pc + 1) tl σ h' nc ns lv r) = some outs := hr2
    have hnv := ax_nv_ok q3 hI1
    generalize ax_nv σ i = iv at hn hr3 hnv
    rw [tg hn] at hnv
    have hnv : I = .int (nI iv.2) := hnv
    subst hnv
    rw [hST0, hST1, hST2]
    unfold ax_ast at hr3
    obtain ⟨g0, hr4⟩ := gd_s hr3
    obtain ⟨cl, ec, hr5⟩ := ob_s hr4
    obtain ⟨g1, hr6⟩ := gd_s hr5
    rw [ax_st_eq] at hr6
    obtain ⟨h', hr7, hh1, hh2⟩ := ax_hs_ok hr6
    have w := bb_and g1
    have w2 := bb_and w.2
    have hlt := bb_lt w2.1
    have hb31 := bb_lt w2.2
    have hvp := vp_n hlt hb31
    have hcl : (nI iv.2).toNatClampNeg = iv.2 := nI_clamp (by omega)
    rw [tg g0] at hA
    obtain ⟨a0, E, hw, rfl, hE⟩ := q4.get ec hA
    have G := (hI p e R s m args below meth c Q ρ0 ad0 M cut _ tl _ _ _ _ _ _ outs hM htl hX hr7 hR)
    have hsok := w.1
    unfold ax_sok at hsok
    rcases hin2 with ⟨rfl, rfl⟩ | ⟨rfl, rfl⟩ | ⟨rfl, rfl⟩ | ⟨rfl, rfl⟩
    · have y := bb_and (a := Nat.beq cl.1 100) hsok
      have hk : cl.1 = 100 := bb_eq y.1
      obtain ⟨x, rfl⟩ := hV.tI y.2
      obtain ⟨f, rfl, hf⟩ := hE.ints (Or.inl hk)
      have hE' : Er sp dA ρ ad (cl.1, cl.2.1, ax_stv cl.2.2 iv.2 v) (.inl (dA 100, cl.2.1, .inl (upd f (nI iv.2).toNatClampNeg x))) := Or.inr (Or.inl ⟨Or.inl hk, _, by rw [hk], fun j z hz => by
        rw [hcl]
        rcases ax_el_stv hz with ⟨rfl, rfl⟩ | ⟨hj, hz⟩
        · exact ⟨hlt, by rw [pk_us]; exact hV⟩
        · exact ⟨(hf j z hz).1, by rw [pk_un hj]; exact (hf j z hz).2⟩⟩)
      rw [hk] at hw
      exact va_iast hx hb hK q5 q6 q7 a.2 0 hw rfl hvp hdg (fun H1 locs1 z1 z2 z3 => G ρ ad _ H1 locs1 ls LV ST2 q1 q2 q3 (q4.set hw hh1 hh2 hE') z1 z2 z3 q8 q9 q12)
    · have y := bb_and (a := Nat.beq cl.1 101) hsok
      have hk : cl.1 = 101 := bb_eq y.1
      obtain ⟨x, rfl⟩ := hV.tL y.2
      obtain ⟨f, rfl, hf⟩ := hE.longs hk
      have hE' : Er sp dA ρ ad (cl.1, cl.2.1, ax_stv cl.2.2 iv.2 v) (.inl (dA 101, cl.2.1, .inr (.inl (vp_updL f (nI iv.2).toNatClampNeg x)))) := Or.inr (Or.inr (Or.inl ⟨hk, _, by rw [hk], fun j z hz => by
        rw [hcl]
        rcases ax_el_stv hz with ⟨rfl, rfl⟩ | ⟨hj, hz⟩
        · exact ⟨hlt, by rw [pk_uLs]; exact hV⟩
        · exact ⟨(hf j z hz).1, by rw [pk_uLn hj]; exact (hf j z hz).2⟩⟩))
      rw [hk] at hw
      exact va_last hx hb hK q5 q6 q7 a.2 1 hw rfl hvp hdg (fun H1 locs1 z1 z2 z3 => G ρ ad _ H1 locs1 ls LV ST2 q1 q2 q3 (q4.set hw hh1 hh2 hE') z1 z2 z3 q8 q9 q12)
    · have y := bb_and (a := Nat.beq cl.1 102) hsok
      have hk : cl.1 = 102 := bb_eq y.1
      have y2 := y.2
      cases er : ax_rI σ v with
      | none => rw [er] at y2; cases y2
      | some q =>
        rw [er] at y2
        have y3 := bb_and (a := Nat.ble 9223372036854775680 q.1) y2
        have y4 := bb_le y3.1
        have y5 := bb_le y3.2
        obtain ⟨x, rfl, x1, x2, -⟩ := ax_rI_ok q3 hV er
        have hx8 : vp_nar .byte x = x := by
          rw [vp_nar_byte]
          apply Int32.toInt_inj.mp
          have h8 := zI_cast x
          rw [Int8.toInt_toInt32, Int32.toInt_toInt8, Int.bmod_def]
          omega
        obtain ⟨f, rfl, hf⟩ := hE.ints (Or.inr hk)
        have hE' : Er sp dA ρ ad (cl.1, cl.2.1, ax_stv cl.2.2 iv.2 v) (.inl (dA 102, cl.2.1, .inl (upd f (nI iv.2).toNatClampNeg (vp_nar .byte x)))) := Or.inr (Or.inl ⟨Or.inr hk, _, by rw [hk], fun j z hz => by
          rw [hcl, hx8]
          rcases ax_el_stv hz with ⟨rfl, rfl⟩ | ⟨hj, hz⟩
          · exact ⟨hlt, by rw [pk_us]; exact hV⟩
          · exact ⟨(hf j z hz).1, by rw [pk_un hj]; exact (hf j z hz).2⟩⟩)
        rw [hk] at hw
        exact va_bast hx hb hK q5 q6 q7 a.2 2 hw rfl hvp hdg (fun H1 locs1 z1 z2 z3 => G ρ ad _ H1 locs1 ls LV ST2 q1 q2 q3 (q4.set hw hh1 hh2 hE') z1 z2 z3 q8 q9 q12)
    · have y := bb_and (a := Nat.beq v.1 2) hsok
      have y2 := y.2
      cases ek : ax_hn h v.2 with
      | none => rw [ek] at y2; cases y2
      | some cv =>
        rw [ek] at y2
        rw [tg y.1] at hV
        obtain ⟨v0, Ev, hwv, rfl, hEv⟩ := q4.get ek hV
        have y3 : (cl.1 = 103 ∧ cv.1 = 10) ∨ (cl.1 = 104 ∧ cv.1 = 1) ∨ (cl.1 = 105 ∧ cv.1 = 7) := by
          rcases (Bool.or_eq_true _ _).mp y2 with z | z
          · exact Or.inl ⟨bb_eq (bb_and z).1, bb_eq (bb_and z).2⟩
          · rcases (Bool.or_eq_true _ _).mp z with z | z
            · exact Or.inr (Or.inl ⟨bb_eq (bb_and z).1, bb_eq (bb_and z).2⟩)
            · exact Or.inr (Or.inr ⟨bb_eq (bb_and z).1, bb_eq (bb_and z).2⟩)
        obtain ⟨f, rfl, hf⟩ := hE.refs (by omega)
        obtain ⟨VS, rfl, -, -⟩ := hEv.obj (by omega)
        have hE' : Er sp dA ρ ad (cl.1, cl.2.1, ax_stv cl.2.2 iv.2 v) (.inl (dA cl.1, cl.2.1, .inr (.inr (.inr (.inr (va_up f (nI iv.2).toNatClampNeg (some v0))))))) := Or.inr (Or.inr (Or.inr ⟨by show 103 ≤ cl.1 ∧ cl.1 ≤ 105; omega, _, rfl, fun j z hz => by
          rw [hcl]
          rcases ax_el_stv hz with ⟨rfl, rfl⟩ | ⟨hj, hz⟩
          · exact ⟨hlt, by unfold va_up; rw [if_pos rfl, tg y.1]; exact hV⟩
          · exact ⟨(hf j z hz).1, by unfold va_up; rw [if_neg hj]; exact (hf j z hz).2⟩⟩))
        have KK : ∀ (H1 : Heap) (locs1 : List Loc), va_P (dC, dI) vwCl (ws.set a.2 (a0, .inl (dA cl.1, cl.2.1, .inr (.inr (.inr (.inr (va_up f (nI iv.2).toNatClampNeg (some v0)))))))) H1 → va_D (aA H0) (ws.set a.2 (a0, .inl (dA cl.1, cl.2.1, .inr (.inr (.inr (.inr (va_up f (nI iv.2).toNatClampNeg (some v0)))))))) → va_S (aA H0) H0 H1 locs1 → W p l e R s m args below meth c H1 locs1 nc ns Q (F0 m (pc + 1) ls ST2) := fun H1 locs1 z1 z2 z3 => G ρ ad _ H1 locs1 ls LV ST2 q1 q2 q3 (q4.set hw hh1 hh2 hE') z1 z2 z3 q8 q9 q12
        rcases y3 with ⟨k1, k2⟩ | ⟨k1, k2⟩ | ⟨k1, k2⟩
        · rw [k2] at hwv
          rw [k1] at hw KK
          exact va_astq (r := (RX10, TX10, 4)) hx hb hK q5 q6 q7 a.2 3 v.2 10 hw rfl hwv rfl hvp hdg KK
        · rw [k2] at hwv
          rw [k1] at hw KK
          exact va_astq (r := (RX1, TX1, 15)) hx hb hK q5 q6 q7 a.2 4 v.2 1 hw rfl hwv rfl hvp hdg KK
        · rw [k2] at hwv
          rw [k1] at hw KK
          exact va_astq (r := (RX7, TX7, 8)) hx hb hK q5 q6 q7 a.2 5 v.2 7 hw rfl hwv rfl hvp hdg KK

end OPS
end
section
/-! 17.new -/
/-! THE ABSTRACT MACHINE, 13: lengths, new cells, statics, switches -/
section OPS
variable {sb : Nat → List Nat} {mt : Nat → Nat → Option MR} {dC : Nat → ClassId} {dI : Nat → Nat → Nat} {dA : Nat → ClassId} {sp : Nat → Nat} {H0 : Heap} {l : Launch}
variable {ih : GO} {p : Program} {e : Env} {R : Room} {s : State} {m : MethodId} {args : Array Value} {below : List Frame} {meth : Method} {c : Code} {Q : State → Prop} {ρ0 ad0 : List Nat} {M : MR} {cut pc len : Nat} {ins : Instr} {lk : List Nat} {cd tl : List ME} {σ : AS} {h : AH} {nc ns : Nat} {lv : AL} {st : List AV} {outs : List AO}

theorem sn_alen (hI : Snd sb mt dC dI dA sp H0 l ih) (hM : Mok mt M) (htl : ∀ x ∈ tl, x ∈ M.2.2.2.2.2.2) (hX : CX sb dC dI dA sp H0 ρ0 M p R s m args meth c) (hR : ∀ o ∈ outs, RO dC dI dA sp H0 l p e R s m args below meth c Q ρ0 ad0 M o) (hdg : decode M.2.1 pc = .ok (ins, len)) (hlen : len = ax_len ins) (hlk : lok mt M pc ins lk = true) (ho : ax_op ins = 53)
    (hr : lc st (fun a r => ax_alen sb h a (fun v => ih M cut (pc + len) tl σ h nc ns lv (v :: r))) = some outs) : GG dC dI dA sp H0 l p e R s m args below meth c Q ρ0 ad0 M.2.2.1 pc σ h nc ns lv st := by
  obtain ⟨a, r, rfl, hr1⟩ := lc_s hr
  obtain ⟨hx, hb, hml, hown, hts, hK, hlocks, hrt, hin, hRoom, hO⟩ := id hX
  intro ρ ad ws H locs ls LV ST q1 q2 q3 q4 q5 q6 q7 q8 q9 q10
  obtain ⟨A, ST2, rfl, hA, q12⟩ := q10.cons
  have hins : ins = .arraylength := by cases ins <;> first | (exact absurd ho (Nat.ne_of_beq_eq_false rfl)) | rfl
  subst hins
  have hlen : len = 1 := hlen
  subst hlen
  unfold ax_alen at hr1
  cases ha : Nat.beq a.1 2 with
  | true =>
    rw [ha] at hr1
    obtain ⟨cl, ec, hr2⟩ := ob_s (o := ax_hn h a.2) hr1
    obtain ⟨g1, hr3⟩ := gd_s hr2
    have w := bb_and g1
    have w1 := bb_le w.1
    have w2 := bb_le w.2
    rw [tg ha] at hA
    obtain ⟨a0, E, hw, rfl, hE⟩ := q4.get ec hA
    have KK := (hI p e _ s m args below meth c Q ρ0 ad0 M cut _ tl _ _ _ _ _ _ outs hM htl hX hr3 hR) ρ ad ws H locs ls LV (.int (nI cl.2.1) :: ST2) q1 q2 q3 q4 q5 q6 q7 q8 q9 ⟨rfl, q12⟩
    rcases (show cl.1 = 100 ∨ cl.1 = 101 ∨ cl.1 = 102 ∨ cl.1 = 103 ∨ cl.1 = 104 ∨ cl.1 = 105 by omega) with e | e | e | e | e | e
    · obtain ⟨f, rfl, -⟩ := hE.ints (Or.inl e); rw [e] at hw; exact va_alen hx hb hK q5 a.2 0 hw rfl rfl hdg KK
    · obtain ⟨f, rfl, -⟩ := hE.longs e; rw [e] at hw; exact va_alen hx hb hK q5 a.2 1 hw rfl rfl hdg KK
    · obtain ⟨f, rfl, -⟩ := hE.ints (Or.inr e); rw [e] at hw; exact va_alen hx hb hK q5 a.2 2 hw rfl rfl hdg KK
    · obtain ⟨f, rfl, -⟩ := hE.refs (by omega); rw [e] at hw; exact va_alen hx hb hK q5 a.2 3 hw rfl rfl hdg KK
    · obtain ⟨f, rfl, -⟩ := hE.refs (by omega); rw [e] at hw; exact va_alen hx hb hK q5 a.2 4 hw rfl rfl hdg KK
    · obtain ⟨f, rfl, -⟩ := hE.refs (by omega); rw [e] at hw; exact va_alen hx hb hK q5 a.2 5 hw rfl rfl hdg KK
  | false =>
    rw [ha] at hr1
    obtain ⟨g0, hr2⟩ := gd_s (b := Nat.beq a.1 6) hr1
    rw [tg g0] at hA
    have hA : A = .ref (sp a.2) := hA
    subst hA
    cases h0 : Nat.beq a.2 0 with
    | true =>
      rw [h0] at hr2
      rw [bb_eq h0]
      obtain ⟨⟨L, xs, x1, x2, x3, x4, x5, x6⟩, -⟩ := hO
      refine va_slen hx hb x1 x2 (Nat.not_le.mpr x2) q7 hdg ((hI p e _ s m args below meth c Q ρ0 ad0 M cut _ tl _ _ _ _ _ _ outs hM htl hX hr2 hR) ρ ad ws H locs ls LV (.int (Int32.ofNat L) :: ST2) q1 q2 q3 q4 q5 q6 q7 q8 q9 ⟨⟨_, q1 _ _ x4, ?_⟩, q12⟩)
      refine congrArg Value.int ?_
      show nI L = _
      apply Int32.toInt_inj.mp
      rw [nI_toInt (by omega), nI_z (by omega) (by omega)]
      omega
    | false =>
      rw [h0] at hr2
      obtain ⟨g1, hr3⟩ := gd_s (b := Nat.beq a.2 2 || Nat.beq a.2 4) hr2
      have hkp : ∀ a : Nat, a < H0.size → ¬ (aA H0) a → H[a]? = H0[a]? := fun a h1 h2 => q7.2.1 a h1 h2
      have hso : ∃ y, a.2 = y + 1 ∧ SO sp sb H0 y s := by
        rcases (Bool.or_eq_true _ _).mp g1 with z | z
        · exact ⟨1, bb_eq z, hO.2.1⟩
        · exact ⟨3, bb_eq z, hO.2.2.1⟩
      obtain ⟨y, ey, hso⟩ := hso
      have hT := hso.2.2.2.kept hkp
      rw [← ey] at hT
      obtain ⟨cell, z1, z2, z3, z4, z5, z6, z7⟩ := hT
      exact W.alen (n := nI (sb a.2).length) hx hb z1 z2 z5 rfl rfl hdg ((hI p e _ s m args below meth c Q ρ0 ad0 M cut _ tl _ _ _ _ _ _ outs hM htl hX hr3 hR) ρ ad ws H locs ls LV _ q1 q2 q3 q4 q5 q6 q7 q8 q9 ⟨rfl, q12⟩)

theorem ax_el1 {l : List AV} {j : Nat} {v : AV} (h : ax_el [l] j = some v) : l[j]? = some v ∨ False := by
  unfold ax_el at h
  rw [ax_nth_eq] at h
  by_cases hj : j < 64
  · rw [show j / 64 = 0 by omega] at h
    have h : ax_nth l (j % 64) = some v := h
    rw [ax_nth_eq, show j % 64 = j by omega] at h
    exact Or.inl h
  · have : ([l] : List (List AV))[j / 64]? = none := by rw [List.getElem?_eq_none]; simp; omega
    rw [this] at h
    cases h
def ax_dv (t : Nat) : Value := match t with
  | 0 => .int 0
  | 1 => .long 0
  | _ => .null
theorem ax_dv_ok {sp : Nat → Nat} {ρ ad : List Nat} {t : Nat} (h : t = 0 ∨ t = 1 ∨ t = 3) : Rp sp ρ ad (t, 0) (ax_dv t) := by
  rcases h with rfl | rfl | rfl
  · show Value.int 0 = Value.int (nI 0); rw [nI_0]
  · show Value.long 0 = Value.long (lN 0); rfl
  · rfl

theorem sn_new (hI : Snd sb mt dC dI dA sp H0 l ih) (hM : Mok mt M) (htl : ∀ x ∈ tl, x ∈ M.2.2.2.2.2.2) (hX : CX sb dC dI dA sp H0 ρ0 M p R s m args meth c) (hR : ∀ o ∈ outs, RO dC dI dA sp H0 l p e R s m args below meth c Q ρ0 ad0 M o) (hdg : decode M.2.1 pc = .ok (ins, len)) (hlen : len = ax_len ins) (hlk : lok mt M pc ins lk = true) (ho : ax_op ins = 54)
    (hr : ax_new M.2.2.2.2.1 lk h nc ns (fun h' nc' ns' => ih M cut (pc + len) tl σ h' nc' ns' lv ((2, h.1) :: st)) = some outs) : GG dC dI dA sp H0 l p e R s m args below meth c Q ρ0 ad0 M.2.2.1 pc σ h nc ns lv st := by
  unfold ax_new at hr
  obtain ⟨ci, lk1, rfl, hr1⟩ := lc_s hr
  obtain ⟨n, lk2, rfl, hr2⟩ := lc_s hr1
  obtain ⟨g1, hr3⟩ := gd_s hr2
  obtain ⟨h', hr4, hh1, hh2⟩ := ax_ha_ok hr3
  rw [ax_fc_eq, ax_fc_eq] at hr4
  obtain ⟨hx, hb, hml, hown, hts, hK, hlocks, hrt, hin, hRoom, hO⟩ := id hX
  intro ρ ad ws H locs ls LV ST q1 q2 q3 q4 q5 q6 q7 q8 q9 q10
  have w := bb_and g1
  have w1 := bb_le w.1
  have w2 := bb_le w.2
  cases ins <;> first | (exact absurd ho (Nat.ne_of_beq_eq_false rfl)) | skip
  case new idx =>
    subst hlen
    match lk2, hlk with
    | c1 :: j1 :: c2 :: j2 :: c3 :: j3 :: ts, hlk =>
      have hl : (match vwCl[ci]? with
        | some q => Nat.beq n q.2.2 && (wdq c1 j1 (.classLink M.1.cls idx q.1) && (wdq c2 j2 (.instantiable q.1 q.2.2) && (wdq c3 j3 (.initialized q.1) && (Nat.blt ci 100 && (Nat.beq ts.length n && (List.range n).all (fun k => match ax_ty (q.2.1 k).2.2.1 with
          | 0 => decide (ts[k]? = some 0)
          | 1 => decide (ts[k]? = some 0)
          | 2 => decide (ts[k]? = some 1)
          | 3 => decide (ts[k]? = some 3)
          | _ => false))))))
        | none => false) = true := hlk
      cases hq : vwCl[ci]? with
      | none => rw [hq] at hl; cases hl
      | some q =>
        rw [hq] at hl
        have u1 := bb_and (a := Nat.beq n q.2.2) hl
        have u2 := bb_and u1.2
        have u3 := bb_and u2.2
        have u4 := bb_and u3.2
        have u5 := bb_and u4.2
        have u6 := bb_and u5.2
        have hn : n = q.2.2 := bb_eq u1.1
        have hci := bb_lt u5.1
        have htl2 := bb_eq u6.1
        obtain ⟨hvw, ⟨ty0, hty⟩, hnm, -⟩ := vw_ok ci q hq
        have key : ∀ k, k < n → ∃ t, ts[k]? = some t ∧ (t = 0 ∨ t = 1 ∨ t = 3) ∧ defaultValue (ty0 k) = ax_dv t := by
          intro k hk
          have z := List.all_eq_true.mp u6.2 k (List.mem_range.mpr hk)
          have z2 := hty k (by omega)
          unfold ax_ty at z
          rw [z2] at z
          cases hz : ty0 k <;> rw [hz] at z <;> first | (cases z; done) | skip
          · exact ⟨0, of_decide_eq_true z, Or.inl rfl, rfl⟩
          · exact ⟨1, of_decide_eq_true z, Or.inr (Or.inl rfl), rfl⟩
          · exact ⟨0, of_decide_eq_true z, Or.inl rfl, rfl⟩
          · exact ⟨3, of_decide_eq_true z, Or.inr (Or.inr rfl), rfl⟩
          · exact ⟨3, of_decide_eq_true z, Or.inr (Or.inr rfl), rfl⟩
        have hfs : ∀ j, j < q.2.2 → defaultValue (ty0 j) = vp_V (ts.map ax_dv) j := by
          intro j hj
          obtain ⟨t, t1, t2, t3⟩ := key j (by omega)
          unfold vp_V
          rw [List.getD_eq_getElem?_getD, List.getElem?_map, t1, t3]
          rfl
        subst hRoom
        refine va_new (D := (dC, dI)) (ci := ci) (fs := ts.map ax_dv) (C := q.1) (T := q.2.1) (N := q.2.2) hx hb hts hvw ty0 hty hown (hts _ (wdq_in u2.1)) (hts _ (wdq_in u3.1)) (hts _ (wdq_in u4.1)) hK q5 q6 q7 (fun _ z => z) hq hfs w1 (by rw [← hn]; exact w2) hdg (fun qa H1 z1 z2 z3 => ?_)
        have hE' : Er sp dA ρ (ad ++ [qa]) (ci, n, [((c1 :: j1 :: c2 :: j2 :: c3 :: j3 :: ts).drop 6).map (fun t => (t, 0))]) (.inr (ci, ts.map ax_dv)) := Or.inl ⟨hci, _, rfl, by show (ts.map ax_dv).length = n; rw [List.length_map]; exact htl2, fun j v hv => by
          rcases ax_el1 hv with hv | hv
          · have hv : (ts.map (fun t => ((t, 0) : AV)))[j]? = some v := hv
            rw [List.getElem?_map] at hv
            cases hj : ts[j]? with
            | none => rw [hj] at hv; cases hv
            | some t =>
              rw [hj] at hv
              cases hv
              obtain ⟨t', t1, t2, t3⟩ := key j (by rw [← htl2]; exact (List.getElem?_eq_some_iff.mp hj).1)
              cases hj.symm.trans t1
              exact ⟨ax_dv t, by rw [List.getElem?_map, hj]; rfl, ax_dv_ok t2⟩
          · exact hv.elim⟩
        have HA := q4.add hh1 hh2 hE'
        rw [hn] at hr4
        exact (hI p e _ s m args below meth c Q ρ0 ad0 M cut _ tl _ _ _ _ _ _ outs hM htl hX hr4 hR) ρ (ad ++ [qa]) _ H1 locs ls LV (.ref qa :: ST) q1 (q2.tr HA.1) q3 HA.2.1 z1 z2 z3 (q8.mono (Sb.rf ρ) HA.1) q9 ⟨HA.2.2, q10.mono (Sb.rf ρ) HA.1⟩

theorem tys_new {dA : Nat → ClassId} {s : State} {cA : ClassId} {t : FieldType} (t0 : Nat) (kd : Nat) (hK : va_K (dC, dI) vwCl (ax_tys dA) s) (h0 : (ax_tys dA)[t0]? = some (dA kd, t)) (hn : ∀ C, va_RA s C t → va_RA s cA t → C = cA) (h : va_K (dC, dI) vwCl (ax_tys dA ++ [(cA, t)]) s) : cA = dA kd := by
  have h1 := (h.2 6 (cA, t) rfl).2
  have h2 := (hK.2 t0 _ h0).2
  exact (hn _ h2 h1).symm
theorem ra_int {s : State} {C cA : ClassId} (h1 : va_RA s C .int) (h2 : va_RA s cA .int) : C = cA := Option.some.inj (Eq.trans (Eq.symm h1) h2)
theorem ra_long {s : State} {C cA : ClassId} (h1 : va_RA s C .long) (h2 : va_RA s cA .long) : C = cA := Option.some.inj (Eq.trans (Eq.symm h1) h2)
theorem ra_byte {s : State} {C cA : ClassId} (h1 : va_RA s C .byte) (h2 : va_RA s cA .byte) : C = cA := Option.some.inj (Eq.trans (Eq.symm h1) h2)
theorem ra_obj {s : State} {X : String} {C cA : ClassId} (h1 : va_RA s C (.object X)) (h2 : va_RA s cA (.object X)) : C = cA := by
  obtain ⟨k, d, -, -, -, a⟩ := h1
  obtain ⟨k', d', -, -, -, b⟩ := h2
  exact Option.some.inj (Eq.trans (Eq.symm a) b)

theorem sn_newa (hI : Snd sb mt dC dI dA sp H0 l ih) (hM : Mok mt M) (htl : ∀ x ∈ tl, x ∈ M.2.2.2.2.2.2) (hX : CX sb dC dI dA sp H0 ρ0 M p R s m args meth c) (hR : ∀ o ∈ outs, RO dC dI dA sp H0 l p e R s m args below meth c Q ρ0 ad0 M o) (hdg : decode M.2.1 pc = .ok (ins, len)) (hlen : len = ax_len ins) (hlk : lok mt M pc ins lk = true) (ho : ax_op ins = 55)
    (hr : lc st (fun a r => ax_newa M.2.2.2.2.1 lk h nc ns (ax_nv σ a) (fun h' nc' ns' => ih M cut (pc + len) tl σ h' nc' ns' lv ((2, h.1) :: r))) = some outs) : GG dC dI dA sp H0 l p e R s m args below meth c Q ρ0 ad0 M.2.2.1 pc σ h nc ns lv st := by
  obtain ⟨a, r, rfl, hr0⟩ := lc_s hr
  unfold ax_newa at hr0
  obtain ⟨kd, lk1, rfl, hr1⟩ := lc_s hr0
  obtain ⟨t, lk2, rfl, hr2⟩ := lc_s hr1
  obtain ⟨g1, hr3⟩ := gd_s hr2
  obtain ⟨h', hr4, hh1, hh2⟩ := ax_ha_ok hr3
  rw [ax_fc_eq, ax_fc_eq] at hr4
  obtain ⟨hx, hb, hml, hown, hts, hK, hlocks, hrt, hin, hRoom, hO⟩ := id hX
  intro ρ ad ws H locs ls LV ST q1 q2 q3 q4 q5 q6 q7 q8 q9 q10
  obtain ⟨A, ST2, rfl, hA, q12⟩ := q10.cons
  have hnv := ax_nv_ok q3 hA
  generalize ax_nv σ a = av at *
  have w := bb_and g1
  have w1 := bb_and w.2
  have w2 := bb_le w1.1
  have w3 := bb_and w1.2
  have w4 := bb_le w3.1
  have w5 := bb_le w3.2
  rw [tg w.1] at hnv
  have hnv : A = .int (nI av.2) := hnv
  subst hnv
  subst hRoom
  have hcl : (nI av.2).toNatClampNeg = av.2 := nI_clamp (by omega)
  have hpos : ¬ nI av.2 < 0 := nI_pos (by omega)
  have FIN : ∀ (qa : Nat) (E : va_E) (H1 : Heap), Er sp dA ρ (ad ++ [qa]) (kd, av.2, ax_rep av.2 (t, 0)) E → va_P (dC, dI) vwCl (ws ++ [(qa, E)]) H1 → va_D (aA H0) (ws ++ [(qa, E)]) → va_S (aA H0) H0 H1 locs → W p l e M.2.2.2.2.1 s m args below meth c H1 locs (nc + 1) (ns + av.2) Q (F0 m (pc + len) ls (.ref qa :: ST2)) := fun qa E H1 hE z1 z2 z3 => by
    have HA := q4.add hh1 hh2 hE
    exact (hI p e _ s m args below meth c Q ρ0 ad0 M cut _ tl _ _ _ _ _ _ outs hM htl hX hr4 hR) ρ (ad ++ [qa]) _ H1 locs ls LV (.ref qa :: ST2) q1 (q2.tr HA.1) q3 HA.2.1 z1 z2 z3 (q8.mono (Sb.rf ρ) HA.1) q9 ⟨HA.2.2, q12.mono (Sb.rf ρ) HA.1⟩
  cases ins <;> first | (exact absurd ho (Nat.ne_of_beq_eq_false rfl)) | skip
  case newarray ty =>
    subst hlen
    match lk2, hlk with
    | c1 :: j1 :: _, hlk =>
      cases ty <;> first | (cases hlk; done) | skip
      case int =>
        have u := bb_and (a := Nat.beq kd 100) hlk
        have u2 := bb_and u.2
        obtain rfl := bb_eq u.1
        obtain rfl := bb_eq u2.1
        refine va_newa (D := (dC, dI)) (a0 := (av.2, .inl (fun _ => 0))) hx hb (hts _ (wdq_in u2.2)) rfl hK q5 q6 q7 (fun _ z => z) (fun cA => rfl) hpos hcl (by show av.2 * 4 ≤ _; omega) w4 w5 hdg (fun qa cA H1 z0 z1 z2 z3 => ?_)
        have e := tys_new (dC := dC) (dI := dI) 0 100 hK rfl (fun _ => ra_int) z0
        subst e
        exact FIN qa _ H1 (Or.inr (Or.inl ⟨Or.inl rfl, _, rfl, fun j v hv => ⟨ax_el_rep_lt hv, by rw [ax_el_rep hv]; show Value.int 0 = Value.int (nI 0); rw [nI_0]⟩⟩)) z1 z2 z3
      case long =>
        have u := bb_and (a := Nat.beq kd 101) hlk
        have u2 := bb_and u.2
        obtain rfl := bb_eq u.1
        obtain rfl := bb_eq u2.1
        refine va_newa (D := (dC, dI)) (a0 := (av.2, .inr (.inl (fun _ => 0)))) hx hb (hts _ (wdq_in u2.2)) rfl hK q5 q6 q7 (fun _ z => z) (fun cA => rfl) hpos hcl (by show av.2 * 8 ≤ _; omega) w4 w5 hdg (fun qa cA H1 z0 z1 z2 z3 => ?_)
        have e := tys_new (dC := dC) (dI := dI) 1 101 hK rfl (fun _ => ra_long) z0
        subst e
        exact FIN qa _ H1 (Or.inr (Or.inr (Or.inl ⟨rfl, _, rfl, fun j v hv => ⟨ax_el_rep_lt hv, by rw [ax_el_rep hv]; rfl⟩⟩))) z1 z2 z3
      case byte =>
        have u := bb_and (a := Nat.beq kd 102) hlk
        have u2 := bb_and u.2
        obtain rfl := bb_eq u.1
        obtain rfl := bb_eq u2.1
        refine va_newa (D := (dC, dI)) (a0 := (av.2, .inl (fun _ => 0))) hx hb (hts _ (wdq_in u2.2)) rfl hK q5 q6 q7 (fun _ z => z) (fun cA => rfl) hpos hcl (by show av.2 * 1 ≤ _; omega) w4 w5 hdg (fun qa cA H1 z0 z1 z2 z3 => ?_)
        have e := tys_new (dC := dC) (dI := dI) 2 102 hK rfl (fun _ => ra_byte) z0
        subst e
        exact FIN qa _ H1 (Or.inr (Or.inl ⟨Or.inr rfl, _, rfl, fun j v hv => ⟨ax_el_rep_lt hv, by rw [ax_el_rep hv]; show Value.int 0 = Value.int (nI 0); rw [nI_0]⟩⟩)) z1 z2 z3
  case anewarray idx =>
    subst hlen
    match lk2, hlk with
    | c1 :: j1 :: _, hlk =>
      have u := bb_and (a := Nat.beq t 3) hlk
      obtain rfl := bb_eq u.1
      rcases (Bool.or_eq_true _ _).mp u.2 with z | z
      · have y := bb_and z
        obtain rfl := bb_eq y.1
        refine va_newq (D := (dC, dI)) hx hb hown (hts _ (wdq_in y.2)) hO.2.2.2.2.2.2.2.1 hK q5 q6 q7 (fun _ z => z) hpos hcl (by omega) w4 w5 hdg (fun qa cA H1 z0 z1 z2 z3 => ?_)
        have e := tys_new (dC := dC) (dI := dI) 3 103 hK rfl (fun _ => ra_obj) z0
        subst e
        exact FIN qa _ H1 (Or.inr (Or.inr (Or.inr ⟨⟨Nat.le_of_ble_eq_true rfl, Nat.le_of_ble_eq_true rfl⟩, _, rfl, fun j v hv => ⟨ax_el_rep_lt hv, by rw [ax_el_rep hv]; rfl⟩⟩))) z1 z2 z3
      · rcases (Bool.or_eq_true _ _).mp z with z | z
        · have y := bb_and z
          obtain rfl := bb_eq y.1
          refine va_newq (D := (dC, dI)) hx hb hown (hts _ (wdq_in y.2)) hO.2.2.2.2.2.2.2.2.1 hK q5 q6 q7 (fun _ z => z) hpos hcl (by omega) w4 w5 hdg (fun qa cA H1 z0 z1 z2 z3 => ?_)
          have e := tys_new (dC := dC) (dI := dI) 4 104 hK rfl (fun _ => ra_obj) z0
          subst e
          exact FIN qa _ H1 (Or.inr (Or.inr (Or.inr ⟨⟨Nat.le_of_ble_eq_true rfl, Nat.le_of_ble_eq_true rfl⟩, _, rfl, fun j v hv => ⟨ax_el_rep_lt hv, by rw [ax_el_rep hv]; rfl⟩⟩))) z1 z2 z3
        · have y := bb_and z
          obtain rfl := bb_eq y.1
          refine va_newq (D := (dC, dI)) hx hb hown (hts _ (wdq_in y.2)) hO.2.2.2.2.2.2.2.2.2.1 hK q5 q6 q7 (fun _ z => z) hpos hcl (by omega) w4 w5 hdg (fun qa cA H1 z0 z1 z2 z3 => ?_)
          have e := tys_new (dC := dC) (dI := dI) 5 105 hK rfl (fun _ => ra_obj) z0
          subst e
          exact FIN qa _ H1 (Or.inr (Or.inr (Or.inr ⟨⟨Nat.le_of_ble_eq_true rfl, Nat.le_of_ble_eq_true rfl⟩, _, rfl, fun j v hv => ⟨ax_el_rep_lt hv, by rw [ax_el_rep hv]; rfl⟩⟩))) z1 z2 z3

theorem sn_gets (hI : Snd sb mt dC dI dA sp H0 l ih) (hM : Mok mt M) (htl : ∀ x ∈ tl, x ∈ M.2.2.2.2.2.2) (hX : CX sb dC dI dA sp H0 ρ0 M p R s m args meth c) (hR : ∀ o ∈ outs, RO dC dI dA sp H0 l p e R s m args below meth c Q ρ0 ad0 M o) (hdg : decode M.2.1 pc = .ok (ins, len)) (hlen : len = ax_len ins) (hlk : lok mt M pc ins lk = true) (ho : ax_op ins = 56)
    (hr : lc lk (fun x _ => bif Nat.beq x 0 then ih M cut (pc + len) tl σ h nc ns lv ((0, 1) :: st) else ih M cut (pc + len) tl σ h nc ns lv ((7, 0) :: st)) = some outs) : GG dC dI dA sp H0 l p e R s m args below meth c Q ρ0 ad0 M.2.2.1 pc σ h nc ns lv st := by
  obtain ⟨x, lk1, rfl, hr1⟩ := lc_s hr
  obtain ⟨hx, hb, hml, hown, hts, hK, hlocks, hrt, hin, hRoom, hO⟩ := id hX
  intro ρ ad ws H locs ls LV ST q1 q2 q3 q4 q5 q6 q7 q8 q9 q10
  cases ins <;> first | (exact absurd ho (Nat.ne_of_beq_eq_false rfl)) | skip
  case getstatic idx =>
    subst hlen
    match lk1, hlk with
    | c1 :: j1 :: _, hlk =>
      have hl : (bif Nat.beq x 0 then wdq c1 j1 (.fieldLink M.1.cls idx sSTR "COMPACT_STRINGS" "Z") else wdq c1 j1 (.fieldLink M.1.cls idx sPRE "SIOOBE_FORMATTER" "Ljava/util/function/BiFunction;")) = true := hlk
      have hkp : ∀ a : Nat, a < H0.size → ¬ (aA H0) a → H[a]? = H0[a]? := fun a h1 h2 => q7.2.1 a h1 h2
      have GS : ∀ (C n d : String) (v : Value), va_Z C n d v (aA H0) s H0 → (Cond.fieldLink M.1.cls idx C n d).before args s = true → W p l e R s m args below meth c H locs nc ns Q (F0 m (pc + 3) ls (v :: ST)) → W p l e R s m args below meth c H locs nc ns Q (F0 m pc ls ST) := fun C n d v hZ hli KK => by
        obtain ⟨cf, kf, fi, f, a, cell, h1, h2, h3, h4, h5, h6, h7, h8⟩ := hZ.kept hkp
        exact W.gets hx hb hown hli h1 h2 h3 h4 h5 (fun e => by rw [e] at h6; cases h6) h7 rfl hdg KK
      cases hx0 : Nat.beq x 0 with
      | true =>
        rw [hx0] at hr1 hl
        exact GS _ _ _ _ hO.2.2.2.2.2.1 (hts _ (wdq_in hl)) ((hI p e _ s m args below meth c Q ρ0 ad0 M cut _ tl _ _ _ _ _ _ outs hM htl hX hr1 hR) ρ ad ws H locs ls LV (.int 1 :: ST) q1 q2 q3 q4 q5 q6 q7 q8 q9 ⟨by show Value.int 1 = Value.int (nI 1); rfl, q10⟩)
      | false =>
        rw [hx0] at hr1 hl
        exact GS _ _ _ _ hO.2.2.2.2.2.2.1 (hts _ (wdq_in hl)) ((hI p e _ s m args below meth c Q ρ0 ad0 M cut _ tl _ _ _ _ _ _ outs hM htl hX hr1 hR) ρ ad ws H locs ls LV (vq sp :: ST) q1 q2 q3 q4 q5 q6 q7 q8 q9 ⟨vq_cat sp, q10⟩)

end OPS
end
section
/-! 18.swi -/
/-! THE ABSTRACT MACHINE, 14: switches -/

def ax_pr (k t : Nat) : List Nat → Prop
  | a :: b :: r => (a = k ∧ b = t) ∨ ax_pr k t r
  | _ => False
theorem ax_sk_pr {f : Nat → Nat → Bool} {k t : Nat} : ∀ (ks : List Nat), ax_sk f ks = true → ax_pr k t ks → f k t = true
  | [], _, h => h.elim
  | [_], _, h => h.elim
  | a :: b :: r, hs, h => by
    have w := bb_and (a := f a b) hs
    rcases h with ⟨rfl, rfl⟩ | h
    · exact w.1
    · exact ax_sk_pr r w.2 h
theorem ax_key_pr {k : Nat} : ∀ (ks : List Nat), ax_key k ks = true → ∃ t, ax_pr k t ks
  | [], h => by cases h
  | [_], h => by cases h
  | a :: b :: r, h => by
    rcases (Bool.or_eq_true _ _).mp h with z | z
    · exact ⟨b, Or.inl ⟨bb_eq z, rfl⟩⟩
    · obtain ⟨t, ht⟩ := ax_key_pr r z
      exact ⟨t, Or.inr ht⟩
theorem ax_sw_ok {sp : Nat → Nat} {ρ ad : List Nat} {v : AV} {x : Int32} (hv : Rp sp ρ ad v (.int x)) {go : Nat → AS → RS} {d : Nat} : ∀ (ks : List Nat) {σ : AS} {outs : List AO}, St ρ σ → ax_sw go v d ks σ = some outs →
    (∃ k t σ' o, ax_pr k t ks ∧ x = nI k ∧ go t σ' = some o ∧ St ρ σ' ∧ ∀ z ∈ o, z ∈ outs) ∨ ((∀ k t, ax_pr k t ks → ¬ x = nI k) ∧ ∃ σ' o, go d σ' = some o ∧ St ρ σ' ∧ ∀ z ∈ o, z ∈ outs)
  | [], σ, outs, hS, h => Or.inr ⟨fun _ _ h => h.elim, σ, outs, h, hS, fun _ h => h⟩
  | [_], σ, outs, hS, h => Or.inr ⟨fun _ _ h => h.elim, σ, outs, h, hS, fun _ h => h⟩
  | k :: t :: r, σ, outs, hS, h => by
    have h1 : ax_br (ax_eq σ v (0, k)) (go t) (ax_sw go v d r) = some outs := h
    obtain ⟨x', y, hx, hy, ht, hf⟩ := ax_br_eq hS hv (B := .int (nI k)) (b := (0, k)) (sp := sp) (ad := ad) rfl h1
    cases hx
    cases hy
    by_cases c1 : x = nI k
    · obtain ⟨σ', o, e1, e2, e3⟩ := ht c1
      exact Or.inl ⟨k, t, σ', o, Or.inl ⟨rfl, rfl⟩, c1, e1, e2, e3⟩
    · obtain ⟨σ', o, e1, e2, e3⟩ := hf c1
      rcases ax_sw_ok hv r e2 e1 with ⟨k', t', σ'', o', a1, a2, a3, a4, a5⟩ | ⟨a1, σ'', o', a3, a4, a5⟩
      · exact Or.inl ⟨k', t', σ'', o', Or.inr a1, a2, a3, a4, fun z hz => e3 z (a5 z hz)⟩
      · refine Or.inr ⟨fun k' t' hp => ?_, σ'', o', a3, a4, fun z hz => e3 z (a5 z hz)⟩
        rcases hp with ⟨rfl, rfl⟩ | hp
        · exact c1
        · exact a1 k' t' hp
theorem off_none {x : Int} {d : Int} : ∀ (l : List (Int × Int)), (∀ p ∈ l, ¬ p.1 = x) → Op.lookupswitch.offset l d x = d
  | [], _ => rfl
  | (a, o) :: r, h => by
    rw [Op.lookupswitch.offset_cons, if_neg (h (a, o) List.mem_cons_self)]
    exact off_none r (fun p hp => h p (List.mem_cons_of_mem _ hp))

section OPS
variable {sb : Nat → List Nat} {mt : Nat → Nat → Option MR} {dC : Nat → ClassId} {dI : Nat → Nat → Nat} {dA : Nat → ClassId} {sp : Nat → Nat} {H0 : Heap} {l : Launch}
variable {ih : GO} {p : Program} {e : Env} {R : Room} {s : State} {m : MethodId} {args : Array Value} {below : List Frame} {meth : Method} {c : Code} {Q : State → Prop} {ρ0 ad0 : List Nat} {M : MR} {cut pc len : Nat} {ins : Instr} {lk : List Nat} {cd tl : List ME} {σ : AS} {h : AH} {nc ns : Nat} {lv : AL} {st : List AV} {outs : List AO}

theorem sn_table (hI : Snd sb mt dC dI dA sp H0 l ih) (hM : Mok mt M) (htl : ∀ x ∈ tl, x ∈ M.2.2.2.2.2.2) (hX : CX sb dC dI dA sp H0 ρ0 M p R s m args meth c) (hR : ∀ o ∈ outs, RO dC dI dA sp H0 l p e R s m args below meth c Q ρ0 ad0 M o) (hdg : decode M.2.1 pc = .ok (ins, len)) (hlk : lok mt M pc ins lk = true) (ho : ax_op ins = 57)
    (hr : lc st (fun v r => lc lk (fun d lk => lc lk (fun lo lk => lc lk (fun hi ks =>
      ax_br (ax_lt σ v (0, lo)) (fun σ' => ih M cut d (ax_jmp M.2.2.2.2.2.2 d) σ' h nc ns lv r) (fun σ1 => ax_br (ax_lt σ1 (0, hi) v) (fun σ' => ih M cut d (ax_jmp M.2.2.2.2.2.2 d) σ' h nc ns lv r) (ax_sw (fun t σ' => ih M cut t (ax_jmp M.2.2.2.2.2.2 t) σ' h nc ns lv r) v d ks)))))) = some outs) : GG dC dI dA sp H0 l p e R s m args below meth c Q ρ0 ad0 M.2.2.1 pc σ h nc ns lv st := by
  obtain ⟨v, r, rfl, hr1⟩ := lc_s hr
  obtain ⟨d, lk1, rfl, hr2⟩ := lc_s hr1
  obtain ⟨lo, lk2, rfl, hr3⟩ := lc_s hr2
  obtain ⟨hi, ks, rfl, hr4⟩ := lc_s hr3
  obtain ⟨hx, hb, hml, hown, hts, hK, hlocks, hrt, hin, hRoom, hO⟩ := id hX
  intro ρ ad ws H locs ls LV ST q1 q2 q3 q4 q5 q6 q7 q8 q9 q10
  obtain ⟨A, ST2, rfl, hA, q12⟩ := q10.cons
  cases ins <;> first | (exact absurd ho (Nat.ne_of_beq_eq_false rfl)) | skip
  case tableswitch d0 lo0 hi0 offs =>
    have hl : (decide ((pc : Int) + d0 = (d : Int)) && (decide ((nI lo).toInt = lo0) && (decide ((nI hi).toInt = hi0) && (Nat.blt lo 4294967296 && (Nat.blt hi 4294967296 && (ax_sk (fun k t => Nat.blt k 4294967296 && match offs[((nI k).toInt - lo0).toNat]? with
        | some o => decide ((pc : Int) + o = (t : Int)) && (decide (lo0 ≤ (nI k).toInt) && decide ((nI k).toInt ≤ hi0))
        | none => false) ks && (List.range (hi0 - lo0 + 1).toNat).all (fun i => ax_key ((lo0 + i).toNat) ks && decide (0 ≤ lo0)))))))) = true := hlk
    have u1 := bb_and hl
    have u2 := bb_and u1.2
    have u3 := bb_and u2.2
    have u4 := bb_and u3.2
    have u5 := bb_and u4.2
    have u6 := bb_and u5.2
    have hd : (pc : Int) + d0 = (d : Int) := of_decide_eq_true u1.1
    have hlo : (nI lo).toInt = lo0 := of_decide_eq_true u2.1
    have hhi : (nI hi).toInt = hi0 := of_decide_eq_true u3.1
    have GOK : ∀ (t : Nat) (σ' : AS) (o : List AO), ih M cut t (ax_jmp M.2.2.2.2.2.2 t) σ' h nc ns lv r = some o → St ρ σ' → (∀ z ∈ o, z ∈ outs) → W p l e R s m args below meth c H locs nc ns Q (F0 m t ls ST2) := fun t σ' o e1 e2 e3 =>
      (hI p e R s m args below meth c Q ρ0 ad0 M cut _ _ _ _ _ _ _ _ o hM (ax_jmp_in _ _) hX e1 (fun z hz => hR z (e3 z hz))) ρ ad ws H locs ls LV ST2 q1 q2 e2 q4 q5 q6 q7 q8 q9 q12
    obtain ⟨x, y, rfl, hy, ht, hf⟩ := ax_br_lt q3 hA (B := .int (nI lo)) (b := (0, lo)) rfl hr4
    cases hy
    by_cases c1 : x < nI lo
    · obtain ⟨σ', o, e1, e2, e3⟩ := ht c1
      rw [Int32.lt_iff_toInt_lt] at c1
      exact lv_tableOut hx hb hdg (Or.inl (by omega)) hd (GOK _ _ _ e1 e2 e3)
    · obtain ⟨σ1, o1, e1, e2, e3⟩ := hf c1
      obtain ⟨y, x', hy, hx', ht2, hf2⟩ := ax_br_lt e2 (A := .int (nI hi)) (a := (0, hi)) rfl hA e1
      cases hy
      cases hx'
      by_cases c2 : nI hi < x
      · obtain ⟨σ', o, e4, e5, e6⟩ := ht2 c2
        rw [Int32.lt_iff_toInt_lt] at c2
        exact lv_tableOut hx hb hdg (Or.inr (by omega)) hd (GOK _ _ _ e4 e5 (fun z hz => e3 z (e6 z hz)))
      · obtain ⟨σ', o, e4, e5, e6⟩ := hf2 c2
        rw [Int32.lt_iff_toInt_lt] at c1 c2
        rcases ax_sw_ok hA ks e5 e4 with ⟨k, t, σ'', o', a1, a2, a3, a4, a5⟩ | ⟨a1, -⟩
        · have z := ax_sk_pr ks u6.1 a1
          have z2 := (bb_and (a := Nat.blt k 4294967296) z).2
          rw [← a2] at z2
          cases ho2 : offs[(x.toInt - lo0).toNat]? with
          | none => rw [ho2] at z2; cases z2
          | some off =>
            rw [ho2] at z2
            have z3 := bb_and (a := decide ((pc : Int) + off = (t : Int))) z2
            exact lv_tableIn hx hb hdg (by omega) (by omega) ho2 (of_decide_eq_true z3.1) (GOK _ _ _ a3 a4 (fun z hz => e3 z (e6 z (a5 z hz))))
        · exfalso
          have z := List.all_eq_true.mp u6.2 (x.toInt - lo0).toNat (List.mem_range.mpr (by omega))
          have z2 := bb_and (a := ax_key ((lo0 + ((x.toInt - lo0).toNat : Nat)).toNat) ks) z
          have z3 : 0 ≤ lo0 := of_decide_eq_true z2.2
          obtain ⟨t, hp⟩ := ax_key_pr ks z2.1
          refine a1 _ t hp ?_
          apply Int32.toInt_inj.mp
          have hr := i32_rng x
          rw [nI_toInt (by omega)]
          omega

theorem sn_look (hI : Snd sb mt dC dI dA sp H0 l ih) (hM : Mok mt M) (htl : ∀ x ∈ tl, x ∈ M.2.2.2.2.2.2) (hX : CX sb dC dI dA sp H0 ρ0 M p R s m args meth c) (hR : ∀ o ∈ outs, RO dC dI dA sp H0 l p e R s m args below meth c Q ρ0 ad0 M o) (hdg : decode M.2.1 pc = .ok (ins, len)) (hlk : lok mt M pc ins lk = true) (ho : ax_op ins = 58)
    (hkn : ∀ d ks, lk = d :: ks → ks ≠ [])
    (hr : lc st (fun v r => lc lk (fun d lk => ax_sw (fun t σ' => ih M cut t (ax_jmp M.2.2.2.2.2.2 t) σ' h nc ns lv r) v d lk σ)) = some outs) : GG dC dI dA sp H0 l p e R s m args below meth c Q ρ0 ad0 M.2.2.1 pc σ h nc ns lv st := by
  obtain ⟨v, r, rfl, hr1⟩ := lc_s hr
  obtain ⟨d, ks, rfl, hr2⟩ := lc_s hr1
  obtain ⟨hx, hb, hml, hown, hts, hK, hlocks, hrt, hin, hRoom, hO⟩ := id hX
  intro ρ ad ws H locs ls LV ST q1 q2 q3 q4 q5 q6 q7 q8 q9 q10
  obtain ⟨A, ST2, rfl, hA, q12⟩ := q10.cons
  cases ins <;> first | (exact absurd ho (Nat.ne_of_beq_eq_false rfl)) | skip
  case lookupswitch d0 ps =>
    have hl : (decide ((pc : Int) + d0 = (d : Int)) && ((ps.toList.zip (ps.toList.drop 1)).all (fun (a, next) => a.1 < next.1) && (ax_sk (fun k t => Nat.blt k 4294967296 && decide ((pc : Int) + Op.lookupswitch.offset ps.toList d0 (nI k).toInt = (t : Int))) ks && ps.toList.all (fun p => decide (0 ≤ p.1 ∧ p.1 < 2147483648) && ax_key p.1.toNat ks)))) = true := hlk
    have u1 := bb_and hl
    have u2 := bb_and u1.2
    have u3 := bb_and u2.2
    have hd : (pc : Int) + d0 = (d : Int) := of_decide_eq_true u1.1
    have hne : ks = [] → False := hkn d ks rfl
    have GOK : ∀ (t : Nat) (σ' : AS) (o : List AO), ih M cut t (ax_jmp M.2.2.2.2.2.2 t) σ' h nc ns lv r = some o → St ρ σ' → (∀ z ∈ o, z ∈ outs) → W p l e R s m args below meth c H locs nc ns Q (F0 m t ls ST2) := fun t σ' o e1 e2 e3 =>
      (hI p e R s m args below meth c Q ρ0 ad0 M cut _ _ _ _ _ _ _ _ o hM (ax_jmp_in _ _) hX e1 (fun z hz => hR z (e3 z hz))) ρ ad ws H locs ls LV ST2 q1 q2 e2 q4 q5 q6 q7 q8 q9 q12
    have hint : ∃ x : Int32, A = .int x := by
      cases ks with
      | nil => exact (hne rfl).elim
      | cons k ks1 =>
        cases ks1 with
        | nil => cases u3.1
        | cons t ks2 =>
          have h1 : ax_br (ax_eq σ v (0, k)) (fun σ' => ih M cut t (ax_jmp M.2.2.2.2.2.2 t) σ' h nc ns lv r) (ax_sw (fun t σ' => ih M cut t (ax_jmp M.2.2.2.2.2.2 t) σ' h nc ns lv r) v d ks2) = some outs := hr2
          obtain ⟨x, y, hx, -⟩ := ax_br_eq q3 hA (B := .int (nI k)) (b := (0, k)) rfl h1
          exact ⟨x, hx⟩
    obtain ⟨x, rfl⟩ := hint
    rcases ax_sw_ok hA ks q3 hr2 with ⟨k, t, σ'', o', a1, a2, a3, a4, a5⟩ | ⟨a1, σ'', o', a3, a4, a5⟩
    · have z := (bb_and (a := Nat.blt k 4294967296) (ax_sk_pr ks u3.1 a1)).2
      rw [← a2] at z
      exact lv_lookup hx hb hdg u2.1 rfl (of_decide_eq_true z) (GOK _ _ _ a3 a4 a5)
    · refine lv_lookup hx hb hdg u2.1 (off_none _ (fun p hp hpx => ?_)) hd (GOK _ _ _ a3 a4 a5)
      have z := bb_and (a := decide (0 ≤ p.1 ∧ p.1 < 2147483648)) (List.all_eq_true.mp u3.2 p hp)
      have z1 : 0 ≤ p.1 ∧ p.1 < 2147483648 := of_decide_eq_true z.1
      obtain ⟨t, hp2⟩ := ax_key_pr ks z.2
      refine a1 _ t hp2 ?_
      apply Int32.toInt_inj.mp
      rw [nI_toInt (by omega)]
      omega

end OPS
end
section
/-! 19.cal -/
/-! THE ABSTRACT MACHINE, 15: calls -/

theorem ax_args_ok : ∀ (n : Nat) {st acc as rest : List AV}, ax_args n st acc = some (as, rest) → ∃ u, as = u ++ acc ∧ st = u.reverse ++ rest ∧ u.length = n
  | 0, st, acc, as, rest, h => by
    have h : some (acc, st) = some (as, rest) := h
    cases h
    exact ⟨[], rfl, rfl, rfl⟩
  | n + 1, st, acc, as, rest, h => by
    cases st with
    | nil => cases h
    | cons v r =>
      have h : ax_args n r (v :: acc) = some (as, rest) := h
      obtain ⟨u, e1, e2, e3⟩ := ax_args_ok n h
      exact ⟨u ++ [v], by rw [e1]; simp, by rw [e2]; simp, by simp [e3]⟩
theorem Rs.split {sp : Nat → Nat} {ρ ad : List Nat} : ∀ {a b : List AV} {S : List Value}, Rs sp ρ ad (a ++ b) S → ∃ A B, S = A ++ B ∧ Rs sp ρ ad a A ∧ Rs sp ρ ad b B
  | [], b, S, h => ⟨[], S, rfl, trivial, h⟩
  | v :: r, b, S, h => by
    obtain ⟨V, R, rfl, h1, h2⟩ := Rs.cons (v := v) (r := r ++ b) h
    obtain ⟨A, B, rfl, h3, h4⟩ := Rs.split h2
    exact ⟨V :: A, B, rfl, ⟨h1, h3⟩, h4⟩
theorem Rs.rev {sp : Nat → Nat} {ρ ad : List Nat} : ∀ {a : List AV} {S : List Value}, Rs sp ρ ad a S → Rs sp ρ ad a.reverse S.reverse
  | [], [], _ => trivial
  | v :: r, V :: R, h => by
    rw [List.reverse_cons, List.reverse_cons]
    exact (Rs.rev h.2).app ⟨h.1, trivial⟩
theorem Rs.len {sp : Nat → Nat} {ρ ad : List Nat} : ∀ {a : List AV} {S : List Value}, Rs sp ρ ad a S → S.length = a.length
  | [], [], _ => rfl
  | _ :: _, _ :: _, h => by rw [List.length_cons, List.length_cons, Rs.len h.2]

section OPS
variable {sb : Nat → List Nat} {mt : Nat → Nat → Option MR} {dC : Nat → ClassId} {dI : Nat → Nat → Nat} {dA : Nat → ClassId} {sp : Nat → Nat} {H0 : Heap} {l : Launch}
variable {ih : GO} {p : Program} {e : Env} {R : Room} {s : State} {m : MethodId} {args : Array Value} {below : List Frame} {meth : Method} {c : Code} {Q : State → Prop} {ρ0 ad0 : List Nat} {M : MR} {cut pc len : Nat} {ins : Instr} {lk : List Nat} {cd tl : List ME} {σ : AS} {h : AH} {nc ns : Nat} {lv : AL} {st : List AV} {outs : List AO}

/-- what is asked of a callee's start, what its end gives -/
def cP (sb : Nat → List Nat) (dC : Nat → ClassId) (dI : Nat → Nat → Nat) (dA : Nat → ClassId) (sp : Nat → Nat) (H0 : Heap) (ρ ad : List Nat) (h : AH) (U : State) : Prop := ∃ ws, Hr sp dA ρ ad h ws ∧ va_P (dC, dI) vwCl ws U.heap ∧ va_D (aA H0) ws ∧ va_S (aA H0) H0 U.heap [] ∧ va_K (dC, dI) vwCl (ax_tys dA) U ∧ OX sp sb H0 ρ U
def cQ (dC : Nat → ClassId) (dI : Nat → Nat → Nat) (dA : Nat → ClassId) (sp : Nat → Nat) (H0 : Heap) (ρ ad : List Nat) (outs : List AO) : Array Value → State → Outcome → State → Prop := fun _ _ oc t => ∃ o ∈ outs, ∃ (ρ' ad' : List Nat) (ws : va_W) (RV : List Value), Sb ρ ρ' ∧ Sb ad ad' ∧ St ρ' o.1 ∧ Hr sp dA ρ' ad' o.2.1 ws ∧ va_P (dC, dI) vwCl ws t.heap ∧ va_D (aA H0) ws ∧ va_S (aA H0) H0 t.heap [] ∧ Rs sp ρ' ad' o.2.2.2.2.2.2.2 RV ∧ oc = .returned RV.head? ∧ RV.length ≤ 1
theorem cP.blind {ρ ad : List Nat} {av : List Value} : FrameBlind (va_Pc av (cP sb dC dI dA sp H0 ρ ad h)) := fun a U g mk q => by
  obtain ⟨q0, ws, q1, q2, q3, q4, q5, q6⟩ := q
  exact ⟨q0, ws, q1, q2, q3, q4, va_K.moved (u := U) (U := U.calling g mk a) (Vm.Alike.refl U.vm) q5, OX.warm (U := U.calling g mk a) (State.WarmedH.refl U) (Sb.rf ρ) q6⟩
set_option maxHeartbeats 1000000 in
theorem met_call (hI : Snd sb mt dC dI dA sp H0 l ih) {C : MR} (hM : Mok mt C) (hC : Mcw C) {ρ ad : List Nat} (hS : St ρ σ) {as : List AV} {av : List Value} (has : Rs sp ρ ad as av) (hwt : ax_wt as ≤ C.2.2.1) (hr : ih C 999999 0 C.2.2.2.2.2.2 σ h 0 0 (ax_locs 0 as) [] = some outs) (hop : outs.all (fun o => Nat.ble o.2.2.2.2.2.1 25) = true) :
    Met l C.1 (Cond.code C.1 C.2.1 C.2.2.1 C.2.2.2.1 :: GW) C.2.2.2.2.1 (va_Pc av (cP sb dC dI dA sp H0 ρ ad h)) (cQ dC dI dA sp H0 ρ ad outs) C.2.2.2.2.1.cells C.2.2.2.2.1.slots (aA H0) := by
  refine Met.ofW (cc := C.2.1) (maxL := C.2.2.1) (ret := C.2.2.2.1) hC.2 rfl ?_
  intro p e s m args below meth c s₁ B hml hv
  obtain ⟨rfl, ws, q1, q2, q3, q4, q5, q6⟩ := hv
  have hx := B.exec
  have hb := B.bytes
  have hrt := B.returns
  have hts := atoms_spec (ws := Cond.code C.1 C.2.1 C.2.2.1 C.2.2.2.1 :: GW) B.pre
  have hown : s.vm.findClass C.1.cls = some m.cls := findClass_of_methodNamed B.named
  have hlocks := B.notSynchronized
  have hin : meth.name = C.1.name := (name_of_methodNamed B.named B.method).1
  have hX : CX sb dC dI dA sp H0 ρ C p C.2.2.2.2.1 s m av.toArray meth c := ⟨hx, hb, hml, hown, fun w hw => hts w (List.mem_cons_of_mem _ hw), q5, hlocks, hrt, fun z => hin.trans z, rfl, q6⟩
  have hle : (lg_sl av).length ≤ C.2.2.1 := by rw [lg_len, has.wt]; exact hwt
  have hl := lv_entry av hle
  rw [lg_entry_eq]
  generalize (lg_sl av ++ List.replicate (C.2.2.1 - (lg_sl av).length) Slot.unset).toArray = ls at hl ⊢
  refine hI p e C.2.2.2.2.1 s m av.toArray below meth c _ ρ ad C 999999 0 _ _ _ _ _ _ _ outs hM (fun x hx => hx) hX hr (fun o ho hcond => ?_) ρ ad ws s.heap [] ls (lv_args 0 av) [] (Sb.rf ρ) (Sb.rf ad) hS q1 q2 q3 q4 (Rl.locs 0 has) hl trivial
  have hop1 := bb_le (List.all_eq_true.mp hop o ho)
  rcases hcond with h99 | ⟨ins, ho1, hdg, hrok, hc1, hc2⟩
  · omega
  · intro ρ' ad' ws' H locs ls' LV ST z1 z2 z3 z4 z5 z6 z7 z8 z9 z10
    have QOK : ∀ (RV : List Value), Rs sp ρ' ad' o.2.2.2.2.2.2.2 RV → RV.length ≤ 1 → ∀ t : State, t.heap = H → s.WarmedH t.vm → cQ dC dI dA sp H0 ρ ad outs av.toArray s (.returned RV.head?) t := fun RV hRV hl1 t ht hW =>
      ⟨o, ho, ρ', ad', ws', RV, z1, z2, z3, z4, by rw [ht]; exact z5, z6, by rw [ht]; exact ⟨z7.1, z7.2.1, fun _ h => by cases h⟩, hRV, rfl, hl1⟩
    refine W.widen (k := C.2.2.2.2.1.cells) (n := C.2.2.2.2.1.slots) hc1 hc2 ?_
    unfold ax_rok at hrok
    have hins : ins = .ireturn ∨ ins = .lreturn ∨ ins = .areturn ∨ ins = .return_ := by
      cases ins <;> first | exact Or.inl rfl | exact Or.inr (Or.inl rfl) | exact Or.inr (Or.inr (Or.inl rfl)) | exact Or.inr (Or.inr (Or.inr rfl)) | (rw [← ho1] at hrok; cases hrok; done)
    rcases hins with rfl | rfl | rfl | rfl
    · rw [← ho1] at hrok
      generalize hst : o.2.2.2.2.2.2.2 = sto at hrok z10 QOK
      match sto, hrok with
      | [v], hrok =>
        obtain ⟨V, ST1, rfl, hV, q11⟩ := Rs.cons z10
        obtain rfl := Rs.nil q11
        have hrok : (match C.2.2.2.1 with | some .int => ax_tI v | some .boolean => Nat.beq v.1 0 && Nat.ble v.2 1 | some .byte => Nat.beq v.1 0 && Nat.ble v.2 1 | some .char => Nat.beq v.1 0 && Nat.ble v.2 65535 | _ => false) = true := hrok
        cases hty : C.2.2.2.1 with
        | none => rw [hty] at hrok; cases hrok
        | some ty =>
          rw [hty] at hrok hrt
          cases ty <;> first | (cases hrok; done) | skip
          case int =>
            obtain ⟨x, rfl⟩ := hV.tI hrok
            exact W.iret hx hb hrt (fun t ht hW => QOK [.int x] ⟨hV, trivial⟩ (Nat.le_refl 1) t ht hW) z7.2.2 hdg hlocks
          case boolean =>
            have w := bb_and (a := Nat.beq v.1 0) hrok
            have w2 := bb_le w.2
            rw [tg w.1] at hV
            have hV' : V = .int (nI v.2) := hV
            subst hV'
            have hn : narrow .boolean (.int (nI v.2)) = .int (nI v.2) := by
              rcases (show v.2 = 0 ∨ v.2 = 1 by omega) with e | e <;> rw [e] <;> decide +kernel
            exact W.zret hx hb hrt hn (fun t ht hW => QOK [.int (nI v.2)] ⟨by rw [tg w.1]; exact rfl, trivial⟩ (Nat.le_refl 1) t ht hW) z7.2.2 hdg hlocks
          case byte =>
            have w := bb_and (a := Nat.beq v.1 0) hrok
            have w2 := bb_le w.2
            rw [tg w.1] at hV
            have hV' : V = .int (nI v.2) := hV
            subst hV'
            have hn : narrow .byte (.int (nI v.2)) = .int (nI v.2) := by
              rcases (show v.2 = 0 ∨ v.2 = 1 by omega) with e | e <;> rw [e] <;> decide +kernel
            exact W.zret hx hb hrt hn (fun t ht hW => QOK [.int (nI v.2)] ⟨by rw [tg w.1]; exact rfl, trivial⟩ (Nat.le_refl 1) t ht hW) z7.2.2 hdg hlocks
          case char =>
            have w := bb_and (a := Nat.beq v.1 0) hrok
            have w2 := bb_le w.2
            rw [tg w.1] at hV
            have hV' : V = .int (nI v.2) := hV
            subst hV'
            exact W.zret hx hb hrt (pk_charN (by omega)).1 (fun t ht hW => QOK [.int (nI v.2)] ⟨by rw [tg w.1]; exact rfl, trivial⟩ (Nat.le_refl 1) t ht hW) z7.2.2 hdg hlocks
    · rw [← ho1] at hrok
      generalize hst : o.2.2.2.2.2.2.2 = sto at hrok z10 QOK
      match sto, hrok with
      | [v], hrok =>
        obtain ⟨V, ST1, rfl, hV, q11⟩ := Rs.cons z10
        obtain rfl := Rs.nil q11
        have hrok : (match C.2.2.2.1 with | some .long => ax_tL v | _ => false) = true := hrok
        cases hty : C.2.2.2.1 with
        | none => rw [hty] at hrok; cases hrok
        | some ty =>
          rw [hty] at hrok hrt
          cases ty <;> first | (cases hrok; done) | skip
          case long =>
            obtain ⟨x, rfl⟩ := hV.tL hrok
            exact W.lret hx hb hrt (fun t ht hW => QOK [.long x] ⟨hV, trivial⟩ (Nat.le_refl 1) t ht hW) z7.2.2 hdg hlocks
    · rw [← ho1] at hrok
      generalize hst : o.2.2.2.2.2.2.2 = sto at hrok z10 QOK
      match sto, hrok with
      | [v], hrok =>
        obtain ⟨V, ST1, rfl, hV, q11⟩ := Rs.cons z10
        obtain rfl := Rs.nil q11
        have hrok : (match C.2.2.2.1 with | some (.object _) => Nat.beq v.1 2 | _ => false) = true := hrok
        cases hty : C.2.2.2.1 with
        | none => rw [hty] at hrok; cases hrok
        | some ty =>
          rw [hty] at hrok hrt
          cases ty <;> first | (cases hrok; done) | skip
          case object nm =>
            have hV2 := hV
            rw [tg (v := v) (t := 2) hrok] at hV2
            obtain ⟨a, -, rfl⟩ := hV2
            exact W.aret hx hb hrt (Or.inl ⟨nm, rfl⟩) (Or.inr ⟨a, rfl⟩) (fun t ht hW => QOK [.ref a] ⟨hV, trivial⟩ (Nat.le_refl 1) t ht hW) z7.2.2 hdg hlocks
    · rw [← ho1] at hrok
      generalize hst : o.2.2.2.2.2.2.2 = sto at hrok z10 QOK
      match sto, hrok with
      | [], hrok =>
        obtain rfl := Rs.nil z10
        have hrok : (match C.2.2.2.1 with | none => true | _ => false) = true := hrok
        cases hty : C.2.2.2.1 with
        | some ty => rw [hty] at hrok; cases hrok
        | none =>
          rw [hty] at hrt
          exact W.vret hx hb hrt (fun t ht hW => QOK [] trivial (Nat.zero_le 1) t ht hW) z7.2.2 hdg hlocks
/-- behind a call -/
theorem run_go {ρ ad : List Nat} {outs0 : List AO} {H : Heap} {locs : List Loc} {ls : Array Slot} {ST RS : List Value} {mc ms : Nat} {a : Array Value} (hr : va_Run p l e R s m args below meth c H locs nc ns mc ms (F0 m pc ls ST) RS (cQ dC dI dA sp H0 ρ ad outs0 a) (aA H0)) (hS : va_S (aA H0) H0 H locs)
    (kk : ∀ o ∈ outs0, ∀ (ρ' ad' : List Nat) (ws : va_W) (RV : List Value) (H1 : Heap) (locs1 : List Loc), Sb ρ ρ' → Sb ad ad' → St ρ' o.1 → Hr sp dA ρ' ad' o.2.1 ws → va_P (dC, dI) vwCl ws H1 → va_D (aA H0) ws → va_S (aA H0) H0 H1 locs1 → Rs sp ρ' ad' o.2.2.2.2.2.2.2 RV → W p l e R s m args below meth c H1 locs1 (nc + mc) (ns + ms) Q (F0 m (pc + 3) ls (RV ++ RS))) : W p l e R s m args below meth c H locs nc ns Q (F0 m pc ls ST) := by
  intro T hT X
  obtain ⟨v, st₀, t, T', L, h0, X', hL, e1, e2, ⟨o, ho, ρ', ad', ws, RV, k1, k2, k3, k4, k5, k6, k7, k8, k9, k10⟩, st⟩ := hr T hT X
  have hv : v.toList = RV := by
    have : v = RV.head? := by cases k9; rfl
    rw [this]
    match RV, k10 with
    | [], _ => rfl
    | [_], _ => rfl
  obtain ⟨t2, a1, b1⟩ := kk o ho ρ' ad' ws RV T'.heap (locs ++ L) k1 k2 k3 k4 (by rw [e1]; exact k5) k6 ⟨by rw [e1]; exact k7.1, by rw [e1]; exact k7.2.1, fun q hq => by
    rcases List.mem_append.mp hq with h | h
    · exact hS.2.2 q h
    · exact hL q h⟩ k8 T' rfl X'
  exact ⟨t2, st t2 (by rw [hv]; exact a1), b1⟩

theorem ax_mn_ok {ρ ad : List Nat} (hS : St ρ σ) {a b : AV} {A B : Value} (ha : Rp sp ρ ad a A) (hb : Rp sp ρ ad b B) {β : Type} {k : AS → AV → Option β} {r : β} (h : ax_mn σ a b k = some r) :
    ∃ (x y : Int32) (σ' : AS) (v : AV) (ρ' : List Nat), A = .int x ∧ B = .int y ∧ k σ' v = some r ∧ Sb ρ ρ' ∧ St ρ' σ' ∧ Rp sp ρ' ad v (.int (if y < x then y else x)) := by
  unfold ax_mn at h
  obtain ⟨ra, ea, h1⟩ := ob_s h
  obtain ⟨rb, eb, h2⟩ := ob_s h1
  obtain ⟨x, hx, x1, x2, x3⟩ := ax_rI_ok hS ha ea
  obtain ⟨y, hy, y1, y2, y3⟩ := ax_rI_ok hS hb eb
  subst hx
  subst hy
  cases hc : (Nat.beq ra.1 ra.2 && Nat.beq rb.1 rb.2) with
  | true =>
    rw [hc] at h2
    have w := bb_and hc
    have w1 := bb_eq w.1
    have w2 := bb_eq w.2
    cases hd : Nat.blt rb.1 ra.1 with
    | true =>
      have h2 : (bif Nat.blt rb.1 ra.1 then k σ b else k σ a) = some r := h2
      rw [hd] at h2
      have := bb_lt hd
      exact ⟨x, y, σ, b, ρ, rfl, rfl, h2, Sb.rf ρ, hS, by rw [if_pos (by rw [lt_zI]; omega)]; exact hb⟩
    | false =>
      have h2 : (bif Nat.blt rb.1 ra.1 then k σ b else k σ a) = some r := h2
      rw [hd] at h2
      have := bb_nlt hd
      exact ⟨x, y, σ, a, ρ, rfl, rfl, h2, Sb.rf ρ, hS, by rw [if_neg (by rw [lt_zI]; omega)]; exact ha⟩
  | false =>
    rw [hc] at h2
    have hm : (min ra.1 rb.1 : Nat) ≤ zI (if y < x then y else x) ∧ zI (if y < x then y else x) ≤ min ra.2 rb.2 := by
      by_cases c1 : y < x
      · rw [if_pos c1]; rw [lt_zI] at c1; omega
      · rw [if_neg c1]; rw [lt_zI] at c1; omega
    have hn := nwI (sp := sp) (ad := ad) hS (if y < x then y else x) (q := (min ra.1 rb.1, min ra.2 rb.2)) hm.1 hm.2
    exact ⟨x, y, _, _, _, rfl, rfl, h2, hn.1, hn.2.1, hn.2.2⟩

end OPS
end
section
/-! 20.nat -/
/-! THE ABSTRACT MACHINE, 16: calls, each kind -/
section OPS
variable {sb : Nat → List Nat} {mt : Nat → Nat → Option MR} {dC : Nat → ClassId} {dI : Nat → Nat → Nat} {dA : Nat → ClassId} {sp : Nat → Nat} {H0 : Heap} {l : Launch}
variable {ih : GO} {p : Program} {e : Env} {R : Room} {s : State} {m : MethodId} {args : Array Value} {below : List Frame} {meth : Method} {c : Code} {Q : State → Prop} {ρ0 ad0 : List Nat} {M : MR} {cut pc len : Nat} {ins : Instr} {lk : List Nat} {cd tl : List ME} {σ : AS} {h : AH} {nc ns : Nat} {lv : AL} {st : List AV} {outs : List AO}

theorem sn_obj (hI : Snd sb mt dC dI dA sp H0 l ih) (hM : Mok mt M) (htl : ∀ x ∈ tl, x ∈ M.2.2.2.2.2.2) (hX : CX sb dC dI dA sp H0 ρ0 M p R s m args meth c) (hR : ∀ o ∈ outs, RO dC dI dA sp H0 l p e R s m args below meth c Q ρ0 ad0 M o) (hdg : decode M.2.1 pc = .ok (ins, len)) (hlen : len = ax_len ins) (hlk : lok mt M pc ins (900 :: lk) = true) (ho : ax_op ins = 21)
    (hr : lc st (fun a r => gd (Nat.beq a.1 2 && (Nat.ble 1 M.2.2.2.2.1.frames && Nat.ble (ax_wt r + 12) M.2.2.2.2.1.locals)) (ih M cut (pc + len) tl σ h nc ns lv r)) = some outs) : GG dC dI dA sp H0 l p e R s m args below meth c Q ρ0 ad0 M.2.2.1 pc σ h nc ns lv st := by
  obtain ⟨a, r, rfl, hr1⟩ := lc_s hr
  obtain ⟨g1, hr2⟩ := gd_s hr1
  obtain ⟨hx, hb, hml, hown, hts, hK, hlocks, hrt, hin, hRoom, hO⟩ := id hX
  intro ρ ad ws H locs ls LV ST q1 q2 q3 q4 q5 q6 q7 q8 q9 q10
  obtain ⟨A, ST2, rfl, hA, q12⟩ := q10.cons
  have w := bb_and g1
  have w2 := bb_and w.2
  rw [tg w.1] at hA
  obtain ⟨a0, -, rfl⟩ := hA
  subst hRoom
  cases ins <;> first | (exact absurd ho (Nat.ne_of_beq_eq_false rfl)) | skip
  case invokevirtual idx =>
    match lk, hlk with
    | b :: kc :: ci :: m1 :: m2 :: i1 :: i2 :: s1 :: s2 :: n1 :: n2 :: _, hlk =>
      exfalso
      have hl := hlk
      unfold lok at hl
      cases hC : mt 900 b with
      | none => simp [hC] at hl
      | some C => simp [hC] at hl
  case invokestatic idx =>
    match lk, hlk with
    | b :: kc :: ci :: m1 :: m2 :: i1 :: i2 :: n1 :: n2 :: ne :: _, hlk =>
      exfalso
      have hl := hlk
      unfold lok at hl
      cases hC : mt 900 b with
      | none => simp [hC] at hl
      | some C => simp [hC] at hl
  case invokespecial idx =>
    match lk, hlk with
    | m1 :: m2 :: i1 :: i2 :: c1 :: c2 :: _, hlk =>
      have hl : (wdq m1 m2 (.methodLink M.1.cls idx objectInit) && (wdq i1 i2 (.instanceMethod objectInit) && wdq c1 c2 (.code objectInit ⟨#[0xb1]⟩ 1 none))) = true := hlk
      have u := bb_and hl
      have u2 := bb_and u.2
      subst hlen
      exact W.objInit hx hb hown (hts _ (wdq_in u.1)) (hts _ (wdq_in u2.1)) (hts _ (wdq_in u2.2)) rfl (by rw [hml]; exact q9.1) rfl hdg (bb_le w2.1) (by show 2 * 0 + _ + 12 ≤ _; rw [q12.wt]; have := bb_le w2.2; omega) ((hI p e _ s m args below meth c Q ρ0 ad0 M cut _ tl _ _ _ _ _ _ outs hM htl hX hr2 hR) ρ ad ws H locs ls LV ST2 q1 q2 q3 q4 q5 q6 q7 q8 q9 q12)

theorem sn_copy (hI : Snd sb mt dC dI dA sp H0 l ih) (hM : Mok mt M) (htl : ∀ x ∈ tl, x ∈ M.2.2.2.2.2.2) (hX : CX sb dC dI dA sp H0 ρ0 M p R s m args meth c) (hR : ∀ o ∈ outs, RO dC dI dA sp H0 l p e R s m args below meth c Q ρ0 ad0 M o) (hdg : decode M.2.1 pc = .ok (ins, len)) (hlen : len = ax_len ins) (hlk : lok mt M pc ins (901 :: lk) = true) (ho : ax_op ins = 21)
    (hr : gd (Nat.ble 1 M.2.2.2.2.1.frames && (Nat.ble 60 M.2.2.2.2.1.locals && Nat.ble (ax_wt st) 20)) (ax_copy σ h st (fun h' r => ih M cut (pc + len) tl σ h' nc ns lv r)) = some outs) : GG dC dI dA sp H0 l p e R s m args below meth c Q ρ0 ad0 M.2.2.1 pc σ h nc ns lv st := by
  obtain ⟨g1, hr1⟩ := gd_s hr
  unfold ax_copy at hr1
  obtain ⟨n, st1, rfl, hr2⟩ := lc_s hr1
  obtain ⟨dp, st2, rfl, hr3⟩ := lc_s hr2
  obtain ⟨d, st3, rfl, hr4⟩ := lc_s hr3
  obtain ⟨sq, st4, rfl, hr5⟩ := lc_s hr4
  obtain ⟨sr, r, rfl, hr6⟩ := lc_s hr5
  obtain ⟨g2, hr7⟩ := gd_s hr6
  obtain ⟨cd', ed, hr8⟩ := ob_s hr7
  obtain ⟨cs, es, hr9⟩ := ob_s hr8
  obtain ⟨g3, hr10⟩ := gd_s hr9
  obtain ⟨h', hr11, hh1, hh2⟩ := ax_hs_ok hr10
  obtain ⟨hx, hb, hml, hown, hts, hK, hlocks, hrt, hin, hRoom, hO⟩ := id hX
  intro ρ ad ws H locs ls LV ST q1 q2 q3 q4 q5 q6 q7 q8 q9 q10
  obtain ⟨N, ST1, rfl, hN, q11⟩ := q10.cons
  obtain ⟨DP, ST2, rfl, hDP, q12⟩ := q11.cons
  obtain ⟨D, ST3, rfl, hD, q13⟩ := q12.cons
  obtain ⟨SQ, ST4, rfl, hSQ, q14⟩ := q13.cons
  obtain ⟨SR, ST5, rfl, hSR, q15⟩ := q14.cons
  have w1 := bb_and g2
  have w2 := bb_and w1.2
  have w3 := bb_and w2.2
  have w4 := bb_and w3.2
  have w5 := bb_and w4.2
  have w6 := bb_and w5.2
  have hN := ax_nv_ok q3 hN
  have hDP := ax_nv_ok q3 hDP
  have hSQ := ax_nv_ok q3 hSQ
  rw [tg w3.1] at hN
  rw [tg w4.1, bb_eq w6.1] at hDP
  rw [tg w5.1, bb_eq w6.2] at hSQ
  have hN : N = .int (nI (ax_nv σ n).2) := hN
  have hDP : DP = .int (nI 0) := hDP
  have hSQ : SQ = .int (nI 0) := hSQ
  subst hN
  subst hDP
  subst hSQ
  rw [tg w1.1] at hD
  rw [tg w2.1] at hSR
  obtain ⟨aD, ED, hwD, rfl, hED⟩ := q4.get ed hD
  obtain ⟨aS, ES, hwS, rfl, hES⟩ := q4.get es hSR
  have v1 := bb_and g3
  have v2 := bb_and v1.2
  have v3 := bb_and v2.2
  have v4 := bb_and v3.2
  have k1 := bb_eq v1.1
  have k2 := bb_eq v3.1
  have k3 := bb_eq v4.1
  have k4 := bb_le v4.2
  have y := bb_and g1
  have y2 := bb_and y.2
  have y3 := bb_le y2.1
  have y4 := bb_le y2.2
  have hwt := q10.wt
  have hwt5 := q15.wt
  simp only [List.map_cons, List.sum_cons] at hwt
  have c0 : (nI 0).toNatClampNeg = 0 := nI_clamp (by omega)
  have cN : (nI (ax_nv σ n).2).toNatClampNeg = (ax_nv σ n).2 := nI_clamp (by omega)
  have hloc : (ST5.map fun v => v.category).sum + (nativeFrameWords "java/lang/System" "arraycopy" 5 + 11) ≤ M.2.2.2.2.1.locals := by
    have e18 : nativeFrameWords "java/lang/System" "arraycopy" 5 = 7 := by decide +kernel
    rw [e18]
    omega
  subst hRoom
  have WORDS : ∃ idx m1 m2 i1 i2 s1 s2 n1 n2, ins = .invokestatic idx ∧ wdq m1 m2 (.methodLink M.1.cls idx arraycopyName) = true ∧ wdq i1 i2 (.native arraycopyName) = true ∧ wdq s1 s2 (.static arraycopyName) = true ∧ wdq n1 n2 (.initialized "java/lang/System") = true := by
    cases ins <;> first | (exact absurd ho (Nat.ne_of_beq_eq_false rfl)) | skip
    case invokevirtual idx =>
      match lk, hlk with
      | b :: kc :: ci :: m1 :: m2 :: i1 :: i2 :: s1 :: s2 :: n1 :: n2 :: _, hlk =>
        exfalso
        have hl := hlk
        unfold lok at hl
        cases hC : mt 901 b with
        | none => simp [hC] at hl
        | some C => simp [hC] at hl
    case invokespecial idx =>
      match lk, hlk with
      | b :: kc :: ci :: m1 :: m2 :: i1 :: i2 :: n1 :: n2 :: ne :: _, hlk =>
        exfalso
        have hl := hlk
        unfold lok at hl
        cases hC : mt 901 b with
        | none => simp [hC] at hl
        | some C => simp [hC] at hl
    case invokestatic idx =>
      match lk, hlk with
      | m1 :: m2 :: i1 :: i2 :: s1 :: s2 :: n1 :: n2 :: _, hlk =>
        have hl : (wdq m1 m2 (.methodLink M.1.cls idx arraycopyName) && (wdq i1 i2 (.native arraycopyName) && (wdq s1 s2 (.static arraycopyName) && wdq n1 n2 (.initialized "java/lang/System")))) = true := hlk
        have u := bb_and hl
        have u2 := bb_and u.2
        have u3 := bb_and u2.2
        exact ⟨idx, m1, m2, i1, i2, s1, s2, n1, n2, rfl, u.1, u2.1, u3.1, u3.2⟩
  obtain ⟨idx, m1, m2, i1, i2, s1, s2, n1, n2, rfl, u1, u2, u3, u4⟩ := WORDS
  have hlen : len = 3 := hlen
  subst hlen
  have G := (hI p e _ s m args below meth c Q ρ0 ad0 M cut _ tl _ _ _ _ _ _ outs hM htl hX hr11 hR)
  rcases (Bool.or_eq_true _ _).mp v2.1 with z | z
  · have kk : cs.1 = 100 := bb_eq z
    obtain ⟨g, rfl, hg⟩ := hED.ints (Or.inl (by omega))
    obtain ⟨f, rfl, hf⟩ := hES.ints (Or.inl kk)
    have hE' : Er sp dA ρ ad (cd'.1, cd'.2.1, cs.2.2) (.inl (dA 100, cd'.2.1, .inl (va_cpy f g (nI 0).toNatClampNeg (nI 0).toNatClampNeg (nI (ax_nv σ n).2).toNatClampNeg))) := Or.inr (Or.inl ⟨Or.inl (by show cd'.1 = 100; omega), _, by rw [show cd'.1 = 100 by omega], fun j v hv => by
      have hj := hf j v hv
      refine ⟨by show j < cd'.2.1; omega, ?_⟩
      rw [c0, cN, pk_cpy_in (Nat.zero_le j) (by omega), Nat.zero_add, Nat.sub_zero]
      exact hj.2⟩)
    rw [show cd'.1 = 100 by omega] at hwD
    rw [kk] at hwS
    exact va_copyi hx hb (by rw [hml]; exact q9.1.symm) hown (hts _ (wdq_in u1)) (hts _ (wdq_in u2)) (hts _ (wdq_in u3)) (hts _ (wdq_in u4)) hK q5 q6 q7 sr.2 d.2 0 0 hwS hwD rfl rfl rfl (nI_pos (by omega)) (nI_pos (by omega)) (nI_pos (by omega)) (by rw [c0, cN]; omega) (by rw [c0, cN]; omega) (fun _ _ => rfl) (bb_le y.1) hloc hdg (fun H1 locs1 z1 z2 z3 => G ρ ad _ H1 locs1 ls LV ST5 q1 q2 q3 (q4.set hwD hh1 hh2 hE') z1 z2 z3 q8 q9 q15)
  · have kk : cs.1 = 101 := bb_eq z
    obtain ⟨g, rfl, hg⟩ := hED.longs (by omega)
    obtain ⟨f, rfl, hf⟩ := hES.longs kk
    have hE' : Er sp dA ρ ad (cd'.1, cd'.2.1, cs.2.2) (.inl (dA 101, cd'.2.1, .inr (.inl (va_cpy f g (nI 0).toNatClampNeg (nI 0).toNatClampNeg (nI (ax_nv σ n).2).toNatClampNeg)))) := Or.inr (Or.inr (Or.inl ⟨by show cd'.1 = 101; omega, _, by rw [show cd'.1 = 101 by omega], fun j v hv => by
      have hj := hf j v hv
      refine ⟨by show j < cd'.2.1; omega, ?_⟩
      rw [c0, cN, pk_cpy_in (Nat.zero_le j) (by omega), Nat.zero_add, Nat.sub_zero]
      exact hj.2⟩))
    rw [show cd'.1 = 101 by omega] at hwD
    rw [kk] at hwS
    exact va_copyl hx hb (by rw [hml]; exact q9.1.symm) hown (hts _ (wdq_in u1)) (hts _ (wdq_in u2)) (hts _ (wdq_in u3)) (hts _ (wdq_in u4)) hK q5 q6 q7 sr.2 d.2 1 1 hwS hwD rfl rfl rfl (nI_pos (by omega)) (nI_pos (by omega)) (nI_pos (by omega)) (by rw [c0, cN]; omega) (by rw [c0, cN]; omega) (fun _ _ => rfl) (bb_le y.1) hloc hdg (fun H1 locs1 z1 z2 z3 => G ρ ad _ H1 locs1 ls LV ST5 q1 q2 q3 (q4.set hwD hh1 hh2 hE') z1 z2 z3 q8 q9 q15)

theorem sn_min (hI : Snd sb mt dC dI dA sp H0 l ih) (hM : Mok mt M) (htl : ∀ x ∈ tl, x ∈ M.2.2.2.2.2.2) (hX : CX sb dC dI dA sp H0 ρ0 M p R s m args meth c) (hR : ∀ o ∈ outs, RO dC dI dA sp H0 l p e R s m args below meth c Q ρ0 ad0 M o) (hdg : decode M.2.1 pc = .ok (ins, len)) (hlen : len = ax_len ins) (hlk : lok mt M pc ins (902 :: lk) = true) (ho : ax_op ins = 21)
    (hr : lc st (fun b st => lc st (fun a r => gd (Nat.ble 1 M.2.2.2.2.1.frames && (Nat.ble (ax_wt r + 13) M.2.2.2.2.1.locals && (Nat.ble nc M.2.2.2.2.1.cells && Nat.ble ns M.2.2.2.2.1.slots))) (ax_mn σ (ax_nv σ a) (ax_nv σ b) (fun σ' v => ih M cut (pc + len) tl σ' h nc ns lv (v :: r))))) = some outs) : GG dC dI dA sp H0 l p e R s m args below meth c Q ρ0 ad0 M.2.2.1 pc σ h nc ns lv st := by
  obtain ⟨b, st1, rfl, hr1⟩ := lc_s hr
  obtain ⟨a, r, rfl, hr2⟩ := lc_s hr1
  obtain ⟨g1, hr3⟩ := gd_s hr2
  obtain ⟨hx, hb, hml, hown, hts, hK, hlocks, hrt, hin, hRoom, hO⟩ := id hX
  intro ρ ad ws H locs ls LV ST q1 q2 q3 q4 q5 q6 q7 q8 q9 q10
  obtain ⟨B, ST1, rfl, hB, q11⟩ := q10.cons
  obtain ⟨A, ST2, rfl, hA, q12⟩ := q11.cons
  obtain ⟨x, y, σ', v, ρ', rfl, rfl, hr4, r1, r2, r3⟩ := ax_mn_ok q3 (ax_nv_ok q3 hA) (ax_nv_ok q3 hB) hr3
  have w := bb_and g1
  have w2 := bb_and w.2
  have w3 := bb_and w2.2
  subst hRoom
  have K := (hI p e _ s m args below meth c Q ρ0 ad0 M cut _ tl _ _ _ _ _ _ outs hM htl hX hr4 hR) ρ' ad ws H locs ls LV (.int (if y < x then y else x) :: ST2) (q1.tr r1) q2 r2 (q4.monoρ r1) q5 q6 q7 (q8.mono r1 (Sb.rf ad)) q9 ⟨r3, q12.mono r1 (Sb.rf ad)⟩
  cases ins <;> first | (exact absurd ho (Nat.ne_of_beq_eq_false rfl)) | skip
  case invokevirtual idx =>
    match lk, hlk with
    | b :: kc :: ci :: m1 :: m2 :: i1 :: i2 :: s1 :: s2 :: n1 :: n2 :: _, hlk =>
      exfalso
      have hl := hlk
      unfold lok at hl
      cases hC : mt 902 b with
      | none => simp [hC] at hl
      | some C => simp [hC] at hl
  case invokespecial idx =>
    match lk, hlk with
    | b :: kc :: ci :: m1 :: m2 :: i1 :: i2 :: n1 :: n2 :: ne :: _, hlk =>
      exfalso
      have hl := hlk
      unfold lok at hl
      cases hC : mt 902 b with
      | none => simp [hC] at hl
      | some C => simp [hC] at hl
  case invokestatic idx =>
    match lk, hlk with
    | m1 :: m2 :: s1 :: s2 :: n1 :: n2 :: c1 :: c2 :: _, hlk =>
      have hl : (wdq m1 m2 (.methodLink M.1.cls idx Lib.Math.min.name) && (wdq s1 s2 (.static Lib.Math.min.name) && (wdq n1 n2 (.initialized "java/lang/Math") && wdq c1 c2 (.code Lib.Math.min.name Lib.Math.min.code 2 (some .int))))) = true := hlk
      have u := bb_and hl
      have u2 := bb_and u.2
      have u3 := bb_and u2.2
      subst hlen
      exact va_mmin hx hb (by rw [hml]; exact q9.1.symm) hown (hts _ (wdq_in u.1)) (hts _ (wdq_in u2.1)) (hts _ (wdq_in u3.1)) (hts _ (wdq_in u3.2)) (bb_le w.1) (by rw [q12.wt]; have := bb_le w2.1; omega) (bb_le w3.1) (bb_le w3.2) hdg K

end OPS
end
section
/-! 21.inv -/
/-! THE ABSTRACT MACHINE, 17: calls of methods that have a table -/
section OPS
variable {sb : Nat → List Nat} {mt : Nat → Nat → Option MR} {dC : Nat → ClassId} {dI : Nat → Nat → Nat} {dA : Nat → ClassId} {sp : Nat → Nat} {H0 : Heap} {l : Launch}
variable {ih : GO} {p : Program} {e : Env} {R : Room} {s : State} {m : MethodId} {args : Array Value} {below : List Frame} {meth : Method} {c : Code} {Q : State → Prop} {ρ0 ad0 : List Nat} {M : MR} {cut pc len : Nat} {ins : Instr} {lk : List Nat} {cd tl : List ME} {σ : AS} {h : AH} {nc ns : Nat} {lv : AL} {st : List AV} {outs : List AO}

theorem lok_sp {idx a b kc ci : Nat} {lk4 : List Nat} (h9 : Nat.beq a 900 = false) (hk : lok mt M pc (.invokespecial idx) (a :: b :: kc :: ci :: lk4) = true) : ∃ m1 m2 i1 i2 n1 n2 ne : Nat, (match mt a b with
          | some C => Nat.beq kc 1 && ((bif Nat.beq ne 0 then wdq m1 m2 (.methodLink M.1.cls idx C.1) else wdn m1 m2 (.methodLinkNest M.1.cls idx C.1 RX11)) && (wdq i1 i2 (.instanceMethod C.1) && (wdq n1 n2 (.initialized C.1.cls) && (decide (C.1.cls ≠ "java/lang/invoke/MethodHandle" ∧ C.1.cls ≠ "java/lang/invoke/VarHandle" ∧ (parseMethodDescriptor C.1.desc).map (fun d => d.parameters.length) = some (C.2.2.2.2.2.1 - 1)) && (Nat.ble 1 C.2.2.2.2.2.1 && (decide (C.1.name = "<init>") && (decide (C.2.2.2.1 = none) && (!(Nat.beq a 901) && !(Nat.beq a 902)))))))))
          | none => false) = true := by
  have h1 := hk
  unfold lok at h1
  dsimp only at h1
  rw [h9] at h1
  match lk4, h1 with
  | m1 :: m2 :: i1 :: i2 :: n1 :: n2 :: ne :: _, h1 => exact ⟨m1, m2, i1, i2, n1, n2, ne, h1⟩
theorem lok_st {idx a b kc ci : Nat} {lk4 : List Nat} (h9 : Nat.beq a 901 = false) (h9c : Nat.beq a 902 = false) (hk : lok mt M pc (.invokestatic idx) (a :: b :: kc :: ci :: lk4) = true) : ∃ m1 m2 i1 i2 n1 n2 ne : Nat, (match mt a b with
          | some C => Nat.beq kc 2 && ((bif Nat.beq ne 0 then wdq m1 m2 (.methodLink M.1.cls idx C.1) else wdn m1 m2 (.methodLinkNest M.1.cls idx C.1 RX11)) && (wdq i1 i2 (.static C.1) && (wdq n1 n2 (.initialized C.1.cls) && (decide (C.1.cls ≠ "java/lang/invoke/MethodHandle" ∧ C.1.cls ≠ "java/lang/invoke/VarHandle" ∧ (parseMethodDescriptor C.1.desc).map (fun d => d.parameters.length) = some C.2.2.2.2.2.1) && !(Nat.beq a 900)))))
          | none => Nat.beq a 903 && (wdq b kc (.methodLink M.1.cls idx Lib.Math.max.name) && (wdq ci m1 (.static Lib.Math.max.name) && (wdq m2 i1 (.initialized "java/lang/Math") && wdq i2 n1 (.code Lib.Math.max.name Lib.Math.max.code 2 (some .int)))))) = true := by
  have h1 := hk
  unfold lok at h1
  dsimp only at h1
  rw [h9, h9c] at h1
  match lk4, h1 with
  | m1 :: m2 :: i1 :: i2 :: n1 :: n2 :: ne :: _, h1 => exact ⟨m1, m2, i1, i2, n1, n2, ne, h1⟩

set_option maxHeartbeats 2000000 in
theorem sn_call (hMT : ∀ a b C, mt a b = some C → Mok mt C ∧ Mcw C) (hI : Snd sb mt dC dI dA sp H0 l ih) (hM : Mok mt M) (htl : ∀ x ∈ tl, x ∈ M.2.2.2.2.2.2) (hX : CX sb dC dI dA sp H0 ρ0 M p R s m args meth c) (hR : ∀ o ∈ outs, RO dC dI dA sp H0 l p e R s m args below meth c Q ρ0 ad0 M o) (hdg : decode M.2.1 pc = .ok (ins, len)) (hlen : len = ax_len ins) (hlk : lok mt M pc ins lk = true) (ho : ax_op ins = 21) (h900 : ∀ x lk', lk = x :: lk' → Nat.beq x 900 = false ∧ Nat.beq x 901 = false ∧ Nat.beq x 902 = false)
    (hr : ax_call mt ih M lk σ h nc ns st (fun o rest nc' ns' => ih M cut (pc + len) tl o.1 o.2.1 nc' ns' lv (o.2.2.2.2.2.2.2 ++ rest)) = some outs) : GG dC dI dA sp H0 l p e R s m args below meth c Q ρ0 ad0 M.2.2.1 pc σ h nc ns lv st := by
  unfold ax_call at hr
  obtain ⟨a, lk1, rfl, hr1⟩ := lc_s hr
  obtain ⟨b, lk2, rfl, hr2⟩ := lc_s hr1
  obtain ⟨kc, lk3, rfl, hr3⟩ := lc_s hr2
  obtain ⟨ci, lk4, rfl, hr4⟩ := lc_s hr3
  obtain ⟨C, hC, hr5⟩ := ob_s hr4
  obtain ⟨⟨as, rest⟩, ha, hr6⟩ := ob_s hr5
  obtain ⟨g1, hr7⟩ := gd_s hr6
  obtain ⟨outs0, h0, hr8⟩ := ob_s hr7
  obtain ⟨hop, hr9⟩ := gd_s hr8
  obtain ⟨hMC, hCC⟩ := hMT a b C hC
  obtain ⟨u, rfl, rfl, hu⟩ := ax_args_ok _ ha
  rw [List.append_nil] at h0 g1
  have w1 := bb_and g1
  have w2 := bb_and w1.2
  have w3 := bb_and w2.2
  have w4 := bb_and w3.2
  have w5 := bb_and w4.2
  have w6 := bb_and w5.2
  have f1 := bb_lt w1.1
  have f2 := bb_le w2.1
  have f3 := bb_le w3.1
  have f4 := bb_le w4.1
  have f5 := bb_le w5.1
  have f6 := bb_le w6.1
  dsimp only at f3
  obtain ⟨hx, hb, hml, hown, hts, hK, hlocks, hrt, hin, hRoom, hO⟩ := id hX
  intro ρ ad ws H locs ls LV ST q1 q2 q3 q4 q5 q6 q7 q8 q9 q10
  obtain ⟨UA, RV0, rfl, hUA, hRest⟩ := Rs.split q10
  have hAS := hUA.rev
  rw [List.reverse_reverse] at hAS
  have hMet := met_call hI hMC hCC q3 hAS f6 h0 hop
  subst hRoom
  have hcw : ∀ w ∈ (Cond.code C.1 C.2.1 C.2.2.1 C.2.2.2.1 :: GW), w ∈ GW := fun w hw => by
    rcases List.mem_cons.mp hw with rfl | hw
    · exact hCC.1
    · exact hw
  have hGd : GoodIn GW (Cond.code C.1 C.2.1 C.2.2.1 C.2.2.2.1 :: GW) := GW_good hcw
  have hwt : (RV0.map fun v => v.category).sum ≤ 8 := by rw [hRest.wt]; exact f3
  have hPc : ∀ U : State, U.heap = H → s.WarmedH U.vm → cP sb dC dI dA sp H0 ρ ad h U := fun U hU hW => ⟨ws, q4, by rw [hU]; exact q5, q6, by rw [hU]; exact ⟨q7.1, q7.2.1, fun _ h => by cases h⟩, va_K.moved hW.alike hK, OX.warm hW q1 hO⟩
  have hlen3 : len = 3 := by
    rw [hlen]
    cases ins <;> first | (exact absurd ho (Nat.ne_of_beq_eq_false rfl)) | rfl
  subst hlen3
  have FIN : va_Run p l e M.2.2.2.2.1 s m args below meth c H locs nc ns C.2.2.2.2.1.cells C.2.2.2.2.1.slots (F0 m pc ls (UA ++ RV0)) RV0 (cQ dC dI dA sp H0 ρ ad outs0 UA.reverse.toArray) (aA H0) → W p l e M.2.2.2.2.1 s m args below meth c H locs nc ns Q (F0 m pc ls (UA ++ RV0)) := fun hrun => by
    refine run_go hrun q7 (fun o hoo ρ' ad' ws' RV H1 locs1 k1 k2 k3 k4 k5 k6 k7 k8 => ?_)
    obtain ⟨o', e1, e2⟩ := ax_all_s hr9 _ (List.mem_map.mpr ⟨o, hoo, rfl⟩)
    exact (hI p e _ s m args below meth c Q ρ0 ad0 M cut _ tl _ _ _ _ _ _ o' hM htl hX e1 (fun z hz => hR z (e2 z hz))) ρ' ad' ws' H1 locs1 ls LV (RV ++ RV0) (q1.tr k1) (q2.tr k2) k3 k4 k5 k6 k7 (q8.mono k1 k2) q9 (k8.app (hRest.mono k1 k2))
  have hRm : C.2.2.2.2.1.frames + 1 ≤ M.2.2.2.2.1.frames ∧ 8 + (C.2.2.1 + 11) + C.2.2.2.2.1.locals ≤ M.2.2.2.2.1.locals := ⟨f1, f2⟩
  have hlenU : UA.length = u.length := by rw [hUA.len, List.length_reverse]
  obtain ⟨h9a, h9b, h9c⟩ := h900 a _ rfl
  have SPLIT : 1 ≤ u.length → ∃ A0 AR VA, u = A0 :: AR ∧ UA.reverse = VA :: UA.reverse.tail ∧ Rp sp ρ ad A0 VA ∧ UA ++ RV0 = UA.reverse.tail.reverse ++ VA :: RV0 := fun hp => by
    cases u with
    | nil => cases hp
    | cons A0 AR =>
      obtain ⟨VA, VR, e1, e2, -⟩ := Rs.cons hAS
      refine ⟨A0, AR, VA, rfl, by rw [e1]; rfl, e2, ?_⟩
      have e3 := congrArg List.reverse e1
      rw [List.reverse_reverse, List.reverse_cons] at e3
      rw [e1]
      show UA ++ RV0 = VR.reverse ++ VA :: RV0
      rw [e3]
      simp
  cases ins <;> first | (exact absurd ho (Nat.ne_of_beq_eq_false rfl)) | skip
  case invokevirtual idx =>
    match lk4, hlk with
    | m1 :: m2 :: i1 :: i2 :: s1 :: s2 :: n1 :: n2 :: _, hlk =>
      have hl : (match mt a b with
        | some C => Nat.beq kc 0 && (wdq m1 m2 (.methodLink M.1.cls idx C.1) && (wdq i1 i2 (.instanceMethod C.1) && (wdq s1 s2 (.selects C.1.cls C.1 C.1) && (wdq n1 n2 (.initialized C.1.cls) && ((bif Nat.beq ci 200 then decide (C.1.cls = sSTR) else decide (vwCl[ci]?.map (fun q => q.1) = some C.1.cls)) && (decide (C.1.cls ≠ "java/lang/invoke/MethodHandle" ∧ C.1.cls ≠ "java/lang/invoke/VarHandle" ∧ (parseMethodDescriptor C.1.desc).map (fun d => d.parameters.length) = some (C.2.2.2.2.2.1 - 1)) && (Nat.ble 1 C.2.2.2.2.2.1 && (!(Nat.beq a 900) && (!(Nat.beq a 901) && !(Nat.beq a 902))))))))))
        | none => false) = true := hlk
      rw [hC] at hl
      have v1 := bb_and (a := Nat.beq kc 0) hl
      have v2 := bb_and v1.2
      have v3 := bb_and v2.2
      have v4 := bb_and v3.2
      have v5 := bb_and v4.2
      have v6 := bb_and v5.2
      have v7 := bb_and v6.2
      have v8 := bb_and v7.2
      have hkc := bb_eq v1.1
      have hn1 := bb_le v8.1
      have hds := of_decide_eq_true v7.1
      obtain ⟨A0, AR, VA, e1, e2, e3, e4⟩ := SPLIT (by omega)
      have hrc : ax_rcv h ci u = true := by
        rcases (Bool.or_eq_true _ _).mp w6.2 with z | z
        · rw [hkc] at z; cases z
        · exact (bb_and z).2
      have RECV : ∃ b0, VA = .ref b0 ∧ ∃ cellB : Cell, H[b0]? = some cellB ∧ cellB.vm.isStatics = false ∧ s.vm.findClass C.1.cls = some cellB.cls := by
        rw [e1] at hrc
        have hrc : (bif Nat.beq A0.1 2 then (match ax_hn h A0.2 with | some c => Nat.beq c.1 ci && Nat.blt ci 100 | none => false) else Nat.beq A0.1 6 && (Nat.beq ci 200 && (Nat.beq A0.2 1 || Nat.beq A0.2 3))) = true := hrc
        cases ht : Nat.beq A0.1 2 with
        | true =>
          rw [ht] at hrc
          have hrc : (match ax_hn h A0.2 with | some c => Nat.beq c.1 ci && Nat.blt ci 100 | none => false) = true := hrc
          cases hcc : ax_hn h A0.2 with
          | none => rw [hcc] at hrc; cases hrc
          | some cl =>
            rw [hcc] at hrc
            have y := bb_and (a := Nat.beq cl.1 ci) hrc
            have y1 := bb_eq y.1
            have y2 := bb_lt y.2
            rw [tg ht] at e3
            obtain ⟨a0, E, hw, rfl, hE⟩ := q4.get hcc e3
            obtain ⟨VS, rfl, -, -⟩ := hE.obj (by omega)
            have z := v6.1
            rw [bb_nb (show ci ≠ 200 by omega)] at z
            have z : decide (vwCl[ci]?.map (fun q => q.1) = some C.1.cls) = true := z
            have z := of_decide_eq_true z
            cases hq : vwCl[ci]? with
            | none => rw [hq] at z; cases z
            | some q =>
              rw [hq] at z
              have z : some q.1 = some C.1.cls := z
              have rv := va_recv hK q5 (ci := ci) (q0 := A0.2) hq (by rw [← y1]; exact hw)
              rw [Option.some.inj z] at rv
              exact ⟨a0, rfl, rv⟩
        | false =>
          rw [ht] at hrc
          have y := bb_and (a := Nat.beq A0.1 6) hrc
          have y1 := bb_and y.2
          rw [tg y.1] at e3
          have e3 : VA = .ref (sp A0.2) := e3
          have hso : SO sp sb H0 A0.2 s := by
            rcases (Bool.or_eq_true _ _).mp y1.2 with z | z
            · rw [bb_eq z]; exact hO.2.1
            · rw [bb_eq z]; exact hO.2.2.1
          have z := v6.1
          rw [y1.1] at z
          have z : decide (C.1.cls = sSTR) = true := z
          obtain ⟨cell, z1, z2, z3, -⟩ := hso.1.kept (fun a h1 h2 => q7.2.1 a h1 h2)
          exact ⟨sp A0.2, e3, cell, z1, z2, by rw [of_decide_eq_true z]; exact z3⟩
      obtain ⟨b0, rfl, hrecv⟩ := RECV
      have cb := callB_of (own := M.1.cls) (index := idx) (R := M.2.2.2.2.1) (C.2.2.2.2.2.1 - 1) hts hGd rfl rfl rfl (hts _ (wdq_in v5.1)) (hts _ (wdq_in v2.1)) ⟨hds.1, hds.2.1, hds.2.2⟩ hRm
      refine FIN ?_
      rw [e2]
      exact va_runV (g := F0 m pc ls (UA ++ RV0)) (b := b0) (As := UA.reverse.tail) (rest := RV0) ⟨hx, hb, hml, hown, hts⟩ hMet ⟨cb, hts _ (wdq_in v3.1), hts _ (wdq_in v4.1)⟩ ⟨cP.blind, hrecv, fun U hU hW => ⟨by rw [← e2], hPc U hU hW⟩⟩ rfl (by rw [List.length_tail, List.length_reverse, hlenU, hu]) q9.1 e4 (lv_room hwt) hdg ⟨f4, f5⟩
  case invokespecial idx =>
      obtain ⟨m1, m2, i1, i2, n1, n2, ne, hl⟩ := lok_sp h9a hlk
      rw [hC] at hl
      have v1 := bb_and (a := Nat.beq kc 1) hl
      have v2 := bb_and v1.2
      have v3 := bb_and v2.2
      have v4 := bb_and v3.2
      have v5 := bb_and v4.2
      have v6 := bb_and v5.2
      have v7 := bb_and v6.2
      have v8 := bb_and v7.2
      have hn1 := bb_le v6.1
      have hds := of_decide_eq_true v5.1
      have hnm : C.1.name = "<init>" := of_decide_eq_true v7.1
      have hrn : C.2.2.2.1 = none := of_decide_eq_true v8.1
      obtain ⟨A0, AR, VA, e1, e2, e3, e4⟩ := SPLIT (by omega)
      have RECV : ∃ b0, VA = .ref b0 := by
        have hkc := bb_eq v1.1
        have hsp1 : ax_hd u = true := by
          rcases (Bool.or_eq_true _ _).mp w6.2 with z | z
          · rcases (Bool.or_eq_true _ _).mp z with z | z
            · rw [hkc] at z; cases z
            · exact (bb_and z).2
          · rw [hkc] at z; cases z
        rw [e1] at hsp1
        exact e3.tR hsp1
      obtain ⟨b0, rfl⟩ := RECV
      refine FIN ?_
      rw [hrn] at hMet hGd
      cases hne : Nat.beq ne 0 with
      | true =>
        rw [hne] at v2
        have cb := callB_of (own := M.1.cls) (index := idx) (R := M.2.2.2.2.1) (C.2.2.2.2.2.1 - 1) hts hGd rfl rfl rfl (hts _ (wdq_in v4.1)) (hts _ (wdq_in v2.1)) ⟨hds.1, hds.2.1, hds.2.2⟩ hRm
        rw [e2]
        exact va_runI (g := F0 m pc ls (UA ++ RV0)) (b := b0) (As := UA.reverse.tail) (rest := RV0) ⟨hx, hb, hml, hown, hts⟩ hMet ⟨cb, hnm, hts _ (wdq_in v3.1)⟩ ⟨cP.blind, fun U hU hW => ⟨by rw [← e2], hPc U hU hW⟩⟩ rfl (by rw [List.length_tail, List.length_reverse, hlenU, hu]) q9.1 e4 (lv_room hwt) hdg ⟨f4, f5⟩
      | false =>
        rw [hne] at v2
        have hnest : (Cond.methodLinkNest M.1.cls idx C.1 RX11) ∈ nestW := List.mem_filter.mpr ⟨wdn_in v2.1, rfl⟩
        have cb := va_cnB (own := M.1.cls) (index := idx) (R := M.2.2.2.2.1) (C.2.2.2.2.2.1 - 1) hts hGd rfl rfl rfl (hO.2.2.2.2.2.2.2.2.2.2 _ hnest) (hts _ (wdq_in v4.1)) ⟨hds.1, hds.2.1, hds.2.2⟩ hRm
        rw [e2]
        exact va_runIN (g := F0 m pc ls (UA ++ RV0)) (b := b0) (As := UA.reverse.tail) (rest := RV0) ⟨hx, hb, hml, hown, hts⟩ hMet ⟨cb, hnm, hts _ (wdq_in v3.1)⟩ ⟨cP.blind, fun U hU hW => ⟨by rw [← e2], hPc U hU hW⟩⟩ rfl (by rw [List.length_tail, List.length_reverse, hlenU, hu]) q9.1 e4 (lv_room hwt) hdg ⟨f4, f5⟩
  case invokestatic idx =>
      obtain ⟨m1, m2, i1, i2, n1, n2, ne, hl⟩ := lok_st h9b h9c hlk
      rw [hC] at hl
      have v1 := bb_and (a := Nat.beq kc 2) hl
      have v2 := bb_and v1.2
      have v3 := bb_and v2.2
      have v4 := bb_and v3.2
      have v5 := bb_and v4.2
      have hds := of_decide_eq_true v5.1
      refine FIN ?_
      cases hne : Nat.beq ne 0 with
      | true =>
        rw [hne] at v2
        have cb := callB_of (own := M.1.cls) (index := idx) (R := M.2.2.2.2.1) C.2.2.2.2.2.1 hts hGd rfl rfl rfl (hts _ (wdq_in v4.1)) (hts _ (wdq_in v2.1)) ⟨hds.1, hds.2.1, hds.2.2⟩ hRm
        exact va_runS (g := F0 m pc ls (UA ++ RV0)) (As := UA.reverse) (rest := RV0) ⟨hx, hb, hml, hown, hts⟩ hMet ⟨cb, hts _ (wdq_in v3.1)⟩ ⟨cP.blind, fun U hU hW => ⟨rfl, hPc U hU hW⟩⟩ rfl (by rw [List.length_reverse, hlenU, hu]) q9.1 (by rw [List.reverse_reverse]) (lv_room hwt) hdg ⟨f4, f5⟩
      | false =>
        rw [hne] at v2
        have hnest : (Cond.methodLinkNest M.1.cls idx C.1 RX11) ∈ nestW := List.mem_filter.mpr ⟨wdn_in v2.1, rfl⟩
        have cb := va_cnB (own := M.1.cls) (index := idx) (R := M.2.2.2.2.1) C.2.2.2.2.2.1 hts hGd rfl rfl rfl (hO.2.2.2.2.2.2.2.2.2.2 _ hnest) (hts _ (wdq_in v4.1)) ⟨hds.1, hds.2.1, hds.2.2⟩ hRm
        exact va_runSN (g := F0 m pc ls (UA ++ RV0)) (As := UA.reverse) (rest := RV0) ⟨hx, hb, hml, hown, hts⟩ hMet ⟨cb, hts _ (wdq_in v3.1), trivial⟩ ⟨cP.blind, fun U hU hW => ⟨rfl, hPc U hU hW⟩⟩ rfl (by rw [List.length_reverse, hlenU, hu]) q9.1 (by rw [List.reverse_reverse]) (lv_room hwt) hdg ⟨f4, f5⟩

end OPS
end
