/-! THE ABSTRACT MACHINE, 16: calls, each kind -/
section OPS
variable {sb : Nat → List Nat} {mt : Nat → Nat → Option MR} {dC : Nat → ClassId} {dI : Nat → Nat → Nat} {dA : Nat → ClassId} {sp : Nat → Nat} {H0 : Heap} {l : Launch}
variable {ih : GO} {p : Program} {e : Env} {R : Room} {s : State} {m : MethodId} {args : Array Value} {below : List Frame} {meth : Method} {c : Code} {Q : State → Prop} {ρ0 ad0 : List Nat} {M : MR} {cut pc len : Nat} {ins : Instr} {lk : List Nat} {cd tl : List ME} {σ : AS} {h : AH} {nc ns : Nat} {lv : AL} {st : List AV} {outs : List AO}

theorem sn_obj (hI : Snd sb mt dC dI dA sp H0 l ih) (hM : Mok mt M) (htl : ∀ x ∈ tl, x ∈ M.2.2.2.2.2.2) (hX : CX sb dC dI dA sp H0 ρ0 M p R s m args meth c) (hR : ∀ o ∈ outs, RO dC dI dA sp H0 l p e R s m args below meth c Q ρ0 ad0 M o) (hdg : decode M.2.1 pc = .ok (ins, len)) (hlen : len = ax_len ins) (hlk : lok mt M pc ins (900 :: lk) = true) (ho : ax_op ins = 21)
    (hr : lc st (fun a r => gd (Nat.beq a.1 2 && (Nat.ble 1 M.2.2.2.2.1.frames && Nat.ble (ax_wt r + 12) M.2.2.2.2.1.locals)) (ih M cut (pc + len) tl σ h nc ns lv r)) = some outs) : GG dC dI dA sp H0 l p e R s m args below meth c Q ρ0 ad0 M.2.2.1 pc σ h nc ns lv st := by
  obtain ⟨a, r, rfl, hr1⟩ := lc_s hr
  obtain ⟨g1, hr2⟩ := gd_s hr1
  obtain ⟨hx, hb, hml, hown, hts, hK, hlocks, hrt, hin, hRoom, hO⟩ := id hX
  intro ρ ad ws H locs ls LV ST q1 q2 q3 q4 q5 q6 q7 q8 q9 q10
  obtain ⟨A, ST2, rfl, hA, q12⟩ := q10.cons
  have w := bb_and g1
  have w2 := bb_and w.2
  rw [tg w.1] at hA
  obtain ⟨a0, -, rfl⟩ := hA
  subst hRoom
  cases ins <;> first | (exact absurd ho (Nat.ne_of_beq_eq_false rfl)) | skip
  case invokevirtual idx =>
    match lk, hlk with
    | b :: kc :: ci :: m1 :: m2 :: i1 :: i2 :: s1 :: s2 :: n1 :: n2 :: _, hlk =>
      exfalso
      have hl := hlk
      unfold lok at hl
      cases hC : mt 900 b with
      | none => simp [hC] at hl
      | some C => simp [hC] at hl
  case invokestatic idx =>
    match lk, hlk with
    | b :: kc :: ci :: m1 :: m2 :: i1 :: i2 :: n1 :: n2 :: ne :: _, hlk =>
      exfalso
      have hl := hlk
      unfold lok at hl
      cases hC : mt 900 b with
      | none => simp [hC] at hl
      | some C => simp [hC] at hl
  case invokespecial idx =>
    match lk, hlk with
    | m1 :: m2 :: i1 :: i2 :: c1 :: c2 :: _, hlk =>
      have hl : (wdq m1 m2 (.methodLink M.1.cls idx objectInit) && (wdq i1 i2 (.instanceMethod objectInit) && wdq c1 c2 (.code objectInit ⟨#[0xb1]⟩ 1 none))) = true := hlk
      have u := bb_and hl
      have u2 := bb_and u.2
      subst hlen
      exact W.objInit hx hb hown (hts _ (wdq_in u.1)) (hts _ (wdq_in u2.1)) (hts _ (wdq_in u2.2)) rfl (by rw [hml]; exact q9.1) rfl hdg (bb_le w2.1) (by show 2 * 0 + _ + 12 ≤ _; rw [q12.wt]; have := bb_le w2.2; omega) ((hI p e _ s m args below meth c Q ρ0 ad0 M cut _ tl _ _ _ _ _ _ outs hM htl hX hr2 hR) ρ ad ws H locs ls LV ST2 q1 q2 q3 q4 q5 q6 q7 q8 q9 q12)

theorem sn_copy (hI : Snd sb mt dC dI dA sp H0 l ih) (hM : Mok mt M) (htl : ∀ x ∈ tl, x ∈ M.2.2.2.2.2.2) (hX : CX sb dC dI dA sp H0 ρ0 M p R s m args meth c) (hR : ∀ o ∈ outs, RO dC dI dA sp H0 l p e R s m args below meth c Q ρ0 ad0 M o) (hdg : decode M.2.1 pc = .ok (ins, len)) (hlen : len = ax_len ins) (hlk : lok mt M pc ins (901 :: lk) = true) (ho : ax_op ins = 21)
    (hr : gd (Nat.ble 1 M.2.2.2.2.1.frames && (Nat.ble 60 M.2.2.2.2.1.locals && Nat.ble (ax_wt st) 20)) (ax_copy σ h st (fun h' r => ih M cut (pc + len) tl σ h' nc ns lv r)) = some outs) : GG dC dI dA sp H0 l p e R s m args below meth c Q ρ0 ad0 M.2.2.1 pc σ h nc ns lv st := by
  obtain ⟨g1, hr1⟩ := gd_s hr
  unfold ax_copy at hr1
  obtain ⟨n, st1, rfl, hr2⟩ := lc_s hr1
  obtain ⟨dp, st2, rfl, hr3⟩ := lc_s hr2
  obtain ⟨d, st3, rfl, hr4⟩ := lc_s hr3
  obtain ⟨sq, st4, rfl, hr5⟩ := lc_s hr4
  obtain ⟨sr, r, rfl, hr6⟩ := lc_s hr5
  obtain ⟨g2, hr7⟩ := gd_s hr6
  obtain ⟨cd', ed, hr8⟩ := ob_s hr7
  obtain ⟨cs, es, hr9⟩ := ob_s hr8
  obtain ⟨g3, hr10⟩ := gd_s hr9
  obtain ⟨h', hr11, hh1, hh2⟩ := ax_hs_ok hr10
  obtain ⟨hx, hb, hml, hown, hts, hK, hlocks, hrt, hin, hRoom, hO⟩ := id hX
  intro ρ ad ws H locs ls LV ST q1 q2 q3 q4 q5 q6 q7 q8 q9 q10
  obtain ⟨N, ST1, rfl, hN, q11⟩ := q10.cons
  obtain ⟨DP, ST2, rfl, hDP, q12⟩ := q11.cons
  obtain ⟨D, ST3, rfl, hD, q13⟩ := q12.cons
  obtain ⟨SQ, ST4, rfl, hSQ, q14⟩ := q13.cons
  obtain ⟨SR, ST5, rfl, hSR, q15⟩ := q14.cons
  have w1 := bb_and g2
  have w2 := bb_and w1.2
  have w3 := bb_and w2.2
  have w4 := bb_and w3.2
  have w5 := bb_and w4.2
  have w6 := bb_and w5.2
  have hN := ax_nv_ok q3 hN
  have hDP := ax_nv_ok q3 hDP
  have hSQ := ax_nv_ok q3 hSQ
  rw [tg w3.1] at hN
  rw [tg w4.1, bb_eq w6.1] at hDP
  rw [tg w5.1, bb_eq w6.2] at hSQ
  have hN : N = .int (nI (ax_nv σ n).2) := hN
  have hDP : DP = .int (nI 0) := hDP
  have hSQ : SQ = .int (nI 0) := hSQ
  subst hN
  subst hDP
  subst hSQ
  rw [tg w1.1] at hD
  rw [tg w2.1] at hSR
  obtain ⟨aD, ED, hwD, rfl, hED⟩ := q4.get ed hD
  obtain ⟨aS, ES, hwS, rfl, hES⟩ := q4.get es hSR
  have v1 := bb_and g3
  have v2 := bb_and v1.2
  have v3 := bb_and v2.2
  have v4 := bb_and v3.2
  have k1 := bb_eq v1.1
  have k2 := bb_eq v3.1
  have k3 := bb_eq v4.1
  have k4 := bb_le v4.2
  have y := bb_and g1
  have y2 := bb_and y.2
  have y3 := bb_le y2.1
  have y4 := bb_le y2.2
  have hwt := q10.wt
  have hwt5 := q15.wt
  simp only [List.map_cons, List.sum_cons] at hwt
  have c0 : (nI 0).toNatClampNeg = 0 := nI_clamp (by omega)
  have cN : (nI (ax_nv σ n).2).toNatClampNeg = (ax_nv σ n).2 := nI_clamp (by omega)
  have hloc : (ST5.map fun v => v.category).sum + (nativeFrameWords "java/lang/System" "arraycopy" 5 + 11) ≤ M.2.2.2.2.1.locals := by
    have e18 : nativeFrameWords "java/lang/System" "arraycopy" 5 = 7 := by decide +kernel
    rw [e18]
    omega
  subst hRoom
  have WORDS : ∃ idx m1 m2 i1 i2 s1 s2 n1 n2, ins = .invokestatic idx ∧ wdq m1 m2 (.methodLink M.1.cls idx arraycopyName) = true ∧ wdq i1 i2 (.native arraycopyName) = true ∧ wdq s1 s2 (.static arraycopyName) = true ∧ wdq n1 n2 (.initialized "java/lang/System") = true := by
    cases ins <;> first | (exact absurd ho (Nat.ne_of_beq_eq_false rfl)) | skip
    case invokevirtual idx =>
      match lk, hlk with
      | b :: kc :: ci :: m1 :: m2 :: i1 :: i2 :: s1 :: s2 :: n1 :: n2 :: _, hlk =>
        exfalso
        have hl := hlk
        unfold lok at hl
        cases hC : mt 901 b with
        | none => simp [hC] at hl
        | some C => simp [hC] at hl
    case invokespecial idx =>
      match lk, hlk with
      | b :: kc :: ci :: m1 :: m2 :: i1 :: i2 :: n1 :: n2 :: ne :: _, hlk =>
        exfalso
        have hl := hlk
        unfold lok at hl
        cases hC : mt 901 b with
        | none => simp [hC] at hl
        | some C => simp [hC] at hl
    case invokestatic idx =>
      match lk, hlk with
      | m1 :: m2 :: i1 :: i2 :: s1 :: s2 :: n1 :: n2 :: _, hlk =>
        have hl : (wdq m1 m2 (.methodLink M.1.cls idx arraycopyName) && (wdq i1 i2 (.native arraycopyName) && (wdq s1 s2 (.static arraycopyName) && wdq n1 n2 (.initialized "java/lang/System")))) = true := hlk
        have u := bb_and hl
        have u2 := bb_and u.2
        have u3 := bb_and u2.2
        exact ⟨idx, m1, m2, i1, i2, s1, s2, n1, n2, rfl, u.1, u2.1, u3.1, u3.2⟩
  obtain ⟨idx, m1, m2, i1, i2, s1, s2, n1, n2, rfl, u1, u2, u3, u4⟩ := WORDS
  have hlen : len = 3 := hlen
  subst hlen
  have G := (hI p e _ s m args below meth c Q ρ0 ad0 M cut _ tl _ _ _ _ _ _ outs hM htl hX hr11 hR)
  rcases (Bool.or_eq_true _ _).mp v2.1 with z | z
  · have kk : cs.1 = 100 := bb_eq z
    obtain ⟨g, rfl, hg⟩ := hED.ints (Or.inl (by omega))
    obtain ⟨f, rfl, hf⟩ := hES.ints (Or.inl kk)
    have hE' : Er sp dA ρ ad (cd'.1, cd'.2.1, cs.2.2) (.inl (dA 100, cd'.2.1, .inl (va_cpy f g (nI 0).toNatClampNeg (nI 0).toNatClampNeg (nI (ax_nv σ n).2).toNatClampNeg))) := Or.inr (Or.inl ⟨Or.inl (by show cd'.1 = 100; omega), _, by rw [show cd'.1 = 100 by omega], fun j v hv => by
      have hj := hf j v hv
      refine ⟨by show j < cd'.2.1; omega, ?_⟩
      rw [c0, cN, pk_cpy_in (Nat.zero_le j) (by omega), Nat.zero_add, Nat.sub_zero]
      exact hj.2⟩)
    rw [show cd'.1 = 100 by omega] at hwD
    rw [kk] at hwS
    exact va_copyi hx hb (by rw [hml]; exact q9.1.symm) hown (hts _ (wdq_in u1)) (hts _ (wdq_in u2)) (hts _ (wdq_in u3)) (hts _ (wdq_in u4)) hK q5 q6 q7 sr.2 d.2 0 0 hwS hwD rfl rfl rfl (nI_pos (by omega)) (nI_pos (by omega)) (nI_pos (by omega)) (by rw [c0, cN]; omega) (by rw [c0, cN]; omega) (fun _ _ => rfl) (bb_le y.1) hloc hdg (fun H1 locs1 z1 z2 z3 => G ρ ad _ H1 locs1 ls LV ST5 q1 q2 q3 (q4.set hwD hh1 hh2 hE') z1 z2 z3 q8 q9 q15)
  · have kk : cs.1 = 101 := bb_eq z
    obtain ⟨g, rfl, hg⟩ := hED.longs (by omega)
    obtain ⟨f, rfl, hf⟩ := hES.longs kk
    have hE' : Er sp dA ρ ad (cd'.1, cd'.2.1, cs.2.2) (.inl (dA 101, cd'.2.1, .inr (.inl (va_cpy f g (nI 0).toNatClampNeg (nI 0).toNatClampNeg (nI (ax_nv σ n).2).toNatClampNeg)))) := Or.inr (Or.inr (Or.inl ⟨by show cd'.1 = 101; omega, _, by rw [show cd'.1 = 101 by omega], fun j v hv => by
      have hj := hf j v hv
      refine ⟨by show j < cd'.2.1; omega, ?_⟩
      rw [c0, cN, pk_cpy_in (Nat.zero_le j) (by omega), Nat.zero_add, Nat.sub_zero]
      exact hj.2⟩))
    rw [show cd'.1 = 101 by omega] at hwD
    rw [kk] at hwS
    exact va_copyl hx hb (by rw [hml]; exact q9.1.symm) hown (hts _ (wdq_in u1)) (hts _ (wdq_in u2)) (hts _ (wdq_in u3)) (hts _ (wdq_in u4)) hK q5 q6 q7 sr.2 d.2 1 1 hwS hwD rfl rfl rfl (nI_pos (by omega)) (nI_pos (by omega)) (nI_pos (by omega)) (by rw [c0, cN]; omega) (by rw [c0, cN]; omega) (fun _ _ => rfl) (bb_le y.1) hloc hdg (fun H1 locs1 z1 z2 z3 => G ρ ad _ H1 locs1 ls LV ST5 q1 q2 q3 (q4.set hwD hh1 hh2 hE') z1 z2 z3 q8 q9 q15)

theorem sn_min (hI : Snd sb mt dC dI dA sp H0 l ih) (hM : Mok mt M) (htl : ∀ x ∈ tl, x ∈ M.2.2.2.2.2.2) (hX : CX sb dC dI dA sp H0 ρ0 M p R s m args meth c) (hR : ∀ o ∈ outs, RO dC dI dA sp H0 l p e R s m args below meth c Q ρ0 ad0 M o) (hdg : decode M.2.1 pc = .ok (ins, len)) (hlen : len = ax_len ins) (hlk : lok mt M pc ins (902 :: lk) = true) (ho : ax_op ins = 21)
    (hr : lc st (fun b st => lc st (fun a r => gd (Nat.ble 1 M.2.2.2.2.1.frames && (Nat.ble (ax_wt r + 13) M.2.2.2.2.1.locals && (Nat.ble nc M.2.2.2.2.1.cells && Nat.ble ns M.2.2.2.2.1.slots))) (ax_mn σ (ax_nv σ a) (ax_nv σ b) (fun σ' v => ih M cut (pc + len) tl σ' h nc ns lv (v :: r))))) = some outs) : GG dC dI dA sp H0 l p e R s m args below meth c Q ρ0 ad0 M.2.2.1 pc σ h nc ns lv st := by
  obtain ⟨b, st1, rfl, hr1⟩ := lc_s hr
  obtain ⟨a, r, rfl, hr2⟩ := lc_s hr1
  obtain ⟨g1, hr3⟩ := gd_s hr2
  obtain ⟨hx, hb, hml, hown, hts, hK, hlocks, hrt, hin, hRoom, hO⟩ := id hX
  intro ρ ad ws H locs ls LV ST q1 q2 q3 q4 q5 q6 q7 q8 q9 q10
  obtain ⟨B, ST1, rfl, hB, q11⟩ := q10.cons
  obtain ⟨A, ST2, rfl, hA, q12⟩ := q11.cons
  obtain ⟨x, y, σ', v, ρ', rfl, rfl, hr4, r1, r2, r3⟩ := ax_mn_ok q3 (ax_nv_ok q3 hA) (ax_nv_ok q3 hB) hr3
  have w := bb_and g1
  have w2 := bb_and w.2
  have w3 := bb_and w2.2
  subst hRoom
  have K := (hI p e _ s m args below meth c Q ρ0 ad0 M cut _ tl _ _ _ _ _ _ outs hM htl hX hr4 hR) ρ' ad ws H locs ls LV (.int (if y < x then y else x) :: ST2) (q1.tr r1) q2 r2 (q4.monoρ r1) q5 q6 q7 (q8.mono r1 (Sb.rf ad)) q9 ⟨r3, q12.mono r1 (Sb.rf ad)⟩
  cases ins <;> first | (exact absurd ho (Nat.ne_of_beq_eq_false rfl)) | skip
  case invokevirtual idx =>
    match lk, hlk with
    | b :: kc :: ci :: m1 :: m2 :: i1 :: i2 :: s1 :: s2 :: n1 :: n2 :: _, hlk =>
      exfalso
      have hl := hlk
      unfold lok at hl
      cases hC : mt 902 b with
      | none => simp [hC] at hl
      | some C => simp [hC] at hl
  case invokespecial idx =>
    match lk, hlk with
    | b :: kc :: ci :: m1 :: m2 :: i1 :: i2 :: n1 :: n2 :: ne :: _, hlk =>
      exfalso
      have hl := hlk
      unfold lok at hl
      cases hC : mt 902 b with
      | none => simp [hC] at hl
      | some C => simp [hC] at hl
  case invokestatic idx =>
    match lk, hlk with
    | m1 :: m2 :: s1 :: s2 :: n1 :: n2 :: c1 :: c2 :: _, hlk =>
      have hl : (wdq m1 m2 (.methodLink M.1.cls idx Lib.Math.min.name) && (wdq s1 s2 (.static Lib.Math.min.name) && (wdq n1 n2 (.initialized "java/lang/Math") && wdq c1 c2 (.code Lib.Math.min.name Lib.Math.min.code 2 (some .int))))) = true := hlk
      have u := bb_and hl
      have u2 := bb_and u.2
      have u3 := bb_and u2.2
      subst hlen
      exact va_mmin hx hb (by rw [hml]; exact q9.1.symm) hown (hts _ (wdq_in u.1)) (hts _ (wdq_in u2.1)) (hts _ (wdq_in u3.1)) (hts _ (wdq_in u3.2)) (bb_le w.1) (by rw [q12.wt]; have := bb_le w2.1; omega) (bb_le w3.1) (bb_le w3.2) hdg K

end OPS
