/-! THE ABSTRACT MACHINE, 9: arithmetic, the stack -/
section OPS
variable {sb : Nat → List Nat} {mt : Nat → Nat → Option MR} {dC : Nat → ClassId} {dI : Nat → Nat → Nat} {dA : Nat → ClassId} {sp : Nat → Nat} {H0 : Heap} {l : Launch}
variable {ih : GO} {p : Program} {e : Env} {R : Room} {s : State} {m : MethodId} {args : Array Value} {below : List Frame} {meth : Method} {c : Code} {Q : State → Prop} {ρ0 ad0 : List Nat} {M : MR} {cut pc len : Nat} {ins : Instr} {lk : List Nat} {cd tl : List ME} {σ : AS} {h : AH} {nc ns : Nat} {lv : AL} {st : List AV} {outs : List AO}

theorem sn_ib {op : Nat} (hI : Snd sb mt dC dI dA sp H0 l ih) (hM : Mok mt M) (htl : ∀ x ∈ tl, x ∈ M.2.2.2.2.2.2) (hX : CX sb dC dI dA sp H0 ρ0 M p R s m args meth c) (hR : ∀ o ∈ outs, RO dC dI dA sp H0 l p e R s m args below meth c Q ρ0 ad0 M o) (hdg : decode M.2.1 pc = .ok (ins, len)) (hlen : len = ax_len ins) (hlk : lok mt M pc ins lk = true) (ho : ax_op ins = op + 26) (ho2 : op < 9)
    (hr : ax_bin (ax_ib op) ih M cut (pc + len) tl σ h nc ns lv st = some outs) : GG dC dI dA sp H0 l p e R s m args below meth c Q ρ0 ad0 M.2.2.1 pc σ h nc ns lv st := by
  unfold ax_bin at hr
  obtain ⟨b, st1, rfl, hr1⟩ := lc_s hr
  obtain ⟨a, r, rfl, hr2⟩ := lc_s hr1
  obtain ⟨hx, hb, hml, hown, hts, hK, hlocks, hrt, hin, hRoom, hO⟩ := id hX
  intro ρ ad ws H locs ls LV ST q1 q2 q3 q4 q5 q6 q7 q8 q9 q10
  obtain ⟨B, ST1, rfl, hB, q11⟩ := q10.cons
  obtain ⟨A, ST2, rfl, hA, q12⟩ := q11.cons
  obtain ⟨x, y, σ', v, ρ', rfl, rfl, hr3, r1, r2, r3⟩ := ax_ib_ok q3 (ax_nv_ok q3 hA) (ax_nv_ok q3 hB) hr2
  have G := hI p e R s m args below meth c Q ρ0 ad0 M cut _ tl _ _ _ _ _ _ outs hM htl hX hr3 hR
  have K := G ρ' ad ws H locs ls LV (.int (ax_fop op x y) :: ST2) (q1.tr r1) q2 r2 (q4.monoρ r1) q5 q6 q7 (q8.mono r1 (Sb.rf ad)) q9 ⟨r3, q12.mono r1 (Sb.rf ad)⟩
  match op, ho2 with

  | 0, _ =>
    cases ins <;> first | (exact absurd ho (Nat.ne_of_beq_eq_false rfl)) | skip
    case iadd => subst hlen; exact lv_iadd hx hb hdg (K)

  | 1, _ =>
    cases ins <;> first | (exact absurd ho (Nat.ne_of_beq_eq_false rfl)) | skip
    case isub => subst hlen; exact lv_isub hx hb hdg (K)

  | 2, _ =>
    cases ins <;> first | (exact absurd ho (Nat.ne_of_beq_eq_false rfl)) | skip
    case imul => subst hlen; exact lv_imul hx hb hdg (K)

  | 3, _ =>
    cases ins <;> first | (exact absurd ho (Nat.ne_of_beq_eq_false rfl)) | skip
    case iand => subst hlen; exact lv_iand hx hb hdg (K)

  | 4, _ =>
    cases ins <;> first | (exact absurd ho (Nat.ne_of_beq_eq_false rfl)) | skip
    case ior => subst hlen; exact lv_ior hx hb hdg (K)

  | 5, _ =>
    cases ins <;> first | (exact absurd ho (Nat.ne_of_beq_eq_false rfl)) | skip
    case ixor => subst hlen; exact lv_ixor hx hb hdg (K)

  | 6, _ =>
    cases ins <;> first | (exact absurd ho (Nat.ne_of_beq_eq_false rfl)) | skip
    case ishl => subst hlen; exact lv_ishl hx hb hdg (K)

  | 7, _ =>
    cases ins <;> first | (exact absurd ho (Nat.ne_of_beq_eq_false rfl)) | skip
    case ishr => subst hlen; exact lv_ishr hx hb hdg (K)

  | 8, _ =>
    cases ins <;> first | (exact absurd ho (Nat.ne_of_beq_eq_false rfl)) | skip
    case iushr => subst hlen; exact lv_iushr hx hb hdg rfl (K)

  | n + 9, hn => exact absurd hn (by omega)

theorem sn_id {op : Nat} (hI : Snd sb mt dC dI dA sp H0 l ih) (hM : Mok mt M) (htl : ∀ x ∈ tl, x ∈ M.2.2.2.2.2.2) (hX : CX sb dC dI dA sp H0 ρ0 M p R s m args meth c) (hR : ∀ o ∈ outs, RO dC dI dA sp H0 l p e R s m args below meth c Q ρ0 ad0 M o) (hdg : decode M.2.1 pc = .ok (ins, len)) (hlen : len = ax_len ins) (hlk : lok mt M pc ins lk = true) (ho : ax_op ins = op + 35) (ho2 : op < 2)
    (hr : ax_bin (ax_id op) ih M cut (pc + len) tl σ h nc ns lv st = some outs) : GG dC dI dA sp H0 l p e R s m args below meth c Q ρ0 ad0 M.2.2.1 pc σ h nc ns lv st := by
  unfold ax_bin at hr
  obtain ⟨b, st1, rfl, hr1⟩ := lc_s hr
  obtain ⟨a, r, rfl, hr2⟩ := lc_s hr1
  obtain ⟨hx, hb, hml, hown, hts, hK, hlocks, hrt, hin, hRoom, hO⟩ := id hX
  intro ρ ad ws H locs ls LV ST q1 q2 q3 q4 q5 q6 q7 q8 q9 q10
  obtain ⟨B, ST1, rfl, hB, q11⟩ := q10.cons
  obtain ⟨A, ST2, rfl, hA, q12⟩ := q11.cons
  obtain ⟨x, y, σ', v, ρ', rfl, rfl, hy0, hr3, r1, r2, r3⟩ := ax_id_ok q3 (ax_nv_ok q3 hA) (ax_nv_ok q3 hB) hr2
  have G := hI p e R s m args below meth c Q ρ0 ad0 M cut _ tl _ _ _ _ _ _ outs hM htl hX hr3 hR
  have K := G ρ' ad ws H locs ls LV (.int (if op = 0 then x / y else x - x / y * y) :: ST2) (q1.tr r1) q2 r2 (q4.monoρ r1) q5 q6 q7 (q8.mono r1 (Sb.rf ad)) q9 ⟨r3, q12.mono r1 (Sb.rf ad)⟩
  match op, ho2 with
  | 0, _ =>
    cases ins <;> first | (exact absurd ho (Nat.ne_of_beq_eq_false rfl)) | skip
    case idiv => subst hlen; exact lv_idiv hx hb hdg hy0 K
  | 1, _ =>
    cases ins <;> first | (exact absurd ho (Nat.ne_of_beq_eq_false rfl)) | skip
    case irem => subst hlen; exact lv_irem hx hb hdg hy0 K
  | n + 2, hn => exact absurd hn (by omega)

theorem sn_lb {op : Nat} (hI : Snd sb mt dC dI dA sp H0 l ih) (hM : Mok mt M) (htl : ∀ x ∈ tl, x ∈ M.2.2.2.2.2.2) (hX : CX sb dC dI dA sp H0 ρ0 M p R s m args meth c) (hR : ∀ o ∈ outs, RO dC dI dA sp H0 l p e R s m args below meth c Q ρ0 ad0 M o) (hdg : decode M.2.1 pc = .ok (ins, len)) (hlen : len = ax_len ins) (hlk : lok mt M pc ins lk = true) (ho : ax_op ins = op + 37) (ho2 : op < 5)
    (hr : ax_bin (ax_lb op) ih M cut (pc + len) tl σ h nc ns lv st = some outs) : GG dC dI dA sp H0 l p e R s m args below meth c Q ρ0 ad0 M.2.2.1 pc σ h nc ns lv st := by
  unfold ax_bin at hr
  obtain ⟨b, st1, rfl, hr1⟩ := lc_s hr
  obtain ⟨a, r, rfl, hr2⟩ := lc_s hr1
  obtain ⟨hx, hb, hml, hown, hts, hK, hlocks, hrt, hin, hRoom, hO⟩ := id hX
  intro ρ ad ws H locs ls LV ST q1 q2 q3 q4 q5 q6 q7 q8 q9 q10
  obtain ⟨B, ST1, rfl, hB, q11⟩ := q10.cons
  obtain ⟨A, ST2, rfl, hA, q12⟩ := q11.cons
  obtain ⟨x, y, σ', v, ρ', rfl, rfl, hr3, r1, r2, r3⟩ := ax_lb_ok q3 (ax_nv_ok q3 hA) (ax_nv_ok q3 hB) hr2
  have G := hI p e R s m args below meth c Q ρ0 ad0 M cut _ tl _ _ _ _ _ _ outs hM htl hX hr3 hR
  have K := G ρ' ad ws H locs ls LV (.long (ax_flo op x y) :: ST2) (q1.tr r1) q2 r2 (q4.monoρ r1) q5 q6 q7 (q8.mono r1 (Sb.rf ad)) q9 ⟨r3, q12.mono r1 (Sb.rf ad)⟩
  match op, ho2 with

  | 0, _ =>
    cases ins <;> first | (exact absurd ho (Nat.ne_of_beq_eq_false rfl)) | skip
    case ladd => subst hlen; exact lv_ladd hx hb hdg K

  | 1, _ =>
    cases ins <;> first | (exact absurd ho (Nat.ne_of_beq_eq_false rfl)) | skip
    case lsub => subst hlen; exact lv_lsub hx hb hdg K

  | 2, _ =>
    cases ins <;> first | (exact absurd ho (Nat.ne_of_beq_eq_false rfl)) | skip
    case lmul => subst hlen; exact lv_lmul hx hb hdg K

  | 3, _ =>
    cases ins <;> first | (exact absurd ho (Nat.ne_of_beq_eq_false rfl)) | skip
    case land => subst hlen; exact lv_land hx hb hdg K

  | 4, _ =>
    cases ins <;> first | (exact absurd ho (Nat.ne_of_beq_eq_false rfl)) | skip
    case lor => subst hlen; exact lv_lor hx hb hdg K

  | n + 5, hn => exact absurd hn (by omega)

theorem sn_lsh (hI : Snd sb mt dC dI dA sp H0 l ih) (hM : Mok mt M) (htl : ∀ x ∈ tl, x ∈ M.2.2.2.2.2.2) (hX : CX sb dC dI dA sp H0 ρ0 M p R s m args meth c) (hR : ∀ o ∈ outs, RO dC dI dA sp H0 l p e R s m args below meth c Q ρ0 ad0 M o) (hdg : decode M.2.1 pc = .ok (ins, len)) (hlen : len = ax_len ins) (hlk : lok mt M pc ins lk = true) (ho : ax_op ins = 42)
    (hr : ax_bin ax_lsh ih M cut (pc + len) tl σ h nc ns lv st = some outs) : GG dC dI dA sp H0 l p e R s m args below meth c Q ρ0 ad0 M.2.2.1 pc σ h nc ns lv st := by
  unfold ax_bin at hr
  obtain ⟨b, st1, rfl, hr1⟩ := lc_s hr
  obtain ⟨a, r, rfl, hr2⟩ := lc_s hr1
  unfold ax_lsh at hr2
  obtain ⟨g1, hr3⟩ := gd_s hr2
  obtain ⟨hx, hb, hml, hown, hts, hK, hlocks, hrt, hin, hRoom, hO⟩ := id hX
  intro ρ ad ws H locs ls LV ST q1 q2 q3 q4 q5 q6 q7 q8 q9 q10
  obtain ⟨B, ST1, rfl, hB, q11⟩ := q10.cons
  obtain ⟨A, ST2, rfl, hA, q12⟩ := q11.cons
  have w := bb_and g1
  obtain ⟨x, rfl⟩ := (ax_nv_ok q3 hA).tL w.1
  obtain ⟨y, rfl⟩ := (ax_nv_ok q3 hB).tI w.2
  have hn := nwL (sp := sp) (ad := ad) q3 (x <<< (y.toInt64 &&& 63))
  have G := hI p e R s m args below meth c Q ρ0 ad0 M cut _ tl _ _ _ _ _ _ outs hM htl hX hr3 hR
  have K := G _ ad ws H locs ls LV (.long (x <<< (y.toInt64 &&& 63)) :: ST2) (q1.tr hn.1) q2 hn.2.1 (q4.monoρ hn.1) q5 q6 q7 (q8.mono hn.1 (Sb.rf ad)) q9 ⟨hn.2.2, q12.mono hn.1 (Sb.rf ad)⟩
  cases ins <;> first | (exact absurd ho (Nat.ne_of_beq_eq_false rfl)) | skip
  case lshl => subst hlen; exact lv_lshl hx hb hdg rfl K

theorem sn_un {op : Nat} (hI : Snd sb mt dC dI dA sp H0 l ih) (hM : Mok mt M) (htl : ∀ x ∈ tl, x ∈ M.2.2.2.2.2.2) (hX : CX sb dC dI dA sp H0 ρ0 M p R s m args meth c) (hR : ∀ o ∈ outs, RO dC dI dA sp H0 l p e R s m args below meth c Q ρ0 ad0 M o) (hdg : decode M.2.1 pc = .ok (ins, len)) (hlen : len = ax_len ins) (hlk : lok mt M pc ins lk = true) (ho : ax_op ins = op + 44) (ho2 : op < 4)
    (hr : ax_one (ax_un op) ih M cut (pc + len) tl σ h nc ns lv st = some outs) : GG dC dI dA sp H0 l p e R s m args below meth c Q ρ0 ad0 M.2.2.1 pc σ h nc ns lv st := by
  unfold ax_one at hr
  obtain ⟨a, r, rfl, hr1⟩ := lc_s hr
  obtain ⟨hx, hb, hml, hown, hts, hK, hlocks, hrt, hin, hRoom, hO⟩ := id hX
  intro ρ ad ws H locs ls LV ST q1 q2 q3 q4 q5 q6 q7 q8 q9 q10
  obtain ⟨A, ST2, rfl, hA, q12⟩ := q10.cons
  obtain ⟨x, σ', v, ρ', rfl, hr3, r1, r2, r3⟩ := ax_un_ok q3 (ax_nv_ok q3 hA) hr1
  have G := hI p e R s m args below meth c Q ρ0 ad0 M cut _ tl _ _ _ _ _ _ outs hM htl hX hr3 hR
  have K := G ρ' ad ws H locs ls LV (.int (ax_fu op x) :: ST2) (q1.tr r1) q2 r2 (q4.monoρ r1) q5 q6 q7 (q8.mono r1 (Sb.rf ad)) q9 ⟨r3, q12.mono r1 (Sb.rf ad)⟩
  match op, ho2 with
  | 0, _ =>
    cases ins <;> first | (exact absurd ho (Nat.ne_of_beq_eq_false rfl)) | skip
    case i2b => subst hlen; exact lv_i2b hx hb hdg rfl K
  | 1, _ =>
    cases ins <;> first | (exact absurd ho (Nat.ne_of_beq_eq_false rfl)) | skip
    case i2s => subst hlen; exact lv_i2s hx hb hdg rfl K
  | 2, _ =>
    cases ins <;> first | (exact absurd ho (Nat.ne_of_beq_eq_false rfl)) | skip
    case i2c => subst hlen; exact lv_i2c hx hb hdg rfl K
  | 3, _ =>
    cases ins <;> first | (exact absurd ho (Nat.ne_of_beq_eq_false rfl)) | skip
    case ineg => subst hlen; exact lv_ineg hx hb hdg K
  | n + 4, hn => exact absurd hn (by omega)

theorem sn_i2l (hI : Snd sb mt dC dI dA sp H0 l ih) (hM : Mok mt M) (htl : ∀ x ∈ tl, x ∈ M.2.2.2.2.2.2) (hX : CX sb dC dI dA sp H0 ρ0 M p R s m args meth c) (hR : ∀ o ∈ outs, RO dC dI dA sp H0 l p e R s m args below meth c Q ρ0 ad0 M o) (hdg : decode M.2.1 pc = .ok (ins, len)) (hlen : len = ax_len ins) (hlk : lok mt M pc ins lk = true) (ho : ax_op ins = 48)
    (hr : ax_one ax_i2l ih M cut (pc + len) tl σ h nc ns lv st = some outs) : GG dC dI dA sp H0 l p e R s m args below meth c Q ρ0 ad0 M.2.2.1 pc σ h nc ns lv st := by
  unfold ax_one at hr
  obtain ⟨a, r, rfl, hr1⟩ := lc_s hr
  obtain ⟨hx, hb, hml, hown, hts, hK, hlocks, hrt, hin, hRoom, hO⟩ := id hX
  intro ρ ad ws H locs ls LV ST q1 q2 q3 q4 q5 q6 q7 q8 q9 q10
  obtain ⟨A, ST2, rfl, hA, q12⟩ := q10.cons
  obtain ⟨x, v, rfl, hr3, r3⟩ := ax_i2l_ok q3 (ax_nv_ok q3 hA) hr1
  have G := hI p e R s m args below meth c Q ρ0 ad0 M cut _ tl _ _ _ _ _ _ outs hM htl hX hr3 hR
  have K := G ρ ad ws H locs ls LV (.long x.toInt64 :: ST2) q1 q2 q3 q4 q5 q6 q7 q8 q9 ⟨r3, q12⟩
  cases ins <;> first | (exact absurd ho (Nat.ne_of_beq_eq_false rfl)) | skip
  case i2l => subst hlen; exact lv_i2l hx hb hdg rfl K

theorem sn_l2i (hI : Snd sb mt dC dI dA sp H0 l ih) (hM : Mok mt M) (htl : ∀ x ∈ tl, x ∈ M.2.2.2.2.2.2) (hX : CX sb dC dI dA sp H0 ρ0 M p R s m args meth c) (hR : ∀ o ∈ outs, RO dC dI dA sp H0 l p e R s m args below meth c Q ρ0 ad0 M o) (hdg : decode M.2.1 pc = .ok (ins, len)) (hlen : len = ax_len ins) (hlk : lok mt M pc ins lk = true) (ho : ax_op ins = 49)
    (hr : ax_one ax_l2i ih M cut (pc + len) tl σ h nc ns lv st = some outs) : GG dC dI dA sp H0 l p e R s m args below meth c Q ρ0 ad0 M.2.2.1 pc σ h nc ns lv st := by
  unfold ax_one at hr
  obtain ⟨a, r, rfl, hr1⟩ := lc_s hr
  obtain ⟨hx, hb, hml, hown, hts, hK, hlocks, hrt, hin, hRoom, hO⟩ := id hX
  intro ρ ad ws H locs ls LV ST q1 q2 q3 q4 q5 q6 q7 q8 q9 q10
  obtain ⟨A, ST2, rfl, hA, q12⟩ := q10.cons
  obtain ⟨x, σ', v, ρ', rfl, hr3, r1, r2, r3⟩ := ax_l2i_ok q3 (ax_nv_ok q3 hA) hr1
  have G := hI p e R s m args below meth c Q ρ0 ad0 M cut _ tl _ _ _ _ _ _ outs hM htl hX hr3 hR
  have K := G ρ' ad ws H locs ls LV (.int x.toInt32 :: ST2) (q1.tr r1) q2 r2 (q4.monoρ r1) q5 q6 q7 (q8.mono r1 (Sb.rf ad)) q9 ⟨r3, q12.mono r1 (Sb.rf ad)⟩
  cases ins <;> first | (exact absurd ho (Nat.ne_of_beq_eq_false rfl)) | skip
  case l2i => subst hlen; exact lv_l2i hx hb hdg rfl K

theorem sn_stk {op : Nat} (hI : Snd sb mt dC dI dA sp H0 l ih) (hM : Mok mt M) (htl : ∀ x ∈ tl, x ∈ M.2.2.2.2.2.2) (hX : CX sb dC dI dA sp H0 ρ0 M p R s m args meth c) (hR : ∀ o ∈ outs, RO dC dI dA sp H0 l p e R s m args below meth c Q ρ0 ad0 M o) (hdg : decode M.2.1 pc = .ok (ins, len)) (hlen : len = ax_len ins) (hlk : lok mt M pc ins lk = true) (ho : ax_op ins = op) (ho2 : op = 50 ∨ op = 51 ∨ op = 52)
    (hr : lc st (fun a r => bif Nat.beq op 50 then gd (!ax_c2 a) (ih M cut (pc + len) tl σ h nc ns lv (a :: a :: r))
    else bif Nat.beq op 51 then (bif ax_c2 a then ih M cut (pc + len) tl σ h nc ns lv (a :: a :: r) else lc r (fun b r' => gd (!ax_c2 b) (ih M cut (pc + len) tl σ h nc ns lv (a :: b :: a :: b :: r'))))
    else gd (!ax_c2 a) (ih M cut (pc + len) tl σ h nc ns lv r)) = some outs) : GG dC dI dA sp H0 l p e R s m args below meth c Q ρ0 ad0 M.2.2.1 pc σ h nc ns lv st := by
  obtain ⟨a, r, rfl, hr1⟩ := lc_s hr
  obtain ⟨hx, hb, hml, hown, hts, hK, hlocks, hrt, hin, hRoom, hO⟩ := id hX
  intro ρ ad ws H locs ls LV ST q1 q2 q3 q4 q5 q6 q7 q8 q9 q10
  obtain ⟨A, ST2, rfl, hA, q12⟩ := q10.cons
  rcases ho2 with rfl | rfl | rfl
  · obtain ⟨g1, hr2⟩ := gd_s (b := !ax_c2 a) hr1
    have hc : ax_c2 a = false := by cases hq : ax_c2 a with | false => rfl | true => rw [hq] at g1; cases g1
    have G := hI p e R s m args below meth c Q ρ0 ad0 M cut _ tl _ _ _ _ _ _ outs hM htl hX hr2 hR
    have K := G ρ ad ws H locs ls LV (A :: A :: ST2) q1 q2 q3 q4 q5 q6 q7 q8 q9 ⟨hA, hA, q12⟩
    cases ins <;> first | (exact absurd ho (Nat.ne_of_beq_eq_false rfl)) | skip
    case dup => subst hlen; exact lv_dup hx hb hdg (hA.cat1 hc) K
  · cases hc : ax_c2 a with
    | true =>
      have hr2 : (bif ax_c2 a then ih M cut (pc + len) tl σ h nc ns lv (a :: a :: r) else lc r (fun b r' => gd (!ax_c2 b) (ih M cut (pc + len) tl σ h nc ns lv (a :: b :: a :: b :: r')))) = some outs := hr1
      rw [hc] at hr2
      have G := hI p e R s m args below meth c Q ρ0 ad0 M cut _ tl _ _ _ _ _ _ outs hM htl hX hr2 hR
      have K := G ρ ad ws H locs ls LV (A :: A :: ST2) q1 q2 q3 q4 q5 q6 q7 q8 q9 ⟨hA, hA, q12⟩
      cases ins <;> first | (exact absurd ho (Nat.ne_of_beq_eq_false rfl)) | skip
      case dup2 => subst hlen; exact lv_dup2_2 hx hb hdg (hA.cat2 hc) K
    | false =>
      have hr2 : (bif ax_c2 a then ih M cut (pc + len) tl σ h nc ns lv (a :: a :: r) else lc r (fun b r' => gd (!ax_c2 b) (ih M cut (pc + len) tl σ h nc ns lv (a :: b :: a :: b :: r')))) = some outs := hr1
      rw [hc] at hr2
      obtain ⟨b, r', rfl, hr3⟩ := lc_s (l := r) hr2
      obtain ⟨g1, hr4⟩ := gd_s hr3
      have hcb : ax_c2 b = false := by cases hq : ax_c2 b with | false => rfl | true => rw [hq] at g1; cases g1
      obtain ⟨B, ST3, rfl, hB, q13⟩ := q12.cons
      have G := hI p e R s m args below meth c Q ρ0 ad0 M cut _ tl _ _ _ _ _ _ outs hM htl hX hr4 hR
      have K := G ρ ad ws H locs ls LV (A :: B :: A :: B :: ST3) q1 q2 q3 q4 q5 q6 q7 q8 q9 ⟨hA, hB, hA, hB, q13⟩
      cases ins <;> first | (exact absurd ho (Nat.ne_of_beq_eq_false rfl)) | skip
      case dup2 => subst hlen; exact lv_dup2_11 hx hb hdg (hA.cat1 hc) (hB.cat1 hcb) K
  · obtain ⟨g1, hr2⟩ := gd_s (b := !ax_c2 a) hr1
    have hc : ax_c2 a = false := by cases hq : ax_c2 a with | false => rfl | true => rw [hq] at g1; cases g1
    have G := hI p e R s m args below meth c Q ρ0 ad0 M cut _ tl _ _ _ _ _ _ outs hM htl hX hr2 hR
    have K := G ρ ad ws H locs ls LV ST2 q1 q2 q3 q4 q5 q6 q7 q8 q9 q12
    cases ins <;> first | (exact absurd ho (Nat.ne_of_beq_eq_false rfl)) | skip
    case pop => subst hlen; exact lv_pop hx hb hdg (hA.cat1 hc) K

end OPS
