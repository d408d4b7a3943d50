/-! THE ABSTRACT MACHINE, 8: its steps are the machine's: numbers, locals -/
section OPS
variable {sb : Nat → List Nat} {mt : Nat → Nat → Option MR} {dC : Nat → ClassId} {dI : Nat → Nat → Nat} {dA : Nat → ClassId} {sp : Nat → Nat} {H0 : Heap} {l : Launch}
variable {ih : GO} {p : Program} {e : Env} {R : Room} {s : State} {m : MethodId} {args : Array Value} {below : List Frame} {meth : Method} {c : Code} {Q : State → Prop} {ρ0 ad0 : List Nat} {M : MR} {cut pc len : Nat} {ins : Instr} {lk : List Nat} {cd tl : List ME} {σ : AS} {h : AH} {nc ns : Nat} {lv : AL} {st : List AV} {outs : List AO}
theorem sn_push (hI : Snd sb mt dC dI dA sp H0 l ih) (hM : Mok mt M) (htl : ∀ x ∈ tl, x ∈ M.2.2.2.2.2.2) (hX : CX sb dC dI dA sp H0 ρ0 M p R s m args meth c) (hR : ∀ o ∈ outs, RO dC dI dA sp H0 l p e R s m args below meth c Q ρ0 ad0 M o) (hdg : decode M.2.1 pc = .ok (ins, len)) (hlen : len = ax_len ins) (hlk : lok mt M pc ins lk = true) (ho : ax_op ins = 0)
    (hr : lc lk (fun t lk => lc lk (fun n _ => ih M cut (pc + len) tl σ h nc ns lv ((t, n) :: st))) = some outs) : GG dC dI dA sp H0 l p e R s m args below meth c Q ρ0 ad0 M.2.2.1 pc σ h nc ns lv st := by
  obtain ⟨t, lk1, rfl, hr1⟩ := lc_s hr
  obtain ⟨n, lk2, rfl, hr2⟩ := lc_s hr1
  have G := hI p e R s m args below meth c Q ρ0 ad0 M cut _ tl _ _ _ _ _ _ outs hM htl hX hr2 hR
  obtain ⟨hx, hb, hml, hown, hts, hK, hlocks, hrt, hin, hRoom, hO⟩ := hX
  intro ρ ad ws H locs ls LV ST q1 q2 q3 q4 q5 q6 q7 q8 q9 q10
  cases ins <;> first | (exact absurd ho (Nat.ne_of_beq_eq_false rfl)) | skip
  case bipush i =>
    subst hlen
    have hl : (Nat.beq t 0 && decide ((Int8.ofInt i).toInt32 = nI n)) = true := hlk
    have w := bb_and hl
    obtain rfl := bb_eq w.1
    exact lv_bipush hx hb hdg (of_decide_eq_true w.2) (G ρ ad ws H locs ls LV (.int (nI n) :: ST) q1 q2 q3 q4 q5 q6 q7 q8 q9 ⟨rfl, q10⟩)
  case iconst i =>
    subst hlen
    have hl : (Nat.beq t 0 && decide (Int32.ofInt i = nI n)) = true := hlk
    have w := bb_and hl
    obtain rfl := bb_eq w.1
    exact lv_iconst hx hb hdg (of_decide_eq_true w.2) (G ρ ad ws H locs ls LV (.int (nI n) :: ST) q1 q2 q3 q4 q5 q6 q7 q8 q9 ⟨rfl, q10⟩)
  case lconst i =>
    subst hlen
    have hl : (Nat.beq t 1 && decide (Int64.ofNat (i : Nat) = lN n)) = true := hlk
    have w := bb_and hl
    obtain rfl := bb_eq w.1
    exact lv_lconst hx hb hdg (of_decide_eq_true w.2) (G ρ ad ws H locs ls LV (.long (lN n) :: ST) q1 q2 q3 q4 q5 q6 q7 q8 q9 ⟨rfl, q10⟩)
  case sipush i =>
    subst hlen
    have hl : (Nat.beq t 0 && decide ((Int16.ofInt i).toInt32 = nI n)) = true := hlk
    have w := bb_and hl
    obtain rfl := bb_eq w.1
    exact lv_sipush hx hb hdg (of_decide_eq_true w.2) (G ρ ad ws H locs ls LV (.int (nI n) :: ST) q1 q2 q3 q4 q5 q6 q7 q8 q9 ⟨rfl, q10⟩)
  case ldc idx =>
    subst hlen
    cases lk2 with
    | nil => cases hlk
    | cons c1 lk3 =>
      cases lk3 with
      | nil => cases hlk
      | cons j1 lk4 =>
        have hl : (bif Nat.beq t 0 then wdq c1 j1 (.constant M.1.cls idx (nI n)) else Nat.beq t 6 && ((Nat.beq n 1 && (decide (M.1.cls = RX9) && Nat.beq idx 51)) || (Nat.beq n 3 && (decide (M.1.cls = RX12) && Nat.beq idx 171)))) = true := hlk
        cases ht : Nat.beq t 0 with
        | true =>
          rw [ht] at hl
          obtain rfl := bb_eq ht
          exact lv_ldc hx hb hown (hts _ (wdq_in hl)) hdg (G ρ ad ws H locs ls LV (.int (nI n) :: ST) q1 q2 q3 q4 q5 q6 q7 q8 q9 ⟨rfl, q10⟩)
        | false =>
          rw [ht] at hl
          have w := bb_and hl
          obtain rfl := bb_eq w.1
          rcases (Bool.or_eq_true _ _).mp w.2 with w2 | w2
          · have w3 := bb_and w2
            have w4 := bb_and w3.2
            obtain rfl := bb_eq w3.1
            obtain rfl := bb_eq w4.2
            have hc : M.1.cls = RX9 := of_decide_eq_true w4.1
            exact va_ldcS hx hb (by rw [← hc]; exact hown) hO.2.2.2.1 hdg (G ρ ad ws H locs ls LV (.ref (sp 1) :: ST) q1 q2 q3 q4 q5 q6 q7 q8 q9 ⟨rfl, q10⟩)
          · have w3 := bb_and w2
            have w4 := bb_and w3.2
            obtain rfl := bb_eq w3.1
            obtain rfl := bb_eq w4.2
            have hc : M.1.cls = RX12 := of_decide_eq_true w4.1
            exact va_ldcS hx hb (by rw [← hc]; exact hown) hO.2.2.2.2.1 hdg (G ρ ad ws H locs ls LV (.ref (sp 3) :: ST) q1 q2 q3 q4 q5 q6 q7 q8 q9 ⟨rfl, q10⟩)
  case ldc_w idx =>
    subst hlen
    cases lk2 with
    | nil => cases hlk
    | cons c1 lk3 =>
      cases lk3 with
      | nil => cases hlk
      | cons j1 lk4 =>
        have hl : (Nat.beq t 0 && wdq c1 j1 (.constant M.1.cls idx (nI n))) = true := hlk
        have w := bb_and hl
        obtain rfl := bb_eq w.1
        exact lv_ldcw hx hb hown (hts _ (wdq_in w.2)) hdg (G ρ ad ws H locs ls LV (.int (nI n) :: ST) q1 q2 q3 q4 q5 q6 q7 q8 q9 ⟨rfl, q10⟩)
  case ldc2_w idx =>
    subst hlen
    cases lk2 with
    | nil => cases hlk
    | cons c1 lk3 =>
      cases lk3 with
      | nil => cases hlk
      | cons j1 lk4 =>
        have hl : (Nat.beq t 1 && wdq c1 j1 (.constantLong M.1.cls idx (lN n))) = true := hlk
        have w := bb_and hl
        obtain rfl := bb_eq w.1
        exact lv_ldc2 hx hb hown (hts _ (wdq_in w.2)) hdg (G ρ ad ws H locs ls LV (.long (lN n) :: ST) q1 q2 q3 q4 q5 q6 q7 q8 q9 ⟨rfl, q10⟩)
theorem sn_load {ok : AV → Bool} (hok : (ok = ax_tI ∧ ax_op ins = 1) ∨ (ok = ax_tL ∧ ax_op ins = 2) ∨ (ok = ax_tR ∧ ax_op ins = 3)) (hI : Snd sb mt dC dI dA sp H0 l ih) (hM : Mok mt M) (htl : ∀ x ∈ tl, x ∈ M.2.2.2.2.2.2) (hX : CX sb dC dI dA sp H0 ρ0 M p R s m args meth c) (hR : ∀ o ∈ outs, RO dC dI dA sp H0 l p e R s m args below meth c Q ρ0 ad0 M o) (hdg : decode M.2.1 pc = .ok (ins, len)) (hlen : len = ax_len ins) (hlk : lok mt M pc ins lk = true)
    (hr : ax_load ok ih M cut (pc + len) tl lk σ h nc ns lv st = some outs) : GG dC dI dA sp H0 l p e R s m args below meth c Q ρ0 ad0 M.2.2.1 pc σ h nc ns lv st := by
  unfold ax_load at hr
  obtain ⟨k, lk1, rfl, hr1⟩ := lc_s hr
  obtain ⟨v, hv, hr2⟩ := ob_s hr1
  obtain ⟨g1, hr3⟩ := gd_s hr2
  have G := hI p e R s m args below meth c Q ρ0 ad0 M cut _ tl _ _ _ _ _ _ outs hM htl hX hr3 hR
  obtain ⟨hx, hb, hml, hown, hts, hK, hlocks, hrt, hin, hRoom, hO⟩ := hX
  intro ρ ad ws H locs ls LV ST q1 q2 q3 q4 q5 q6 q7 q8 q9 q10
  obtain ⟨V, hV, hRp⟩ := ax_lk_has q8 hv
  have hls : ls[k]? = some (.val V) := q9.2.2 (k, V) hV
  rcases hok with ⟨rfl, ho⟩ | ⟨rfl, ho⟩ | ⟨rfl, ho⟩
  · obtain ⟨x, rfl⟩ := hRp.tI g1
    cases ins <;> first | (exact absurd ho (Nat.ne_of_beq_eq_false rfl)) | skip
    case iload i =>
      subst hlen
      obtain rfl := bb_eq (a := i) (b := k) hlk
      exact lv_iload hx hb hdg hls (G ρ ad ws H locs ls LV (.int x :: ST) q1 q2 q3 q4 q5 q6 q7 q8 q9 ⟨hRp, q10⟩)
    case iload_n i =>
      subst hlen
      exact lv_iload_n hx hb hdg (bb_eq (a := (i : Nat)) (b := k) hlk) hls (G ρ ad ws H locs ls LV (.int x :: ST) q1 q2 q3 q4 q5 q6 q7 q8 q9 ⟨hRp, q10⟩)
  · obtain ⟨x, rfl⟩ := hRp.tL g1
    cases ins <;> first | (exact absurd ho (Nat.ne_of_beq_eq_false rfl)) | skip
    case lload i =>
      subst hlen
      obtain rfl := bb_eq (a := i) (b := k) hlk
      exact lv_lload hx hb hdg hls (G ρ ad ws H locs ls LV (.long x :: ST) q1 q2 q3 q4 q5 q6 q7 q8 q9 ⟨hRp, q10⟩)
    case lload_n i =>
      subst hlen
      exact lv_lload_n hx hb hdg (bb_eq (a := (i : Nat)) (b := k) hlk) hls (G ρ ad ws H locs ls LV (.long x :: ST) q1 q2 q3 q4 q5 q6 q7 q8 q9 ⟨hRp, q10⟩)
  · obtain ⟨x, rfl⟩ := hRp.tR g1
    cases ins <;> first | (exact absurd ho (Nat.ne_of_beq_eq_false rfl)) | skip
    case aload i =>
      subst hlen
      obtain rfl := bb_eq (a := i) (b := k) hlk
      exact lv_aload hx hb hdg hls (G ρ ad ws H locs ls LV (.ref x :: ST) q1 q2 q3 q4 q5 q6 q7 q8 q9 ⟨hRp, q10⟩)
    case aload_n i =>
      subst hlen
      exact lv_aload_n hx hb hdg (bb_eq (a := (i : Nat)) (b := k) hlk) hls (G ρ ad ws H locs ls LV (.ref x :: ST) q1 q2 q3 q4 q5 q6 q7 q8 q9 ⟨hRp, q10⟩)
theorem sn_sto {ok : AV → Bool} {kp : Nat → Nat × AV → Bool} (hok : (ok = ax_tI ∧ kp = ax_k1 ∧ ax_op ins = 4) ∨ (ok = ax_tL ∧ kp = ax_k2 ∧ ax_op ins = 5) ∨ (ok = ax_tR ∧ kp = ax_k1 ∧ ax_op ins = 6)) (hI : Snd sb mt dC dI dA sp H0 l ih) (hM : Mok mt M) (htl : ∀ x ∈ tl, x ∈ M.2.2.2.2.2.2) (hX : CX sb dC dI dA sp H0 ρ0 M p R s m args meth c) (hR : ∀ o ∈ outs, RO dC dI dA sp H0 l p e R s m args below meth c Q ρ0 ad0 M o) (hdg : decode M.2.1 pc = .ok (ins, len)) (hlen : len = ax_len ins) (hlk : lok mt M pc ins lk = true)
    (hr : ax_sto ok kp ih M cut (pc + len) tl lk σ h nc ns lv st = some outs) : GG dC dI dA sp H0 l p e R s m args below meth c Q ρ0 ad0 M.2.2.1 pc σ h nc ns lv st := by
  unfold ax_sto at hr
  obtain ⟨k, lk1, rfl, hr1⟩ := lc_s hr
  obtain ⟨v, r, rfl, hr2⟩ := lc_s hr1
  obtain ⟨g1, hr3⟩ := gd_s hr2
  rw [ax_flt_eq] at hr3
  have G := hI p e R s m args below meth c Q ρ0 ad0 M cut _ tl _ _ _ _ _ _ outs hM htl hX hr3 hR
  obtain ⟨hx, hb, hml, hown, hts, hK, hlocks, hrt, hin, hRoom, hO⟩ := hX
  intro ρ ad ws H locs ls LV ST q1 q2 q3 q4 q5 q6 q7 q8 q9 q10
  obtain ⟨V, ST', rfl, hRp, q11⟩ := q10.cons
  rcases hok with ⟨rfl, rfl, ho⟩ | ⟨rfl, rfl, ho⟩ | ⟨rfl, rfl, ho⟩
  · obtain ⟨x, rfl⟩ := hRp.tI g1
    cases ins <;> first | (exact absurd ho (Nat.ne_of_beq_eq_false rfl)) | skip
    case istore i =>
      subst hlen
      have w := bb_and (a := Nat.beq i k) hlk
      obtain rfl := bb_eq w.1
      exact lv_istore hx hb hdg q9 (bb_lt w.2) rfl (fun ls' hl' => G ρ ad ws H locs ls' _ ST' q1 q2 q3 q4 q5 q6 q7 (by exact ⟨⟨rfl, hRp⟩, q8.flt1⟩) hl' q11)
    case istore_n i =>
      subst hlen
      have w := bb_and (a := Nat.beq (i : Nat) k) hlk
      exact lv_istore_n hx hb hdg (bb_eq w.1) q9 (bb_lt w.2) rfl (fun ls' hl' => G ρ ad ws H locs ls' _ ST' q1 q2 q3 q4 q5 q6 q7 (by exact ⟨⟨rfl, hRp⟩, q8.flt1⟩) hl' q11)
  · obtain ⟨x, rfl⟩ := hRp.tL g1
    cases ins <;> first | (exact absurd ho (Nat.ne_of_beq_eq_false rfl)) | skip
    case lstore i =>
      subst hlen
      have w := bb_and (a := Nat.beq i k) hlk
      obtain rfl := bb_eq w.1
      exact lv_lstore hx hb hdg q9 (bb_lt w.2) rfl (fun ls' hl' => G ρ ad ws H locs ls' _ ST' q1 q2 q3 q4 q5 q6 q7 (by exact ⟨⟨rfl, hRp⟩, q8.flt2⟩) hl' q11)
    case lstore_n i =>
      subst hlen
      have w := bb_and (a := Nat.beq (i : Nat) k) hlk
      exact lv_lstore_n hx hb hdg (bb_eq w.1) q9 (bb_lt w.2) rfl (fun ls' hl' => G ρ ad ws H locs ls' _ ST' q1 q2 q3 q4 q5 q6 q7 (by exact ⟨⟨rfl, hRp⟩, q8.flt2⟩) hl' q11)
  · obtain ⟨x, rfl⟩ := hRp.tR g1
    cases ins <;> first | (exact absurd ho (Nat.ne_of_beq_eq_false rfl)) | skip
    case astore i =>
      subst hlen
      have w := bb_and (a := Nat.beq i k) hlk
      obtain rfl := bb_eq w.1
      exact lv_astore hx hb hdg q9 (bb_lt w.2) rfl (fun ls' hl' => G ρ ad ws H locs ls' _ ST' q1 q2 q3 q4 q5 q6 q7 (by exact ⟨⟨rfl, hRp⟩, q8.flt1⟩) hl' q11)
    case astore_n i =>
      subst hlen
      have w := bb_and (a := Nat.beq (i : Nat) k) hlk
      exact lv_astore_n hx hb hdg (bb_eq w.1) q9 (bb_lt w.2) rfl (fun ls' hl' => G ρ ad ws H locs ls' _ ST' q1 q2 q3 q4 q5 q6 q7 (by exact ⟨⟨rfl, hRp⟩, q8.flt1⟩) hl' q11)
theorem sn_iinc (hI : Snd sb mt dC dI dA sp H0 l ih) (hM : Mok mt M) (htl : ∀ x ∈ tl, x ∈ M.2.2.2.2.2.2) (hX : CX sb dC dI dA sp H0 ρ0 M p R s m args meth c) (hR : ∀ o ∈ outs, RO dC dI dA sp H0 l p e R s m args below meth c Q ρ0 ad0 M o) (hdg : decode M.2.1 pc = .ok (ins, len)) (hlen : len = ax_len ins) (hlk : lok mt M pc ins lk = true) (ho : ax_op ins = 7)
    (hr : lc lk (fun i lk => lc lk (fun n _ => ob (ax_lk lv i) (fun v => ax_ib 0 σ (ax_nv σ v) (0, n) (fun σ' w => ax_flt (ax_k1 i) lv (fun lv' => ih M cut (pc + len) tl σ' h nc ns ((i, w) :: lv') st))))) = some outs) : GG dC dI dA sp H0 l p e R s m args below meth c Q ρ0 ad0 M.2.2.1 pc σ h nc ns lv st := by
  obtain ⟨k, lk1, rfl, hr1⟩ := lc_s hr
  obtain ⟨n, lk2, rfl, hr2⟩ := lc_s hr1
  obtain ⟨v, hv, hr3⟩ := ob_s hr2
  obtain ⟨hx, hb, hml, hown, hts, hK, hlocks, hrt, hin, hRoom, hO⟩ := id hX
  intro ρ ad ws H locs ls LV ST q1 q2 q3 q4 q5 q6 q7 q8 q9 q10
  obtain ⟨V, hV, hRp⟩ := ax_lk_has q8 hv
  obtain ⟨x, y, σ', w, ρ', hxV, hyV, hr4, r1, r2, r3⟩ := ax_ib_ok q3 (ax_nv_ok q3 hRp) (B := .int (nI n)) (b := (0, n)) (sp := sp) (ad := ad) rfl hr3
  subst hxV
  cases hyV
  rw [ax_flt_eq] at hr4
  have G := hI p e R s m args below meth c Q ρ0 ad0 M cut _ tl _ _ _ _ _ _ outs hM htl hX hr4 hR
  obtain ⟨k0, hk0⟩ := List.getElem?_of_mem hV
  cases ins <;> first | (exact absurd ho (Nat.ne_of_beq_eq_false rfl)) | skip
  case iinc i n' =>
    subst hlen
    have w := bb_and (a := Nat.beq i k) hlk
    have w2 := bb_and w.2
    obtain rfl := bb_eq w.1
    have hn : Int32.ofInt n' = nI n := of_decide_eq_true w2.1
    exact lv_iinc hx hb hdg q9 hk0 (by rw [hn]) (bb_lt w2.2) rfl (fun ls' hl' => G ρ' ad ws H locs ls' _ ST (q1.tr r1) q2 r2 (q4.monoρ r1) q5 q6 q7 (by exact ⟨⟨rfl, r3⟩, (q8.mono r1 (Sb.rf ad)).flt1⟩) hl' (q10.mono r1 (Sb.rf ad)))
end OPS
