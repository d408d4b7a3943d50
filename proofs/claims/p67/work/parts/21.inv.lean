/-! THE ABSTRACT MACHINE, 17: calls of methods that have a table -/
section OPS
variable {sb : Nat → List Nat} {mt : Nat → Nat → Option MR} {dC : Nat → ClassId} {dI : Nat → Nat → Nat} {dA : Nat → ClassId} {sp : Nat → Nat} {H0 : Heap} {l : Launch}
variable {ih : GO} {p : Program} {e : Env} {R : Room} {s : State} {m : MethodId} {args : Array Value} {below : List Frame} {meth : Method} {c : Code} {Q : State → Prop} {ρ0 ad0 : List Nat} {M : MR} {cut pc len : Nat} {ins : Instr} {lk : List Nat} {cd tl : List ME} {σ : AS} {h : AH} {nc ns : Nat} {lv : AL} {st : List AV} {outs : List AO}

theorem lok_sp {idx a b kc ci : Nat} {lk4 : List Nat} (h9 : Nat.beq a 900 = false) (hk : lok mt M pc (.invokespecial idx) (a :: b :: kc :: ci :: lk4) = true) : ∃ m1 m2 i1 i2 n1 n2 ne : Nat, (match mt a b with
          | some C => Nat.beq kc 1 && ((bif Nat.beq ne 0 then wdq m1 m2 (.methodLink M.1.cls idx C.1) else wdn m1 m2 (.methodLinkNest M.1.cls idx C.1 RX11)) && (wdq i1 i2 (.instanceMethod C.1) && (wdq n1 n2 (.initialized C.1.cls) && (decide (C.1.cls ≠ "java/lang/invoke/MethodHandle" ∧ C.1.cls ≠ "java/lang/invoke/VarHandle" ∧ (parseMethodDescriptor C.1.desc).map (fun d => d.parameters.length) = some (C.2.2.2.2.2.1 - 1)) && (Nat.ble 1 C.2.2.2.2.2.1 && (decide (C.1.name = "<init>") && (decide (C.2.2.2.1 = none) && (!(Nat.beq a 901) && !(Nat.beq a 902)))))))))
          | none => false) = true := by
  have h1 := hk
  unfold lok at h1
  dsimp only at h1
  rw [h9] at h1
  match lk4, h1 with
  | m1 :: m2 :: i1 :: i2 :: n1 :: n2 :: ne :: _, h1 => exact ⟨m1, m2, i1, i2, n1, n2, ne, h1⟩
theorem lok_st {idx a b kc ci : Nat} {lk4 : List Nat} (h9 : Nat.beq a 901 = false) (h9c : Nat.beq a 902 = false) (hk : lok mt M pc (.invokestatic idx) (a :: b :: kc :: ci :: lk4) = true) : ∃ m1 m2 i1 i2 n1 n2 ne : Nat, (match mt a b with
          | some C => Nat.beq kc 2 && ((bif Nat.beq ne 0 then wdq m1 m2 (.methodLink M.1.cls idx C.1) else wdn m1 m2 (.methodLinkNest M.1.cls idx C.1 RX11)) && (wdq i1 i2 (.static C.1) && (wdq n1 n2 (.initialized C.1.cls) && (decide (C.1.cls ≠ "java/lang/invoke/MethodHandle" ∧ C.1.cls ≠ "java/lang/invoke/VarHandle" ∧ (parseMethodDescriptor C.1.desc).map (fun d => d.parameters.length) = some C.2.2.2.2.2.1) && !(Nat.beq a 900)))))
          | none => Nat.beq a 903 && (wdq b kc (.methodLink M.1.cls idx Lib.Math.max.name) && (wdq ci m1 (.static Lib.Math.max.name) && (wdq m2 i1 (.initialized "java/lang/Math") && wdq i2 n1 (.code Lib.Math.max.name Lib.Math.max.code 2 (some .int)))))) = true := by
  have h1 := hk
  unfold lok at h1
  dsimp only at h1
  rw [h9, h9c] at h1
  match lk4, h1 with
  | m1 :: m2 :: i1 :: i2 :: n1 :: n2 :: ne :: _, h1 => exact ⟨m1, m2, i1, i2, n1, n2, ne, h1⟩

set_option maxHeartbeats 2000000 in
theorem sn_call (hMT : ∀ a b C, mt a b = some C → Mok mt C ∧ Mcw C) (hI : Snd sb mt dC dI dA sp H0 l ih) (hM : Mok mt M) (htl : ∀ x ∈ tl, x ∈ M.2.2.2.2.2.2) (hX : CX sb dC dI dA sp H0 ρ0 M p R s m args meth c) (hR : ∀ o ∈ outs, RO dC dI dA sp H0 l p e R s m args below meth c Q ρ0 ad0 M o) (hdg : decode M.2.1 pc = .ok (ins, len)) (hlen : len = ax_len ins) (hlk : lok mt M pc ins lk = true) (ho : ax_op ins = 21) (h900 : ∀ x lk', lk = x :: lk' → Nat.beq x 900 = false ∧ Nat.beq x 901 = false ∧ Nat.beq x 902 = false)
    (hr : ax_call mt ih M lk σ h nc ns st (fun o rest nc' ns' => ih M cut (pc + len) tl o.1 o.2.1 nc' ns' lv (o.2.2.2.2.2.2.2 ++ rest)) = some outs) : GG dC dI dA sp H0 l p e R s m args below meth c Q ρ0 ad0 M.2.2.1 pc σ h nc ns lv st := by
  unfold ax_call at hr
  obtain ⟨a, lk1, rfl, hr1⟩ := lc_s hr
  obtain ⟨b, lk2, rfl, hr2⟩ := lc_s hr1
  obtain ⟨kc, lk3, rfl, hr3⟩ := lc_s hr2
  obtain ⟨ci, lk4, rfl, hr4⟩ := lc_s hr3
  obtain ⟨C, hC, hr5⟩ := ob_s hr4
  obtain ⟨⟨as, rest⟩, ha, hr6⟩ := ob_s hr5
  obtain ⟨g1, hr7⟩ := gd_s hr6
  obtain ⟨outs0, h0, hr8⟩ := ob_s hr7
  obtain ⟨hop, hr9⟩ := gd_s hr8
  obtain ⟨hMC, hCC⟩ := hMT a b C hC
  obtain ⟨u, rfl, rfl, hu⟩ := ax_args_ok _ ha
  rw [List.append_nil] at h0 g1
  have w1 := bb_and g1
  have w2 := bb_and w1.2
  have w3 := bb_and w2.2
  have w4 := bb_and w3.2
  have w5 := bb_and w4.2
  have w6 := bb_and w5.2
  have f1 := bb_lt w1.1
  have f2 := bb_le w2.1
  have f3 := bb_le w3.1
  have f4 := bb_le w4.1
  have f5 := bb_le w5.1
  have f6 := bb_le w6.1
  dsimp only at f3
  obtain ⟨hx, hb, hml, hown, hts, hK, hlocks, hrt, hin, hRoom, hO⟩ := id hX
  intro ρ ad ws H locs ls LV ST q1 q2 q3 q4 q5 q6 q7 q8 q9 q10
  obtain ⟨UA, RV0, rfl, hUA, hRest⟩ := Rs.split q10
  have hAS := hUA.rev
  rw [List.reverse_reverse] at hAS
  have hMet := met_call hI hMC hCC q3 hAS f6 h0 hop
  subst hRoom
  have hcw : ∀ w ∈ (Cond.code C.1 C.2.1 C.2.2.1 C.2.2.2.1 :: GW), w ∈ GW := fun w hw => by
    rcases List.mem_cons.mp hw with rfl | hw
    · exact hCC.1
    · exact hw
  have hGd : GoodIn GW (Cond.code C.1 C.2.1 C.2.2.1 C.2.2.2.1 :: GW) := GW_good hcw
  have hwt : (RV0.map fun v => v.category).sum ≤ 8 := by rw [hRest.wt]; exact f3
  have hPc : ∀ U : State, U.heap = H → s.WarmedH U.vm → cP sb dC dI dA sp H0 ρ ad h U := fun U hU hW => ⟨ws, q4, by rw [hU]; exact q5, q6, by rw [hU]; exact ⟨q7.1, q7.2.1, fun _ h => by cases h⟩, va_K.moved hW.alike hK, OX.warm hW q1 hO⟩
  have hlen3 : len = 3 := by
    rw [hlen]
    cases ins <;> first | (exact absurd ho (Nat.ne_of_beq_eq_false rfl)) | rfl
  subst hlen3
  have FIN : va_Run p l e M.2.2.2.2.1 s m args below meth c H locs nc ns C.2.2.2.2.1.cells C.2.2.2.2.1.slots (F0 m pc ls (UA ++ RV0)) RV0 (cQ dC dI dA sp H0 ρ ad outs0 UA.reverse.toArray) (aA H0) → W p l e M.2.2.2.2.1 s m args below meth c H locs nc ns Q (F0 m pc ls (UA ++ RV0)) := fun hrun => by
    refine run_go hrun q7 (fun o hoo ρ' ad' ws' RV H1 locs1 k1 k2 k3 k4 k5 k6 k7 k8 => ?_)
    obtain ⟨o', e1, e2⟩ := ax_all_s hr9 _ (List.mem_map.mpr ⟨o, hoo, rfl⟩)
    exact (hI p e _ s m args below meth c Q ρ0 ad0 M cut _ tl _ _ _ _ _ _ o' hM htl hX e1 (fun z hz => hR z (e2 z hz))) ρ' ad' ws' H1 locs1 ls LV (RV ++ RV0) (q1.tr k1) (q2.tr k2) k3 k4 k5 k6 k7 (q8.mono k1 k2) q9 (k8.app (hRest.mono k1 k2))
  have hRm : C.2.2.2.2.1.frames + 1 ≤ M.2.2.2.2.1.frames ∧ 8 + (C.2.2.1 + 11) + C.2.2.2.2.1.locals ≤ M.2.2.2.2.1.locals := ⟨f1, f2⟩
  have hlenU : UA.length = u.length := by rw [hUA.len, List.length_reverse]
  obtain ⟨h9a, h9b, h9c⟩ := h900 a _ rfl
  have SPLIT : 1 ≤ u.length → ∃ A0 AR VA, u = A0 :: AR ∧ UA.reverse = VA :: UA.reverse.tail ∧ Rp sp ρ ad A0 VA ∧ UA ++ RV0 = UA.reverse.tail.reverse ++ VA :: RV0 := fun hp => by
    cases u with
    | nil => cases hp
    | cons A0 AR =>
      obtain ⟨VA, VR, e1, e2, -⟩ := Rs.cons hAS
      refine ⟨A0, AR, VA, rfl, by rw [e1]; rfl, e2, ?_⟩
      have e3 := congrArg List.reverse e1
      rw [List.reverse_reverse, List.reverse_cons] at e3
      rw [e1]
      show UA ++ RV0 = VR.reverse ++ VA :: RV0
      rw [e3]
      simp
  cases ins <;> first | (exact absurd ho (Nat.ne_of_beq_eq_false rfl)) | skip
  case invokevirtual idx =>
    match lk4, hlk with
    | m1 :: m2 :: i1 :: i2 :: s1 :: s2 :: n1 :: n2 :: _, hlk =>
      have hl : (match mt a b with
        | some C => Nat.beq kc 0 && (wdq m1 m2 (.methodLink M.1.cls idx C.1) && (wdq i1 i2 (.instanceMethod C.1) && (wdq s1 s2 (.selects C.1.cls C.1 C.1) && (wdq n1 n2 (.initialized C.1.cls) && ((bif Nat.beq ci 200 then decide (C.1.cls = sSTR) else decide (vwCl[ci]?.map (fun q => q.1) = some C.1.cls)) && (decide (C.1.cls ≠ "java/lang/invoke/MethodHandle" ∧ C.1.cls ≠ "java/lang/invoke/VarHandle" ∧ (parseMethodDescriptor C.1.desc).map (fun d => d.parameters.length) = some (C.2.2.2.2.2.1 - 1)) && (Nat.ble 1 C.2.2.2.2.2.1 && (!(Nat.beq a 900) && (!(Nat.beq a 901) && !(Nat.beq a 902))))))))))
        | none => false) = true := hlk
      rw [hC] at hl
      have v1 := bb_and (a := Nat.beq kc 0) hl
      have v2 := bb_and v1.2
      have v3 := bb_and v2.2
      have v4 := bb_and v3.2
      have v5 := bb_and v4.2
      have v6 := bb_and v5.2
      have v7 := bb_and v6.2
      have v8 := bb_and v7.2
      have hkc := bb_eq v1.1
      have hn1 := bb_le v8.1
      have hds := of_decide_eq_true v7.1
      obtain ⟨A0, AR, VA, e1, e2, e3, e4⟩ := SPLIT (by omega)
      have hrc : ax_rcv h ci u = true := by
        rcases (Bool.or_eq_true _ _).mp w6.2 with z | z
        · rw [hkc] at z; cases z
        · exact (bb_and z).2
      have RECV : ∃ b0, VA = .ref b0 ∧ ∃ cellB : Cell, H[b0]? = some cellB ∧ cellB.vm.isStatics = false ∧ s.vm.findClass C.1.cls = some cellB.cls := by
        rw [e1] at hrc
        have hrc : (bif Nat.beq A0.1 2 then (match ax_hn h A0.2 with | some c => Nat.beq c.1 ci && Nat.blt ci 100 | none => false) else Nat.beq A0.1 6 && (Nat.beq ci 200 && (Nat.beq A0.2 1 || Nat.beq A0.2 3))) = true := hrc
        cases ht : Nat.beq A0.1 2 with
        | true =>
          rw [ht] at hrc
          have hrc : (match ax_hn h A0.2 with | some c => Nat.beq c.1 ci && Nat.blt ci 100 | none => false) = true := hrc
          cases hcc : ax_hn h A0.2 with
          | none => rw [hcc] at hrc; cases hrc
          | some cl =>
            rw [hcc] at hrc
            have y := bb_and (a := Nat.beq cl.1 ci) hrc
            have y1 := bb_eq y.1
            have y2 := bb_lt y.2
            rw [tg ht] at e3
            obtain ⟨a0, E, hw, rfl, hE⟩ := q4.get hcc e3
            obtain ⟨VS, rfl, -, -⟩ := hE.obj (by omega)
            have z := v6.1
            rw [bb_nb (show ci ≠ 200 by omega)] at z
            have z : decide (vwCl[ci]?.map (fun q => q.1) = some C.1.cls) = true := z
            have z := of_decide_eq_true z
            cases hq : vwCl[ci]? with
            | none => rw [hq] at z; cases z
            | some q =>
              rw [hq] at z
              have z : some q.1 = some C.1.cls := z
              have rv := va_recv hK q5 (ci := ci) (q0 := A0.2) hq (by rw [← y1]; exact hw)
              rw [Option.some.inj z] at rv
              exact ⟨a0, rfl, rv⟩
        | false =>
          rw [ht] at hrc
          have y := bb_and (a := Nat.beq A0.1 6) hrc
          have y1 := bb_and y.2
          rw [tg y.1] at e3
          have e3 : VA = .ref (sp A0.2) := e3
          have hso : SO sp sb H0 A0.2 s := by
            rcases (Bool.or_eq_true _ _).mp y1.2 with z | z
            · rw [bb_eq z]; exact hO.2.1
            · rw [bb_eq z]; exact hO.2.2.1
          have z := v6.1
          rw [y1.1] at z
          have z : decide (C.1.cls = sSTR) = true := z
          obtain ⟨cell, z1, z2, z3, -⟩ := hso.1.kept (fun a h1 h2 => q7.2.1 a h1 h2)
          exact ⟨sp A0.2, e3, cell, z1, z2, by rw [of_decide_eq_true z]; exact z3⟩
      obtain ⟨b0, rfl, hrecv⟩ := RECV
      have cb := callB_of (own := M.1.cls) (index := idx) (R := M.2.2.2.2.1) (C.2.2.2.2.2.1 - 1) hts hGd rfl rfl rfl (hts _ (wdq_in v5.1)) (hts _ (wdq_in v2.1)) ⟨hds.1, hds.2.1, hds.2.2⟩ hRm
      refine FIN ?_
      rw [e2]
      exact va_runV (g := F0 m pc ls (UA ++ RV0)) (b := b0) (As := UA.reverse.tail) (rest := RV0) ⟨hx, hb, hml, hown, hts⟩ hMet ⟨cb, hts _ (wdq_in v3.1), hts _ (wdq_in v4.1)⟩ ⟨cP.blind, hrecv, fun U hU hW => ⟨by rw [← e2], hPc U hU hW⟩⟩ rfl (by rw [List.length_tail, List.length_reverse, hlenU, hu]) q9.1 e4 (lv_room hwt) hdg ⟨f4, f5⟩
  case invokespecial idx =>
      obtain ⟨m1, m2, i1, i2, n1, n2, ne, hl⟩ := lok_sp h9a hlk
      rw [hC] at hl
      have v1 := bb_and (a := Nat.beq kc 1) hl
      have v2 := bb_and v1.2
      have v3 := bb_and v2.2
      have v4 := bb_and v3.2
      have v5 := bb_and v4.2
      have v6 := bb_and v5.2
      have v7 := bb_and v6.2
      have v8 := bb_and v7.2
      have hn1 := bb_le v6.1
      have hds := of_decide_eq_true v5.1
      have hnm : C.1.name = "<init>" := of_decide_eq_true v7.1
      have hrn : C.2.2.2.1 = none := of_decide_eq_true v8.1
      obtain ⟨A0, AR, VA, e1, e2, e3, e4⟩ := SPLIT (by omega)
      have RECV : ∃ b0, VA = .ref b0 := by
        have hkc := bb_eq v1.1
        have hsp1 : ax_hd u = true := by
          rcases (Bool.or_eq_true _ _).mp w6.2 with z | z
          · rcases (Bool.or_eq_true _ _).mp z with z | z
            · rw [hkc] at z; cases z
            · exact (bb_and z).2
          · rw [hkc] at z; cases z
        rw [e1] at hsp1
        exact e3.tR hsp1
      obtain ⟨b0, rfl⟩ := RECV
      refine FIN ?_
      rw [hrn] at hMet hGd
      cases hne : Nat.beq ne 0 with
      | true =>
        rw [hne] at v2
        have cb := callB_of (own := M.1.cls) (index := idx) (R := M.2.2.2.2.1) (C.2.2.2.2.2.1 - 1) hts hGd rfl rfl rfl (hts _ (wdq_in v4.1)) (hts _ (wdq_in v2.1)) ⟨hds.1, hds.2.1, hds.2.2⟩ hRm
        rw [e2]
        exact va_runI (g := F0 m pc ls (UA ++ RV0)) (b := b0) (As := UA.reverse.tail) (rest := RV0) ⟨hx, hb, hml, hown, hts⟩ hMet ⟨cb, hnm, hts _ (wdq_in v3.1)⟩ ⟨cP.blind, fun U hU hW => ⟨by rw [← e2], hPc U hU hW⟩⟩ rfl (by rw [List.length_tail, List.length_reverse, hlenU, hu]) q9.1 e4 (lv_room hwt) hdg ⟨f4, f5⟩
      | false =>
        rw [hne] at v2
        have hnest : (Cond.methodLinkNest M.1.cls idx C.1 RX11) ∈ nestW := List.mem_filter.mpr ⟨wdn_in v2.1, rfl⟩
        have cb := va_cnB (own := M.1.cls) (index := idx) (R := M.2.2.2.2.1) (C.2.2.2.2.2.1 - 1) hts hGd rfl rfl rfl (hO.2.2.2.2.2.2.2.2.2.2 _ hnest) (hts _ (wdq_in v4.1)) ⟨hds.1, hds.2.1, hds.2.2⟩ hRm
        rw [e2]
        exact va_runIN (g := F0 m pc ls (UA ++ RV0)) (b := b0) (As := UA.reverse.tail) (rest := RV0) ⟨hx, hb, hml, hown, hts⟩ hMet ⟨cb, hnm, hts _ (wdq_in v3.1)⟩ ⟨cP.blind, fun U hU hW => ⟨by rw [← e2], hPc U hU hW⟩⟩ rfl (by rw [List.length_tail, List.length_reverse, hlenU, hu]) q9.1 e4 (lv_room hwt) hdg ⟨f4, f5⟩
  case invokestatic idx =>
      obtain ⟨m1, m2, i1, i2, n1, n2, ne, hl⟩ := lok_st h9b h9c hlk
      rw [hC] at hl
      have v1 := bb_and (a := Nat.beq kc 2) hl
      have v2 := bb_and v1.2
      have v3 := bb_and v2.2
      have v4 := bb_and v3.2
      have v5 := bb_and v4.2
      have hds := of_decide_eq_true v5.1
      refine FIN ?_
      cases hne : Nat.beq ne 0 with
      | true =>
        rw [hne] at v2
        have cb := callB_of (own := M.1.cls) (index := idx) (R := M.2.2.2.2.1) C.2.2.2.2.2.1 hts hGd rfl rfl rfl (hts _ (wdq_in v4.1)) (hts _ (wdq_in v2.1)) ⟨hds.1, hds.2.1, hds.2.2⟩ hRm
        exact va_runS (g := F0 m pc ls (UA ++ RV0)) (As := UA.reverse) (rest := RV0) ⟨hx, hb, hml, hown, hts⟩ hMet ⟨cb, hts _ (wdq_in v3.1)⟩ ⟨cP.blind, fun U hU hW => ⟨rfl, hPc U hU hW⟩⟩ rfl (by rw [List.length_reverse, hlenU, hu]) q9.1 (by rw [List.reverse_reverse]) (lv_room hwt) hdg ⟨f4, f5⟩
      | false =>
        rw [hne] at v2
        have hnest : (Cond.methodLinkNest M.1.cls idx C.1 RX11) ∈ nestW := List.mem_filter.mpr ⟨wdn_in v2.1, rfl⟩
        have cb := va_cnB (own := M.1.cls) (index := idx) (R := M.2.2.2.2.1) C.2.2.2.2.2.1 hts hGd rfl rfl rfl (hO.2.2.2.2.2.2.2.2.2.2 _ hnest) (hts _ (wdq_in v4.1)) ⟨hds.1, hds.2.1, hds.2.2⟩ hRm
        exact va_runSN (g := F0 m pc ls (UA ++ RV0)) (As := UA.reverse) (rest := RV0) ⟨hx, hb, hml, hown, hts⟩ hMet ⟨cb, hts _ (wdq_in v3.1), trivial⟩ ⟨cP.blind, fun U hU hW => ⟨rfl, hPc U hU hW⟩⟩ rfl (by rw [List.length_reverse, hlenU, hu]) q9.1 (by rw [List.reverse_reverse]) (lv_room hwt) hdg ⟨f4, f5⟩

end OPS
