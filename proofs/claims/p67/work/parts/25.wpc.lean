/-! THE MACHINE BY STEPS, 3: calls -/
section WPT
variable {sb : Nat → List Nat} {mt : Nat → Nat → Option MR} {dC : Nat → ClassId} {dI : Nat → Nat → Nat} {dA : Nat → ClassId} {sp : Nat → Nat} {H0 : Heap} {l : Launch} {ρ0 : List Nat} {ad : Nat → Nat} {rf : Nat → Nat → Option Nat} {sh : SHP}
variable {M : MR} {pc len : Nat} {ins : Instr} {lk : List Nat} {h : PH} {lv : LVs} {st : List Value} {P P' : PO}
/-- what may be given back -/
def rokc (ret : Option FieldType) (ins : Instr) (st : List Value) : Prop := match ins with
  | .ireturn => ∃ x : Int32, st = [.int x] ∧ (ret = some .int ∨ (ret = some .boolean ∧ (x.toInt = 0 ∨ x.toInt = 1)) ∨ (ret = some .byte ∧ (x.toInt = 0 ∨ x.toInt = 1)) ∨ (ret = some .char ∧ 0 ≤ x.toInt ∧ x.toInt ≤ 65535))
  | .lreturn => ∃ x : Int64, st = [.long x] ∧ ret = some .long
  | .areturn => ∃ a : Nat, st = [.ref a] ∧ ∃ n, ret = some (.object n)
  | .return_ => st = [] ∧ ret = none
  | _ => False
/-- an end that is a return -/
def Rt (C : MR) (P : PO) : Prop := ∀ pc' h' lv' st', P pc' h' lv' st' → ∃ ins, decode C.2.1 pc' = .ok (ins, 1) ∧ rokc C.2.2.2.1 ins st'
def cP2 (sb : Nat → List Nat) (dC : Nat → ClassId) (dI : Nat → Nat → Nat) (dA : Nat → ClassId) (sp : Nat → Nat) (H0 : Heap) (ρ0 : List Nat) (ad : Nat → Nat) (rf : Nat → Nat → Option Nat) (sh : SHP) (h : PH) (U : State) : Prop := va_P (dC, dI) vwCl (mkW dA ad rf sh h) U.heap ∧ va_D (aA H0) (mkW dA ad rf sh h) ∧ va_S (aA H0) H0 U.heap [] ∧ va_K (dC, dI) vwCl (ax_tys dA) U ∧ OX sp sb H0 ρ0 U
def cQ2 (dC : Nat → ClassId) (dI : Nat → Nat → Nat) (dA : Nat → ClassId) (H0 : Heap) (ad : Nat → Nat) (rf : Nat → Nat → Option Nat) (sh : SHP) (P : PO) : Array Value → State → Outcome → State → Prop := fun _ _ oc t => ∃ pc' h' lv' st', P pc' h' lv' st' ∧ va_P (dC, dI) vwCl (mkW dA ad rf sh h') t.heap ∧ va_D (aA H0) (mkW dA ad rf sh h') ∧ va_S (aA H0) H0 t.heap [] ∧ oc = .returned st'.head? ∧ st'.length ≤ 1
theorem cP2.blind {av : List Value} : FrameBlind (va_Pc av (cP2 sb dC dI dA sp H0 ρ0 ad rf sh h)) := fun a U g mk q => by
  obtain ⟨q0, q2, q3, q4, q5, q6⟩ := q
  exact ⟨q0, q2, q3, q4, va_K.moved (u := U) (U := U.calling g mk a) (Vm.Alike.refl U.vm) q5, OX.warm (U := U.calling g mk a) (State.WarmedH.refl U) (Sb.rf ρ0) q6⟩
theorem i01 {x : Int32} (h : x.toInt = 0 ∨ x.toInt = 1) : x = 0 ∨ x = 1 := by
  rcases h with z | z
  · exact Or.inl (Int32.toInt_inj.mp (by rw [z]; rfl))
  · exact Or.inr (Int32.toInt_inj.mp (by rw [z]; rfl))
set_option maxHeartbeats 1000000 in
theorem met_wp {C : MR} (hC : Mcw C) {av : List Value} (hwt : (av.map fun v => v.category).sum ≤ C.2.2.1) (hW : Wp0 sb dC dI dA sp H0 l ρ0 ad rf sh C 0 h (lv_args 0 av) [] P) (hR : Rt C P) :
    Met l C.1 (Cond.code C.1 C.2.1 C.2.2.1 C.2.2.2.1 :: GW) C.2.2.2.2.1 (va_Pc av (cP2 sb dC dI dA sp H0 ρ0 ad rf sh h)) (cQ2 dC dI dA H0 ad rf sh P) C.2.2.2.2.1.cells C.2.2.2.2.1.slots (aA H0) := by
  refine Met.ofW (cc := C.2.1) (maxL := C.2.2.1) (ret := C.2.2.2.1) hC.2 rfl ?_
  intro p e s m args below meth c s₁ B hml hv
  obtain ⟨rfl, q2, q3, q4, q5, q6⟩ := hv
  have hx := B.exec
  have hb := B.bytes
  have hrt := B.returns
  have hts := atoms_spec (ws := Cond.code C.1 C.2.1 C.2.2.1 C.2.2.2.1 :: GW) B.pre
  have hown : s.vm.findClass C.1.cls = some m.cls := findClass_of_methodNamed B.named
  have hlocks := B.notSynchronized
  have hin : meth.name = C.1.name := (name_of_methodNamed B.named B.method).1
  have hX : CX sb dC dI dA sp H0 ρ0 C p C.2.2.2.2.1 s m av.toArray meth c := ⟨hx, hb, hml, hown, fun w hw => hts w (List.mem_cons_of_mem _ hw), q5, hlocks, hrt, fun z => hin.trans z, rfl, q6⟩
  have hle : (lg_sl av).length ≤ C.2.2.1 := by rw [lg_len]; exact hwt
  have hl := lv_entry av hle
  rw [lg_entry_eq]
  generalize (lg_sl av ++ List.replicate (C.2.2.1 - (lg_sl av).length) Slot.unset).toArray = ls at hl ⊢
  refine hW p e C.2.2.2.2.1 s m av.toArray below meth c _ 0 0 hX ⟨Nat.zero_le _, Nat.zero_le _⟩ (fun pc' h' lv' st' hP => ?_) s.heap [] ls q2 q3 q4 hl
  intro H locs ls' z5 z6 z7 z8
  obtain ⟨ins, hdg, hrok⟩ := hR _ _ _ _ hP
  have QOK : ∀ t : State, t.heap = H → s.WarmedH t.vm → st'.length ≤ 1 → cQ2 dC dI dA H0 ad rf sh P av.toArray s (.returned st'.head?) t := fun t ht hW hl1 =>
    ⟨pc', h', lv', st', hP, by rw [ht]; exact z5, z6, by rw [ht]; exact ⟨z7.1, z7.2.1, fun _ h => by cases h⟩, rfl, hl1⟩
  refine W.widen (k := C.2.2.2.2.1.cells) (n := C.2.2.2.2.1.slots) (Nat.zero_le _) (Nat.zero_le _) ?_
  cases ins <;> first | exact hrok.elim | skip
  case ireturn =>
    obtain ⟨x, rfl, hty⟩ := hrok
    rcases hty with hty | ⟨hty, h01⟩ | ⟨hty, h01⟩ | ⟨hty, h1, h2⟩
    · rw [hty] at hrt
      exact W.iret hx hb hrt (fun t ht hW => QOK t ht hW (Nat.le_refl 1)) z7.2.2 hdg hlocks
    · rw [hty] at hrt
      exact W.zret hx hb hrt (by rcases i01 h01 with rfl | rfl <;> decide +kernel) (fun t ht hW => QOK t ht hW (Nat.le_refl 1)) z7.2.2 hdg hlocks
    · rw [hty] at hrt
      exact W.zret hx hb hrt (by rcases i01 h01 with rfl | rfl <;> decide +kernel) (fun t ht hW => QOK t ht hW (Nat.le_refl 1)) z7.2.2 hdg hlocks
    · rw [hty] at hrt
      have hxn : x = nI x.toInt.toNat := by
        apply Int32.toInt_inj.mp
        rw [nI_toInt (by omega)]
        omega
      exact W.zret hx hb hrt (by rw [hxn]; exact (pk_charN (by omega)).1) (fun t ht hW => QOK t ht hW (Nat.le_refl 1)) z7.2.2 hdg hlocks
  case lreturn =>
    obtain ⟨x, rfl, hty⟩ := hrok
    rw [hty] at hrt
    exact W.lret hx hb hrt (fun t ht hW => QOK t ht hW (Nat.le_refl 1)) z7.2.2 hdg hlocks
  case areturn =>
    obtain ⟨a, rfl, nm, hty⟩ := hrok
    rw [hty] at hrt
    exact W.aret hx hb hrt (Or.inl ⟨nm, rfl⟩) (Or.inr ⟨a, rfl⟩) (fun t ht hW => QOK t ht hW (Nat.le_refl 1)) z7.2.2 hdg hlocks
  case return_ =>
    obtain ⟨rfl, hty⟩ := hrok
    rw [hty] at hrt
    exact W.vret hx hb hrt (fun t ht hW => QOK t ht hW (Nat.zero_le 1)) z7.2.2 hdg hlocks
/-- behind a call -/
theorem run_wp {p : Program} {e : Env} {R : Room} {s : State} {m : MethodId} {args : Array Value} {below : List Frame} {meth : Method} {c : Code} {Q : State → Prop} {nc ns : Nat} {H : Heap} {locs : List Loc} {ls : Array Slot} {ST RS : List Value} {mc ms : Nat} {a : Array Value} (hr : va_Run p l e R s m args below meth c H locs nc ns mc ms (F0 m pc ls ST) RS (cQ2 dC dI dA H0 ad rf sh P a) (aA H0)) (hS : va_S (aA H0) H0 H locs)
    (kk : ∀ pc' h' lv' st' (H1 : Heap) (locs1 : List Loc), P pc' h' lv' st' → va_P (dC, dI) vwCl (mkW dA ad rf sh h') H1 → va_D (aA H0) (mkW dA ad rf sh h') → va_S (aA H0) H0 H1 locs1 → W p l e R s m args below meth c H1 locs1 (nc + mc) (ns + ms) Q (F0 m (pc + 3) ls (st' ++ RS))) : W p l e R s m args below meth c H locs nc ns Q (F0 m pc ls ST) := by
  intro T hT X
  obtain ⟨v, st₀, t, T', L, h0, X', hL, e1, e2, ⟨pc', h', lv', st', k1, k5, k6, k7, k9, k10⟩, st⟩ := hr T hT X
  have hv : v.toList = st' := by
    have : v = st'.head? := by cases k9; rfl
    rw [this]
    match st', k10 with
    | [], _ => rfl
    | [_], _ => rfl
  obtain ⟨t2, a1, b1⟩ := kk pc' h' lv' st' T'.heap (locs ++ L) k1 (by rw [e1]; exact k5) k6 ⟨by rw [e1]; exact k7.1, by rw [e1]; exact k7.2.1, fun q hq => by
    rcases List.mem_append.mp hq with h | h
    · exact hS.2.2 q h
    · exact hL q h⟩ T' rfl X'
  exact ⟨t2, st t2 (by rw [hv]; exact a1), b1⟩
/-- the receiver of a virtual call -/
def rcvc (sp ad : Nat → Nat) (sh : SHP) (ci : Nat) (as : List Value) : Prop := (ci < 100 ∧ ∃ c0 n fs, as.head? = some (.ref (ad c0)) ∧ sh[c0]? = some (ci, n, fs)) ∨ (ci = 200 ∧ ∃ x, (x = 1 ∨ x = 3) ∧ as.head? = some (.ref (sp x)))
set_option maxHeartbeats 2000000 in
theorem w0_call {a b kc ci : Nat} {C : MR} {as rest : List Value} (hC : mt a b = some C) (hCC : Mcw C) (hdg : decode M.2.1 pc = .ok (ins, len)) (hlen : len = ax_len ins) (hlk : lok mt M pc ins (a :: b :: kc :: ci :: lk) = true) (ho : ax_op ins = 21) (h9 : Nat.beq a 900 = false ∧ Nat.beq a 901 = false ∧ Nat.beq a 902 = false) (hkc : kc = 0 ∨ kc = 2) (hna : as.length = C.2.2.2.2.2.1) (hf1 : C.2.2.2.2.1.frames < M.2.2.2.2.1.frames) (hf2 : 8 + (C.2.2.1 + 11) + C.2.2.2.2.1.locals ≤ M.2.2.2.2.1.locals) (hwr : (rest.map fun v => v.category).sum ≤ 8) (hwa : (as.map fun v => v.category).sum ≤ C.2.2.1) (hz : C.2.2.2.2.1.cells = 0 ∧ C.2.2.2.2.1.slots = 0) (hrc : kc = 0 → rcvc sp ad sh ci as)
    (hW : Wp0 sb dC dI dA sp H0 l ρ0 ad rf sh C 0 h (lv_args 0 as) [] P') (hR : Rt C P') (K : ∀ pc' h' lv' st', P' pc' h' lv' st' → Wp0 sb dC dI dA sp H0 l ρ0 ad rf sh M (pc + len) h' lv (st' ++ rest) P) : Wp0 sb dC dI dA sp H0 l ρ0 ad rf sh M pc h lv (as.reverse ++ rest) P := by
  intro p e R s m args below meth c Q nc ns hX hN hG H locs ls z1 z2 z3 z4
  obtain ⟨hx, hb, hml, hown, hts, hK, hlocks, hrt, hin, hRoom, hO⟩ := id hX
  have hMet := met_wp hCC hwa hW hR
  subst hRoom
  have hcw : ∀ w ∈ (Cond.code C.1 C.2.1 C.2.2.1 C.2.2.2.1 :: GW), w ∈ GW := fun w hw => by
    rcases List.mem_cons.mp hw with rfl | hw
    · exact hCC.1
    · exact hw
  have hGd : GoodIn GW (Cond.code C.1 C.2.1 C.2.2.1 C.2.2.2.1 :: GW) := GW_good hcw
  have hPc : ∀ U : State, U.heap = H → s.WarmedH U.vm → cP2 sb dC dI dA sp H0 ρ0 ad rf sh h U := fun U hU hW => ⟨by rw [hU]; exact z1, z2, by rw [hU]; exact ⟨z3.1, z3.2.1, fun _ h => by cases h⟩, va_K.moved hW.alike hK, OX.warm hW (Sb.rf ρ0) hO⟩
  have hlen3 : len = 3 := by
    rw [hlen]
    cases ins <;> first | (exact absurd ho (Nat.ne_of_beq_eq_false rfl)) | rfl
  subst hlen3
  have FIN : va_Run p l e M.2.2.2.2.1 s m args below meth c H locs nc ns C.2.2.2.2.1.cells C.2.2.2.2.1.slots (F0 m pc ls (as.reverse ++ rest)) rest (cQ2 dC dI dA H0 ad rf sh P' as.toArray) (aA H0) → W p l e M.2.2.2.2.1 s m args below meth c H locs nc ns Q (F0 m pc ls (as.reverse ++ rest)) := fun hrun => by
    refine run_wp hrun z3 (fun pc' h' lv' st' H1 locs1 k1 k5 k6 k7 => ?_)
    rw [hz.1, hz.2]
    exact K pc' h' lv' st' k1 p e _ s m args below meth c Q nc ns hX hN hG H1 locs1 ls k5 k6 k7 z4
  have hRm : C.2.2.2.2.1.frames + 1 ≤ M.2.2.2.2.1.frames ∧ 8 + (C.2.2.1 + 11) + C.2.2.2.2.1.locals ≤ M.2.2.2.2.1.locals := ⟨hf1, hf2⟩
  have hcs : nc + C.2.2.2.2.1.cells ≤ M.2.2.2.2.1.cells ∧ ns + C.2.2.2.2.1.slots ≤ M.2.2.2.2.1.slots := by rw [hz.1, hz.2]; exact hN
  obtain ⟨h9a, h9b, h9c⟩ := h9
  cases ins <;> first | (exact absurd ho (Nat.ne_of_beq_eq_false rfl)) | skip
  case invokevirtual idx =>
    match lk, hlk with
    | m1 :: m2 :: i1 :: i2 :: s1 :: s2 :: n1 :: n2 :: _, hlk =>
      have hl : (match mt a b with
        | some C => Nat.beq kc 0 && (wdq m1 m2 (.methodLink M.1.cls idx C.1) && (wdq i1 i2 (.instanceMethod C.1) && (wdq s1 s2 (.selects C.1.cls C.1 C.1) && (wdq n1 n2 (.initialized C.1.cls) && ((bif Nat.beq ci 200 then decide (C.1.cls = sSTR) else decide (vwCl[ci]?.map (fun q => q.1) = some C.1.cls)) && (decide (C.1.cls ≠ "java/lang/invoke/MethodHandle" ∧ C.1.cls ≠ "java/lang/invoke/VarHandle" ∧ (parseMethodDescriptor C.1.desc).map (fun d => d.parameters.length) = some (C.2.2.2.2.2.1 - 1)) && (Nat.ble 1 C.2.2.2.2.2.1 && (!(Nat.beq a 900) && (!(Nat.beq a 901) && !(Nat.beq a 902))))))))))
        | none => false) = true := hlk
      rw [hC] at hl
      have v1 := bb_and (a := Nat.beq kc 0) hl
      have v2 := bb_and v1.2
      have v3 := bb_and v2.2
      have v4 := bb_and v3.2
      have v5 := bb_and v4.2
      have v6 := bb_and v5.2
      have v7 := bb_and v6.2
      have v8 := bb_and v7.2
      have hn1 := bb_le v8.1
      have hds := of_decide_eq_true v7.1
      have hrc' := hrc (bb_eq v1.1)
      cases as with
      | nil => simp only [List.length_nil] at hna; omega
      | cons VA AS =>
        have RECV : ∃ b0, VA = .ref b0 ∧ ∃ cellB : Cell, H[b0]? = some cellB ∧ cellB.vm.isStatics = false ∧ s.vm.findClass C.1.cls = some cellB.cls := by
          rcases hrc' with ⟨hci, c0, n, fs, hh, hsh⟩ | ⟨hci, x, hx1, hh⟩
          · have hVA : VA = .ref (ad c0) := Option.some.inj hh
            have hw := mkW_get (dA := dA) (ad := ad) (rf := rf) (h := h) hsh
            rw [mkE_o hci] at hw
            have z := v6.1
            rw [bb_nb (show ci ≠ 200 by omega)] at z
            have z : decide (vwCl[ci]?.map (fun q => q.1) = some C.1.cls) = true := z
            have z := of_decide_eq_true z
            cases hq : vwCl[ci]? with
            | none => rw [hq] at z; cases z
            | some q =>
              rw [hq] at z
              have z : some q.1 = some C.1.cls := z
              have rv := va_recv hK z1 (ci := ci) (q0 := c0) hq hw
              rw [Option.some.inj z] at rv
              exact ⟨ad c0, hVA, rv⟩
          · have hVA : VA = .ref (sp x) := Option.some.inj hh
            have hso : SO sp sb H0 x s := by
              rcases hx1 with rfl | rfl
              · exact hO.2.1
              · exact hO.2.2.1
            have z := v6.1
            rw [hci] at z
            have z : decide (C.1.cls = sSTR) = true := z
            obtain ⟨cell, y1, y2, y3, -⟩ := hso.1.kept (fun a h1 h2 => z3.2.1 a h1 h2)
            exact ⟨sp x, hVA, cell, y1, y2, by rw [of_decide_eq_true z]; exact y3⟩
        obtain ⟨b0, rfl, hrecv⟩ := RECV
        have cb := callB_of (own := M.1.cls) (index := idx) (R := M.2.2.2.2.1) (C.2.2.2.2.2.1 - 1) hts hGd rfl rfl rfl (hts _ (wdq_in v5.1)) (hts _ (wdq_in v2.1)) ⟨hds.1, hds.2.1, hds.2.2⟩ hRm
        refine FIN ?_
        exact va_runV (g := F0 m pc ls ((.ref b0 :: AS).reverse ++ rest)) (b := b0) (As := AS) (rest := rest) ⟨hx, hb, hml, hown, hts⟩ hMet ⟨cb, hts _ (wdq_in v3.1), hts _ (wdq_in v4.1)⟩ ⟨cP2.blind, hrecv, fun U hU hW => ⟨rfl, hPc U hU hW⟩⟩ rfl (by rw [List.length_cons] at hna; omega) z4.1 (by rw [List.reverse_cons]; simp) (lv_room hwr) hdg hcs
  case invokespecial idx =>
    obtain ⟨m1, m2, i1, i2, n1, n2, ne, hl⟩ := lok_sp h9a hlk
    rw [hC] at hl
    have v1 := bb_eq (bb_and (a := Nat.beq kc 1) hl).1
    omega
  case invokestatic idx =>
    obtain ⟨m1, m2, i1, i2, n1, n2, ne, hl⟩ := lok_st h9b h9c hlk
    rw [hC] at hl
    have v1 := bb_and (a := Nat.beq kc 2) hl
    have v2 := bb_and v1.2
    have v3 := bb_and v2.2
    have v4 := bb_and v3.2
    have v5 := bb_and v4.2
    have hds := of_decide_eq_true v5.1
    refine FIN ?_
    cases hne : Nat.beq ne 0 with
    | true =>
      rw [hne] at v2
      have cb := callB_of (own := M.1.cls) (index := idx) (R := M.2.2.2.2.1) C.2.2.2.2.2.1 hts hGd rfl rfl rfl (hts _ (wdq_in v4.1)) (hts _ (wdq_in v2.1)) ⟨hds.1, hds.2.1, hds.2.2⟩ hRm
      exact va_runS (g := F0 m pc ls (as.reverse ++ rest)) (As := as) (rest := rest) ⟨hx, hb, hml, hown, hts⟩ hMet ⟨cb, hts _ (wdq_in v3.1)⟩ ⟨cP2.blind, fun U hU hW => ⟨rfl, hPc U hU hW⟩⟩ rfl hna z4.1 rfl (lv_room hwr) hdg hcs
    | false =>
      rw [hne] at v2
      have hnest : (Cond.methodLinkNest M.1.cls idx C.1 RX11) ∈ nestW := List.mem_filter.mpr ⟨wdn_in v2.1, rfl⟩
      have cb := va_cnB (own := M.1.cls) (index := idx) (R := M.2.2.2.2.1) C.2.2.2.2.2.1 hts hGd rfl rfl rfl (hO.2.2.2.2.2.2.2.2.2.2 _ hnest) (hts _ (wdq_in v4.1)) ⟨hds.1, hds.2.1, hds.2.2⟩ hRm
      exact va_runSN (g := F0 m pc ls (as.reverse ++ rest)) (As := as) (rest := rest) ⟨hx, hb, hml, hown, hts⟩ hMet ⟨cb, hts _ (wdq_in v3.1), trivial⟩ ⟨cP2.blind, fun U hU hW => ⟨rfl, hPc U hU hW⟩⟩ rfl hna z4.1 rfl (lv_room hwr) hdg hcs
theorem w0_min {x y : Int32} {rest : List Value} (hdg : decode M.2.1 pc = .ok (ins, len)) (hlen : len = ax_len ins) (hlk : lok mt M pc ins (902 :: lk) = true) (ho : ax_op ins = 21) (hf : 1 ≤ M.2.2.2.2.1.frames) (hl2 : (rest.map fun v => v.category).sum + 13 ≤ M.2.2.2.2.1.locals) (K : Wp0 sb dC dI dA sp H0 l ρ0 ad rf sh M (pc + len) h lv (.int (if y < x then y else x) :: rest) P) : Wp0 sb dC dI dA sp H0 l ρ0 ad rf sh M pc h lv (.int y :: .int x :: rest) P := by
  intro p e R s m args below meth c Q nc ns hX hN hG H locs ls z1 z2 z3 z4
  have KK := K p e R s m args below meth c Q nc ns hX hN hG H locs ls z1 z2 z3 z4
  obtain ⟨hx, hb, hml, hown, hts, hK, hlocks, hrt, hin, hRoom, hO⟩ := id hX
  subst hRoom
  cases ins <;> first | (exact absurd ho (Nat.ne_of_beq_eq_false rfl)) | skip
  case invokevirtual idx =>
    match lk, hlk with
    | b :: kc :: ci :: m1 :: m2 :: i1 :: i2 :: s1 :: s2 :: n1 :: n2 :: _, hlk =>
      exfalso
      have hl := hlk
      unfold lok at hl
      cases hC : mt 902 b with
      | none => simp [hC] at hl
      | some C => simp [hC] at hl
  case invokespecial idx =>
    match lk, hlk with
    | b :: kc :: ci :: m1 :: m2 :: i1 :: i2 :: n1 :: n2 :: ne :: _, hlk =>
      exfalso
      have hl := hlk
      unfold lok at hl
      cases hC : mt 902 b with
      | none => simp [hC] at hl
      | some C => simp [hC] at hl
  case invokestatic idx =>
    match lk, hlk with
    | m1 :: m2 :: s1 :: s2 :: n1 :: n2 :: c1 :: c2 :: _, hlk =>
      have hl : (wdq m1 m2 (.methodLink M.1.cls idx Lib.Math.min.name) && (wdq s1 s2 (.static Lib.Math.min.name) && (wdq n1 n2 (.initialized "java/lang/Math") && wdq c1 c2 (.code Lib.Math.min.name Lib.Math.min.code 2 (some .int))))) = true := hlk
      have u := bb_and hl
      have u2 := bb_and u.2
      have u3 := bb_and u2.2
      subst hlen
      exact va_mmin hx hb (by rw [hml]; exact z4.1.symm) hown (hts _ (wdq_in u.1)) (hts _ (wdq_in u2.1)) (hts _ (wdq_in u3.1)) (hts _ (wdq_in u3.2)) hf hl2 hN.1 hN.2 hdg KK
theorem w0_max {b : Nat} {x y : Int32} {rest : List Value} (hmt : mt 903 b = none) (hdg : decode M.2.1 pc = .ok (ins, len)) (hlen : len = ax_len ins) (hlk : lok mt M pc ins (903 :: b :: lk) = true) (ho : ax_op ins = 21) (hf : 1 ≤ M.2.2.2.2.1.frames) (hl2 : (rest.map fun v => v.category).sum + 13 ≤ M.2.2.2.2.1.locals) (K : Wp0 sb dC dI dA sp H0 l ρ0 ad rf sh M (pc + len) h lv (.int (if x < y then y else x) :: rest) P) : Wp0 sb dC dI dA sp H0 l ρ0 ad rf sh M pc h lv (.int y :: .int x :: rest) P := by
  intro p e R s m args below meth c Q nc ns hX hN hG H locs ls z1 z2 z3 z4
  have KK := K p e R s m args below meth c Q nc ns hX hN hG H locs ls z1 z2 z3 z4
  obtain ⟨hx, hb, hml, hown, hts, hK, hlocks, hrt, hin, hRoom, hO⟩ := id hX
  subst hRoom
  cases ins <;> first | (exact absurd ho (Nat.ne_of_beq_eq_false rfl)) | skip
  case invokevirtual idx =>
    match lk, hlk with
    | kc :: ci :: m1 :: m2 :: i1 :: i2 :: s1 :: s2 :: n1 :: n2 :: _, hlk =>
      exfalso
      have hl := hlk
      unfold lok at hl
      simp [hmt] at hl
  case invokespecial idx =>
    match lk, hlk with
    | kc :: ci :: m1 :: m2 :: i1 :: i2 :: n1 :: n2 :: ne :: _, hlk =>
      exfalso
      have hl := hlk
      unfold lok at hl
      simp [hmt] at hl
  case invokestatic idx =>
    match lk, hlk with
    | kc :: ci :: m1 :: m2 :: i1 :: i2 :: n1 :: n2 :: ne :: _, hlk =>
      have hl : (match mt 903 b with
        | some C => Nat.beq kc 2 && ((bif Nat.beq ne 0 then wdq m1 m2 (.methodLink M.1.cls idx C.1) else wdn m1 m2 (.methodLinkNest M.1.cls idx C.1 RX11)) && (wdq i1 i2 (.static C.1) && (wdq n1 n2 (.initialized C.1.cls) && (decide (C.1.cls ≠ "java/lang/invoke/MethodHandle" ∧ C.1.cls ≠ "java/lang/invoke/VarHandle" ∧ (parseMethodDescriptor C.1.desc).map (fun d => d.parameters.length) = some C.2.2.2.2.2.1) && !(Nat.beq 903 900)))))
        | none => Nat.beq 903 903 && (wdq b kc (.methodLink M.1.cls idx Lib.Math.max.name) && (wdq ci m1 (.static Lib.Math.max.name) && (wdq m2 i1 (.initialized "java/lang/Math") && wdq i2 n1 (.code Lib.Math.max.name Lib.Math.max.code 2 (some .int)))))) = true := hlk
      rw [hmt] at hl
      have u0 := bb_and (a := Nat.beq 903 903) hl
      have u := bb_and u0.2
      have u2 := bb_and u.2
      have u3 := bb_and u2.2
      subst hlen
      exact va_mmax hx hb (by rw [hml]; exact z4.1.symm) hown (hts _ (wdq_in u.1)) (hts _ (wdq_in u2.1)) (hts _ (wdq_in u3.1)) (hts _ (wdq_in u3.2)) hf hl2 hN.1 hN.2 hdg KK
/-- the heap with a piece of a row copied -/
def cph (h : PH) (cs cd sp dp n : Nat) : PH := fun c k => if c = cd ∧ dp ≤ k ∧ k < dp + n then h cs (sp + (k - dp)) else h c k
theorem w0_copy {cs cd n0 n1 kd : Nat} {f0 f1 : List (Nat × Nat)} {n dp sq : Int32} {rest : List Value} (hdg : decode M.2.1 pc = .ok (ins, len)) (hlen : len = ax_len ins) (hlk : lok mt M pc ins (901 :: lk) = true) (ho : ax_op ins = 21) (hf : 1 ≤ M.2.2.2.2.1.frames) (hl2 : (rest.map fun v => v.category).sum + 18 ≤ M.2.2.2.2.1.locals) (hs0 : sh[cs]? = some (kd, n0, f0)) (hs1 : sh[cd]? = some (kd, n1, f1)) (hkd : kd = 100 ∨ kd = 101) (b1 : 0 ≤ sq.toInt) (b2 : 0 ≤ dp.toInt) (b3 : 0 ≤ n.toInt) (b4 : sq.toInt + n.toInt ≤ n0) (b5 : dp.toInt + n.toInt ≤ n1) (K : Wp0 sb dC dI dA sp H0 l ρ0 ad rf sh M (pc + len) (cph h cs cd sq.toInt.toNat dp.toInt.toNat n.toInt.toNat) lv rest P) : Wp0 sb dC dI dA sp H0 l ρ0 ad rf sh M pc h lv (.int n :: .int dp :: .ref (ad cd) :: .int sq :: .ref (ad cs) :: rest) P := by
  intro p e R s m args below meth c Q nc ns hX hN hG H locs ls z1 z2 z3 z4
  have KK := fun H1 locs1 y1 y2 y3 => K p e R s m args below meth c Q nc ns hX hN hG H1 locs1 ls y1 y2 y3 z4
  obtain ⟨hx, hb, hml, hown, hts, hK, hlocks, hrt, hin, hRoom, hO⟩ := id hX
  subst hRoom
  have hloc : (rest.map fun v => v.category).sum + (nativeFrameWords "java/lang/System" "arraycopy" 5 + 11) ≤ M.2.2.2.2.1.locals := by
    have e18 : nativeFrameWords "java/lang/System" "arraycopy" 5 = 7 := by decide +kernel
    rw [e18]
    omega
  have WORDS : ∃ idx m1 m2 i1 i2 s1 s2 n1 n2, ins = .invokestatic idx ∧ wdq m1 m2 (.methodLink M.1.cls idx arraycopyName) = true ∧ wdq i1 i2 (.native arraycopyName) = true ∧ wdq s1 s2 (.static arraycopyName) = true ∧ wdq n1 n2 (.initialized "java/lang/System") = true := by
    cases ins <;> first | (exact absurd ho (Nat.ne_of_beq_eq_false rfl)) | skip
    case invokevirtual idx =>
      match lk, hlk with
      | b :: kc :: ci :: m1 :: m2 :: i1 :: i2 :: s1 :: s2 :: n1 :: n2 :: _, hlk =>
        exfalso
        have hl := hlk
        unfold lok at hl
        cases hC : mt 901 b with
        | none => simp [hC] at hl
        | some C => simp [hC] at hl
    case invokespecial idx =>
      match lk, hlk with
      | b :: kc :: ci :: m1 :: m2 :: i1 :: i2 :: n1 :: n2 :: ne :: _, hlk =>
        exfalso
        have hl := hlk
        unfold lok at hl
        cases hC : mt 901 b with
        | none => simp [hC] at hl
        | some C => simp [hC] at hl
    case invokestatic idx =>
      match lk, hlk with
      | m1 :: m2 :: i1 :: i2 :: s1 :: s2 :: n1 :: n2 :: _, hlk =>
        have hl : (wdq m1 m2 (.methodLink M.1.cls idx arraycopyName) && (wdq i1 i2 (.native arraycopyName) && (wdq s1 s2 (.static arraycopyName) && wdq n1 n2 (.initialized "java/lang/System")))) = true := hlk
        have u := bb_and hl
        have u2 := bb_and u.2
        have u3 := bb_and u2.2
        exact ⟨idx, m1, m2, i1, i2, s1, s2, n1, n2, rfl, u.1, u2.1, u3.1, u3.2⟩
  obtain ⟨idx, m1, m2, i1, i2, s1, s2, n1', n2', rfl, u1, u2, u3, u4⟩ := WORDS
  have hlen : len = 3 := hlen
  subst hlen
  have ng : ∀ z : Int32, 0 ≤ z.toInt → ¬ z < 0 := fun z hz q => by
    rw [Int32.lt_iff_toInt_lt] at q
    have : (0 : Int32).toInt = 0 := rfl
    omega
  have cl : ∀ z : Int32, z.toNatClampNeg = z.toInt.toNat := fun z => rfl
  have w0 := mkW_get (dA := dA) (ad := ad) (rf := rf) (h := h) hs0
  have w1 := mkW_get (dA := dA) (ad := ad) (rf := rf) (h := h) hs1
  have hrow : ∀ j, cph h cs cd sq.toInt.toNat dp.toInt.toNat n.toInt.toNat cd j = va_cpy (h cs) (h cd) sq.toInt.toNat dp.toInt.toNat n.toInt.toNat j := fun j => by
    unfold cph va_cpy
    by_cases q : dp.toInt.toNat ≤ j ∧ j < dp.toInt.toNat + n.toInt.toNat
    · rw [if_pos ⟨rfl, q⟩, if_pos q]
    · rw [if_neg (fun z => q z.2), if_neg q]
  have hoth : ∀ c', c' ≠ cd → cph h cs cd sq.toInt.toNat dp.toInt.toNat n.toInt.toNat c' = h c' := fun c' hc' => funext (fun j => if_neg (fun z => hc' z.1))
  rcases hkd with rfl | rfl
  · rw [mkE_i (Or.inl rfl)] at w0 w1
    have hset : (mkW dA ad rf sh h).set cd (ad cd, .inl (dA 100, n1, .inl (va_cpy (fun j => Int32.ofInt (h cs j)) (fun j => Int32.ofInt (h cd j)) sq.toNatClampNeg dp.toNatClampNeg n.toNatClampNeg))) = mkW dA ad rf sh (cph h cs cd sq.toInt.toNat dp.toInt.toNat n.toInt.toNat) := mkW_set hs1 (by
      rw [mkE_i (Or.inl rfl)]
      congr 3
      congr 1
      funext j
      rw [hrow j]
      unfold va_cpy
      rw [cl, cl, cl]
      by_cases q : dp.toInt.toNat ≤ j ∧ j < dp.toInt.toNat + n.toInt.toNat
      · rw [if_pos q, if_pos q]
      · rw [if_neg q, if_neg q]) hoth
    refine va_copyi hx hb (by rw [hml]; exact z4.1.symm) hown (hts _ (wdq_in u1)) (hts _ (wdq_in u2)) (hts _ (wdq_in u3)) (hts _ (wdq_in u4)) hK z1 z2 z3 cs cd 0 0 w0 w1 rfl rfl rfl (ng _ b1) (ng _ b2) (ng _ b3) (by rw [cl, cl]; omega) (by rw [cl, cl]; omega) (fun _ _ => rfl) hf hloc hdg ?_
    rw [hset]
    exact KK
  · rw [mkE_l] at w0 w1
    have hset : (mkW dA ad rf sh h).set cd (ad cd, .inl (dA 101, n1, .inr (.inl (va_cpy (fun j => Int64.ofInt (h cs j)) (fun j => Int64.ofInt (h cd j)) sq.toNatClampNeg dp.toNatClampNeg n.toNatClampNeg)))) = mkW dA ad rf sh (cph h cs cd sq.toInt.toNat dp.toInt.toNat n.toInt.toNat) := mkW_set hs1 (by
      rw [mkE_l]
      congr 5
      funext j
      rw [hrow j]
      unfold va_cpy
      rw [cl, cl, cl]
      by_cases q : dp.toInt.toNat ≤ j ∧ j < dp.toInt.toNat + n.toInt.toNat
      · rw [if_pos q, if_pos q]
      · rw [if_neg q, if_neg q]) hoth
    refine va_copyl hx hb (by rw [hml]; exact z4.1.symm) hown (hts _ (wdq_in u1)) (hts _ (wdq_in u2)) (hts _ (wdq_in u3)) (hts _ (wdq_in u4)) hK z1 z2 z3 cs cd 1 1 w0 w1 rfl rfl rfl (ng _ b1) (ng _ b2) (ng _ b3) (by rw [cl, cl]; omega) (by rw [cl, cl]; omega) (fun _ _ => rfl) hf hloc hdg ?_
    rw [hset]
    exact KK
end WPT
