/-! THE ABSTRACT MACHINE, 15: calls -/

theorem ax_args_ok : ∀ (n : Nat) {st acc as rest : List AV}, ax_args n st acc = some (as, rest) → ∃ u, as = u ++ acc ∧ st = u.reverse ++ rest ∧ u.length = n
  | 0, st, acc, as, rest, h => by
    have h : some (acc, st) = some (as, rest) := h
    cases h
    exact ⟨[], rfl, rfl, rfl⟩
  | n + 1, st, acc, as, rest, h => by
    cases st with
    | nil => cases h
    | cons v r =>
      have h : ax_args n r (v :: acc) = some (as, rest) := h
      obtain ⟨u, e1, e2, e3⟩ := ax_args_ok n h
      exact ⟨u ++ [v], by rw [e1]; simp, by rw [e2]; simp, by simp [e3]⟩
theorem Rs.split {sp : Nat → Nat} {ρ ad : List Nat} : ∀ {a b : List AV} {S : List Value}, Rs sp ρ ad (a ++ b) S → ∃ A B, S = A ++ B ∧ Rs sp ρ ad a A ∧ Rs sp ρ ad b B
  | [], b, S, h => ⟨[], S, rfl, trivial, h⟩
  | v :: r, b, S, h => by
    obtain ⟨V, R, rfl, h1, h2⟩ := Rs.cons (v := v) (r := r ++ b) h
    obtain ⟨A, B, rfl, h3, h4⟩ := Rs.split h2
    exact ⟨V :: A, B, rfl, ⟨h1, h3⟩, h4⟩
theorem Rs.rev {sp : Nat → Nat} {ρ ad : List Nat} : ∀ {a : List AV} {S : List Value}, Rs sp ρ ad a S → Rs sp ρ ad a.reverse S.reverse
  | [], [], _ => trivial
  | v :: r, V :: R, h => by
    rw [List.reverse_cons, List.reverse_cons]
    exact (Rs.rev h.2).app ⟨h.1, trivial⟩
theorem Rs.len {sp : Nat → Nat} {ρ ad : List Nat} : ∀ {a : List AV} {S : List Value}, Rs sp ρ ad a S → S.length = a.length
  | [], [], _ => rfl
  | _ :: _, _ :: _, h => by rw [List.length_cons, List.length_cons, Rs.len h.2]

section OPS
variable {sb : Nat → List Nat} {mt : Nat → Nat → Option MR} {dC : Nat → ClassId} {dI : Nat → Nat → Nat} {dA : Nat → ClassId} {sp : Nat → Nat} {H0 : Heap} {l : Launch}
variable {ih : GO} {p : Program} {e : Env} {R : Room} {s : State} {m : MethodId} {args : Array Value} {below : List Frame} {meth : Method} {c : Code} {Q : State → Prop} {ρ0 ad0 : List Nat} {M : MR} {cut pc len : Nat} {ins : Instr} {lk : List Nat} {cd tl : List ME} {σ : AS} {h : AH} {nc ns : Nat} {lv : AL} {st : List AV} {outs : List AO}

/-- what is asked of a callee's start, what its end gives -/
def cP (sb : Nat → List Nat) (dC : Nat → ClassId) (dI : Nat → Nat → Nat) (dA : Nat → ClassId) (sp : Nat → Nat) (H0 : Heap) (ρ ad : List Nat) (h : AH) (U : State) : Prop := ∃ ws, Hr sp dA ρ ad h ws ∧ va_P (dC, dI) vwCl ws U.heap ∧ va_D (aA H0) ws ∧ va_S (aA H0) H0 U.heap [] ∧ va_K (dC, dI) vwCl (ax_tys dA) U ∧ OX sp sb H0 ρ U
def cQ (dC : Nat → ClassId) (dI : Nat → Nat → Nat) (dA : Nat → ClassId) (sp : Nat → Nat) (H0 : Heap) (ρ ad : List Nat) (outs : List AO) : Array Value → State → Outcome → State → Prop := fun _ _ oc t => ∃ o ∈ outs, ∃ (ρ' ad' : List Nat) (ws : va_W) (RV : List Value), Sb ρ ρ' ∧ Sb ad ad' ∧ St ρ' o.1 ∧ Hr sp dA ρ' ad' o.2.1 ws ∧ va_P (dC, dI) vwCl ws t.heap ∧ va_D (aA H0) ws ∧ va_S (aA H0) H0 t.heap [] ∧ Rs sp ρ' ad' o.2.2.2.2.2.2.2 RV ∧ oc = .returned RV.head? ∧ RV.length ≤ 1
theorem cP.blind {ρ ad : List Nat} {av : List Value} : FrameBlind (va_Pc av (cP sb dC dI dA sp H0 ρ ad h)) := fun a U g mk q => by
  obtain ⟨q0, ws, q1, q2, q3, q4, q5, q6⟩ := q
  exact ⟨q0, ws, q1, q2, q3, q4, va_K.moved (u := U) (U := U.calling g mk a) (Vm.Alike.refl U.vm) q5, OX.warm (U := U.calling g mk a) (State.WarmedH.refl U) (Sb.rf ρ) q6⟩
set_option maxHeartbeats 1000000 in
theorem met_call (hI : Snd sb mt dC dI dA sp H0 l ih) {C : MR} (hM : Mok mt C) (hC : Mcw C) {ρ ad : List Nat} (hS : St ρ σ) {as : List AV} {av : List Value} (has : Rs sp ρ ad as av) (hwt : ax_wt as ≤ C.2.2.1) (hr : ih C 999999 0 C.2.2.2.2.2.2 σ h 0 0 (ax_locs 0 as) [] = some outs) (hop : outs.all (fun o => Nat.ble o.2.2.2.2.2.1 25) = true) :
    Met l C.1 (Cond.code C.1 C.2.1 C.2.2.1 C.2.2.2.1 :: GW) C.2.2.2.2.1 (va_Pc av (cP sb dC dI dA sp H0 ρ ad h)) (cQ dC dI dA sp H0 ρ ad outs) C.2.2.2.2.1.cells C.2.2.2.2.1.slots (aA H0) := by
  refine Met.ofW (cc := C.2.1) (maxL := C.2.2.1) (ret := C.2.2.2.1) hC.2 rfl ?_
  intro p e s m args below meth c s₁ B hml hv
  obtain ⟨rfl, ws, q1, q2, q3, q4, q5, q6⟩ := hv
  have hx := B.exec
  have hb := B.bytes
  have hrt := B.returns
  have hts := atoms_spec (ws := Cond.code C.1 C.2.1 C.2.2.1 C.2.2.2.1 :: GW) B.pre
  have hown : s.vm.findClass C.1.cls = some m.cls := findClass_of_methodNamed B.named
  have hlocks := B.notSynchronized
  have hin : meth.name = C.1.name := (name_of_methodNamed B.named B.method).1
  have hX : CX sb dC dI dA sp H0 ρ C p C.2.2.2.2.1 s m av.toArray meth c := ⟨hx, hb, hml, hown, fun w hw => hts w (List.mem_cons_of_mem _ hw), q5, hlocks, hrt, fun z => hin.trans z, rfl, q6⟩
  have hle : (lg_sl av).length ≤ C.2.2.1 := by rw [lg_len, has.wt]; exact hwt
  have hl := lv_entry av hle
  rw [lg_entry_eq]
  generalize (lg_sl av ++ List.replicate (C.2.2.1 - (lg_sl av).length) Slot.unset).toArray = ls at hl ⊢
  refine hI p e C.2.2.2.2.1 s m av.toArray below meth c _ ρ ad C 999999 0 _ _ _ _ _ _ _ outs hM (fun x hx => hx) hX hr (fun o ho hcond => ?_) ρ ad ws s.heap [] ls (lv_args 0 av) [] (Sb.rf ρ) (Sb.rf ad) hS q1 q2 q3 q4 (Rl.locs 0 has) hl trivial
  have hop1 := bb_le (List.all_eq_true.mp hop o ho)
  rcases hcond with h99 | ⟨ins, ho1, hdg, hrok, hc1, hc2⟩
  · omega
  · intro ρ' ad' ws' H locs ls' LV ST z1 z2 z3 z4 z5 z6 z7 z8 z9 z10
    have QOK : ∀ (RV : List Value), Rs sp ρ' ad' o.2.2.2.2.2.2.2 RV → RV.length ≤ 1 → ∀ t : State, t.heap = H → s.WarmedH t.vm → cQ dC dI dA sp H0 ρ ad outs av.toArray s (.returned RV.head?) t := fun RV hRV hl1 t ht hW =>
      ⟨o, ho, ρ', ad', ws', RV, z1, z2, z3, z4, by rw [ht]; exact z5, z6, by rw [ht]; exact ⟨z7.1, z7.2.1, fun _ h => by cases h⟩, hRV, rfl, hl1⟩
    refine W.widen (k := C.2.2.2.2.1.cells) (n := C.2.2.2.2.1.slots) hc1 hc2 ?_
    unfold ax_rok at hrok
    have hins : ins = .ireturn ∨ ins = .lreturn ∨ ins = .areturn ∨ ins = .return_ := by
      cases ins <;> first | exact Or.inl rfl | exact Or.inr (Or.inl rfl) | exact Or.inr (Or.inr (Or.inl rfl)) | exact Or.inr (Or.inr (Or.inr rfl)) | (rw [← ho1] at hrok; cases hrok; done)
    rcases hins with rfl | rfl | rfl | rfl
    · rw [← ho1] at hrok
      generalize hst : o.2.2.2.2.2.2.2 = sto at hrok z10 QOK
      match sto, hrok with
      | [v], hrok =>
        obtain ⟨V, ST1, rfl, hV, q11⟩ := Rs.cons z10
        obtain rfl := Rs.nil q11
        have hrok : (match C.2.2.2.1 with | some .int => ax_tI v | some .boolean => Nat.beq v.1 0 && Nat.ble v.2 1 | some .byte => Nat.beq v.1 0 && Nat.ble v.2 1 | some .char => Nat.beq v.1 0 && Nat.ble v.2 65535 | _ => false) = true := hrok
        cases hty : C.2.2.2.1 with
        | none => rw [hty] at hrok; cases hrok
        | some ty =>
          rw [hty] at hrok hrt
          cases ty <;> first | (cases hrok; done) | skip
          case int =>
            obtain ⟨x, rfl⟩ := hV.tI hrok
            exact W.iret hx hb hrt (fun t ht hW => QOK [.int x] ⟨hV, trivial⟩ (Nat.le_refl 1) t ht hW) z7.2.2 hdg hlocks
          case boolean =>
            have w := bb_and (a := Nat.beq v.1 0) hrok
            have w2 := bb_le w.2
            rw [tg w.1] at hV
            have hV' : V = .int (nI v.2) := hV
            subst hV'
            have hn : narrow .boolean (.int (nI v.2)) = .int (nI v.2) := by
              rcases (show v.2 = 0 ∨ v.2 = 1 by omega) with e | e <;> rw [e] <;> decide +kernel
            exact W.zret hx hb hrt hn (fun t ht hW => QOK [.int (nI v.2)] ⟨by rw [tg w.1]; exact rfl, trivial⟩ (Nat.le_refl 1) t ht hW) z7.2.2 hdg hlocks
          case byte =>
            have w := bb_and (a := Nat.beq v.1 0) hrok
            have w2 := bb_le w.2
            rw [tg w.1] at hV
            have hV' : V = .int (nI v.2) := hV
            subst hV'
            have hn : narrow .byte (.int (nI v.2)) = .int (nI v.2) := by
              rcases (show v.2 = 0 ∨ v.2 = 1 by omega) with e | e <;> rw [e] <;> decide +kernel
            exact W.zret hx hb hrt hn (fun t ht hW => QOK [.int (nI v.2)] ⟨by rw [tg w.1]; exact rfl, trivial⟩ (Nat.le_refl 1) t ht hW) z7.2.2 hdg hlocks
          case char =>
            have w := bb_and (a := Nat.beq v.1 0) hrok
            have w2 := bb_le w.2
            rw [tg w.1] at hV
            have hV' : V = .int (nI v.2) := hV
            subst hV'
            exact W.zret hx hb hrt (pk_charN (by omega)).1 (fun t ht hW => QOK [.int (nI v.2)] ⟨by rw [tg w.1]; exact rfl, trivial⟩ (Nat.le_refl 1) t ht hW) z7.2.2 hdg hlocks
    · rw [← ho1] at hrok
      generalize hst : o.2.2.2.2.2.2.2 = sto at hrok z10 QOK
      match sto, hrok with
      | [v], hrok =>
        obtain ⟨V, ST1, rfl, hV, q11⟩ := Rs.cons z10
        obtain rfl := Rs.nil q11
        have hrok : (match C.2.2.2.1 with | some .long => ax_tL v | _ => false) = true := hrok
        cases hty : C.2.2.2.1 with
        | none => rw [hty] at hrok; cases hrok
        | some ty =>
          rw [hty] at hrok hrt
          cases ty <;> first | (cases hrok; done) | skip
          case long =>
            obtain ⟨x, rfl⟩ := hV.tL hrok
            exact W.lret hx hb hrt (fun t ht hW => QOK [.long x] ⟨hV, trivial⟩ (Nat.le_refl 1) t ht hW) z7.2.2 hdg hlocks
    · rw [← ho1] at hrok
      generalize hst : o.2.2.2.2.2.2.2 = sto at hrok z10 QOK
      match sto, hrok with
      | [v], hrok =>
        obtain ⟨V, ST1, rfl, hV, q11⟩ := Rs.cons z10
        obtain rfl := Rs.nil q11
        have hrok : (match C.2.2.2.1 with | some (.object _) => Nat.beq v.1 2 | _ => false) = true := hrok
        cases hty : C.2.2.2.1 with
        | none => rw [hty] at hrok; cases hrok
        | some ty =>
          rw [hty] at hrok hrt
          cases ty <;> first | (cases hrok; done) | skip
          case object nm =>
            have hV2 := hV
            rw [tg (v := v) (t := 2) hrok] at hV2
            obtain ⟨a, -, rfl⟩ := hV2
            exact W.aret hx hb hrt (Or.inl ⟨nm, rfl⟩) (Or.inr ⟨a, rfl⟩) (fun t ht hW => QOK [.ref a] ⟨hV, trivial⟩ (Nat.le_refl 1) t ht hW) z7.2.2 hdg hlocks
    · rw [← ho1] at hrok
      generalize hst : o.2.2.2.2.2.2.2 = sto at hrok z10 QOK
      match sto, hrok with
      | [], hrok =>
        obtain rfl := Rs.nil z10
        have hrok : (match C.2.2.2.1 with | none => true | _ => false) = true := hrok
        cases hty : C.2.2.2.1 with
        | some ty => rw [hty] at hrok; cases hrok
        | none =>
          rw [hty] at hrt
          exact W.vret hx hb hrt (fun t ht hW => QOK [] trivial (Nat.zero_le 1) t ht hW) z7.2.2 hdg hlocks
/-- behind a call -/
theorem run_go {ρ ad : List Nat} {outs0 : List AO} {H : Heap} {locs : List Loc} {ls : Array Slot} {ST RS : List Value} {mc ms : Nat} {a : Array Value} (hr : va_Run p l e R s m args below meth c H locs nc ns mc ms (F0 m pc ls ST) RS (cQ dC dI dA sp H0 ρ ad outs0 a) (aA H0)) (hS : va_S (aA H0) H0 H locs)
    (kk : ∀ o ∈ outs0, ∀ (ρ' ad' : List Nat) (ws : va_W) (RV : List Value) (H1 : Heap) (locs1 : List Loc), Sb ρ ρ' → Sb ad ad' → St ρ' o.1 → Hr sp dA ρ' ad' o.2.1 ws → va_P (dC, dI) vwCl ws H1 → va_D (aA H0) ws → va_S (aA H0) H0 H1 locs1 → Rs sp ρ' ad' o.2.2.2.2.2.2.2 RV → W p l e R s m args below meth c H1 locs1 (nc + mc) (ns + ms) Q (F0 m (pc + 3) ls (RV ++ RS))) : W p l e R s m args below meth c H locs nc ns Q (F0 m pc ls ST) := by
  intro T hT X
  obtain ⟨v, st₀, t, T', L, h0, X', hL, e1, e2, ⟨o, ho, ρ', ad', ws, RV, k1, k2, k3, k4, k5, k6, k7, k8, k9, k10⟩, st⟩ := hr T hT X
  have hv : v.toList = RV := by
    have : v = RV.head? := by cases k9; rfl
    rw [this]
    match RV, k10 with
    | [], _ => rfl
    | [_], _ => rfl
  obtain ⟨t2, a1, b1⟩ := kk o ho ρ' ad' ws RV T'.heap (locs ++ L) k1 k2 k3 k4 (by rw [e1]; exact k5) k6 ⟨by rw [e1]; exact k7.1, by rw [e1]; exact k7.2.1, fun q hq => by
    rcases List.mem_append.mp hq with h | h
    · exact hS.2.2 q h
    · exact hL q h⟩ k8 T' rfl X'
  exact ⟨t2, st t2 (by rw [hv]; exact a1), b1⟩

theorem ax_mn_ok {ρ ad : List Nat} (hS : St ρ σ) {a b : AV} {A B : Value} (ha : Rp sp ρ ad a A) (hb : Rp sp ρ ad b B) {β : Type} {k : AS → AV → Option β} {r : β} (h : ax_mn σ a b k = some r) :
    ∃ (x y : Int32) (σ' : AS) (v : AV) (ρ' : List Nat), A = .int x ∧ B = .int y ∧ k σ' v = some r ∧ Sb ρ ρ' ∧ St ρ' σ' ∧ Rp sp ρ' ad v (.int (if y < x then y else x)) := by
  unfold ax_mn at h
  obtain ⟨ra, ea, h1⟩ := ob_s h
  obtain ⟨rb, eb, h2⟩ := ob_s h1
  obtain ⟨x, hx, x1, x2, x3⟩ := ax_rI_ok hS ha ea
  obtain ⟨y, hy, y1, y2, y3⟩ := ax_rI_ok hS hb eb
  subst hx
  subst hy
  cases hc : (Nat.beq ra.1 ra.2 && Nat.beq rb.1 rb.2) with
  | true =>
    rw [hc] at h2
    have w := bb_and hc
    have w1 := bb_eq w.1
    have w2 := bb_eq w.2
    cases hd : Nat.blt rb.1 ra.1 with
    | true =>
      have h2 : (bif Nat.blt rb.1 ra.1 then k σ b else k σ a) = some r := h2
      rw [hd] at h2
      have := bb_lt hd
      exact ⟨x, y, σ, b, ρ, rfl, rfl, h2, Sb.rf ρ, hS, by rw [if_pos (by rw [lt_zI]; omega)]; exact hb⟩
    | false =>
      have h2 : (bif Nat.blt rb.1 ra.1 then k σ b else k σ a) = some r := h2
      rw [hd] at h2
      have := bb_nlt hd
      exact ⟨x, y, σ, a, ρ, rfl, rfl, h2, Sb.rf ρ, hS, by rw [if_neg (by rw [lt_zI]; omega)]; exact ha⟩
  | false =>
    rw [hc] at h2
    have hm : (min ra.1 rb.1 : Nat) ≤ zI (if y < x then y else x) ∧ zI (if y < x then y else x) ≤ min ra.2 rb.2 := by
      by_cases c1 : y < x
      · rw [if_pos c1]; rw [lt_zI] at c1; omega
      · rw [if_neg c1]; rw [lt_zI] at c1; omega
    have hn := nwI (sp := sp) (ad := ad) hS (if y < x then y else x) (q := (min ra.1 rb.1, min ra.2 rb.2)) hm.1 hm.2
    exact ⟨x, y, _, _, _, rfl, rfl, h2, hn.1, hn.2.1, hn.2.2⟩

end OPS
