/-! THE ABSTRACT MACHINE, 14: switches -/

def ax_pr (k t : Nat) : List Nat → Prop
  | a :: b :: r => (a = k ∧ b = t) ∨ ax_pr k t r
  | _ => False
theorem ax_sk_pr {f : Nat → Nat → Bool} {k t : Nat} : ∀ (ks : List Nat), ax_sk f ks = true → ax_pr k t ks → f k t = true
  | [], _, h => h.elim
  | [_], _, h => h.elim
  | a :: b :: r, hs, h => by
    have w := bb_and (a := f a b) hs
    rcases h with ⟨rfl, rfl⟩ | h
    · exact w.1
    · exact ax_sk_pr r w.2 h
theorem ax_key_pr {k : Nat} : ∀ (ks : List Nat), ax_key k ks = true → ∃ t, ax_pr k t ks
  | [], h => by cases h
  | [_], h => by cases h
  | a :: b :: r, h => by
    rcases (Bool.or_eq_true _ _).mp h with z | z
    · exact ⟨b, Or.inl ⟨bb_eq z, rfl⟩⟩
    · obtain ⟨t, ht⟩ := ax_key_pr r z
      exact ⟨t, Or.inr ht⟩
theorem ax_sw_ok {sp : Nat → Nat} {ρ ad : List Nat} {v : AV} {x : Int32} (hv : Rp sp ρ ad v (.int x)) {go : Nat → AS → RS} {d : Nat} : ∀ (ks : List Nat) {σ : AS} {outs : List AO}, St ρ σ → ax_sw go v d ks σ = some outs →
    (∃ k t σ' o, ax_pr k t ks ∧ x = nI k ∧ go t σ' = some o ∧ St ρ σ' ∧ ∀ z ∈ o, z ∈ outs) ∨ ((∀ k t, ax_pr k t ks → ¬ x = nI k) ∧ ∃ σ' o, go d σ' = some o ∧ St ρ σ' ∧ ∀ z ∈ o, z ∈ outs)
  | [], σ, outs, hS, h => Or.inr ⟨fun _ _ h => h.elim, σ, outs, h, hS, fun _ h => h⟩
  | [_], σ, outs, hS, h => Or.inr ⟨fun _ _ h => h.elim, σ, outs, h, hS, fun _ h => h⟩
  | k :: t :: r, σ, outs, hS, h => by
    have h1 : ax_br (ax_eq σ v (0, k)) (go t) (ax_sw go v d r) = some outs := h
    obtain ⟨x', y, hx, hy, ht, hf⟩ := ax_br_eq hS hv (B := .int (nI k)) (b := (0, k)) (sp := sp) (ad := ad) rfl h1
    cases hx
    cases hy
    by_cases c1 : x = nI k
    · obtain ⟨σ', o, e1, e2, e3⟩ := ht c1
      exact Or.inl ⟨k, t, σ', o, Or.inl ⟨rfl, rfl⟩, c1, e1, e2, e3⟩
    · obtain ⟨σ', o, e1, e2, e3⟩ := hf c1
      rcases ax_sw_ok hv r e2 e1 with ⟨k', t', σ'', o', a1, a2, a3, a4, a5⟩ | ⟨a1, σ'', o', a3, a4, a5⟩
      · exact Or.inl ⟨k', t', σ'', o', Or.inr a1, a2, a3, a4, fun z hz => e3 z (a5 z hz)⟩
      · refine Or.inr ⟨fun k' t' hp => ?_, σ'', o', a3, a4, fun z hz => e3 z (a5 z hz)⟩
        rcases hp with ⟨rfl, rfl⟩ | hp
        · exact c1
        · exact a1 k' t' hp
theorem off_none {x : Int} {d : Int} : ∀ (l : List (Int × Int)), (∀ p ∈ l, ¬ p.1 = x) → Op.lookupswitch.offset l d x = d
  | [], _ => rfl
  | (a, o) :: r, h => by
    rw [Op.lookupswitch.offset_cons, if_neg (h (a, o) List.mem_cons_self)]
    exact off_none r (fun p hp => h p (List.mem_cons_of_mem _ hp))

section OPS
variable {sb : Nat → List Nat} {mt : Nat → Nat → Option MR} {dC : Nat → ClassId} {dI : Nat → Nat → Nat} {dA : Nat → ClassId} {sp : Nat → Nat} {H0 : Heap} {l : Launch}
variable {ih : GO} {p : Program} {e : Env} {R : Room} {s : State} {m : MethodId} {args : Array Value} {below : List Frame} {meth : Method} {c : Code} {Q : State → Prop} {ρ0 ad0 : List Nat} {M : MR} {cut pc len : Nat} {ins : Instr} {lk : List Nat} {cd tl : List ME} {σ : AS} {h : AH} {nc ns : Nat} {lv : AL} {st : List AV} {outs : List AO}

theorem sn_table (hI : Snd sb mt dC dI dA sp H0 l ih) (hM : Mok mt M) (htl : ∀ x ∈ tl, x ∈ M.2.2.2.2.2.2) (hX : CX sb dC dI dA sp H0 ρ0 M p R s m args meth c) (hR : ∀ o ∈ outs, RO dC dI dA sp H0 l p e R s m args below meth c Q ρ0 ad0 M o) (hdg : decode M.2.1 pc = .ok (ins, len)) (hlk : lok mt M pc ins lk = true) (ho : ax_op ins = 57)
    (hr : lc st (fun v r => lc lk (fun d lk => lc lk (fun lo lk => lc lk (fun hi ks =>
      ax_br (ax_lt σ v (0, lo)) (fun σ' => ih M cut d (ax_jmp M.2.2.2.2.2.2 d) σ' h nc ns lv r) (fun σ1 => ax_br (ax_lt σ1 (0, hi) v) (fun σ' => ih M cut d (ax_jmp M.2.2.2.2.2.2 d) σ' h nc ns lv r) (ax_sw (fun t σ' => ih M cut t (ax_jmp M.2.2.2.2.2.2 t) σ' h nc ns lv r) v d ks)))))) = some outs) : GG dC dI dA sp H0 l p e R s m args below meth c Q ρ0 ad0 M.2.2.1 pc σ h nc ns lv st := by
  obtain ⟨v, r, rfl, hr1⟩ := lc_s hr
  obtain ⟨d, lk1, rfl, hr2⟩ := lc_s hr1
  obtain ⟨lo, lk2, rfl, hr3⟩ := lc_s hr2
  obtain ⟨hi, ks, rfl, hr4⟩ := lc_s hr3
  obtain ⟨hx, hb, hml, hown, hts, hK, hlocks, hrt, hin, hRoom, hO⟩ := id hX
  intro ρ ad ws H locs ls LV ST q1 q2 q3 q4 q5 q6 q7 q8 q9 q10
  obtain ⟨A, ST2, rfl, hA, q12⟩ := q10.cons
  cases ins <;> first | (exact absurd ho (Nat.ne_of_beq_eq_false rfl)) | skip
  case tableswitch d0 lo0 hi0 offs =>
    have hl : (decide ((pc : Int) + d0 = (d : Int)) && (decide ((nI lo).toInt = lo0) && (decide ((nI hi).toInt = hi0) && (Nat.blt lo 4294967296 && (Nat.blt hi 4294967296 && (ax_sk (fun k t => Nat.blt k 4294967296 && match offs[((nI k).toInt - lo0).toNat]? with
        | some o => decide ((pc : Int) + o = (t : Int)) && (decide (lo0 ≤ (nI k).toInt) && decide ((nI k).toInt ≤ hi0))
        | none => false) ks && (List.range (hi0 - lo0 + 1).toNat).all (fun i => ax_key ((lo0 + i).toNat) ks && decide (0 ≤ lo0)))))))) = true := hlk
    have u1 := bb_and hl
    have u2 := bb_and u1.2
    have u3 := bb_and u2.2
    have u4 := bb_and u3.2
    have u5 := bb_and u4.2
    have u6 := bb_and u5.2
    have hd : (pc : Int) + d0 = (d : Int) := of_decide_eq_true u1.1
    have hlo : (nI lo).toInt = lo0 := of_decide_eq_true u2.1
    have hhi : (nI hi).toInt = hi0 := of_decide_eq_true u3.1
    have GOK : ∀ (t : Nat) (σ' : AS) (o : List AO), ih M cut t (ax_jmp M.2.2.2.2.2.2 t) σ' h nc ns lv r = some o → St ρ σ' → (∀ z ∈ o, z ∈ outs) → W p l e R s m args below meth c H locs nc ns Q (F0 m t ls ST2) := fun t σ' o e1 e2 e3 =>
      (hI p e R s m args below meth c Q ρ0 ad0 M cut _ _ _ _ _ _ _ _ o hM (ax_jmp_in _ _) hX e1 (fun z hz => hR z (e3 z hz))) ρ ad ws H locs ls LV ST2 q1 q2 e2 q4 q5 q6 q7 q8 q9 q12
    obtain ⟨x, y, rfl, hy, ht, hf⟩ := ax_br_lt q3 hA (B := .int (nI lo)) (b := (0, lo)) rfl hr4
    cases hy
    by_cases c1 : x < nI lo
    · obtain ⟨σ', o, e1, e2, e3⟩ := ht c1
      rw [Int32.lt_iff_toInt_lt] at c1
      exact lv_tableOut hx hb hdg (Or.inl (by omega)) hd (GOK _ _ _ e1 e2 e3)
    · obtain ⟨σ1, o1, e1, e2, e3⟩ := hf c1
      obtain ⟨y, x', hy, hx', ht2, hf2⟩ := ax_br_lt e2 (A := .int (nI hi)) (a := (0, hi)) rfl hA e1
      cases hy
      cases hx'
      by_cases c2 : nI hi < x
      · obtain ⟨σ', o, e4, e5, e6⟩ := ht2 c2
        rw [Int32.lt_iff_toInt_lt] at c2
        exact lv_tableOut hx hb hdg (Or.inr (by omega)) hd (GOK _ _ _ e4 e5 (fun z hz => e3 z (e6 z hz)))
      · obtain ⟨σ', o, e4, e5, e6⟩ := hf2 c2
        rw [Int32.lt_iff_toInt_lt] at c1 c2
        rcases ax_sw_ok hA ks e5 e4 with ⟨k, t, σ'', o', a1, a2, a3, a4, a5⟩ | ⟨a1, -⟩
        · have z := ax_sk_pr ks u6.1 a1
          have z2 := (bb_and (a := Nat.blt k 4294967296) z).2
          rw [← a2] at z2
          cases ho2 : offs[(x.toInt - lo0).toNat]? with
          | none => rw [ho2] at z2; cases z2
          | some off =>
            rw [ho2] at z2
            have z3 := bb_and (a := decide ((pc : Int) + off = (t : Int))) z2
            exact lv_tableIn hx hb hdg (by omega) (by omega) ho2 (of_decide_eq_true z3.1) (GOK _ _ _ a3 a4 (fun z hz => e3 z (e6 z (a5 z hz))))
        · exfalso
          have z := List.all_eq_true.mp u6.2 (x.toInt - lo0).toNat (List.mem_range.mpr (by omega))
          have z2 := bb_and (a := ax_key ((lo0 + ((x.toInt - lo0).toNat : Nat)).toNat) ks) z
          have z3 : 0 ≤ lo0 := of_decide_eq_true z2.2
          obtain ⟨t, hp⟩ := ax_key_pr ks z2.1
          refine a1 _ t hp ?_
          apply Int32.toInt_inj.mp
          have hr := i32_rng x
          rw [nI_toInt (by omega)]
          omega

theorem sn_look (hI : Snd sb mt dC dI dA sp H0 l ih) (hM : Mok mt M) (htl : ∀ x ∈ tl, x ∈ M.2.2.2.2.2.2) (hX : CX sb dC dI dA sp H0 ρ0 M p R s m args meth c) (hR : ∀ o ∈ outs, RO dC dI dA sp H0 l p e R s m args below meth c Q ρ0 ad0 M o) (hdg : decode M.2.1 pc = .ok (ins, len)) (hlk : lok mt M pc ins lk = true) (ho : ax_op ins = 58)
    (hkn : ∀ d ks, lk = d :: ks → ks ≠ [])
    (hr : lc st (fun v r => lc lk (fun d lk => ax_sw (fun t σ' => ih M cut t (ax_jmp M.2.2.2.2.2.2 t) σ' h nc ns lv r) v d lk σ)) = some outs) : GG dC dI dA sp H0 l p e R s m args below meth c Q ρ0 ad0 M.2.2.1 pc σ h nc ns lv st := by
  obtain ⟨v, r, rfl, hr1⟩ := lc_s hr
  obtain ⟨d, ks, rfl, hr2⟩ := lc_s hr1
  obtain ⟨hx, hb, hml, hown, hts, hK, hlocks, hrt, hin, hRoom, hO⟩ := id hX
  intro ρ ad ws H locs ls LV ST q1 q2 q3 q4 q5 q6 q7 q8 q9 q10
  obtain ⟨A, ST2, rfl, hA, q12⟩ := q10.cons
  cases ins <;> first | (exact absurd ho (Nat.ne_of_beq_eq_false rfl)) | skip
  case lookupswitch d0 ps =>
    have hl : (decide ((pc : Int) + d0 = (d : Int)) && ((ps.toList.zip (ps.toList.drop 1)).all (fun (a, next) => a.1 < next.1) && (ax_sk (fun k t => Nat.blt k 4294967296 && decide ((pc : Int) + Op.lookupswitch.offset ps.toList d0 (nI k).toInt = (t : Int))) ks && ps.toList.all (fun p => decide (0 ≤ p.1 ∧ p.1 < 2147483648) && ax_key p.1.toNat ks)))) = true := hlk
    have u1 := bb_and hl
    have u2 := bb_and u1.2
    have u3 := bb_and u2.2
    have hd : (pc : Int) + d0 = (d : Int) := of_decide_eq_true u1.1
    have hne : ks = [] → False := hkn d ks rfl
    have GOK : ∀ (t : Nat) (σ' : AS) (o : List AO), ih M cut t (ax_jmp M.2.2.2.2.2.2 t) σ' h nc ns lv r = some o → St ρ σ' → (∀ z ∈ o, z ∈ outs) → W p l e R s m args below meth c H locs nc ns Q (F0 m t ls ST2) := fun t σ' o e1 e2 e3 =>
      (hI p e R s m args below meth c Q ρ0 ad0 M cut _ _ _ _ _ _ _ _ o hM (ax_jmp_in _ _) hX e1 (fun z hz => hR z (e3 z hz))) ρ ad ws H locs ls LV ST2 q1 q2 e2 q4 q5 q6 q7 q8 q9 q12
    have hint : ∃ x : Int32, A = .int x := by
      cases ks with
      | nil => exact (hne rfl).elim
      | cons k ks1 =>
        cases ks1 with
        | nil => cases u3.1
        | cons t ks2 =>
          have h1 : ax_br (ax_eq σ v (0, k)) (fun σ' => ih M cut t (ax_jmp M.2.2.2.2.2.2 t) σ' h nc ns lv r) (ax_sw (fun t σ' => ih M cut t (ax_jmp M.2.2.2.2.2.2 t) σ' h nc ns lv r) v d ks2) = some outs := hr2
          obtain ⟨x, y, hx, -⟩ := ax_br_eq q3 hA (B := .int (nI k)) (b := (0, k)) rfl h1
          exact ⟨x, hx⟩
    obtain ⟨x, rfl⟩ := hint
    rcases ax_sw_ok hA ks q3 hr2 with ⟨k, t, σ'', o', a1, a2, a3, a4, a5⟩ | ⟨a1, σ'', o', a3, a4, a5⟩
    · have z := (bb_and (a := Nat.blt k 4294967296) (ax_sk_pr ks u3.1 a1)).2
      rw [← a2] at z
      exact lv_lookup hx hb hdg u2.1 rfl (of_decide_eq_true z) (GOK _ _ _ a3 a4 a5)
    · refine lv_lookup hx hb hdg u2.1 (off_none _ (fun p hp hpx => ?_)) hd (GOK _ _ _ a3 a4 a5)
      have z := bb_and (a := decide (0 ≤ p.1 ∧ p.1 < 2147483648)) (List.all_eq_true.mp u3.2 p hp)
      have z1 : 0 ≤ p.1 ∧ p.1 < 2147483648 := of_decide_eq_true z.1
      obtain ⟨t, hp2⟩ := ax_key_pr ks z.2
      refine a1 _ t hp2 ?_
      apply Int32.toInt_inj.mp
      rw [nI_toInt (by omega)]
      omega

end OPS
