/-! THE MACHINE BY FORMS is sound, 4: all steps -/
section SO
variable {tb : TB} {sb : Nat → List Nat} {mq : Nat → Nat → Option MR} {dC : Nat → ClassId} {dI : Nat → Nat → Nat} {dA : Nat → ClassId} {sp : Nat → Nat} {H0 : Heap} {l : Launch} {ρ0 : List Nat} {ad : Nat → Nat} {rf : Nat → Nat → Option Nat} {L : LSc}
theorem v_rok_ok {N : NS} {ρ : List Int} (hN : Nk ρ N) {M : MR} {pc : Nat} {ins : Instr} {st : List V2} {SV : List Value} (hS : Sk sp ad ρ st SV) (hdg : decode M.2.1 pc = .ok (ins, 1)) (hv : v_rok N M.2.2.2.1 (ax_op ins) st = true) : rte M pc SV := by
  refine ⟨ins, hdg, ?_⟩
  have RG : ∀ (v : V2) (x n : Int), Lv ρ v.2 x → (pv1 N v.2 && lf_sc (-1) v.2 n (pv1 N)) = true → 0 ≤ x ∧ x ≤ n := fun v x n hx hb => by
    have w := bb_and hb
    obtain ⟨d, d1, d2⟩ := lf_sc_ok (-1) v.2 n (pv1 N)
    have w2 := w.2
    rw [d1] at w2
    have a := pv1_ok hN w.1 hx
    have b := pv1_ok hN w2 (d2 ρ _ hx)
    omega
  cases ins <;> first | (cases hv; done) | skip
  case ireturn =>
    match st, hS, hv with
    | [v], hS, hv =>
      obtain ⟨V, R, rfl, hV, hR⟩ := hS.cons
      obtain rfl := hR.nil
      have hv : (Nat.beq v.1 0 && (match M.2.2.2.1 with | some .int => true | some .boolean => pv1 N v.2 && lf_sc (-1) v.2 1 (pv1 N) | some .byte => pv1 N v.2 && lf_sc (-1) v.2 1 (pv1 N) | some .char => pv1 N v.2 && lf_sc (-1) v.2 65535 (pv1 N) | _ => false)) = true := hv
      have w := bb_and hv
      obtain ⟨x, rfl, hx⟩ := hV.i w.1
      have w2 := w.2
      refine ⟨x, rfl, ?_⟩
      cases hty : M.2.2.2.1 with
      | none => rw [hty] at w2; cases w2
      | some ty =>
        rw [hty] at w2
        cases ty <;> first | (cases w2; done) | skip
        case int => exact Or.inl rfl
        case boolean => have b := RG v _ 1 hx w2; exact Or.inr (Or.inl ⟨rfl, by omega⟩)
        case byte => have b := RG v _ 1 hx w2; exact Or.inr (Or.inr (Or.inl ⟨rfl, by omega⟩))
        case char => have b := RG v _ 65535 hx w2; exact Or.inr (Or.inr (Or.inr ⟨rfl, b.1, b.2⟩))
  case lreturn =>
    match st, hS, hv with
    | [v], hS, hv =>
      obtain ⟨V, R, rfl, hV, hR⟩ := hS.cons
      obtain rfl := hR.nil
      have hv : (Nat.beq v.1 1 && (match M.2.2.2.1 with | some .long => true | _ => false)) = true := hv
      have w := bb_and hv
      obtain ⟨x, rfl, hx⟩ := hV.l w.1
      have w2 := w.2
      refine ⟨x, rfl, ?_⟩
      cases hty : M.2.2.2.1 with
      | none => rw [hty] at w2; cases w2
      | some ty =>
        rw [hty] at w2
        cases ty <;> first | (cases w2; done) | rfl
  case areturn =>
    match st, hS, hv with
    | [v], hS, hv =>
      obtain ⟨V, R, rfl, hV, hR⟩ := hS.cons
      obtain rfl := hR.nil
      have hv : (Nat.beq v.1 2 && (match M.2.2.2.1 with | some (.object _) => true | _ => false)) = true := hv
      have w := bb_and hv
      have hV2 := hV.r w.1
      subst hV2
      have w2 := w.2
      refine ⟨_, rfl, ?_⟩
      cases hty : M.2.2.2.1 with
      | none => rw [hty] at w2; cases w2
      | some ty =>
        rw [hty] at w2
        cases ty <;> first | (cases w2; done) | skip
        case object n => exact ⟨n, rfl⟩
  case return_ =>
    match st, hS, hv with
    | [], hS, hv =>
      obtain rfl := hS.nil
      have hv : (match M.2.2.2.1 with | none => true | _ => false) = true := hv
      refine ⟨rfl, ?_⟩
      cases hty : M.2.2.2.1 with
      | none => rfl
      | some ty => rw [hty] at hv; cases hv
set_option maxHeartbeats 2000000 in
theorem so_st {ul : UL} {tu : TU} {ih : GO2} (hL6 : LOK sb mq dC dI dA sp H0 l ρ0 ad rf tb.1 L) (hL31 : L.1 < 2147483648) (hrf : ∀ c q, tb.1[c]? = some q → 103 ≤ q.1 → ∀ j f, j < q.2.1 → q.2.2[j]? = some f → rf c j = some (ad f.2)) (hUL : ULOK tb sb mq dC dI dA sp H0 l ρ0 ad rf L ul) (hMT : ∀ a b C, mth a b = some C → (Mok mth C ∧ Mcw C) ∧ mq a b = some C) (hI : Snd2 tb sb mq dC dI dA sp H0 l ρ0 ad rf L ih) : Snd2 tb sb mq dC dI dA sp H0 l ρ0 ad rf L (x_st tb tu ul sb mth ih) := by
  intro M ct pc cd N m lv st outs hM hMt hni hcd hr ρ h0 h LV SV hG
  unfold x_st at hr
  obtain ⟨⟨pc0, op, len, lk, ins⟩, tl, hcd1, hr1⟩ := lc_s (l := cd) hr
  obtain ⟨g1, hr2⟩ := gd_s hr1
  have hpc : pc0 = pc := bb_eq g1
  subst hpc
  have hmem : ((pc0, op, len, lk, ins) : ME) ∈ cd := by rw [hcd1]; exact List.mem_cons_self
  have htl : ∀ x ∈ tl, x ∈ M.2.2.2.2.2.2 := fun x hx => hcd x (by rw [hcd1]; exact List.mem_cons_of_mem _ hx)
  have hok := hM _ (hcd _ hmem)
  unfold eok at hok
  have k1 := bb_and hok
  have k2 := bb_and k1.2
  have k3 := bb_and k2.2
  have hop : op = ax_op ins := bb_eq k2.1
  have hdg : Dg M pc0 ins len lk := ⟨of_decide_eq_true k1.1, by rw [← hop]; exact hcd _ hmem⟩
  have hlk : lok mth M pc0 ins lk = true := k3.2
  have hle : op < 57 → len = ax_len ins := fun q => by
    rcases (Bool.or_eq_true _ _).mp k3.1 with z | z
    · have := bb_le z; dsimp only at this; omega
    · exact bb_eq z
  dsimp only at hr2
  obtain ⟨hN, hm, hT, hL, hS⟩ := id hG
  -- the next place
  have NX : ∀ N' m' lv' st' o, ih M ct (pc0 + len) tl N' m' lv' st' = some o → (∀ z ∈ o, z ∈ outs) → ∀ ρ' h' LV' SV', Sb ρ ρ' → Ga tb L sp ad ρ' h0 h' (N', m', lv', st') LV' SV' → Wp sb dC dI dA sp H0 l ρ0 ad rf tb.1 M (pc0 + len) h' LV' SV' (Pq tb sp ad L outs ρ h0 M) := fun N' m' lv' st' o a1 a2 ρ' h' LV' SV' a3 a4 =>
    Pq_in a3 a2 (hI M ct _ tl N' m' lv' st' o hM hMt hni htl a1 ρ' h0 h' LV' SV' a4)
  have JP : ∀ t N' m' lv' st' o, ih M ct t (ax_jmp M.2.2.2.2.2.2 t) N' m' lv' st' = some o → (∀ z ∈ o, z ∈ outs) → ∀ ρ' h' LV' SV', Sb ρ ρ' → Ga tb L sp ad ρ' h0 h' (N', m', lv', st') LV' SV' → Wp sb dC dI dA sp H0 l ρ0 ad rf tb.1 M t h' LV' SV' (Pq tb sp ad L outs ρ h0 M) := fun t N' m' lv' st' o a1 a2 ρ' h' LV' SV' a3 a4 =>
    Pq_in a3 a2 (hI M ct _ _ N' m' lv' st' o hM hMt hni (ax_jmp_in _ _) a1 ρ' h0 h' LV' SV' a4)
  cases b1 : Nat.ble op 7 with
  | true =>
    rw [b1] at hr2
    have b1' := bb_le b1
    simp only [cond_true] at hr2
    exact so_b0 hdg (hle (by omega)) hlk hop.symm b1' hG hr2 (fun N' lv' st' z ρ' LV' SV' z1 z2 => NX _ _ _ _ _ z (fun _ q => q) ρ' h LV' SV' z1 z2)
  | false =>
    rw [b1] at hr2
    simp only [cond_false] at hr2
    have b1' := bb_nle b1
    cases b2 : Nat.ble op 17 with
    | true =>
      rw [b2] at hr2
      simp only [cond_true] at hr2
      have b2' := bb_le b2
      have hlen := hle (by omega)
      cases b3 : Nat.beq op 8 with
      | true =>
        rw [b3] at hr2
        have e8 := bb_eq b3
        exact so_getf hdg hlen hlk (by omega) hG hr2 (fun N' m' st' z ρ' SV' z1 z2 => NX _ _ _ _ _ z (fun _ q => q) ρ' h LV SV' z1 z2)
      | false =>
        rw [b3] at hr2
        simp only [cond_false] at hr2
        cases b4 : Nat.beq op 9 with
        | true =>
          rw [b4] at hr2
          have e9 := bb_eq b4
          exact so_putf hni hdg hlen hlk (by omega) hG hr2 (fun m' st' z h' SV' z1 => NX _ _ _ _ _ z (fun _ q => q) ρ h' LV SV' (Sb.rf ρ) z1)
        | false =>
          rw [b4] at hr2
          simp only [cond_false] at hr2
          have n8 := bb_ne b3
          have n9 := bb_ne b4
          cases b5 : Nat.ble op 13 with
          | true =>
            rw [b5] at hr2
            have b5' := bb_le b5
            simp only [cond_true] at hr2
            exact so_ald (kd := op + 90) hL6.1 hL31 hrf hdg hlen (by omega) (by omega) (by omega) hG hr2 (fun N' m' st' z ρ' SV' z1 z2 => NX _ _ _ _ _ z (fun _ q => q) ρ' h LV SV' z1 z2) (fun N' o z z1 z2 => Pq_in (Sb.rf ρ) z1 (hI M ct _ cd N' m lv st o hM hMt hni hcd z ρ h0 h LV SV z2))
          | false =>
            rw [b5] at hr2
            simp only [cond_false] at hr2
            obtain ⟨g2, hr3⟩ := gd_s hr2
            have b6 := bb_le g2
            have b5' := bb_nle b5
            exact so_ast (kd := op + 86) hdg hlen (by omega) (by omega) (by omega) hG hr3 (fun m' st' z h' SV' z1 => NX _ _ _ _ _ z (fun _ q => q) ρ h' LV SV' (Sb.rf ρ) z1)
    | false =>
      rw [b2] at hr2
      simp only [cond_false] at hr2
      have b2' := bb_nle b2
      cases b3 : Nat.ble op 25 with
      | true =>
        rw [b3] at hr2
        simp only [cond_true] at hr2
        have b3' := bb_le b3
        have hlen := hle (by omega)
        cases b4 : Nat.ble op 19 with
        | true =>
          rw [b4] at hr2
          simp only [cond_true] at hr2
          have b4' := bb_le b4
          obtain ⟨t, lk1, e1, hr4⟩ := lc_s hr2
          obtain ⟨c, lk2', e2, hr5⟩ := lc_s hr4
          obtain ⟨g2, hr6⟩ := gd_s hr5
          rw [e1, e2] at hlk hdg
          cases b5 : Nat.beq op 18 with
          | true =>
            rw [b5] at hr6
            simp only [cond_true] at hr6
            have e18 := bb_eq b5
            obtain ⟨b, st1, rfl, hr7⟩ := lc_s hr6
            obtain ⟨a, r, rfl, hr8⟩ := lc_s hr7
            obtain ⟨g3, hr9⟩ := gd_s hr8
            have w := bb_and g3
            obtain ⟨B, R1, rfl, hB, hS1⟩ := hS.cons
            obtain ⟨A, R, rfl, hA, hS2⟩ := hS1.cons
            obtain ⟨x, rfl, hx⟩ := hA.i w.1
            obtain ⟨y, rfl, hy⟩ := hB.i w.2
            have q := bc_c_ok hN (bb_lt g2) hx hy hr9
            refine wp_icmp hdg hlen hlk (by omega) (fun z => ?_) (fun z => ?_)
            · obtain ⟨N', o, p1, p2, p3⟩ := q.1 z
              exact JP _ _ _ _ _ _ p1 p3 ρ h LV R (Sb.rf ρ) ⟨p2, hm, hT, hL, hS2⟩
            · obtain ⟨N', o, p1, p2, p3⟩ := q.2 z
              exact NX _ _ _ _ _ p1 p3 ρ h LV R (Sb.rf ρ) ⟨p2, hm, hT, hL, hS2⟩
          | false =>
            rw [b5] at hr6
            simp only [cond_false] at hr6
            have n18 := bb_ne b5
            obtain ⟨a, r, rfl, hr10⟩ := lc_s hr6
            obtain ⟨g3, hr11⟩ := gd_s hr10
            obtain ⟨A, R, rfl, hA, hS2⟩ := hS.cons
            obtain ⟨x, rfl, hx⟩ := hA.i g3
            have q := bc_c_ok hN (bb_lt g2) hx (b := (0, [])) (y := 0) (Lv.c ρ 0) hr11
            refine wp_ifc hdg hlen hlk (by omega) (fun z => ?_) (fun z => ?_)
            · obtain ⟨N', o, p1, p2, p3⟩ := q.1 z
              exact JP _ _ _ _ _ _ p1 p3 ρ h LV R (Sb.rf ρ) ⟨p2, hm, hT, hL, hS2⟩
            · obtain ⟨N', o, p1, p2, p3⟩ := q.2 z
              exact NX _ _ _ _ _ p1 p3 ρ h LV R (Sb.rf ρ) ⟨p2, hm, hT, hL, hS2⟩
        | false =>
          rw [b4] at hr2
          simp only [cond_false] at hr2
          have b4' := bb_nle b4
          cases b5 : Nat.beq op 20 with
          | true =>
            rw [b5] at hr2
            simp only [cond_true] at hr2
            have e20 := bb_eq b5
            obtain ⟨t, lk1, e1, hr12⟩ := lc_s hr2
            rw [e1] at hlk hdg
            exact wp_goto hdg hlen hlk (by omega) (JP _ _ _ _ _ _ hr12 (fun _ q => q) ρ h LV SV (Sb.rf ρ) hG)
          | false =>
            rw [b5] at hr2
            simp only [cond_false] at hr2
            have n20 := bb_ne b5
            cases b6 : Nat.beq op 21 with
            | true =>
              rw [b6] at hr2
              simp only [cond_true] at hr2
              have e21 := bb_eq b6
              exact so_inv hL6.2 hUL hMT hI hdg hlen hlk (by omega) hG hr2 (fun N' m' st' o z z0 ρ' h' SV' z1 z2 => NX _ _ _ _ _ z z0 ρ' h' LV SV' z1 z2)
            | false =>
              rw [b6] at hr2
              simp only [cond_false] at hr2
              obtain ⟨g2, hr13⟩ := gd_s hr2
              have w := bb_and g2
              have hr14' := Option.some.inj hr13
              have e1 := bb_eq w.2
              subst e1
              refine wp_rf ⟨_, by rw [← hr14']; exact List.mem_cons_self, Or.inl ⟨rfl, v_rok_ok hN hS hdg.1 (by rw [← hop]; exact w.1)⟩, ρ, Sb.rf ρ, hG⟩
      | false =>
        rw [b3] at hr2
        simp only [cond_false] at hr2
        have b3' := bb_nle b3
        cases b4 : Nat.ble op 52 with
        | true =>
          rw [b4] at hr2
          have b4' := bb_le b4
          exact so_b3 hdg (fun _ => hle (by omega)) (fun q => by omega) hop.symm (by omega) (Or.inl b4') hG hr2 (fun N' st' o z z0 ρ' SV' z1 z2 => NX _ _ _ _ _ z z0 ρ' h LV SV' z1 z2)
        | false =>
          rw [b4] at hr2
          simp only [cond_false] at hr2
          have b4' := bb_nle b4
          cases b5 : Nat.beq op 53 with
          | true =>
            rw [b5] at hr2
            simp only [cond_true] at hr2
            have e53 := bb_eq b5
            obtain ⟨a, r, rfl, hr15⟩ := lc_s hr2
            obtain ⟨A, R, rfl, hA, hS2⟩ := hS.cons
            have hlen := hle (by omega)
            have hins : ins = .arraylength := by
              cases ins <;> first | (exfalso; simp only [ax_op] at hop; omega) | rfl
            subst hins
            have hlen : len = 1 := hlen
            subst hlen
            exact so_alen hL6.1 hL31 hdg hN hm hT hA hr15 (fun N' m' v z ρ' V z1 z2 z3 z4 => NX _ _ _ _ _ z (fun _ q => q) ρ' h LV (V :: R) z1 ⟨z2, z3, hT, hL.mono z1, z4, hS2.mono z1⟩)
          | false =>
            rw [b5] at hr2
            simp only [cond_false] at hr2
            cases b6 : Nat.beq op 56 with
            | true =>
              rw [b6] at hr2
              simp only [cond_true] at hr2
              have e56 := bb_eq b6
              obtain ⟨x, lk1, e1, hr16⟩ := lc_s hr2
              rw [e1] at hlk hdg
              refine wp_gets hdg (hle (by omega)) hlk (by omega) (fun z => ?_) (fun z => ?_)
              · rw [show Nat.beq x 0 = true from by rw [z]; rfl] at hr16
                exact NX _ _ _ _ _ hr16 (fun _ q => q) ρ h LV _ (Sb.rf ρ) ⟨hN, hm, hT, hL, ⟨1, rfl, Lv.c ρ 1⟩, hS⟩
              · rw [show Nat.beq x 0 = false from bb_nb z] at hr16
                exact NX _ _ _ _ _ hr16 (fun _ q => q) ρ h LV _ (Sb.rf ρ) ⟨hN, hm, hT, hL, rfl, hS⟩
            | false =>
              rw [b6] at hr2
              simp only [cond_false] at hr2
              cases b7 : Nat.beq op 57 with
              | true =>
                rw [b7] at hr2
                simp only [cond_true] at hr2
                have e57 := bb_eq b7
                obtain ⟨v, r, rfl, hr17⟩ := lc_s hr2
                obtain ⟨g2, hr18⟩ := gd_s hr17
                obtain ⟨d, lk1, e1, hr19⟩ := lc_s hr18
                obtain ⟨lo, lk2', e2, hr20⟩ := lc_s hr19
                obtain ⟨hi, ks, e3, hr21⟩ := lc_s hr20
                obtain ⟨g3, hr22⟩ := gd_s hr21
                have w := bb_and g3
                rw [e1, e2, e3] at hlk hdg
                obtain ⟨A, R, rfl, hA, hS2⟩ := hS.cons
                obtain ⟨x, rfl, hx⟩ := hA.i g2
                have elo := i32_ok (bb_lt w.1)
                have ehi := i32_ok (bb_lt w.2)
                have q := br_lt_ok hN hx (b := (i32 lo, [])) (y := i32 lo) (Lv.c ρ _) hr22
                by_cases c1 : x.toInt < i32 lo
                · obtain ⟨N', o, p1, p2, p3⟩ := q.1 c1
                  have K := JP _ _ _ _ _ _ p1 p3 ρ h LV R (Sb.rf ρ) ⟨p2, hm, hT, hL, hS2⟩
                  refine wp_table hdg hlk (by omega) K (fun _ => rfl) (fun _ => rfl) (fun k t z1 z2 => ?_)
                  exfalso
                  have hpair := hlk
                  cases ins <;> first | (exfalso; simp only [ax_op] at hop; omega) | skip
                  case tableswitch d0 lo0 hi0 offs =>
                    have u1 := bb_and (a := decide ((pc0 : Int) + d0 = (d : Int))) hpair
                    have u2 := bb_and u1.2
                    have u3 := bb_and u2.2
                    have u4 := bb_and u3.2
                    have u5 := bb_and u4.2
                    have u6 := bb_and u5.2
                    have hlo : (nI lo).toInt = lo0 := of_decide_eq_true u2.1
                    have y := ax_sk_pr ks u6.1 z1
                    have y2 := (bb_and (a := Nat.blt k 4294967296) y).2
                    cases ho2 : offs[((nI k).toInt - lo0).toNat]? with
                    | none => rw [ho2] at y2; cases y2
                    | some off =>
                      rw [ho2] at y2
                      have y3 := bb_and (a := decide ((pc0 : Int) + off = (t : Int))) y2
                      have y4 := bb_and y3.2
                      have y5 : lo0 ≤ (nI k).toInt := of_decide_eq_true y4.1
                      rw [← z2] at y5
                      omega
                · obtain ⟨N1, o, p1, p2, p3⟩ := q.2 c1
                  have q2 := br_lt_ok p2 (a := (i32 hi, [])) (x := i32 hi) (Lv.c ρ _) hx p1
                  by_cases c2 : i32 hi < x.toInt
                  · obtain ⟨N', o', r1, r2, r3⟩ := q2.1 c2
                    have K := JP _ _ _ _ _ _ r1 (fun z hz => p3 z (r3 z hz)) ρ h LV R (Sb.rf ρ) ⟨r2, hm, hT, hL, hS2⟩
                    refine wp_table hdg hlk (by omega) K (fun _ => rfl) (fun _ => rfl) (fun k t z1 z2 => ?_)
                    exfalso
                    have hpair := hlk
                    cases ins <;> first | (exfalso; simp only [ax_op] at hop; omega) | skip
                    case tableswitch d0 lo0 hi0 offs =>
                      have u1 := bb_and (a := decide ((pc0 : Int) + d0 = (d : Int))) hpair
                      have u2 := bb_and u1.2
                      have u3 := bb_and u2.2
                      have u4 := bb_and u3.2
                      have u5 := bb_and u4.2
                      have u6 := bb_and u5.2
                      have hlo : (nI lo).toInt = lo0 := of_decide_eq_true u2.1
                      have hhi : (nI hi).toInt = hi0 := of_decide_eq_true u3.1
                      have y := ax_sk_pr ks u6.1 z1
                      have y2 := (bb_and (a := Nat.blt k 4294967296) y).2
                      cases ho2 : offs[((nI k).toInt - lo0).toNat]? with
                      | none => rw [ho2] at y2; cases y2
                      | some off =>
                        rw [ho2] at y2
                        have y3 := bb_and (a := decide ((pc0 : Int) + off = (t : Int))) y2
                        have y4 := bb_and y3.2
                        have y5 : (nI k).toInt ≤ hi0 := of_decide_eq_true y4.2
                        rw [← z2] at y5
                        omega
                  · obtain ⟨N', o', r1, r2, r3⟩ := q2.2 c2
                    rcases x_sw_ok hx ks r2 r1 with ⟨k, t, N2, o2, s1, s2, s3, s4, s5⟩ | ⟨s1, N2, o2, s2, s3, s4⟩
                    · obtain ⟨N3, t1, t2⟩ := rfn_ok s4 hm s3
                      have K := JP _ _ _ _ _ _ t1 (fun z hz => p3 z (r3 z (s5 z hz))) ρ h LV R (Sb.rf ρ) ⟨t2, hm, hT, hL, hS2⟩
                      refine wp_table hdg hlk (by omega) K (fun z => by rw [elo, ehi] at z; omega) (fun z => absurd s2 (z k t s1)) (fun k' t' z1 z2 => ?_)
                      -- the same key has one target
                      have hpair := hlk
                      cases ins <;> first | (exfalso; simp only [ax_op] at hop; omega) | skip
                      case tableswitch d0 lo0 hi0 offs =>
                        have u1 := bb_and (a := decide ((pc0 : Int) + d0 = (d : Int))) hpair
                        have u2 := bb_and u1.2
                        have u3 := bb_and u2.2
                        have u4 := bb_and u3.2
                        have u5 := bb_and u4.2
                        have u6 := bb_and u5.2
                        have ya := (bb_and (a := Nat.blt k 4294967296) (ax_sk_pr ks u6.1 s1)).2
                        have yb := (bb_and (a := Nat.blt k' 4294967296) (ax_sk_pr ks u6.1 z1)).2
                        rw [← s2] at ya
                        rw [← z2] at yb
                        cases ho2 : offs[(x.toInt - lo0).toNat]? with
                        | none => rw [ho2] at ya; cases ya
                        | some off =>
                          rw [ho2] at ya yb
                          have ya1 : (pc0 : Int) + off = (t : Int) := of_decide_eq_true (bb_and (a := decide ((pc0 : Int) + off = (t : Int))) ya).1
                          have yb1 : (pc0 : Int) + off = (t' : Int) := of_decide_eq_true (bb_and (a := decide ((pc0 : Int) + off = (t' : Int))) yb).1
                          have : t = t' := by omega
                          exact this.symm
                    · obtain ⟨N3, t1, t2⟩ := rfn_ok s3 hm s2
                      have K := JP _ _ _ _ _ _ t1 (fun z hz => p3 z (r3 z (s4 z hz))) ρ h LV R (Sb.rf ρ) ⟨t2, hm, hT, hL, hS2⟩
                      exact wp_table hdg hlk (by omega) K (fun _ => rfl) (fun _ => rfl) (fun k' t' z1 z2 => absurd z2 (s1 k' t' z1))
              | false =>
                rw [b7] at hr2
                simp only [cond_false] at hr2
                cases b8 : Nat.beq op 58 with
                | true =>
                  rw [b8] at hr2
                  simp only [cond_true] at hr2
                  have e58 := bb_eq b8
                  obtain ⟨v, r, rfl, hr23⟩ := lc_s hr2
                  obtain ⟨g2, hr24⟩ := gd_s hr23
                  obtain ⟨d, ks, e1, hr25⟩ := lc_s hr24
                  rw [e1] at hlk hdg
                  obtain ⟨A, R, rfl, hA, hS2⟩ := hS.cons
                  obtain ⟨x, rfl, hx⟩ := hA.i g2
                  rcases x_sw_ok hx ks hN hr25 with ⟨k, t, N2, o2, s1, s2, s3, s4, s5⟩ | ⟨s1, N2, o2, s2, s3, s4⟩
                  · obtain ⟨N3, t1, t2⟩ := rfn_ok s4 hm s3
                    have K := JP _ _ _ _ _ _ t1 s5 ρ h LV R (Sb.rf ρ) ⟨t2, hm, hT, hL, hS2⟩
                    refine wp_look hdg hlk (by omega) K (fun z => absurd s2 (z k t s1)) (fun k' t' z1 z2 => ?_)
                    have hpair := hlk
                    cases ins <;> first | (exfalso; simp only [ax_op] at hop; omega) | skip
                    case lookupswitch d0 ps =>
                      have u1 := bb_and (a := decide ((pc0 : Int) + d0 = (d : Int))) hpair
                      have u2 := bb_and u1.2
                      have u3 := bb_and u2.2
                      have ya := of_decide_eq_true (bb_and (a := Nat.blt k 4294967296) (ax_sk_pr ks u3.1 s1)).2
                      have yb := of_decide_eq_true (bb_and (a := Nat.blt k' 4294967296) (ax_sk_pr ks u3.1 z1)).2
                      rw [← s2] at ya
                      rw [← z2] at yb
                      have : t = t' := by omega
                      exact this.symm
                  · obtain ⟨N3, t1, t2⟩ := rfn_ok s3 hm s2
                    have K := JP _ _ _ _ _ _ t1 s4 ρ h LV R (Sb.rf ρ) ⟨t2, hm, hT, hL, hS2⟩
                    exact wp_look hdg hlk (by omega) K (fun _ => rfl) (fun k' t' z1 z2 => absurd z2 (s1 k' t' z1))
                | false =>
                  rw [b8] at hr2
                  simp only [cond_false] at hr2
                  obtain ⟨g2, hr26⟩ := gd_s hr2
                  have w := bb_and g2
                  have w2 := bb_and w.2
                  have a1 := bb_le w.1
                  have a2 := bb_le w2.1
                  exact so_b3 hdg (fun q => by omega) (fun _ => bb_eq w2.2) hop.symm (by omega) (Or.inr ⟨a1, a2⟩) hG hr26 (fun N' st' o z z0 ρ' SV' z1 z2 => NX _ _ _ _ _ z z0 ρ' h LV SV' z1 z2)
theorem so_sp {ul : UL} {tu : TU} {ih : GO2} (hL6 : LOK sb mq dC dI dA sp H0 l ρ0 ad rf tb.1 L) (hL31 : L.1 < 2147483648) (hrf : ∀ c q, tb.1[c]? = some q → 103 ≤ q.1 → ∀ j f, j < q.2.1 → q.2.2[j]? = some f → rf c j = some (ad f.2)) (hUL : ULOK tb sb mq dC dI dA sp H0 l ρ0 ad rf L ul) (hMT : ∀ a b C, mth a b = some C → (Mok mth C ∧ Mcw C) ∧ mq a b = some C) (hI : Snd2 tb sb mq dC dI dA sp H0 l ρ0 ad rf L ih) : Snd2 tb sb mq dC dI dA sp H0 l ρ0 ad rf L (x_sp tb tu ul sb mth ih) := by
  have hST := so_st (tu := tu) hL6 hL31 hrf hUL hMT hI
  intro M ct pc cd N m lv st outs hM hMt hni hcd hr ρ h0 h LV SV hG
  unfold x_sp at hr
  cases h1 : at2 ct.2.2.2 pc with
  | none => rw [h1] at hr; exact hST M ct pc cd N m lv st outs hM hMt hni hcd hr ρ h0 h LV SV hG
  | some i =>
    rw [h1] at hr
    dsimp only at hr
    cases h2 : lk2 lv i with
    | none => rw [h2] at hr; cases hr
    | some v =>
      rw [h2] at hr
      dsimp only at hr
      obtain ⟨hN, hm, hT, hL, hS⟩ := id hG
      obtain ⟨V, V1, V2⟩ := lk2_ok hL h2
      obtain ⟨hn, hrx⟩ := gd_s hr
      obtain ⟨f, f1, f2⟩ := lf_nv_ok hN.1 v.2 (fun f => bif cst f then x_st tb tu ul sb mth ih M ct pc cd N m lv st else lc f.2 (fun t _ => spl N t.1 (fun N' => x_st tb tu ul sb mth ih M ct pc cd N' m lv st)))
      rw [f1] at hrx
      cases hc : cst f with
      | true => rw [hc] at hrx; exact hST M ct pc cd N m lv st outs hM hMt hni hcd hrx ρ h0 h LV SV hG
      | false =>
        rw [hc] at hrx
        simp only [cond_false] at hrx
        obtain ⟨t, tt, et, hry⟩ := lc_s hrx
        obtain ⟨x, hx2⟩ := V2.n hn
        obtain ⟨y, y1, -⟩ := f2 x hx2
        rw [et] at y1
        obtain ⟨z, u, z1, -⟩ := y1
        obtain ⟨N', o, k1, k2, k3⟩ := spl_ok hN z1 hry
        exact Pq_in (Sb.rf ρ) k3 (hST M ct pc cd N' m lv st o hM hMt hni hcd k1 ρ h0 h LV SV ⟨k2, hm, hT, hL, hS⟩)
end SO
