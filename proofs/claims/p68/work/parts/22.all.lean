/-! THE ABSTRACT MACHINE, 18: it is sound -/
section ALL
variable {sb : Nat → List Nat} {mt : Nat → Nat → Option MR} {dC : Nat → ClassId} {dI : Nat → Nat → Nat} {dA : Nat → ClassId} {sp : Nat → Nat} {H0 : Heap} {l : Launch}
set_option maxHeartbeats 2000000 in
theorem sn_bd (hsb : ∀ x, (sb x).length ≤ 1000) (hMT : ∀ a b C, mt a b = some C → Mok mt C ∧ Mcw C) {ih : GO} (hI : Snd sb mt dC dI dA sp H0 l ih) : Snd sb mt dC dI dA sp H0 l (ax_bd sb mt ih) := by
  intro p e R s m args below meth c Q ρ0 ad0 M cut pc cd σ h nc ns lv st outs hM hcd hX hr hR
  unfold ax_bd at hr
  cases hc : Nat.ble cut pc with
  | true =>
    rw [hc] at hr
    cases hr
    exact hR _ List.mem_cons_self (Or.inl rfl)
  | false =>
    rw [hc] at hr
    obtain ⟨⟨pc0, op, len, lk, ins⟩, tl, hcd1, hr1⟩ := lc_s (l := cd) hr
    obtain ⟨g1, hr2⟩ := gd_s hr1
    have hpc : pc0 = pc := bb_eq g1
    subst hpc
    have hmem : ((pc0, op, len, lk, ins) : ME) ∈ cd := by rw [hcd1]; exact List.mem_cons_self
    have htl : ∀ x ∈ tl, x ∈ M.2.2.2.2.2.2 := fun x hx => hcd x (by rw [hcd1]; exact List.mem_cons_of_mem _ hx)
    have hok := hM _ (hcd _ hmem)
    unfold eok at hok
    have k1 := bb_and hok
    have k2 := bb_and k1.2
    have k3 := bb_and k2.2
    have hdg : decode M.2.1 pc0 = .ok (ins, len) := of_decide_eq_true k1.1
    have hop : op = ax_op ins := bb_eq k2.1
    have hlk : lok mt M pc0 ins lk = true := k3.2
    have hle : op < 57 → len = ax_len ins := fun q => by
      rcases (Bool.or_eq_true _ _).mp k3.1 with z | z
      · have := bb_le z; dsimp only at this; omega
      · exact bb_eq z
    dsimp only at hr2
    cases b1 : Nat.ble op 17 with
    | true =>
      rw [b1] at hr2
      have b1' := bb_le b1
      cases b2 : Nat.ble op 7 with
      | true =>
        rw [b2] at hr2
        have b2' := bb_le b2
        have hr2 : ax_b0 op ih M cut (pc0 + len) tl lk σ h nc ns lv st = some outs := hr2
        unfold ax_b0 at hr2
        have hlen := hle (by omega)
        rcases (show op = 0 ∨ op = 1 ∨ op = 2 ∨ op = 3 ∨ op = 4 ∨ op = 5 ∨ op = 6 ∨ op = 7 by omega) with e9 | e9 | e9 | e9 | e9 | e9 | e9 | e9 <;> rw [e9] at hr2 <;> rw [e9] at hop
        · exact sn_push hI hM htl hX hR hdg hlen hlk hop.symm hr2
        · exact sn_load (Or.inl ⟨rfl, hop.symm⟩) hI hM htl hX hR hdg hlen hlk hr2
        · exact sn_load (Or.inr (Or.inl ⟨rfl, hop.symm⟩)) hI hM htl hX hR hdg hlen hlk hr2
        · exact sn_load (Or.inr (Or.inr ⟨rfl, hop.symm⟩)) hI hM htl hX hR hdg hlen hlk hr2
        · exact sn_sto (Or.inl ⟨rfl, rfl, hop.symm⟩) hI hM htl hX hR hdg hlen hlk hr2
        · exact sn_sto (Or.inr (Or.inl ⟨rfl, rfl, hop.symm⟩)) hI hM htl hX hR hdg hlen hlk hr2
        · exact sn_sto (Or.inr (Or.inr ⟨rfl, rfl, hop.symm⟩)) hI hM htl hX hR hdg hlen hlk hr2
        · exact sn_iinc hI hM htl hX hR hdg hlen hlk hop.symm hr2
      | false =>
        rw [b2] at hr2
        have b2' := bb_nle b2
        have hr2 : ax_b1 op sb ih M cut pc0 (pc0 + len) cd tl lk σ h nc ns lv st = some outs := hr2
        unfold ax_b1 at hr2
        have hlen := hle (by omega)
        cases b3 : Nat.ble op 9 with
        | true =>
          have b3' := bb_le b3
          rcases (show op = 8 ∨ op = 9 by omega) with e9 | e9 <;> rw [e9] at hr2 <;> rw [e9] at hop
          · exact sn_getf hI hM htl hX hR hdg hlen hlk hop.symm hr2
          · exact sn_putf hI hM htl hX hR hdg hlen hlk hop.symm hr2
        | false =>
          rw [b3] at hr2
          have b3' := bb_nle b3
          cases b4 : Nat.ble op 13 with
          | true =>
            have b4' := bb_le b4
            have hr2 : (bif Nat.ble op 13 then ax_b1a (op + 90) sb ih M cut pc0 (pc0 + len) cd tl σ h nc ns lv st else ax_b1s (op + 86) ih M cut pc0 (pc0 + len) cd tl σ h nc ns lv st) = some outs := hr2
            rw [b4] at hr2
            exact sn_ald hsb hI hM htl hX hR hdg hlen hlk hcd (by rw [← hop]) (by omega) (by omega) hr2
          | false =>
            have b4' := bb_nle b4
            have hr2 : (bif Nat.ble op 13 then ax_b1a (op + 90) sb ih M cut pc0 (pc0 + len) cd tl σ h nc ns lv st else ax_b1s (op + 86) ih M cut pc0 (pc0 + len) cd tl σ h nc ns lv st) = some outs := hr2
            rw [b4] at hr2
            exact sn_ast hI hM htl hX hR hdg hlen hlk hcd (by rw [← hop]) (by omega) (by omega) hr2
    | false =>
      rw [b1] at hr2
      have b1' := bb_nle b1
      cases b2 : Nat.ble op 25 with
      | true =>
        have b2' := bb_le b2
        have hlen := hle (by omega)
        have hr2 : (bif Nat.ble op 25 then ax_b2 op mt ih M cut pc0 (pc0 + len) tl lk σ h nc ns lv st
           else bif Nat.ble op 43 then ax_b3 op ih M cut pc0 (pc0 + len) cd tl σ h nc ns lv st
           else bif Nat.ble op 52 then ax_b4 op ih M cut (pc0 + len) tl σ h nc ns lv st
           else gd (Nat.ble op 58) (ax_b5 op sb ih M cut (pc0 + len) tl lk σ h nc ns lv st)) = some outs := hr2
        rw [b2] at hr2
        have hr2 : ax_b2 op mt ih M cut pc0 (pc0 + len) tl lk σ h nc ns lv st = some outs := hr2
        unfold ax_b2 at hr2
        rcases (show op = 18 ∨ op = 19 ∨ op = 20 ∨ op = 21 ∨ 22 ≤ op by omega) with e9 | e9 | e9 | e9 | e9
        · rw [e9] at hr2 hop; exact sn_icmp hI hM htl hX hR hdg hlen hlk hop.symm hr2
        · rw [e9] at hr2 hop; exact sn_ifc hI hM htl hX hR hdg hlen hlk hop.symm hr2
        · rw [e9] at hr2 hop; exact sn_goto hI hM htl hX hR hdg hlen hlk hop.symm hr2
        · rw [e9] at hr2 hop
          have hr2 : ax_inv mt ih M cut (pc0 + len) tl lk σ h nc ns lv st = some outs := hr2
          unfold ax_inv at hr2
          obtain ⟨x, lk', hlk1, hr3⟩ := lc_s hr2
          cases c1 : Nat.beq x 900 with
          | true =>
            rw [c1] at hr3
            rw [hlk1, bb_eq c1] at hlk
            exact sn_obj hI hM htl hX hR hdg hlen hlk hop.symm hr3
          | false =>
            rw [c1] at hr3
            cases c2 : Nat.beq x 901 with
            | true =>
              have hr3 : (bif Nat.beq x 901 then gd (Nat.ble 1 M.2.2.2.2.1.frames && (Nat.ble 60 M.2.2.2.2.1.locals && Nat.ble (ax_wt st) 20)) (ax_copy σ h st (fun h' r => ih M cut (pc0 + len) tl σ h' nc ns lv r))
                else bif Nat.beq x 902 then lc st (fun b st => lc st (fun a r => gd (Nat.ble 1 M.2.2.2.2.1.frames && (Nat.ble (ax_wt r + 13) M.2.2.2.2.1.locals && (Nat.ble nc M.2.2.2.2.1.cells && Nat.ble ns M.2.2.2.2.1.slots))) (ax_mn σ (ax_nv σ a) (ax_nv σ b) (fun σ' v => ih M cut (pc0 + len) tl σ' h nc ns lv (v :: r)))))
                else ax_call mt ih M lk σ h nc ns st (fun o rest nc' ns' => ih M cut (pc0 + len) tl o.1 o.2.1 nc' ns' lv (o.2.2.2.2.2.2.2 ++ rest))) = some outs := hr3
              rw [c2] at hr3
              rw [hlk1, bb_eq c2] at hlk
              exact sn_copy hI hM htl hX hR hdg hlen hlk hop.symm hr3
            | false =>
              have hr3 : (bif Nat.beq x 901 then gd (Nat.ble 1 M.2.2.2.2.1.frames && (Nat.ble 60 M.2.2.2.2.1.locals && Nat.ble (ax_wt st) 20)) (ax_copy σ h st (fun h' r => ih M cut (pc0 + len) tl σ h' nc ns lv r))
                else bif Nat.beq x 902 then lc st (fun b st => lc st (fun a r => gd (Nat.ble 1 M.2.2.2.2.1.frames && (Nat.ble (ax_wt r + 13) M.2.2.2.2.1.locals && (Nat.ble nc M.2.2.2.2.1.cells && Nat.ble ns M.2.2.2.2.1.slots))) (ax_mn σ (ax_nv σ a) (ax_nv σ b) (fun σ' v => ih M cut (pc0 + len) tl σ' h nc ns lv (v :: r)))))
                else ax_call mt ih M lk σ h nc ns st (fun o rest nc' ns' => ih M cut (pc0 + len) tl o.1 o.2.1 nc' ns' lv (o.2.2.2.2.2.2.2 ++ rest))) = some outs := hr3
              rw [c2] at hr3
              cases c3 : Nat.beq x 902 with
              | true =>
                rw [c3] at hr3
                rw [hlk1, bb_eq c3] at hlk
                exact sn_min hI hM htl hX hR hdg hlen hlk hop.symm hr3
              | false =>
                rw [c3] at hr3
                exact sn_call hMT hI hM htl hX hR hdg hlen hlk hop.symm (fun y lk2 hy => by rw [hlk1] at hy; cases hy; exact ⟨c1, c2, c3⟩) hr3
        · rw [show Nat.ble op 19 = false by cases hq : Nat.ble op 19 with | false => rfl | true => have := bb_le hq; omega] at hr2
          have hr2 : (bif Nat.ble op 21 then (bif Nat.beq op 20 then lc lk (fun t _ => ih M cut t (ax_jmp M.2.2.2.2.2.2 t) σ h nc ns lv st) else ax_inv mt ih M cut (pc0 + len) tl lk σ h nc ns lv st)
            else gd (ax_rok M.2.2.2.1 op st && (Nat.ble nc M.2.2.2.2.1.cells && Nat.ble ns M.2.2.2.2.1.slots)) (some [(σ, h, nc, ns, pc0, op, lv, st)])) = some outs := hr2
          rw [show Nat.ble op 21 = false by cases hq : Nat.ble op 21 with | false => rfl | true => have := bb_le hq; omega] at hr2
          exact sn_ret hI hM htl hX hR hdg hlen hlk hop.symm e9 b2' hr2
      | false =>
        have b2' := bb_nle b2
        have hr2 : (bif Nat.ble op 25 then ax_b2 op mt ih M cut pc0 (pc0 + len) tl lk σ h nc ns lv st
           else bif Nat.ble op 43 then ax_b3 op ih M cut pc0 (pc0 + len) cd tl σ h nc ns lv st
           else bif Nat.ble op 52 then ax_b4 op ih M cut (pc0 + len) tl σ h nc ns lv st
           else gd (Nat.ble op 58) (ax_b5 op sb ih M cut (pc0 + len) tl lk σ h nc ns lv st)) = some outs := hr2
        rw [b2] at hr2
        have hr2 : (bif Nat.ble op 43 then ax_b3 op ih M cut pc0 (pc0 + len) cd tl σ h nc ns lv st
           else bif Nat.ble op 52 then ax_b4 op ih M cut (pc0 + len) tl σ h nc ns lv st
           else gd (Nat.ble op 58) (ax_b5 op sb ih M cut (pc0 + len) tl lk σ h nc ns lv st)) = some outs := hr2
        cases b3 : Nat.ble op 43 with
        | true =>
          rw [b3] at hr2
          have b3' := bb_le b3
          have hlen := hle (by omega)
          have hr2 : ax_b3 op ih M cut pc0 (pc0 + len) cd tl σ h nc ns lv st = some outs := hr2
          unfold ax_b3 at hr2
          rcases (show op ≤ 34 ∨ op = 35 ∨ op = 36 ∨ (37 ≤ op ∧ op ≤ 41) ∨ op = 42 ∨ op = 43 by omega) with e9 | e9 | e9 | e9 | e9 | e9
          · rw [Nat.ble_eq_true_of_le e9] at hr2
            exact sn_ib hI hM htl hX hR hdg hlen hlk (op := op - 26) (by omega) (by omega) hr2
          · rw [e9] at hr2 hop; exact sn_id hI hM htl hX hR hdg hlen hlk (op := 0) (by omega) (by omega) hr2
          · rw [e9] at hr2 hop; exact sn_id hI hM htl hX hR hdg hlen hlk (op := 1) (by omega) (by omega) hr2
          · rw [show Nat.ble op 34 = false by cases hq : Nat.ble op 34 with | false => rfl | true => have := bb_le hq; omega] at hr2
            have hr2 : (bif Nat.ble op 36 then ax_bin (ax_id (op - 35)) ih M cut (pc0 + len) tl σ h nc ns lv st
              else bif Nat.ble op 41 then ax_bin (ax_lb (op - 37)) ih M cut (pc0 + len) tl σ h nc ns lv st
              else bif Nat.beq op 42 then ax_bin ax_lsh ih M cut (pc0 + len) tl σ h nc ns lv st
              else lc st (fun b st' => lc st' (fun a r => ob (ax_rL σ a) (fun ra => ob (ax_rL σ b) (fun rb => ax_lcm ra rb (fun n => ih M cut (pc0 + len) tl σ h nc ns lv ((0, n) :: r)) (ax_spc σ a ra rb (fun σ' => ih M cut pc0 cd σ' h nc ns lv st))))))) = some outs := hr2
            rw [show Nat.ble op 36 = false by cases hq : Nat.ble op 36 with | false => rfl | true => have := bb_le hq; omega] at hr2
            have hr2 : (bif Nat.ble op 41 then ax_bin (ax_lb (op - 37)) ih M cut (pc0 + len) tl σ h nc ns lv st
              else bif Nat.beq op 42 then ax_bin ax_lsh ih M cut (pc0 + len) tl σ h nc ns lv st
              else lc st (fun b st' => lc st' (fun a r => ob (ax_rL σ a) (fun ra => ob (ax_rL σ b) (fun rb => ax_lcm ra rb (fun n => ih M cut (pc0 + len) tl σ h nc ns lv ((0, n) :: r)) (ax_spc σ a ra rb (fun σ' => ih M cut pc0 cd σ' h nc ns lv st))))))) = some outs := hr2
            rw [Nat.ble_eq_true_of_le e9.2] at hr2
            exact sn_lb hI hM htl hX hR hdg hlen hlk (op := op - 37) (by omega) (by omega) hr2
          · rw [e9] at hr2 hop; exact sn_lsh hI hM htl hX hR hdg hlen hlk hop.symm hr2
          · rw [e9] at hr2 hop; exact sn_lcmp hI hM htl hX hR hdg hlen hlk hcd hop.symm hr2
        | false =>
          rw [b3] at hr2
          have b3' := bb_nle b3
          have hr2 : (bif Nat.ble op 52 then ax_b4 op ih M cut (pc0 + len) tl σ h nc ns lv st
           else gd (Nat.ble op 58) (ax_b5 op sb ih M cut (pc0 + len) tl lk σ h nc ns lv st)) = some outs := hr2
          cases b4 : Nat.ble op 52 with
          | true =>
            rw [b4] at hr2
            have b4' := bb_le b4
            have hlen := hle (by omega)
            have hr2 : ax_b4 op ih M cut (pc0 + len) tl σ h nc ns lv st = some outs := hr2
            unfold ax_b4 at hr2
            rcases (show op ≤ 47 ∨ op = 48 ∨ op = 49 ∨ op = 50 ∨ op = 51 ∨ op = 52 by omega) with e9 | e9 | e9 | e9 | e9 | e9
            · rw [Nat.ble_eq_true_of_le e9] at hr2
              exact sn_un hI hM htl hX hR hdg hlen hlk (op := op - 44) (by omega) (by omega) hr2
            · rw [e9] at hr2 hop; exact sn_i2l hI hM htl hX hR hdg hlen hlk hop.symm hr2
            · rw [e9] at hr2 hop; exact sn_l2i hI hM htl hX hR hdg hlen hlk hop.symm hr2
            · rw [e9] at hr2 hop; exact sn_stk hI hM htl hX hR hdg hlen hlk (op := 50) hop.symm (Or.inl rfl) hr2
            · rw [e9] at hr2 hop; exact sn_stk hI hM htl hX hR hdg hlen hlk (op := 51) hop.symm (Or.inr (Or.inl rfl)) hr2
            · rw [e9] at hr2 hop; exact sn_stk hI hM htl hX hR hdg hlen hlk (op := 52) hop.symm (Or.inr (Or.inr rfl)) hr2
          | false =>
            rw [b4] at hr2
            have b4' := bb_nle b4
            obtain ⟨g58, hr2⟩ := gd_s (b := Nat.ble op 58) hr2
            have hop58 := bb_le g58
            unfold ax_b5 at hr2
            rcases (show op = 53 ∨ op = 54 ∨ op = 55 ∨ op = 56 ∨ op = 57 ∨ op = 58 by omega) with e9 | e9 | e9 | e9 | e9 | e9
            · have hlen := hle (by omega)
              rw [e9] at hr2 hop; exact sn_alen hI hM htl hX hR hdg hlen hlk hop.symm hr2
            · have hlen := hle (by omega)
              rw [e9] at hr2 hop; exact sn_new hI hM htl hX hR hdg hlen hlk hop.symm hr2
            · have hlen := hle (by omega)
              rw [e9] at hr2 hop; exact sn_newa hI hM htl hX hR hdg hlen hlk hop.symm hr2
            · have hlen := hle (by omega)
              rw [e9] at hr2 hop; exact sn_gets hI hM htl hX hR hdg hlen hlk hop.symm hr2
            · rw [e9] at hr2 hop; exact sn_table hI hM htl hX hR hdg hlk hop.symm hr2
            · rw [e9] at hr2 hop
              have hr2 : lc st (fun v r => lc lk (fun d lk => lc lk (fun _ _ => ax_sw (fun t σ' => ih M cut t (ax_jmp M.2.2.2.2.2.2 t) σ' h nc ns lv r) v d lk σ))) = some outs := hr2
              obtain ⟨v, r, e10, hr3⟩ := lc_s hr2
              obtain ⟨d, ks, e11, hr4⟩ := lc_s hr3
              obtain ⟨k, ks', e12, hr5⟩ := lc_s hr4
              exact sn_look hI hM htl hX hR hdg hlk hop.symm (fun d2 ks2 hy => by rw [e11] at hy; cases hy; rw [e12]; exact List.cons_ne_nil _ _) (by rw [e10, e11]; exact hr5)
theorem sn_run (hsb : ∀ x, (sb x).length ≤ 1000) (hMT : ∀ a b C, mt a b = some C → Mok mt C ∧ Mcw C) : ∀ n, Snd sb mt dC dI dA sp H0 l (ax_run sb mt n)
  | 0 => fun p e R s m args below meth c Q ρ0 ad0 M cut pc cd σ h nc ns lv st outs hM hcd hX hr hR => by cases hr
  | n + 1 => sn_bd hsb hMT (sn_run hsb hMT n)
end ALL
