/-! THE MACHINE BY FORMS is sound, 1: numbers, locals -/
theorem i32_ok {n : Nat} (h : n < 4294967296) : (nI n).toInt = i32 n := by
  rw [nI_toInt_bmod, Int.bmod_def]
  unfold i32
  cases hb : Nat.blt n 2147483648 with
  | true =>
    have := bb_lt hb
    show _ = (n : Int)
    omega
  | false =>
    have := bb_nlt hb
    show _ = Int.negSucc (4294967295 - n)
    rw [Int.negSucc_eq]
    omega
theorem i64_ok {n : Nat} (h : n < 18446744073709551616) : (lN n).toInt = i64 n := by
  rw [lN_toInt_bmod, Int.bmod_def]
  unfold i64
  cases hb : Nat.blt n 9223372036854775808 with
  | true =>
    have := bb_lt hb
    show _ = (n : Int)
    omega
  | false =>
    have := bb_nlt hb
    show _ = Int.negSucc (18446744073709551615 - n)
    rw [Int.negSucc_eq]
    omega
theorem Vk.tg {sp ad : Nat → Nat} {ρ : List Int} {v : V2} {V : Value} (h : Vk sp ad ρ v V) (ht : tgR v.1 = true) : isRf V := by
  rcases (Bool.or_eq_true _ _).mp ht with e | e
  · exact Or.inl ⟨_, h.r e⟩
  · exact Or.inr ⟨_, h.s e⟩
theorem Lk.flt1 {sp ad : Nat → Nat} {ρ : List Int} {i : Nat} : ∀ {lv : L2} {LV : LVs}, Lk sp ad ρ lv LV → Lk sp ad ρ (flt (vk1 i) lv) (LV.filter (pk1 i))
  | [], [], _ => trivial
  | q :: r, V :: R, h => by
    have e : vk1 i q = pk1 i V := by
      unfold vk1 pk1
      rw [h.1.2.cat, ← h.1.1, nbeq, nbeq]
      cases Nat.beq q.2.1 1 <;> rfl
    have e2 : flt (vk1 i) (q :: r) = bif vk1 i q then q :: flt (vk1 i) r else flt (vk1 i) r := rfl
    rw [e2, List.filter_cons, e]
    cases pk1 i V
    · exact Lk.flt1 h.2
    · exact ⟨h.1, Lk.flt1 h.2⟩
theorem Lk.flt2 {sp ad : Nat → Nat} {ρ : List Int} {i : Nat} : ∀ {lv : L2} {LV : LVs}, Lk sp ad ρ lv LV → Lk sp ad ρ (flt (vk2 i) lv) (LV.filter (pk2 i))
  | [], [], _ => trivial
  | q :: r, V :: R, h => by
    have e : vk2 i q = pk2 i V := by
      unfold vk2 pk2
      rw [h.1.2.cat, ← h.1.1, nbeq, nbeq, nbeq]
      cases Nat.beq q.2.1 1 <;> rfl
    have e2 : flt (vk2 i) (q :: r) = bif vk2 i q then q :: flt (vk2 i) r else flt (vk2 i) r := rfl
    rw [e2, List.filter_cons, e]
    cases pk2 i V
    · exact Lk.flt2 h.2
    · exact ⟨h.1, Lk.flt2 h.2⟩
theorem Vk.nv {sp ad : Nat → Nat} {ρ : List Int} {v : V2} {V : Value} (h : Vk sp ad ρ v V) (hb : Nat.ble v.1 1 = true) {f : LF} (hf : ∀ x, Lv ρ v.2 x → Lv ρ f x) : Vk sp ad ρ (v.1, f) V := by
  obtain ⟨t, g⟩ := v
  have := bb_le hb
  rcases (show t = 0 ∨ t = 1 by dsimp only at this; omega) with rfl | rfl
  · obtain ⟨x, a, b⟩ := h; exact ⟨x, a, hf _ b⟩
  · obtain ⟨x, a, b⟩ := h; exact ⟨x, a, hf _ b⟩
section SO
variable {tb : TB} {sb : Nat → List Nat} {dC : Nat → ClassId} {dI : Nat → Nat → Nat} {dA : Nat → ClassId} {sp : Nat → Nat} {H0 : Heap} {l : Launch} {ρ0 : List Nat} {ad : Nat → Nat} {rf : Nat → Nat → Option Nat} {L : LSc}
variable {M : MR} {pc len : Nat} {ins : Instr} {lk : List Nat} {h0 h : PH} {ρ : List Int} {N : NS} {m : MM} {lv : L2} {st : List V2} {LV : LVs} {SV : List Value} {P : PO} {outs : List O2}
theorem so_b0 {op : Nat} {kk : NS → L2 → List V2 → R2} (hdg : Dg M pc ins len lk) (hlen : len = ax_len ins) (hlk : lok mth M pc ins lk = true) (ho : ax_op ins = op) (ho2 : op ≤ 7) (hG : Ga tb L sp ad ρ h0 h (N, m, lv, st) LV SV) (hr : x_b0 op lk N lv st kk = some outs)
    (GK : ∀ N' lv' st', kk N' lv' st' = some outs → ∀ ρ' LV' SV', Sb ρ ρ' → Ga tb L sp ad ρ' h0 h (N', m, lv', st') LV' SV' → Wp sb dC dI dA sp H0 l ρ0 ad rf tb.1 M (pc + len) h LV' SV' P) : Wp sb dC dI dA sp H0 l ρ0 ad rf tb.1 M pc h LV SV P := by
  obtain ⟨hN, hm, hT, hL, hS⟩ := id hG
  unfold x_b0 at hr
  rcases (show op = 0 ∨ (op = 1 ∨ op = 2 ∨ op = 3) ∨ (op = 4 ∨ op = 6) ∨ op = 5 ∨ op = 7 by omega) with e | e | e | e | e
  · subst e
    have hr1 : x_psh lk (fun v => kk N lv (v :: st)) = some outs := hr
    unfold x_psh at hr1
    obtain ⟨t, lk1, rfl, hr2⟩ := lc_s hr1
    obtain ⟨n, lk2', rfl, hr3⟩ := lc_s hr2
    refine wp_push hdg hlen hlk ho ?_
    cases h0' : Nat.beq t 0 with
    | true =>
      rw [h0'] at hr3
      obtain ⟨g, hr4⟩ := gd_s (b := Nat.blt n 4294967296) hr3
      rw [i_fc_eq] at hr4
      have e0 := bb_eq h0'
      subst e0
      exact GK _ _ _ hr4 ρ LV _ (Sb.rf ρ) ⟨hN, hm, hT, hL, ⟨nI n, rfl, by rw [i32_ok (bb_lt g)]; exact Lv.c ρ _⟩, hS⟩
    | false =>
      rw [h0'] at hr3
      simp only [cond_false] at hr3
      cases h1' : Nat.beq t 1 with
      | true =>
        rw [h1'] at hr3
        obtain ⟨g, hr5⟩ := gd_s (b := Nat.blt n 18446744073709551616) hr3
        rw [i_fc_eq] at hr5
        have e0 := bb_eq h1'
        subst e0
        exact GK _ _ _ hr5 ρ LV _ (Sb.rf ρ) ⟨hN, hm, hT, hL, ⟨lN n, rfl, by rw [i64_ok (bb_lt g)]; exact Lv.c ρ _⟩, hS⟩
      | false =>
        rw [h1'] at hr3
        simp only [cond_false] at hr3
        obtain ⟨g, hr6⟩ := gd_s hr3
        have e0 := bb_eq g
        subst e0
        exact GK _ _ _ hr6 ρ LV _ (Sb.rf ρ) ⟨hN, hm, hT, hL, rfl, hS⟩
  · have hr7 : x_ld (bif Nat.beq op 1 then tgI else bif Nat.beq op 2 then tgL else tgR) N lv lk (fun v => kk N lv (v :: st)) = some outs := by
      rcases e with rfl | rfl | rfl <;> exact hr
    unfold x_ld at hr7
    obtain ⟨i, lk1, rfl, hr8⟩ := lc_s hr7
    obtain ⟨v, v1, hr9⟩ := ob_s hr8
    obtain ⟨g, hr10⟩ := gd_s hr9
    obtain ⟨V, V1, V2⟩ := lk2_ok hL v1
    have TG : (ax_op ins = 1 ∧ ∃ x, V = .int x) ∨ (ax_op ins = 2 ∧ ∃ x, V = .long x) ∨ (ax_op ins = 3 ∧ isRf V) := by
      rcases e with rfl | rfl | rfl
      · obtain ⟨x, a, -⟩ := V2.i g; exact Or.inl ⟨ho, x, a⟩
      · obtain ⟨x, a, -⟩ := V2.l g; exact Or.inr (Or.inl ⟨ho, x, a⟩)
      · exact Or.inr (Or.inr ⟨ho, V2.tg g⟩)
    refine wp_load hdg hlen hlk V1 TG ?_
    cases hb : Nat.ble v.1 1 with
    | true =>
      rw [hb] at hr10
      simp only [cond_true] at hr10
      obtain ⟨f, f1, f2⟩ := lf_nv_ok hN.1 v.2 (fun f => kk N lv ((v.1, f) :: st))
      have hr11 : lf_nv N.1 v.2 (fun f => kk N lv ((v.1, f) :: st)) = some outs := hr10
      rw [f1] at hr11
      exact GK _ _ _ hr11 ρ LV _ (Sb.rf ρ) ⟨hN, hm, hT, hL, V2.nv hb f2, hS⟩
    | false =>
      rw [hb] at hr10
      exact GK _ _ _ hr10 ρ LV _ (Sb.rf ρ) ⟨hN, hm, hT, hL, V2, hS⟩
  · have hr12 : lc lk (fun i _ => lc st (fun v r => gd (bif Nat.beq op 4 then tgI v.1 else bif Nat.beq op 5 then tgL v.1 else tgR v.1) (kk N ((i, v) :: flt (bif Nat.beq op 5 then vk2 i else vk1 i) lv) r))) = some outs := by
      rcases e with rfl | rfl <;> exact hr
    obtain ⟨i, lk1, rfl, hr13⟩ := lc_s hr12
    obtain ⟨v, r, rfl, hr14⟩ := lc_s hr13
    obtain ⟨g, hr15⟩ := gd_s hr14
    obtain ⟨V, R, rfl, hV, hS2⟩ := hS.cons
    have TG : (ax_op ins = 4 ∧ ∃ x, V = .int x) ∨ (ax_op ins = 6 ∧ isRf V) := by
      rcases e with rfl | rfl
      · obtain ⟨x, a, -⟩ := hV.i g; exact Or.inl ⟨ho, x, a⟩
      · exact Or.inr ⟨ho, hV.tg g⟩
    have hr16 : kk N ((i, v) :: flt (vk1 i) lv) r = some outs := by
      rcases e with rfl | rfl <;> exact hr15
    exact wp_sto1 hdg hlen hlk TG (GK _ _ _ hr16 ρ _ _ (Sb.rf ρ) ⟨hN, hm, hT, ⟨⟨rfl, hV⟩, hL.flt1⟩, hS2⟩)
  · subst e
    have hr17 : lc lk (fun i _ => lc st (fun v r => gd (tgL v.1) (kk N ((i, v) :: flt (vk2 i) lv) r))) = some outs := hr
    obtain ⟨i, lk1, rfl, hr18⟩ := lc_s hr17
    obtain ⟨v, r, rfl, hr19⟩ := lc_s hr18
    obtain ⟨g, hr20⟩ := gd_s hr19
    obtain ⟨V, R, rfl, hV, hS2⟩ := hS.cons
    obtain ⟨x, rfl, hx⟩ := hV.l g
    exact wp_sto2 hdg hlen hlk ho (GK _ _ _ hr20 ρ _ _ (Sb.rf ρ) ⟨hN, hm, hT, ⟨⟨rfl, hV⟩, hL.flt2⟩, hS2⟩)
  · subst e
    have hr21 : lc lk (fun i lk => lc lk (fun n _ => ob (lk2 lv i) (fun v => gd (Nat.beq v.1 0 && Nat.blt n 4294967296) (lf_nv N.1 v.2 (fun f => n_ib 0 N f (i32 n, []) (fun N' w => kk N' ((i, (0, w)) :: flt (vk1 i) lv) st)))))) = some outs := hr
    obtain ⟨i, lk1, rfl, hr22⟩ := lc_s hr21
    obtain ⟨n, lk2', rfl, hr23⟩ := lc_s hr22
    obtain ⟨v, v1, hr24⟩ := ob_s hr23
    obtain ⟨g, hr25⟩ := gd_s hr24
    have w := bb_and g
    obtain ⟨V, V1, V2⟩ := lk2_ok hL v1
    obtain ⟨x, rfl, hx⟩ := V2.i w.1
    obtain ⟨f, f1, f2⟩ := lf_nv_ok hN.1 v.2 (fun f => n_ib 0 N f (i32 n, []) (fun N' w => kk N' ((i, (0, w)) :: flt (vk1 i) lv) st))
    rw [f1] at hr25
    obtain ⟨N', u, ρ', k1, k2, k3, k4⟩ := n_ib_ok hN (show 0 < 9 by omega) (f2 _ hx) (y := nI n) (b := (i32 n, [])) (by rw [i32_ok (bb_lt w.2)]; exact Lv.c ρ _) hr25
    exact wp_iinc hdg hlen hlk ho V1 (GK _ _ _ k1 ρ' _ _ k2 ⟨k3, hm.mono k2, hT, ⟨⟨rfl, ⟨_, rfl, k4⟩⟩, (hL.mono k2).flt1⟩, hS.mono k2⟩)
theorem so_bin {t : Nat} {f : NS → LF → LF → (NS → LF → R2) → R2} {kk : NS → List V2 → R2} (hG : Ga tb L sp ad ρ h0 h (N, m, lv, st) LV SV) (hr : x_bin t f N st kk = some outs) : ∃ a b r A B R, st = b :: a :: r ∧ SV = B :: A :: R ∧ a.1 = t ∧ b.1 = t ∧ Vk sp ad ρ a A ∧ Vk sp ad ρ b B ∧ Sk sp ad ρ r R ∧ f N a.2 b.2 (fun N' v => kk N' ((t, v) :: r)) = some outs := by
  obtain ⟨hN, hm, hT, hL, hS⟩ := hG
  unfold x_bin at hr
  obtain ⟨b, st1, rfl, hr26⟩ := lc_s hr
  obtain ⟨a, r, rfl, hr27⟩ := lc_s hr26
  obtain ⟨g, hr28⟩ := gd_s hr27
  have w := bb_and g
  obtain ⟨B, R1, rfl, hB, hS1⟩ := hS.cons
  obtain ⟨A, R, rfl, hA, hS2⟩ := hS1.cons
  exact ⟨a, b, r, A, B, R, rfl, rfl, bb_eq w.1, bb_eq w.2, hA, hB, hS2, hr28⟩
theorem so_b3 {op : Nat} {kk : NS → List V2 → R2} (hdg : Dg M pc ins len lk) (hlen : op < 57 → len = ax_len ins) (hlen1 : 59 ≤ op → len = 1) (ho : ax_op ins = op) (ho2 : 26 ≤ op) (ho3 : op ≤ 52 ∨ (59 ≤ op ∧ op ≤ 61)) (hG : Ga tb L sp ad ρ h0 h (N, m, lv, st) LV SV) (hr : x_b3 op N st kk = some outs)
    (GK : ∀ N' st' o, kk N' st' = some o → (∀ z ∈ o, z ∈ outs) → ∀ ρ' SV', Sb ρ ρ' → Ga tb L sp ad ρ' h0 h (N', m, lv, st') LV SV' → Wp sb dC dI dA sp H0 l ρ0 ad rf tb.1 M (pc + len) h LV SV' P) : Wp sb dC dI dA sp H0 l ρ0 ad rf tb.1 M pc h LV SV P := by
  obtain ⟨hN, hm, hT, hL, hS⟩ := id hG
  have GI : ∀ {kk' : NS → LF → R2} {t : Nat} {r : List V2} {R : List Value} {z : Int} {V : Value}, (kk' = fun N' v => kk N' ((t, v) :: r)) → NR ρ kk' outs z → Sk sp ad ρ r R → (∀ (ρ' : List Int) (f : LF), Lv ρ' f z → Vk sp ad ρ' (t, f) V) → Wp sb dC dI dA sp H0 l ρ0 ad rf tb.1 M (pc + len) h LV (V :: R) P := fun e hNR hR hV => by
    subst e
    obtain ⟨N', f, ρ', k1, k2, k3, k4⟩ := hNR
    exact GK _ _ _ k1 (fun _ hz => hz) ρ' _ k2 ⟨k3, hm.mono k2, hT, hL.mono k2, hV ρ' f k4, hR.mono k2⟩
  unfold x_b3 at hr
  rcases (show (op ≤ 34) ∨ (35 ≤ op ∧ op ≤ 36) ∨ (37 ≤ op ∧ op ≤ 41) ∨ op = 42 ∨ op = 43 ∨ (44 ≤ op ∧ op ≤ 47) ∨ op = 48 ∨ op = 49 ∨ op = 50 ∨ op = 51 ∨ op = 52 ∨ op = 59 ∨ (60 ≤ op ∧ op ≤ 61) by omega) with e | e | e | e | e | e | e | e | e | e | e | e | e
  · rw [show Nat.ble op 34 = true from Nat.ble_eq_true_of_le e] at hr
    simp only [cond_true] at hr
    cases h29 : Nat.beq op 29 with
    | true =>
      have e29 := bb_eq h29
      rw [h29] at hr
      obtain ⟨a, b, r, A, B, R, rfl, rfl, e1, e2, hA, hB, hR, hr29⟩ := so_bin hG hr
      obtain ⟨x, rfl, hx⟩ := hA.i (by rw [e1]; rfl)
      obtain ⟨y, rfl, hy⟩ := hB.i (by rw [e2]; rfl)
      obtain ⟨N', f, ρ', o, k1, k2, k3, k4, k5⟩ := n_a255_ok hN hx hy hr29
      exact wp_ib (op := 3) hdg (hlen (by omega)) (by omega) (by omega) (GK _ _ _ k1 k2 ρ' _ k3 ⟨k4, hm.mono k3, hT, hL.mono k3, ⟨_, rfl, k5⟩, hR.mono k3⟩)
    | false =>
    rw [h29] at hr
    simp only [cond_false] at hr
    obtain ⟨a, b, r, A, B, R, rfl, rfl, e1, e2, hA, hB, hR, hr29⟩ := so_bin hG hr
    obtain ⟨x, rfl, hx⟩ := hA.i (by rw [e1]; rfl)
    obtain ⟨y, rfl, hy⟩ := hB.i (by rw [e2]; rfl)
    exact wp_ib (op := op - 26) hdg (hlen (by omega)) (by omega) (by omega) (GI rfl (n_ib_ok hN (by omega) hx hy hr29) hR (fun ρ' f hf => ⟨_, rfl, hf⟩))
  · have hr30 : x_bin 0 (fun N a b k => n_dr (op - 35) N a b k (n_f32 N)) N st kk = some outs := by
      rcases (show op = 35 ∨ op = 36 by omega) with rfl | rfl <;> exact hr
    obtain ⟨a, b, r, A, B, R, rfl, rfl, e1, e2, hA, hB, hR, hr31⟩ := so_bin hG hr30
    obtain ⟨x, rfl, hx⟩ := hA.i (by rw [e1]; rfl)
    obtain ⟨y, rfl, hy⟩ := hB.i (by rw [e2]; rfl)
    obtain ⟨y1, hNR⟩ := n_dr_ok (z := (if op - 35 = 0 then x / y else x - x / y * y).toInt) hN (show op - 35 < 2 by omega) hx hy (fun q1 q2 => by
      by_cases c : op - 35 = 0
      · rw [if_pos c, if_pos c]; exact div_nn q1 q2
      · rw [if_neg c, if_neg c]; exact rem_nn q1 q2) (fun hf => NR.f32 hN hf) hr31
    exact wp_id (op := op - 35) hdg (hlen (by omega)) (by omega) (by omega) (ne0 y1) (GI rfl hNR hR (fun ρ' f hf => ⟨_, rfl, hf⟩))
  · have hr32 : x_bin 1 (n_lb (op - 37)) N st kk = some outs := by
      rcases (show op = 37 ∨ op = 38 ∨ op = 39 ∨ op = 40 ∨ op = 41 by omega) with rfl | rfl | rfl | rfl | rfl <;> exact hr
    obtain ⟨a, b, r, A, B, R, rfl, rfl, e1, e2, hA, hB, hR, hr33⟩ := so_bin hG hr32
    obtain ⟨x, rfl, hx⟩ := hA.l (by rw [e1]; rfl)
    obtain ⟨y, rfl, hy⟩ := hB.l (by rw [e2]; rfl)
    exact wp_lb (op := op - 37) hdg (hlen (by omega)) (by omega) (by omega) (GI rfl (n_lb_ok hN hx hy hr33) hR (fun ρ' f hf => ⟨_, rfl, hf⟩))
  · subst e
    have hr34 : lc st (fun b st => lc st (fun a r => gd (Nat.beq a.1 1 && Nat.beq b.1 0) (n_f64 N (fun N' v => kk N' ((1, v) :: r))))) = some outs := hr
    obtain ⟨b, st1, rfl, hr35⟩ := lc_s hr34
    obtain ⟨a, r, rfl, hr36⟩ := lc_s hr35
    obtain ⟨g, hr37⟩ := gd_s hr36
    have w := bb_and g
    obtain ⟨B, R1, rfl, hB, hS1⟩ := hS.cons
    obtain ⟨A, R, rfl, hA, hS2⟩ := hS1.cons
    obtain ⟨x, rfl, hx⟩ := hA.l w.1
    obtain ⟨y, rfl, hy⟩ := hB.i w.2
    exact wp_lshl hdg (hlen (by omega)) ho (GI rfl (NR.f64 hN hr37) hS2 (fun ρ' f hf => ⟨_, rfl, hf⟩))
  · subst e
    have hr38 : lc st (fun b st => lc st (fun a r => gd (Nat.beq a.1 1 && Nat.beq b.1 1) (br_lt N a.2 b.2 (fun N' => kk N' ((0, (-1, [])) :: r)) (fun N1 => br_lt N1 b.2 a.2 (fun N' => kk N' ((0, (1, [])) :: r)) (fun N' => kk N' ((0, (0, [])) :: r)))))) = some outs := hr
    obtain ⟨b, st1, rfl, hr39⟩ := lc_s hr38
    obtain ⟨a, r, rfl, hr40⟩ := lc_s hr39
    obtain ⟨g, hr41⟩ := gd_s hr40
    have w := bb_and g
    obtain ⟨B, R1, rfl, hB, hS1⟩ := hS.cons
    obtain ⟨A, R, rfl, hA, hS2⟩ := hS1.cons
    obtain ⟨x, rfl, hx⟩ := hA.l w.1
    obtain ⟨y, rfl, hy⟩ := hB.l w.2
    refine wp_lcmp hdg (hlen (by omega)) ho ?_
    have z := lcmp_z x y
    have zx := zL_cast x
    have zy := zL_cast y
    have q := br_lt_ok hN hx hy hr41
    have FIN : ∀ (N' : NS) (n : Int) (V : Int32) (o : List O2), Nk ρ N' → V.toInt = n → kk N' ((0, (n, [])) :: r) = some o → (∀ z ∈ o, z ∈ outs) → lg_cmp x y = V → Wp sb dC dI dA sp H0 l ρ0 ad rf tb.1 M (pc + len) h LV (.int (lg_cmp x y) :: R) P := fun N' n V o k1 k2 k3 k4 k5 => by
      rw [k5]
      exact GK _ _ _ k3 k4 ρ _ (Sb.rf ρ) ⟨k1, hm, hT, hL, ⟨V, rfl, by rw [k2]; exact Lv.c ρ n⟩, hS2⟩
    by_cases c1 : x.toInt < y.toInt
    · obtain ⟨N', o, k1, k2, k3⟩ := q.1 c1
      exact FIN N' (-1) (nI 4294967295) o k2 (by decide) k1 k3 (by rw [z, if_pos (by omega)])
    · obtain ⟨N1, o, k1, k2, k3⟩ := q.2 c1
      have q2 := br_lt_ok k2 hy hx k1
      by_cases c2 : y.toInt < x.toInt
      · obtain ⟨N', o', l1, l2, l3⟩ := q2.1 c2
        exact FIN N' 1 (nI 1) o' l2 (by decide) l1 (fun z hz => k3 z (l3 z hz)) (by rw [z, if_neg (by omega), if_pos (by omega)])
      · obtain ⟨N', o', l1, l2, l3⟩ := q2.2 c2
        exact FIN N' 0 (nI 0) o' l2 (by decide) l1 (fun z hz => k3 z (l3 z hz)) (by rw [z, if_neg (by omega), if_neg (by omega)])
  · have hr42 : lc st (fun a r => gd (Nat.beq a.1 0) (n_un (op - 44) N a.2 (fun N' v => kk N' ((0, v) :: r)))) = some outs := by
      rcases (show op = 44 ∨ op = 45 ∨ op = 46 ∨ op = 47 by omega) with rfl | rfl | rfl | rfl <;> exact hr
    obtain ⟨a, r, rfl, hr43⟩ := lc_s hr42
    obtain ⟨g, hr44⟩ := gd_s hr43
    obtain ⟨A, R, rfl, hA, hS2⟩ := hS.cons
    obtain ⟨x, rfl, hx⟩ := hA.i g
    exact wp_un (op := op - 44) hdg (hlen (by omega)) (by omega) (by omega) (GI rfl (n_un_ok hN (by omega) hx hr44) hS2 (fun ρ' f hf => ⟨_, rfl, hf⟩))
  · subst e
    have hr45 : lc st (fun a r => gd (Nat.beq a.1 0) (kk N ((1, a.2) :: r))) = some outs := hr
    obtain ⟨a, r, rfl, hr46⟩ := lc_s hr45
    obtain ⟨g, hr47⟩ := gd_s hr46
    obtain ⟨A, R, rfl, hA, hS2⟩ := hS.cons
    obtain ⟨x, rfl, hx⟩ := hA.i g
    exact wp_i2l hdg (hlen (by omega)) ho (GK _ _ _ hr47 (fun _ hz => hz) ρ _ (Sb.rf ρ) ⟨hN, hm, hT, hL, ⟨_, rfl, by rw [i2l_t]; exact hx⟩, hS2⟩)
  · subst e
    have hr48 : lc st (fun a r => gd (Nat.beq a.1 1) (n_l2i N a.2 (fun N' v => kk N' ((0, v) :: r)))) = some outs := hr
    obtain ⟨a, r, rfl, hr49⟩ := lc_s hr48
    obtain ⟨g, hr50⟩ := gd_s hr49
    obtain ⟨A, R, rfl, hA, hS2⟩ := hS.cons
    obtain ⟨x, rfl, hx⟩ := hA.l g
    exact wp_l2i hdg (hlen (by omega)) ho (GI rfl (n_l2i_ok hN hx hr50) hS2 (fun ρ' f hf => ⟨_, rfl, hf⟩))
  · subst e
    have hr51 : lc st (fun a r => gd (!(Nat.beq a.1 1)) (kk N (a :: a :: r))) = some outs := hr
    obtain ⟨a, r, rfl, hr52⟩ := lc_s hr51
    obtain ⟨g, hr53⟩ := gd_s hr52
    obtain ⟨A, R, rfl, hA, hS2⟩ := hS.cons
    have hc : A.category = 1 := by rw [hA.cat, if_neg (fun q => by rw [q] at g; cases g)]
    exact wp_dup hdg (hlen (by omega)) ho hc (GK _ _ _ hr53 (fun _ hz => hz) ρ _ (Sb.rf ρ) ⟨hN, hm, hT, hL, hA, hA, hS2⟩)
  · subst e
    have hr54 : lc st (fun a r => bif Nat.beq a.1 1 then kk N (a :: a :: r) else lc r (fun b r' => gd (!(Nat.beq b.1 1)) (kk N (a :: b :: a :: b :: r')))) = some outs := hr
    obtain ⟨a, r, rfl, hr55⟩ := lc_s hr54
    obtain ⟨A, R, rfl, hA, hS2⟩ := hS.cons
    cases ha : Nat.beq a.1 1 with
    | true =>
      rw [ha] at hr55
      have hc : A.category = 2 := by rw [hA.cat, if_pos ha]
      exact wp_dup2a hdg (hlen (by omega)) ho hc (GK _ _ _ hr55 (fun _ hz => hz) ρ _ (Sb.rf ρ) ⟨hN, hm, hT, hL, hA, hA, hS2⟩)
    | false =>
      rw [ha] at hr55
      simp only [cond_false] at hr55
      obtain ⟨b, r', rfl, hr56⟩ := lc_s hr55
      obtain ⟨g, hr57⟩ := gd_s hr56
      obtain ⟨B, R', rfl, hB, hS3⟩ := hS2.cons
      have hc : A.category = 1 := by rw [hA.cat, if_neg (fun q => by rw [ha] at q; cases q)]
      have hc2 : B.category = 1 := by rw [hB.cat, if_neg (fun q => by rw [q] at g; cases g)]
      exact wp_dup2b hdg (hlen (by omega)) ho hc hc2 (GK _ _ _ hr57 (fun _ hz => hz) ρ _ (Sb.rf ρ) ⟨hN, hm, hT, hL, hA, hB, hA, hB, hS3⟩)
  · subst e
    have hr58 : lc st (fun a r => gd (!(Nat.beq a.1 1)) (kk N r)) = some outs := hr
    obtain ⟨a, r, rfl, hr59⟩ := lc_s hr58
    obtain ⟨g, hr60⟩ := gd_s hr59
    obtain ⟨A, R, rfl, hA, hS2⟩ := hS.cons
    have hc : A.category = 1 := by rw [hA.cat, if_neg (fun q => by rw [q] at g; cases g)]
    exact wp_pop hdg (hlen (by omega)) ho hc (GK _ _ _ hr60 (fun _ hz => hz) ρ _ (Sb.rf ρ) ⟨hN, hm, hT, hL, hS2⟩)
  · subst e
    have hr61 : lc st (fun a r => gd (Nat.beq a.1 1) (kk N r)) = some outs := hr
    obtain ⟨a, r, rfl, hr62⟩ := lc_s hr61
    obtain ⟨g, hr63⟩ := gd_s hr62
    obtain ⟨A, R, rfl, hA, hS2⟩ := hS.cons
    have hc : A.category = 2 := by rw [hA.cat, if_pos g]
    have hl1 := hlen1 (by omega)
    subst hl1
    exact wp_pop2 hdg ho hc (GK _ _ _ hr63 (fun _ hz => hz) ρ _ (Sb.rf ρ) ⟨hN, hm, hT, hL, hS2⟩)
  · have hr64 : x_bin 1 (fun N a b k => n_dr (op - 60) N a b k (n_f64 N)) N st kk = some outs := by
      rcases (show op = 60 ∨ op = 61 by omega) with rfl | rfl <;> exact hr
    obtain ⟨a, b, r, A, B, R, rfl, rfl, e1, e2, hA, hB, hR, hr65⟩ := so_bin hG hr64
    obtain ⟨x, rfl, hx⟩ := hA.l (by rw [e1]; rfl)
    obtain ⟨y, rfl, hy⟩ := hB.l (by rw [e2]; rfl)
    obtain ⟨y1, hNR⟩ := n_dr_ok (z := (if op - 60 = 0 then x / y else x - x / y * y).toInt) hN (show op - 60 < 2 by omega) hx hy (fun q1 q2 => by
      by_cases c : op - 60 = 0
      · rw [if_pos c, if_pos c]; exact div_nnL q1 q2
      · rw [if_neg c, if_neg c]; exact rem_nnL q1 q2) (fun hf => NR.f64 hN hf) hr65
    have hl1 := hlen1 (by omega)
    subst hl1
    exact wp_ld (op := op - 60) hdg (by omega) (by omega) (ne0L y1) (GI rfl hNR hR (fun ρ' f hf => ⟨_, rfl, hf⟩))
end SO
