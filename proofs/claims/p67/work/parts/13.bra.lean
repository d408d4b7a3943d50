/-! THE ABSTRACT MACHINE, 10: branches -/

theorem ax_br_lt {sp : Nat → Nat} {ρ ad : List Nat} {σ : AS} (hS : St ρ σ) {a b : AV} {A B : Value} (ha : Rp sp ρ ad a A) (hb : Rp sp ρ ad b B) {gt gf : AS → RS} {outs : List AO} (h : ax_br (ax_lt σ a b) gt gf = some outs) :
    ∃ x y : Int32, A = .int x ∧ B = .int y ∧ (x < y → ∃ σ' o, gt σ' = some o ∧ St ρ σ' ∧ ∀ z ∈ o, z ∈ outs) ∧ (¬ x < y → ∃ σ' o, gf σ' = some o ∧ St ρ σ' ∧ ∀ z ∈ o, z ∈ outs) := by
  unfold ax_br at h
  obtain ⟨⟨T, F⟩, e1, h1⟩ := ob_s h
  obtain ⟨u, v, e2, e3, rfl⟩ := ax_two_s h1
  obtain ⟨x, y, hx, hy, ht, hf⟩ := ax_lt_ok hS ha hb e1
  refine ⟨x, y, hx, hy, fun q => ?_, fun q => ?_⟩
  · obtain ⟨σ', hσ, hst⟩ := ht q
    exact ⟨σ', u, ax_go_s e2 hσ, hst, fun z hz => List.mem_append_left _ hz⟩
  · obtain ⟨σ', hσ, hst⟩ := hf q
    exact ⟨σ', v, ax_go_s e3 hσ, hst, fun z hz => List.mem_append_right _ hz⟩
theorem ax_br_eq {sp : Nat → Nat} {ρ ad : List Nat} {σ : AS} (hS : St ρ σ) {a b : AV} {A B : Value} (ha : Rp sp ρ ad a A) (hb : Rp sp ρ ad b B) {gt gf : AS → RS} {outs : List AO} (h : ax_br (ax_eq σ a b) gt gf = some outs) :
    ∃ x y : Int32, A = .int x ∧ B = .int y ∧ (x = y → ∃ σ' o, gt σ' = some o ∧ St ρ σ' ∧ ∀ z ∈ o, z ∈ outs) ∧ (¬ x = y → ∃ σ' o, gf σ' = some o ∧ St ρ σ' ∧ ∀ z ∈ o, z ∈ outs) := by
  unfold ax_br at h
  obtain ⟨⟨T, F⟩, e1, h1⟩ := ob_s h
  obtain ⟨u, v, e2, e3, rfl⟩ := ax_two_s h1
  obtain ⟨x, y, hx, hy, ht, hf⟩ := ax_eq_ok hS ha hb e1
  refine ⟨x, y, hx, hy, fun q => ?_, fun q => ?_⟩
  · obtain ⟨σ', hσ, hst⟩ := ht q
    exact ⟨σ', u, ax_go_s e2 hσ, hst, fun z hz => List.mem_append_left _ hz⟩
  · obtain ⟨σ', hσ, hst⟩ := hf q
    exact ⟨σ', v, ax_go_s e3 hσ, hst, fun z hz => List.mem_append_right _ hz⟩
/-- the six conditions, as the machine has them -/
def ax_cp (k : Nat) (x y : Int32) : Prop := match k with
  | 0 => x = y
  | 1 => ¬ x = y
  | 2 => x < y
  | 3 => y ≤ x
  | 4 => y < x
  | _ => x ≤ y
theorem ax_cnd_ok {sp : Nat → Nat} {ρ ad : List Nat} {σ : AS} (hS : St ρ σ) {a b : AV} {A B : Value} (ha : Rp sp ρ ad a A) (hb : Rp sp ρ ad b B) {k : Nat} (hk : k < 6) {gt gf : AS → RS} {outs : List AO} (h : ax_cnd k σ a b gt gf = some outs) :
    ∃ x y : Int32, A = .int x ∧ B = .int y ∧ (ax_cp k x y → ∃ σ' o, gt σ' = some o ∧ St ρ σ' ∧ ∀ z ∈ o, z ∈ outs) ∧ (¬ ax_cp k x y → ∃ σ' o, gf σ' = some o ∧ St ρ σ' ∧ ∀ z ∈ o, z ∈ outs) := by
  match k, hk with
  | 0, _ =>
    obtain ⟨x, y, hx, hy, ht, hf⟩ := ax_br_eq hS ha hb (gt := gt) (gf := gf) h
    exact ⟨x, y, hx, hy, ht, hf⟩
  | 1, _ =>
    obtain ⟨x, y, hx, hy, ht, hf⟩ := ax_br_eq hS ha hb (gt := gf) (gf := gt) h
    exact ⟨x, y, hx, hy, hf, fun q => ht (Classical.not_not.mp q)⟩
  | 2, _ =>
    obtain ⟨x, y, hx, hy, ht, hf⟩ := ax_br_lt hS ha hb (gt := gt) (gf := gf) h
    exact ⟨x, y, hx, hy, ht, hf⟩
  | 3, _ =>
    obtain ⟨x, y, hx, hy, ht, hf⟩ := ax_br_lt hS ha hb (gt := gf) (gf := gt) h
    exact ⟨x, y, hx, hy, fun q => hf (Int32.not_lt.mpr q), fun q => ht (Int32.not_le.mp q)⟩
  | 4, _ =>
    obtain ⟨y, x, hy, hx, ht, hf⟩ := ax_br_lt hS hb ha (gt := gt) (gf := gf) h
    exact ⟨x, y, hx, hy, ht, hf⟩
  | 5, _ =>
    obtain ⟨y, x, hy, hx, ht, hf⟩ := ax_br_lt hS hb ha (gt := gf) (gf := gt) h
    exact ⟨x, y, hx, hy, fun q => hf (Int32.not_lt.mpr q), fun q => ht (Int32.not_le.mp q)⟩
  | n + 6, hn => exact absurd hn (by omega)

section OPS
variable {sb : Nat → List Nat} {mt : Nat → Nat → Option MR} {dC : Nat → ClassId} {dI : Nat → Nat → Nat} {dA : Nat → ClassId} {sp : Nat → Nat} {H0 : Heap} {l : Launch}
variable {ih : GO} {p : Program} {e : Env} {R : Room} {s : State} {m : MethodId} {args : Array Value} {below : List Frame} {meth : Method} {c : Code} {Q : State → Prop} {ρ0 ad0 : List Nat} {M : MR} {cut pc len : Nat} {ins : Instr} {lk : List Nat} {cd tl : List ME} {σ : AS} {h : AH} {nc ns : Nat} {lv : AL} {st : List AV} {outs : List AO}

theorem sn_icmp (hI : Snd sb mt dC dI dA sp H0 l ih) (hM : Mok mt M) (htl : ∀ x ∈ tl, x ∈ M.2.2.2.2.2.2) (hX : CX sb dC dI dA sp H0 ρ0 M p R s m args meth c) (hR : ∀ o ∈ outs, RO dC dI dA sp H0 l p e R s m args below meth c Q ρ0 ad0 M o) (hdg : decode M.2.1 pc = .ok (ins, len)) (hlen : len = ax_len ins) (hlk : lok mt M pc ins lk = true) (ho : ax_op ins = 18)
    (hr : lc lk (fun t lk => lc lk (fun k _ => lc st (fun b st => lc st (fun a r => ax_cnd k σ a b (fun σ' => ih M cut t (ax_jmp M.2.2.2.2.2.2 t) σ' h nc ns lv r) (fun σ' => ih M cut (pc + len) tl σ' h nc ns lv r))))) = some outs) : GG dC dI dA sp H0 l p e R s m args below meth c Q ρ0 ad0 M.2.2.1 pc σ h nc ns lv st := by
  obtain ⟨t, lk1, rfl, hr1⟩ := lc_s hr
  obtain ⟨k, lk2, rfl, hr2⟩ := lc_s hr1
  obtain ⟨b, st1, rfl, hr3⟩ := lc_s hr2
  obtain ⟨a, r, rfl, hr4⟩ := lc_s hr3
  obtain ⟨hx, hb, hml, hown, hts, hK, hlocks, hrt, hin, hRoom, hO⟩ := id hX
  intro ρ ad ws H locs ls LV ST q1 q2 q3 q4 q5 q6 q7 q8 q9 q10
  obtain ⟨B, ST1, rfl, hB, q11⟩ := q10.cons
  obtain ⟨A, ST2, rfl, hA, q12⟩ := q11.cons
  cases ins <;> first | (exact absurd ho (Nat.ne_of_beq_eq_false rfl)) | skip
  case if_icmp cc off =>
    subst hlen
    have w := bb_and (a := decide ((pc : Int) + off = (t : Int))) hlk
    have ht : (pc : Int) + off = (t : Int) := of_decide_eq_true w.1
    have hk : k = ax_cc cc := bb_eq w.2
    obtain ⟨x, y, rfl, rfl, kt, kf⟩ := ax_cnd_ok q3 hA hB (by rw [hk]; cases cc <;> decide) hr4
    have KT : ax_cp k x y → W p l e R s m args below meth c H locs nc ns Q (F0 m t ls ST2) := fun z => by
      obtain ⟨σ', o, e1, e2, e3⟩ := kt z
      exact (hI p e R s m args below meth c Q ρ0 ad0 M cut _ _ _ _ _ _ _ _ o hM (ax_jmp_in _ _) hX e1 (fun z hz => hR z (e3 z hz))) ρ ad ws H locs ls LV ST2 q1 q2 e2 q4 q5 q6 q7 q8 q9 q12
    have KF : ¬ ax_cp k x y → W p l e R s m args below meth c H locs nc ns Q (F0 m (pc + 3) ls ST2) := fun z => by
      obtain ⟨σ', o, e1, e2, e3⟩ := kf z
      exact (hI p e R s m args below meth c Q ρ0 ad0 M cut _ tl _ _ _ _ _ _ o hM htl hX e1 (fun z hz => hR z (e3 z hz))) ρ ad ws H locs ls LV ST2 q1 q2 e2 q4 q5 q6 q7 q8 q9 q12
    subst hk
    cases cc
    · exact lv_icmp_eq hx hb hdg ht KT KF
    · exact lv_icmp_ne hx hb hdg ht KT (fun q => KF (fun z => z q))
    · exact lv_icmp_lt hx hb hdg ht KT KF
    · exact lv_icmp_ge hx hb hdg ht KT KF
    · exact lv_icmp_gt hx hb hdg ht KT KF
    · exact lv_icmp_le hx hb hdg ht KT KF

theorem sn_ifc (hI : Snd sb mt dC dI dA sp H0 l ih) (hM : Mok mt M) (htl : ∀ x ∈ tl, x ∈ M.2.2.2.2.2.2) (hX : CX sb dC dI dA sp H0 ρ0 M p R s m args meth c) (hR : ∀ o ∈ outs, RO dC dI dA sp H0 l p e R s m args below meth c Q ρ0 ad0 M o) (hdg : decode M.2.1 pc = .ok (ins, len)) (hlen : len = ax_len ins) (hlk : lok mt M pc ins lk = true) (ho : ax_op ins = 19)
    (hr : lc lk (fun t lk => lc lk (fun k _ => lc st (fun a r => ax_cnd k σ a (0, 0) (fun σ' => ih M cut t (ax_jmp M.2.2.2.2.2.2 t) σ' h nc ns lv r) (fun σ' => ih M cut (pc + len) tl σ' h nc ns lv r)))) = some outs) : GG dC dI dA sp H0 l p e R s m args below meth c Q ρ0 ad0 M.2.2.1 pc σ h nc ns lv st := by
  obtain ⟨t, lk1, rfl, hr1⟩ := lc_s hr
  obtain ⟨k, lk2, rfl, hr2⟩ := lc_s hr1
  obtain ⟨a, r, rfl, hr4⟩ := lc_s hr2
  obtain ⟨hx, hb, hml, hown, hts, hK, hlocks, hrt, hin, hRoom, hO⟩ := id hX
  intro ρ ad ws H locs ls LV ST q1 q2 q3 q4 q5 q6 q7 q8 q9 q10
  obtain ⟨A, ST2, rfl, hA, q12⟩ := q10.cons
  cases ins <;> first | (exact absurd ho (Nat.ne_of_beq_eq_false rfl)) | skip
  case ifCond cc off =>
    subst hlen
    have w := bb_and (a := decide ((pc : Int) + off = (t : Int))) hlk
    have ht : (pc : Int) + off = (t : Int) := of_decide_eq_true w.1
    have hk : k = ax_cc cc := bb_eq w.2
    obtain ⟨x, y, rfl, hy, kt, kf⟩ := ax_cnd_ok q3 hA (B := .int (nI 0)) (b := (0, 0)) rfl (by rw [hk]; cases cc <;> decide) hr4
    have hy : nI 0 = y := by cases hy; rfl
    rw [nI_0] at hy
    subst hy
    have KT : ax_cp k x 0 → W p l e R s m args below meth c H locs nc ns Q (F0 m t ls ST2) := fun z => by
      obtain ⟨σ', o, e1, e2, e3⟩ := kt z
      exact (hI p e R s m args below meth c Q ρ0 ad0 M cut _ _ _ _ _ _ _ _ o hM (ax_jmp_in _ _) hX e1 (fun z hz => hR z (e3 z hz))) ρ ad ws H locs ls LV ST2 q1 q2 e2 q4 q5 q6 q7 q8 q9 q12
    have KF : ¬ ax_cp k x 0 → W p l e R s m args below meth c H locs nc ns Q (F0 m (pc + 3) ls ST2) := fun z => by
      obtain ⟨σ', o, e1, e2, e3⟩ := kf z
      exact (hI p e R s m args below meth c Q ρ0 ad0 M cut _ tl _ _ _ _ _ _ o hM htl hX e1 (fun z hz => hR z (e3 z hz))) ρ ad ws H locs ls LV ST2 q1 q2 e2 q4 q5 q6 q7 q8 q9 q12
    subst hk
    cases cc
    · exact lv_if_eq hx hb hdg ht KT KF
    · exact lv_if_ne hx hb hdg ht KT (fun q => KF (fun z => z q))
    · exact lv_if_lt hx hb hdg ht KT KF
    · exact lv_if_ge hx hb hdg ht KT KF
    · exact lv_if_gt hx hb hdg ht KT KF
    · exact lv_if_le hx hb hdg ht KT KF

theorem sn_goto (hI : Snd sb mt dC dI dA sp H0 l ih) (hM : Mok mt M) (htl : ∀ x ∈ tl, x ∈ M.2.2.2.2.2.2) (hX : CX sb dC dI dA sp H0 ρ0 M p R s m args meth c) (hR : ∀ o ∈ outs, RO dC dI dA sp H0 l p e R s m args below meth c Q ρ0 ad0 M o) (hdg : decode M.2.1 pc = .ok (ins, len)) (hlen : len = ax_len ins) (hlk : lok mt M pc ins lk = true) (ho : ax_op ins = 20)
    (hr : lc lk (fun t _ => ih M cut t (ax_jmp M.2.2.2.2.2.2 t) σ h nc ns lv st) = some outs) : GG dC dI dA sp H0 l p e R s m args below meth c Q ρ0 ad0 M.2.2.1 pc σ h nc ns lv st := by
  obtain ⟨t, lk1, rfl, hr1⟩ := lc_s hr
  obtain ⟨hx, hb, hml, hown, hts, hK, hlocks, hrt, hin, hRoom, hO⟩ := id hX
  intro ρ ad ws H locs ls LV ST q1 q2 q3 q4 q5 q6 q7 q8 q9 q10
  cases ins <;> first | (exact absurd ho (Nat.ne_of_beq_eq_false rfl)) | skip
  case goto off =>
    subst hlen
    have ht : (pc : Int) + off = (t : Int) := of_decide_eq_true hlk
    exact lv_goto hx hb hdg ht ((hI p e R s m args below meth c Q ρ0 ad0 M cut _ _ _ _ _ _ _ _ outs hM (ax_jmp_in _ _) hX hr1 hR) ρ ad ws H locs ls LV ST q1 q2 q3 q4 q5 q6 q7 q8 q9 q10)

theorem lcmp_z (x y : Int64) : lg_cmp x y = if zL x < zL y then nI 4294967295 else if zL y < zL x then nI 1 else nI 0 := by
  have h1 := zL_cast x
  have h2 := zL_cast y
  have e1 : nI 4294967295 = -1 := by decide +kernel
  have e2 : nI 1 = 1 := by decide +kernel
  have e3 : nI 0 = 0 := by decide +kernel
  unfold lg_cmp
  rw [e1, e2, e3]
  by_cases c1 : zL x < zL y
  · rw [if_pos c1]
    have h4 : ¬ y < x := by rw [Int64.lt_iff_toInt_lt]; omega
    have h5 : ¬ x = y := fun q => by rw [q] at c1; omega
    simp [h4, h5]
  · rw [if_neg c1]
    by_cases c2 : zL y < zL x
    · rw [if_pos c2]
      have h3 : y < x := by rw [Int64.lt_iff_toInt_lt]; omega
      have h4 : ¬ x < y := by rw [Int64.lt_iff_toInt_lt]; omega
      have h5 : ¬ x = y := fun q => by rw [q] at c2; omega
      simp [h3, h4, h5]
    · rw [if_neg c2]
      have h5 : x = y := Int64.toInt_inj.mp (by omega)
      subst h5
      simp

theorem sn_lcmp (hI : Snd sb mt dC dI dA sp H0 l ih) (hM : Mok mt M) (htl : ∀ x ∈ tl, x ∈ M.2.2.2.2.2.2) (hX : CX sb dC dI dA sp H0 ρ0 M p R s m args meth c) (hR : ∀ o ∈ outs, RO dC dI dA sp H0 l p e R s m args below meth c Q ρ0 ad0 M o) (hdg : decode M.2.1 pc = .ok (ins, len)) (hlen : len = ax_len ins) (hlk : lok mt M pc ins lk = true) (hcd : ∀ x ∈ cd, x ∈ M.2.2.2.2.2.2) (ho : ax_op ins = 43)
    (hr : lc st (fun b st' => lc st' (fun a r => ob (ax_rL σ a) (fun ra => ob (ax_rL σ b) (fun rb => ax_lcm ra rb (fun n => ih M cut (pc + len) tl σ h nc ns lv ((0, n) :: r)) (ax_spc σ a ra rb (fun σ' => ih M cut pc cd σ' h nc ns lv st)))))) = some outs) : GG dC dI dA sp H0 l p e R s m args below meth c Q ρ0 ad0 M.2.2.1 pc σ h nc ns lv st := by
  obtain ⟨b, st1, e1, hr1⟩ := lc_s hr
  obtain ⟨a, r, e2, hr2⟩ := lc_s hr1
  obtain ⟨ra, ea, hr3⟩ := ob_s hr2
  obtain ⟨rb, eb, hr4⟩ := ob_s hr3
  obtain ⟨hx, hb, hml, hown, hts, hK, hlocks, hrt, hin, hRoom, hO⟩ := id hX
  intro ρ ad ws H locs ls LV ST q1 q2 q3 q4 q5 q6 q7 q8 q9 q10
  have q10' := q10
  rw [e1, e2] at q10'
  obtain ⟨B, ST1, hST1, hB, q11⟩ := q10'.cons
  obtain ⟨A, ST2, hST2, hA, q12⟩ := q11.cons
  obtain ⟨x, rfl, x1, x2, x3⟩ := ax_rL_ok q3 hA ea
  obtain ⟨y, rfl, y1, y2, y3⟩ := ax_rL_ok q3 hB eb
  have hins : ins = .lcmp := by cases ins <;> first | (exact absurd ho (Nat.ne_of_beq_eq_false rfl)) | rfl
  subst hins
  have hlen : len = 1 := hlen
  subst hlen
  have KD : ∀ n, lg_cmp x y = nI n → ih M cut (pc + 1) tl σ h nc ns lv ((0, n) :: r) = some outs → W p l e R s m args below meth c H locs nc ns Q (F0 m pc ls ST) := fun n hn hq => by
    rw [hST1, hST2]
    refine W.lcmp hx hb hdg ?_
    exact (hI p e R s m args below meth c Q ρ0 ad0 M cut _ tl _ _ _ _ _ _ outs hM htl hX hq hR) ρ ad ws H locs ls LV (.int (lg_cmp x y) :: ST2) q1 q2 q3 q4 q5 q6 q7 q8 q9 ⟨by rw [hn]; rfl, q12⟩
  have KS : ∀ (σ' : AS) (o : List AO), ih M cut pc cd σ' h nc ns lv st = some o → St ρ σ' → (∀ z ∈ o, z ∈ outs) → W p l e R s m args below meth c H locs nc ns Q (F0 m pc ls ST) := fun σ' o hq hs hz =>
    (hI p e R s m args below meth c Q ρ0 ad0 M cut _ cd _ _ _ _ _ _ o hM hcd hX hq (fun z h => hR z (hz z h))) ρ ad ws H locs ls LV ST q1 q2 hs q4 q5 q6 q7 q8 q9 q10
  have hz := lcmp_z x y
  unfold ax_lcm at hr4
  cases c1 : Nat.blt ra.2 rb.1 with
  | true =>
    rw [c1] at hr4
    have := bb_lt c1
    exact KD _ (by rw [hz, if_pos (by omega)]) hr4
  | false =>
    rw [c1] at hr4
    cases c2 : Nat.blt rb.2 ra.1 with
    | true =>
      rw [c2] at hr4
      have := bb_lt c2
      exact KD _ (by rw [hz, if_neg (by omega), if_pos (by omega)]) hr4
    | false =>
      rw [c2] at hr4
      cases c3 : (Nat.beq ra.1 ra.2 && (Nat.beq rb.1 rb.2 && Nat.beq ra.1 rb.1)) with
      | true =>
        rw [c3] at hr4
        have w := bb_and c3
        have w2 := bb_and w.2
        have := bb_eq w.1
        have := bb_eq w2.1
        have := bb_eq w2.2
        exact KD _ (by rw [hz, if_neg (by omega), if_neg (by omega)]) hr4
      | false =>
        rw [c3] at hr4
        have hr5 : ax_spc σ a ra rb (fun σ' => ih M cut pc cd σ' h nc ns lv st) = some outs := hr4
        unfold ax_spc at hr5
        obtain ⟨g1, hr6⟩ := gd_s hr5
        obtain ⟨o1, o2, u1, u2, rfl⟩ := ax_two_s hr6
        obtain ⟨o3, o4, u3, u4, rfl⟩ := ax_two_s u2
        have w := bb_and g1
        have w1 := x3 (bb_eq w.1)
        have w2 := bb_eq w.2
        by_cases d1 : zL x < rb.1
        · rw [show Nat.blt ra.1 rb.1 = true from Nat.ble_eq_true_of_le (by omega)] at u1
          have u1 : ax_set σ a.2 (ra.1, min ra.2 (rb.1 - 1)) (fun σ' => ih M cut pc cd σ' h nc ns lv st) = some o1 := u1
          rw [ax_set_eq] at u1
          exact KS _ o1 u1 (q3.cut (fun z hz => by rw [w1] at hz; cases hz; exact ⟨by omega, by omega⟩)) (fun z hz => List.mem_append_left _ hz)
        · by_cases d2 : zL x = rb.1
          · rw [show (Nat.ble ra.1 rb.1 && Nat.ble rb.1 ra.2) = true by rw [Bool.and_eq_true]; exact ⟨Nat.ble_eq_true_of_le (by omega), Nat.ble_eq_true_of_le (by omega)⟩] at u3
            have u3 : ax_set σ a.2 (rb.1, rb.1) (fun σ' => ih M cut pc cd σ' h nc ns lv st) = some o3 := u3
            rw [ax_set_eq] at u3
            exact KS _ o3 u3 (q3.cut (fun z hz => by rw [w1] at hz; cases hz; exact ⟨by omega, by omega⟩)) (fun z hz => List.mem_append_right _ (List.mem_append_left _ hz))
          · rw [show Nat.blt rb.1 ra.2 = true from Nat.ble_eq_true_of_le (by omega)] at u4
            have u4 : ax_set σ a.2 (max ra.1 (rb.1 + 1), ra.2) (fun σ' => ih M cut pc cd σ' h nc ns lv st) = some o4 := u4
            rw [ax_set_eq] at u4
            exact KS _ o4 u4 (q3.cut (fun z hz => by rw [w1] at hz; cases hz; exact ⟨by omega, by omega⟩)) (fun z hz => List.mem_append_right _ (List.mem_append_right _ hz))

theorem sn_ret (hI : Snd sb mt dC dI dA sp H0 l ih) (hM : Mok mt M) (htl : ∀ x ∈ tl, x ∈ M.2.2.2.2.2.2) (hX : CX sb dC dI dA sp H0 ρ0 M p R s m args meth c) (hR : ∀ o ∈ outs, RO dC dI dA sp H0 l p e R s m args below meth c Q ρ0 ad0 M o) (hdg : decode M.2.1 pc = .ok (ins, len)) (hlen : len = ax_len ins) (hlk : lok mt M pc ins lk = true) {op : Nat} (ho : ax_op ins = op) (ho2 : 22 ≤ op) (ho3 : op ≤ 25)
    (hr : gd (ax_rok M.2.2.2.1 op st && (Nat.ble nc M.2.2.2.2.1.cells && Nat.ble ns M.2.2.2.2.1.slots)) (some [(σ, h, nc, ns, pc, op, lv, st)]) = some outs) : GG dC dI dA sp H0 l p e R s m args below meth c Q ρ0 ad0 M.2.2.1 pc σ h nc ns lv st := by
  obtain ⟨g1, hr1⟩ := gd_s hr
  cases hr1
  have hl1 : len = 1 := by
    rw [hlen]
    cases ins <;> first | rfl | (exfalso; have h9 : ax_op _ = op := ho; simp only [ax_op] at h9; omega)
  have g2 := bb_and g1
  have g3 := bb_and g2.2
  exact hR _ List.mem_cons_self (Or.inr ⟨ins, ho, by rw [hdg, hl1], g2.1, bb_le g3.1, bb_le g3.2⟩)

end OPS
