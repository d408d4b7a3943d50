/-! THE MACHINE BY FORMS is sound, 5: runs; a unit is checked -/
section SO
variable {tb : TB} {sb : Nat → List Nat} {mq : Nat → Nat → Option MR} {dC : Nat → ClassId} {dI : Nat → Nat → Nat} {dA : Nat → ClassId} {sp : Nat → Nat} {H0 : Heap} {l : Launch} {ρ0 : List Nat} {ad : Nat → Nat} {rf : Nat → Nat → Option Nat} {L : LSc}
theorem so_bd {ul : UL} {tu : TU} {ih : GO2} (hL6 : LOK sb mq dC dI dA sp H0 l ρ0 ad rf tb.1 L) (hL31 : L.1 < 2147483648) (hrf : ∀ c q, tb.1[c]? = some q → 103 ≤ q.1 → ∀ j f, j < q.2.1 → q.2.2[j]? = some f → rf c j = some (ad f.2)) (hUL : ULOK tb sb mq dC dI dA sp H0 l ρ0 ad rf L ul) (hMT : ∀ a b C, mth a b = some C → (Mok mth C ∧ Mcw C) ∧ mq a b = some C) (hI : Snd2 tb sb mq dC dI dA sp H0 l ρ0 ad rf L ih) : Snd2 tb sb mq dC dI dA sp H0 l ρ0 ad rf L (x_bd tb tu ul sb mth ih) := by
  have hSP := so_sp (tu := tu) hL6 hL31 hrf hUL hMT hI
  intro M ct pc cd N m lv st outs hM hMt hni hcd hr ρ h0 h LV SV hG
  have SPK : x_sp tb tu ul sb mth ih M ct pc cd N m lv st = some outs → Wp sb dC dI dA sp H0 l ρ0 ad rf tb.1 M pc h LV SV (Pq tb sp ad L outs ρ h0 M) := fun z => hSP M ct pc cd N m lv st outs hM hMt hni hcd z ρ h0 h LV SV hG
  unfold x_bd at hr
  cases h1 : (Nat.beq pc ct.2.1.1 || (Nat.blt pc ct.2.1.2.1 || Nat.blt ct.2.1.2.2 pc)) with
  | true =>
    rw [h1] at hr
    have hr' := Option.some.inj hr
    exact wp_rf ⟨_, by rw [← hr']; exact List.mem_cons_self, Or.inr ⟨rfl, rfl⟩, ρ, Sb.rf ρ, hG⟩
  | false =>
    rw [h1] at hr
    simp only [cond_false] at hr
    cases h2 : at2 ct.2.2.1 pc with
    | none => rw [h2] at hr; exact SPK hr
    | some u =>
      rw [h2] at hr
      dsimp only at hr
      cases hbb : hc_k N lv u with
      | true => rw [hbb] at hr; exact SPK hr
      | false =>
        rw [hbb] at hr
        simp only [cond_false] at hr
        cases h3 : uf tb ct.1.1 ct.1.2 (pc + 100000) N m lv st ul with
        | none => rw [h3] at hr; exact SPK hr
        | some q =>
          rw [h3] at hr
          dsimp only at hr
          obtain ⟨e, m1, m2, m3, m4⟩ := uf_ok (ul := ul) h3
          obtain ⟨n1, n2, n3⟩ := hUL e m1
          have n4 := n3 M (by rw [m2]; exact hMt)
          rw [m3] at n1 n2 n4
          rw [m2] at n4
          rw [show (if 100000 ≤ pc + 100000 then pc + 100000 - 100000 else pc + 100000) = pc by rw [if_pos (by omega)]; omega] at n4
          obtain ⟨hSV, ρ', ρT, LV', k1, k2, k3, k4, k5, k6⟩ := um_ok n1 n2 hG m4
          subst hSV
          refine wp_bd (wp_less k5 (n4 ρT h LV' k6)) (fun pc' h' lv' st' hp => ?_)
          obtain ⟨o, o1, o2, r, N2, m2', lv2, st2, ρ2, p1, p2, p3, p4⟩ := unit_at k2 k3 k4 hr hp
          rcases o2 with ⟨z1, z2⟩ | ⟨z1, z2⟩
          · rw [z1] at p1
            have p1' : [((0, o.2.1, N2, m2', lv2, st2) : O2)] = r := Option.some.inj p1
            exact wp_rf ⟨_, p2 _ (by rw [← p1']; exact List.mem_cons_self), Or.inl ⟨rfl, z2⟩, ρ2, k1.tr p3, p4⟩
          · rw [z1] at p1
            have p1' : ih M ct o.2.1 (ax_jmp M.2.2.2.2.2.2 o.2.1) N2 m2' lv2 st2 = some r := p1
            rw [z2]
            exact Pq_in (k1.tr p3) p2 (hI M ct _ _ N2 m2' lv2 st2 r hM hMt hni (ax_jmp_in _ _) p1' ρ2 h0 h' lv' st' p4)
theorem so_run {ul : UL} {tu : TU} (hL6 : LOK sb mq dC dI dA sp H0 l ρ0 ad rf tb.1 L) (hL31 : L.1 < 2147483648) (hrf : ∀ c q, tb.1[c]? = some q → 103 ≤ q.1 → ∀ j f, j < q.2.1 → q.2.2[j]? = some f → rf c j = some (ad f.2)) (hUL : ULOK tb sb mq dC dI dA sp H0 l ρ0 ad rf L ul) (hMT : ∀ a b C, mth a b = some C → (Mok mth C ∧ Mcw C) ∧ mq a b = some C) : ∀ n, Snd2 tb sb mq dC dI dA sp H0 l ρ0 ad rf L (x_run tb tu ul sb mth n)
  | 0 => fun M ct pc cd N m lv st outs _ _ _ _ hr => by cases hr
  | n + 1 => so_bd hL6 hL31 hrf hUL hMT (so_run hL6 hL31 hrf hUL hMT n)
end SO
/-! the check of a unit -/
/-- forms that name what stays alone -/
noncomputable def lf_iv (n : Nat) (iv : List Nat) (f : LF) : Bool := alls (fun q => Nat.ble n q.1 || anys (fun k => Nat.beq k q.1) iv) f.2
noncomputable def st_iv (n : Nat) (iv : List Nat) (T : ST) : Bool := alls (lf_iv n iv) T.2.1 && (alls (lf_iv n iv) T.2.2.1 && (alls (fun e => lf_iv n iv e.2.1 && lf_iv n iv e.2.2) T.2.2.2.1 && (alls (fun e => lf_iv n iv e.2) T.2.2.2.2.1 && (alls (fun e => lf_iv n iv e.1.2 && (lf_iv n iv e.2.1.2 && lf_iv n iv e.2.2)) T.2.2.2.2.2.1 && (alls (lf_iv n iv) T.2.2.2.2.2.2.1 && (alls (fun t => !(Nat.ble t.2.1 1) || lf_iv n iv t.2.2) T.2.2.2.2.2.2.2.1 && alls (fun t => !(Nat.ble t.1 1) || lf_iv n iv t.2) T.2.2.2.2.2.2.2.2))))))
theorem lt_iv {ρ ρ' e : List Int} {n : Nat} {iv : List Nat} (h1 : ρ.length = n) (h2 : ρ'.length = n) (hiv : ∀ k ∈ iv, ∀ z, ρ[k]? = some z → ρ'[k]? = some z) : ∀ {l : List (Nat × Int)} {x : Int}, (∀ q ∈ l, (Nat.ble n q.1 || anys (fun k => Nat.beq k q.1) iv) = true) → Lt (ρ ++ e) l x → Lt (ρ' ++ e) l x
  | [], _, _, hx => hx
  | q :: t, x, hl, hx => by
    obtain ⟨z, y, a1, a2, a3⟩ := hx
    refine ⟨z, y, ?_, lt_iv h1 h2 hiv (fun p hp => hl p (List.mem_cons_of_mem _ hp)) a2, a3⟩
    by_cases hk : q.1 < n
    · rw [List.getElem?_append_left (by omega)] at a1
      rw [List.getElem?_append_left (by omega)]
      rcases (Bool.or_eq_true _ _).mp (hl q List.mem_cons_self) with w | w
      · have := bb_le w; omega
      · obtain ⟨k, k1, k2⟩ := anys_ok w
        have ek := bb_eq k2
        rw [← ek] at a1 ⊢
        exact hiv k k1 z a1
    · rw [List.getElem?_append_right (by omega)] at a1
      rw [List.getElem?_append_right (by omega), h2, ← h1]
      exact a1
theorem lf_iv_ok {ρ ρ' e : List Int} {n : Nat} {iv : List Nat} (h1 : ρ.length = n) (h2 : ρ'.length = n) (hiv : ∀ k ∈ iv, ∀ z, ρ[k]? = some z → ρ'[k]? = some z) {f : LF} {x : Int} (hf : lf_iv n iv f = true) (hx : Lv (ρ ++ e) f x) : Lv (ρ' ++ e) f x := by
  obtain ⟨y, a, b⟩ := hx
  exact ⟨y, lt_iv h1 h2 hiv (alls_ok hf) a, b⟩
theorem vk_iv {sp ad : Nat → Nat} {ρ ρ' e : List Int} {n : Nat} {iv : List Nat} (h1 : ρ.length = n) (h2 : ρ'.length = n) (hiv : ∀ k ∈ iv, ∀ z, ρ[k]? = some z → ρ'[k]? = some z) {v : V2} {V : Value} (hf : (!(Nat.ble v.1 1) || lf_iv n iv v.2) = true) (hV : Vk sp ad (ρ ++ e) v V) : Vk sp ad (ρ' ++ e) v V := by
  obtain ⟨t, f⟩ := v
  unfold Vk at hV ⊢
  split at hV
  · next e => have e : t = 0 := e; subst e; obtain ⟨x, a, b⟩ := hV; exact ⟨x, a, lf_iv_ok h1 h2 hiv hf b⟩
  · next e => have e : t = 1 := e; subst e; obtain ⟨x, a, b⟩ := hV; exact ⟨x, a, lf_iv_ok h1 h2 hiv hf b⟩
  · exact hV
  · exact hV
  · exact hV
  · exact hV.elim
theorem Lk.iv {sp ad : Nat → Nat} {ρ ρ' e : List Int} {n : Nat} {iv : List Nat} (h1 : ρ.length = n) (h2 : ρ'.length = n) (hiv : ∀ k ∈ iv, ∀ z, ρ[k]? = some z → ρ'[k]? = some z) : ∀ {lv : L2} {LV : LVs}, (∀ t ∈ lv, (!(Nat.ble t.2.1 1) || lf_iv n iv t.2.2) = true) → Lk sp ad (ρ ++ e) lv LV → Lk sp ad (ρ' ++ e) lv LV
  | [], [], _, _ => trivial
  | v :: r, V :: R, hl, h => ⟨⟨h.1.1, vk_iv h1 h2 hiv (hl v List.mem_cons_self) h.1.2⟩, Lk.iv h1 h2 hiv (fun t ht => hl t (List.mem_cons_of_mem _ ht)) h.2⟩
theorem Sk.iv {sp ad : Nat → Nat} {ρ ρ' e : List Int} {n : Nat} {iv : List Nat} (h1 : ρ.length = n) (h2 : ρ'.length = n) (hiv : ∀ k ∈ iv, ∀ z, ρ[k]? = some z → ρ'[k]? = some z) : ∀ {lv : List V2} {LV : List Value}, (∀ t ∈ lv, (!(Nat.ble t.1 1) || lf_iv n iv t.2) = true) → Sk sp ad (ρ ++ e) lv LV → Sk sp ad (ρ' ++ e) lv LV
  | [], [], _, _ => trivial
  | v :: r, V :: R, hl, h => ⟨vk_iv h1 h2 hiv (hl v List.mem_cons_self) h.1, Sk.iv h1 h2 hiv (fun t ht => hl t (List.mem_cons_of_mem _ ht)) h.2⟩
/-- the first n unknowns themselves -/
def idm (n : Nat) : List LF := (List.range n).map (fun k => (0, [(k, 1)]))
noncomputable def u_out (tb : TB) (U : UN) (n : Nat) (k pc : Nat) (A : AT) : Bool := anys (fun o => Nat.beq o.1 k && ((Nat.beq k 0 || Nat.beq o.2.1 pc) && (match bds tb false o.2.2.1 A.1 A.2.1 A.2.2.1 A.2.2.2 (idm n) (fun N' m' mu => gd (sub tb N' m' A.2.2.1 A.2.2.2 mu (n + o.2.2.2.1.length) o.2.2.2 && (sb_rg N' (U.2.1.1 ++ o.2.2.2.1) mu && alls (we_in U.2.2.2.1) m'.2.2.2.1)) (some true)) with
  | some b => b
  | none => false))) U.2.2.1
noncomputable def u_bk (tb : TB) (U : UN) (n : Nat) (A : AT) : Bool := match bds tb true U.1 A.1 A.2.1 A.2.2.1 A.2.2.2 [] (fun N' m' mu => gd (sub tb N' m' A.2.2.1 A.2.2.2 mu n U.2.1 && (sb_rg N' U.2.1.1 mu && (alls (we_in U.2.2.2.1) m'.2.2.2.1 && (sbf mu n 0 U.2.2.2.2.1 (fun g => lf_add (-1) U.2.2.2.2.1 g (fun d => pv2 N' (d.1 - 1, d.2))) && alls (fun k => eqv N' (nthf mu k) (0, [(k, 1)])) U.2.2.2.2.2.tail)))) (some true)) with
  | some b => b
  | none => false
/-- the unit for key (a, b, pc): hi the last place of a loop (0: none) -/
noncomputable def uck (tb : TB) (tu : TU) (ul : UL) (sb : Nat → List Nat) (mt mq : Nat → Nat → Option MR) (fuel a b pc : Nat) (U : UN) : Bool := ax_fc U.2.1.1.length (fun n =>
  isnil U.2.1.2.2.2.2.2.2.2.2 && (st_wf n U.2.1 && (lf_wf n U.2.2.2.2.1 && (alls (fun o => st_wf (n + o.2.2.2.1.length) o.2.2.2) U.2.2.1 && (match mq a b with
    | none => false
    | some M => decide (M.1.name ≠ "<init>") && (match U.2.2.2.2.2 with
      | [] => (match x_bd tb tu ul sb mth (x_run tb tu ul sb mth fuel) M (ct0 tu a b) 0 M.2.2.2.2.2.2 (tA U.2.1).1 (tA U.2.1).2.1 (tA U.2.1).2.2.1 [] with
        | none => false
        | some outs => Nat.beq pc 0 && alls (fun o => u_out tb U n o.1 o.2.1 o.2.2) outs)
      | hi :: iv => (match x_sp tb tu ul sb mth (x_run tb tu ul sb mth fuel) M ((a, b), (pc - 100000, pc - 100000, hi), tu a b) (pc - 100000) (ax_jmp M.2.2.2.2.2.2 (pc - 100000)) (tA U.2.1).1 (tA U.2.1).2.1 (tA U.2.1).2.2.1 [] with
        | none => false
        | some outs => (Nat.ble 100000 pc && Nat.beq U.1.length n) && (alls (fun o => st_iv n iv o.2.2.2) U.2.2.1 && alls (fun o => bif Nat.beq o.1 1 && Nat.beq o.2.1 (pc - 100000) then (u_bk tb U n o.2.2 || u_out tb U n o.1 o.2.1 o.2.2) else u_out tb U n o.1 o.2.1 o.2.2) outs))))))))
section SO
variable {tb : TB} {sb : Nat → List Nat} {mq : Nat → Nat → Option MR} {dC : Nat → ClassId} {dI : Nat → Nat → Nat} {dA : Nat → ClassId} {sp : Nat → Nat} {H0 : Heap} {l : Launch} {ρ0 : List Nat} {ad : Nat → Nat} {rf : Nat → Nat → Option Nat} {L : LSc}
theorem idm_mu {ρ ρ' : List Int} (hs : Sb ρ ρ') : Mu ρ' (idm ρ.length) ρ := by
  unfold idm
  refine ⟨by simp, fun k z hz => ?_⟩
  have hk := (List.getElem?_eq_some_iff.mp hz).1
  exact ⟨(0, [(k, 1)]), by rw [List.getElem?_map, List.getElem?_range hk]; rfl, Lv.v (hs _ _ hz)⟩
theorem wout_of {W wr : List WE} (h : alls (we_in W) wr = true) {c k : Nat} (hw : Wout W c k) : Wout wr c k := fun w hw' q => by
  obtain ⟨v, v1, v2, v3, v4⟩ := we_in_ok (alls_ok h w hw')
  exact hw v v1 ⟨v2.trans q.1, by omega, by omega⟩
theorem pre_eq {ρ ρT : List Int} (h : ∀ (k : Nat) (z : Int), ρ[k]? = some z → ρT[k]? = some z) : ρT = ρ ++ ρT.drop ρ.length := by
  apply List.ext_getElem?
  intro i
  by_cases hi : i < ρ.length
  · rw [List.getElem?_append_left hi, List.getElem?_eq_getElem hi]
    exact h i _ (List.getElem?_eq_getElem hi)
  · rw [List.getElem?_append_right (by omega), List.getElem?_drop]
    congr 1
    omega
theorem u_out_ok {U : UN} {n : Nat} (hwo : ∀ o ∈ U.2.2.1, st_wf (n + o.2.2.2.1.length) o.2.2.2 = true) {ρ ρ' : List Int} {h0 h : PH} {A : AT} {LV : LVs} {SV : List Value} {M : MR} {k pc pc' : Nat} (hn : n = ρ.length) (hnσ : n = U.2.1.1.length) (hs : Sb ρ ρ') (hG : Ga tb L sp ad ρ' h0 h A LV SV) (hO : Oe M k pc pc' SV) (hu : u_out tb U n k pc A = true) : ∃ LV', (∀ q ∈ LV', q ∈ LV) ∧ Pu tb sp ad L U ρ h0 M pc' h LV' SV := by
  obtain ⟨o, o1, o2⟩ := anys_ok hu
  have w := bb_and o2
  have w2 := bb_and w.2
  have ek := bb_eq w.1
  have w3 := w2.2
  cases hb : bds tb false o.2.2.1 A.1 A.2.1 A.2.2.1 A.2.2.2 (idm n) (fun N' m' mu => gd (sub tb N' m' A.2.2.1 A.2.2.2 mu (n + o.2.2.2.1.length) o.2.2.2 && (sb_rg N' (U.2.1.1 ++ o.2.2.2.1) mu && alls (we_in U.2.2.2.1) m'.2.2.2.1)) (some true)) with
  | none => rw [hb] at w3; cases w3
  | some r =>
    subst hn
    obtain ⟨N', m', mu, ρ2, ρT, e1, e2, e3, e4, e5, e6⟩ := bds_ok (tb := tb) (bk := false) o.2.2.1 (N := A.1) (m := A.2.1) (lv := A.2.2.1) (st := A.2.2.2) hG (idm_mu hs) (fun q => by cases q) hb
    obtain ⟨g, -⟩ := gd_s e1
    have y := bb_and g
    have y2 := bb_and y.2
    have hσ := sb_rg_ok e3.1 y2.1 e4
    have hpre : ∀ (k : Nat) (z : Int), ρ[k]? = some z → ρT[k]? = some z := fun k z hz => by
      have hk := (List.getElem?_eq_some_iff.mp hz).1
      have hm : mu[k]? = some (0, [(k, 1)]) := e6 _ _ (by unfold idm; rw [List.getElem?_map, List.getElem?_range hk]; rfl)
      have hk2 : k < ρT.length := by rw [e5]; omega
      obtain ⟨f, f1, f2⟩ := e4.2 k _ (List.getElem?_eq_getElem hk2)
      rw [hm] at f1
      cases f1
      have h3 := f2.fn (Lv.v (e2 _ _ (hs _ _ hz)))
      rw [List.getElem?_eq_getElem hk2, h3]
    have hW : ∀ c k, Wout U.2.2.2.1 c k → h c k = h0 c k := fun c k hw => e3.2.1.2.2.2.1 c k (wout_of y2.2 hw)
    obtain ⟨LV', v1, v2⟩ := sub_ok e3 e4 (n := ρ.length + o.2.2.2.1.length) (by rw [hσ.1, List.length_append, hnσ]) (T := o.2.2.2) (W := U.2.2.2.1) hσ hW (hwo o o1) y.1
    have eT := pre_eq hpre
    rw [eT] at v2
    refine ⟨LV', v1, o, o1, ?_, ρT.drop ρ.length, v2⟩
    rw [ek]
    rcases hO with z | ⟨z1, z2⟩
    · exact Or.inl z
    · refine Or.inr ⟨z1, ?_⟩
      rcases (Bool.or_eq_true _ _).mp w2.1 with q | q
      · have := bb_eq q; omega
      · rw [z2]; exact (bb_eq q).symm
theorem Pu_iv {U : UN} {n : Nat} {iv : List Nat} {W : List WE} (hUW : U.2.2.2.1 = W) (hiv : ∀ o ∈ U.2.2.1, st_iv n iv o.2.2.2 = true) {ρ ρ' : List Int} (h1 : ρ'.length = n) (h2 : Sr ρ U.2.1.1) (h2n : ρ.length = n) (heq : ∀ k ∈ iv, ∀ z, ρ'[k]? = some z → ρ[k]? = some z) {h0 h' : PH} (hW : ∀ c k, Wout W c k → h' c k = h0 c k) {M : MR} {pc : Nat} {h'' : PH} {LV : LVs} {SV : List Value} (hp : Pu tb sp ad L U ρ' h' M pc h'' LV SV) : Pu tb sp ad L U ρ h0 M pc h'' LV SV := by
  obtain ⟨o, o1, o2, e, oN, om, oT, oL, oS⟩ := hp
  have w1 := bb_and (hiv o o1)
  have w2 := bb_and w1.2
  have w3 := bb_and w2.2
  have w4 := bb_and w3.2
  have w5 := bb_and w4.2
  have w6 := bb_and w5.2
  have w7 := bb_and w6.2
  have LV1 : ∀ {f : LF} {x : Int}, lf_iv n iv f = true → Lv (ρ' ++ e) f x → Lv (ρ ++ e) f x := fun hf hx => lf_iv_ok h1 h2n heq hf hx
  refine ⟨o, o1, o2, e, ⟨h2.app2 (ρT := ρ') (σT := U.2.1.1) (by rw [h1, ← h2n]; exact h2.1) oN.1, fun f hf => ?_, fun f hf => ?_⟩, ⟨fun c hc => ?_, fun c hc => ?_, fun c hc => ?_, fun c k hw => ?_, fun f hf => ?_, fun c hc => by cases hc⟩, oT, Lk.iv h1 h2n heq (alls_ok w7.1) oL, Sk.iv h1 h2n heq (alls_ok w7.2) oS⟩
  · obtain ⟨x, x1, x2⟩ := oN.2.1 f hf
    exact ⟨x, LV1 (alls_ok w1.1 f hf) x1, x2⟩
  · obtain ⟨x, x1, x2⟩ := oN.2.2 f hf
    exact ⟨x, LV1 (alls_ok w2.1 f hf) x1, x2⟩
  · obtain ⟨i, x, x1, x2, x3, x4⟩ := om.1 c hc
    have q := bb_and (alls_ok w3.1 c hc)
    exact ⟨i, x, LV1 q.1 x1, x2, LV1 q.2 x3, x4⟩
  · obtain ⟨x, x1, x2⟩ := om.2.1 c hc
    exact ⟨x, LV1 (alls_ok w4.1 c hc) x1, x2⟩
  · obtain ⟨i, j, x, x1, x2, x3, x4⟩ := om.2.2.1 c hc
    have q := bb_and (alls_ok w5.1 c hc)
    have q2 := bb_and q.2
    exact ⟨i, j, x, LV1 q.1 x1, LV1 q2.1 x2, LV1 q2.2 x3, x4⟩
  · have hw' : Wout W c k := by rw [← hUW]; exact hw
    rw [om.2.2.2.1 c k hw, hW c k hw']
  · obtain ⟨x, x1, x2⟩ := om.2.2.2.2.1 f hf
    exact ⟨x, LV1 (alls_ok w6.1 f hf) x1, x2⟩
theorem u_bk_ok {U : UN} {n : Nat} (hnil : isnil U.2.1.2.2.2.2.2.2.2.2 = true) (hwf : st_wf n U.2.1 = true) (hwm : lf_wf n U.2.2.2.2.1 = true) (hsl : U.1.length = n) {ρ ρ' : List Int} {h0 h : PH} {A : AT} {LV : LVs} {SV : List Value} (hn : n = ρ.length) (hs : Sb ρ ρ') (hG : Ga tb L sp ad ρ' h0 h A LV SV) (hu : u_bk tb U n A = true) : SV = [] ∧ ∃ ρT LV', ρT.length = n ∧ (∀ q ∈ LV', q ∈ LV) ∧ Ga tb L sp ad ρT h h (tA U.2.1) LV' [] ∧ (∀ x, Lv ρ U.2.2.2.2.1 x → ∃ y, Lv ρT U.2.2.2.2.1 y ∧ x + 1 ≤ y) ∧ (∀ k ∈ U.2.2.2.2.2.tail, ∀ z, ρT[k]? = some z → ρ[k]? = some z) ∧ (∀ c k, Wout U.2.2.2.1 c k → h c k = h0 c k) := by
  unfold u_bk at hu
  cases hb : bds tb true U.1 A.1 A.2.1 A.2.2.1 A.2.2.2 [] (fun N' m' mu => gd (sub tb N' m' A.2.2.1 A.2.2.2 mu n U.2.1 && (sb_rg N' U.2.1.1 mu && (alls (we_in U.2.2.2.1) m'.2.2.2.1 && (sbf mu n 0 U.2.2.2.2.1 (fun g => lf_add (-1) U.2.2.2.2.1 g (fun d => pv2 N' (d.1 - 1, d.2))) && alls (fun k => eqv N' (nthf mu k) (0, [(k, 1)])) U.2.2.2.2.2.tail)))) (some true)) with
  | none => rw [hb] at hu; cases hu
  | some r =>
    have hl := hs.len
    obtain ⟨N', m', mu, ρ2, ρT, e1, e2, e3, e4, e5, -⟩ := bds_ok (tb := tb) (bk := true) U.1 (N := A.1) (m := A.2.1) (lv := A.2.2.1) (st := A.2.2.2) (mu := []) (ρT := []) hG ⟨rfl, fun k z hz => by simp at hz⟩ (fun _ => by rw [hsl, List.length_nil]; omega) hb
    obtain ⟨g, -⟩ := gd_s e1
    have y1 := bb_and g
    have y2 := bb_and y1.2
    have y3 := bb_and y2.2
    have y4 := bb_and y3.2
    have hσ := sb_rg_ok e3.1 y2.1 e4
    have hTn : ρT.length = n := by rw [e5, hsl]; simp
    have hG' : Ga tb L sp ad ρ2 h h (N', (m'.1, m'.2.1, m'.2.2.1, [], m'.2.2.2.2), A.2.2.1, A.2.2.2) LV SV := ⟨e3.1, e3.2.1.self, e3.2.2.1, e3.2.2.2.1, e3.2.2.2.2⟩
    obtain ⟨LV', v1, v2⟩ := sub_ok hG' e4 hTn.symm (T := U.2.1) (W := []) hσ (fun _ _ _ => rfl) hwf y1.1
    have hS : Sk sp ad ρT U.2.1.2.2.2.2.2.2.2.2 SV := v2.2.2.2.2
    have hSV : SV = [] := by
      cases hT : U.2.1.2.2.2.2.2.2.2.2 with
      | nil => rw [hT] at hS; exact hS.nil
      | cons a b => rw [hT] at hnil; cases hnil
    subst hSV
    refine ⟨rfl, ρT, LV', hTn, v1, v2, fun x hx => ?_, fun k hk z hz => ?_, fun c k hw => e3.2.1.2.2.2.1 c k (wout_of y3.1 hw)⟩
    · obtain ⟨g', y, g1, g2, g3⟩ := sbk e4 hTn.symm hwm (fun g => lf_add (-1) U.2.2.2.2.1 g (fun d => pv2 N' (d.1 - 1, d.2)))
      have z := y4.1
      rw [g1] at z
      obtain ⟨d, d1, d2⟩ := lf_add_ok (-1) U.2.2.2.2.1 g' (fun d => pv2 N' (d.1 - 1, d.2))
      rw [d1] at z
      have hx2 : Lv ρ2 U.2.2.2.2.1 x := (hx.mono hs).mono e2
      have q := pv2_ok e3.1 z ((d2 ρ2 _ _ hx2 g3).dec 1)
      exact ⟨y, g2, by omega⟩
    · have q := alls_ok y4.2 k hk
      obtain ⟨f, f1, f2⟩ := e4.2 k z hz
      have hf : nthf mu k = f := by unfold nthf; rw [ax_nth_eq, f1]
      rw [hf] at q
      have hk2 : k < ρ.length := by rw [← hn, ← hTn]; exact (List.getElem?_eq_some_iff.mp hz).1
      have h3 := eqv_ok e3.1 f2 (Lv.v (e2 _ _ (hs _ _ (List.getElem?_eq_getElem hk2)))) q
      rw [h3]
      exact List.getElem?_eq_getElem hk2
theorem uck_ok {ul : UL} {tu : TU} {fuel a b pc : Nat} {U : UN} (hL6 : LOK sb mq dC dI dA sp H0 l ρ0 ad rf tb.1 L) (hL31 : L.1 < 2147483648) (hrf : ∀ c q, tb.1[c]? = some q → 103 ≤ q.1 → ∀ j f, j < q.2.1 → q.2.2[j]? = some f → rf c j = some (ad f.2)) (hUL : ULOK tb sb mq dC dI dA sp H0 l ρ0 ad rf L ul) (hMT : ∀ a b C, mth a b = some C → (Mok mth C ∧ Mcw C) ∧ mq a b = some C) (hMQ : ∀ a b M, mq a b = some M → Mok mth M) (hu : uck tb tu ul sb mth mq fuel a b pc U = true) : ULOK tb sb mq dC dI dA sp H0 l ρ0 ad rf L (((a, b, pc), U) :: ul) := by
  intro e he
  rcases List.mem_cons.mp he with rfl | he
  · unfold uck at hu
    rw [ax_fc_eq] at hu
    have w1 := bb_and hu
    have w2 := bb_and w1.2
    have w3 := bb_and w2.2
    have w4 := bb_and w3.2
    refine ⟨w1.1, w2.1, fun M hM => ?_⟩
    have hM : mq a b = some M := hM
    have w5 := w4.2
    rw [hM] at w5
    dsimp only at w5
    have w6 := bb_and w5
    have hni : M.1.name ≠ "<init>" := of_decide_eq_true w6.1
    have w7 := w6.2
    have hMok := hMQ a b M hM
    have hwo : ∀ o ∈ U.2.2.1, st_wf (U.2.1.1.length + o.2.2.2.1.length) o.2.2.2 = true := alls_ok w4.1
    have hRun := so_run (tu := tu) hL6 hL31 hrf hUL hMT fuel
    dsimp only
    have TA : (tA U.2.1) = ((tA U.2.1).1, (tA U.2.1).2.1, (tA U.2.1).2.2.1, []) := by
      have hnil : isnil U.2.1.2.2.2.2.2.2.2.2 = true := w1.1
      cases hT : U.2.1.2.2.2.2.2.2.2.2 with
      | nil => show (_, _, _, U.2.1.2.2.2.2.2.2.2.2) = _; rw [hT]; rfl
      | cons x y => rw [hT] at hnil; cases hnil
    cases hiv : U.2.2.2.2.2 with
    | nil =>
      rw [hiv] at w7
      dsimp only at w7
      cases hx : x_bd tb tu ul sb mth (x_run tb tu ul sb mth fuel) M (ct0 tu a b) 0 M.2.2.2.2.2.2 (tA U.2.1).1 (tA U.2.1).2.1 (tA U.2.1).2.2.1 [] with
      | none => rw [hx] at w7; cases w7
      | some outs =>
        rw [hx] at w7
        have w8 := bb_and w7
        have epc := bb_eq w8.1
        subst epc
        rw [if_neg (by omega)]
        intro ρ h LV hG
        have hn : U.2.1.1.length = ρ.length := hG.1.1.1.symm
        rw [TA] at hG
        have K := so_bd (tu := tu) hL6 hL31 hrf hUL hMT hRun M (ct0 tu a b) 0 M.2.2.2.2.2.2 _ _ _ _ outs hMok hM hni (fun _ hx => hx) hx ρ h h LV [] hG
        refine wp_bd K (fun pc' h' lv' st' hp => ?_)
        obtain ⟨o, o1, o2, ρ', o3, o4⟩ := hp
        obtain ⟨LV', v1, v2⟩ := u_out_ok hwo hn rfl o3 o4 o2 (alls_ok w8.2 o o1)
        exact wp_less v1 (wp_rf v2)
    | cons hi iv =>
      rw [hiv] at w7
      dsimp only at w7
      cases hx : x_sp tb tu ul sb mth (x_run tb tu ul sb mth fuel) M ((a, b), (pc - 100000, pc - 100000, hi), tu a b) (pc - 100000) (ax_jmp M.2.2.2.2.2.2 (pc - 100000)) (tA U.2.1).1 (tA U.2.1).2.1 (tA U.2.1).2.2.1 [] with
      | none => rw [hx] at w7; cases w7
      | some outs =>
        rw [hx] at w7
        have w8 := bb_and w7
        have w80 := bb_and w8.1
        have w9 := bb_and w8.2
        rw [if_pos (bb_le w80.1)]
        have hsiv := alls_ok w9.1
        -- by the measure
        have MAIN : ∀ (k : Nat) (ρ : List Int) (h : PH) (LV : LVs) (x : Int), Ga tb L sp ad ρ h h (tA U.2.1) LV [] → Lv ρ U.2.2.2.2.1 x → (lf_hi U.2.1.1 U.2.2.2.2.1 - x).toNat < k → Wp sb dC dI dA sp H0 l ρ0 ad rf tb.1 M (pc - 100000) h LV [] (Pu tb sp ad L U ρ h M) := by
          intro k
          induction k with
          | zero => intro ρ h LV x hG hx0 hk; omega
          | succ k ih =>
            intro ρ h LV x hG hx0 hk
            have hn : U.2.1.1.length = ρ.length := hG.1.1.1.symm
            have hG2 := hG
            rw [TA] at hG2
            have K := so_sp (tu := tu) hL6 hL31 hrf hUL hMT hRun M ((a, b), (pc - 100000, pc - 100000, hi), tu a b) (pc - 100000) _ _ _ _ _ outs hMok hM hni (ax_jmp_in _ _) hx ρ h h LV [] hG2
            refine wp_bd K (fun pc' h' lv' st' hp => ?_)
            obtain ⟨o, o1, o2, ρ', o3, o4⟩ := hp
            have z := alls_ok w9.2 o o1
            cases hbk : (Nat.beq o.1 1 && Nat.beq o.2.1 (pc - 100000)) with
            | false =>
              rw [hbk] at z
              obtain ⟨LV', v1, v2⟩ := u_out_ok hwo hn rfl o3 o4 o2 z
              exact wp_less v1 (wp_rf v2)
            | true =>
              rw [hbk] at z
              rcases (Bool.or_eq_true _ _).mp z with z | z
              case inr =>
                obtain ⟨LV', v1, v2⟩ := u_out_ok hwo hn rfl o3 o4 o2 z
                exact wp_less v1 (wp_rf v2)
              have bk := bb_and hbk
              have epc : pc' = pc - 100000 := by
                rcases o2 with ⟨q, -⟩ | ⟨-, q⟩
                · have := bb_eq bk.1; omega
                · rw [q]; exact bb_eq bk.2
              obtain ⟨hSV, ρT, LV', t1, t2, t3, t4, t5, t6⟩ := u_bk_ok w1.1 w2.1 w3.1 (bb_eq w80.2) hn o3 o4 z
              subst hSV
              obtain ⟨y, y1, y2⟩ := t4 x hx0
              have bx := lf_b_ok (σ := U.2.1.1) hG.1.1 hx0
              have bx2 := lf_b_ok (σ := U.2.1.1) t3.1.1 y1
              rw [epc]
              rw [hiv] at t5
              exact wp_mono (wp_less t2 (ih ρT h' LV' y t3 y1 (by omega))) (fun pc2 h2 lv2 st2 hp2 => Pu_iv rfl hsiv t1 hG.1.1 hn.symm t5 t6 hp2)
        intro ρ h LV hG
        obtain ⟨x, hx0⟩ := lf_wf_ok (ρ := ρ) w3.1 (by rw [hG.1.1.1]; exact Nat.le_refl _)
        exact MAIN _ ρ h LV x hG hx0 (Nat.lt_succ_self _)
  · exact hUL e he
end SO
