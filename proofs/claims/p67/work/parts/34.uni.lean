/-! UNITS: what a template's unknowns are here; what an end of a unit gives -/
abbrev SRC : Type := Nat × Nat × LF
abbrev ON : Type := Nat × Nat × List SRC × ST
abbrev UN : Type := List SRC × ST × List ON × List WE × LF × List Nat
/-- the range of the sum of the row -/
noncomputable def sm_r (tb : TB) : Option (Int × Int) := ob (ax_nth tb.2.1 tb.2.2.2.2) (fun T => ob (uni T) (fun u => gd (Nat.ble 80 u.1) (some (80 * u.2.1, 80 * u.2.2))))
theorem sm_r_ok {tb : TB} {L : LSc} {h : PH} (hT : Th tb L h) {q : Int × Int} (hq : sm_r tb = some q) : q.1 ≤ sumr (h tb.2.2.2.2) 80 ∧ sumr (h tb.2.2.2.2) 80 ≤ q.2 := by
  unfold sm_r at hq
  obtain ⟨T, t1, hq⟩ := ob_s hq
  obtain ⟨u, u1, hq⟩ := ob_s hq
  obtain ⟨g0, hq⟩ := gd_s hq
  cases hq
  rw [ax_nth_eq] at t1
  have hb : ∀ k, k < 80 → u.2.1 ≤ h tb.2.2.2.2 k ∧ h tb.2.2.2.2 k ≤ u.2.2 := fun k hk => (hT.1 _ T t1).2 k u.2 (by rw [uni_ok (len := u.1) (q := u.2) u1, if_pos (by have := bb_le g0; omega)])
  have : ∀ n : Nat, n ≤ 80 → (n : Int) * u.2.1 ≤ sumr (h tb.2.2.2.2) n ∧ sumr (h tb.2.2.2.2) n ≤ (n : Int) * u.2.2 := by
    intro n
    induction n with
    | zero => intro _; exact ⟨by simp [sumr], by simp [sumr]⟩
    | succ n ih =>
      intro hn
      have i := ih (by omega)
      have b := hb n (by omega)
      have e : sumr (h tb.2.2.2.2) (n + 1) = sumr (h tb.2.2.2.2) n + h tb.2.2.2.2 n := rfl
      rw [e, Int.natCast_add, Int.add_mul, Int.add_mul]
      omega
  exact this 80 (Nat.le_refl 80)
noncomputable def sm_b {β : Type} (tb : TB) (N : NS) (m : MM) (kk : NS → MM → LF → Option β) : Option β := match m.2.2.2.2.1 with
  | f :: _ => ob (sm_r tb) (fun q => asm N (f.1 - q.1, f.2) none (fun N' => kk N' m f))
  | [] => ob (sm_r tb) (fun q => nwv N q.1 q.2 (fun N' f => kk N' (m.1, m.2.1, m.2.2.1, m.2.2.2.1, [f], m.2.2.2.2.2) f))
noncomputable def bds {β : Type} (tb : TB) (bk : Bool) (src : List SRC) : NS → MM → L2 → List V2 → List LF → (NS → MM → List LF → Option β) → Option β := List.rec (motive := fun _ => NS → MM → L2 → List V2 → List LF → (NS → MM → List LF → Option β) → Option β) (fun N m _ _ mu kk => kk N m mu) (fun s _ ih N m lv st mu kk =>
    bif Nat.ble s.1 1 then (bif Nat.beq s.1 0 then ob (lk2 lv s.2.1) (fun v => gd (Nat.ble v.1 1) (lf_nv N.1 v.2 (fun f => ih N m lv st (mu ++ [f]) kk)))
      else gd (lf_wf mu.length s.2.2) (sbf mu mu.length 0 s.2.2 (fun I => gd (pv1 N I) (ld tb N m s.2.1 I (fun N' m' f => ih N' m' lv st (mu ++ [f]) kk)))))
    else bif Nat.beq s.1 2 then (bif bk then ih N m lv st (mu ++ [(0, [(mu.length, 1)])]) kk else ob (ax_nth mu s.2.1) (fun f => ih N m lv st (mu ++ [f]) kk))
    else bif Nat.beq s.1 3 then ob (ax_nth st s.2.1) (fun v => gd (Nat.ble v.1 1) (lf_nv N.1 v.2 (fun f => ih N m lv st (mu ++ [f]) kk)))
    else bif Nat.beq s.1 4 then sm_b tb N m (fun N' m' f => ih N' m' lv st (mu ++ [f]) kk)
    else ld tb N m s.2.1 (Int.ofNat s.2.2.1.toNat, []) (fun N' m' f => lc s.2.2.2 (fun q _ => ob (ax_nth mu q.1) (fun g => lf_add (-1) g f (fun d => ih N' m' lv st (mu ++ [d]) kk))))) src
theorem Sb.len {α : Type} {ρ ρ1 : List α} (hs : Sb ρ ρ1) : ρ.length ≤ ρ1.length := by
  by_cases q : ρ.length = 0
  · rw [q]; exact Nat.zero_le _
  · have hx : ρ[ρ.length - 1]? = some ρ[ρ.length - 1] := List.getElem?_eq_getElem (by omega)
    have := (List.getElem?_eq_some_iff.mp (hs _ _ hx)).1
    omega
theorem Mu.mono {ρ ρ' ρT : List Int} {mu : List LF} (hs : Sb ρ ρ') (h : Mu ρ mu ρT) : Mu ρ' mu ρT := ⟨h.1, fun k z hz => by obtain ⟨f, a, b⟩ := h.2 k z hz; exact ⟨f, a, b.mono hs⟩⟩
theorem Mu.app {ρ ρT : List Int} {mu : List LF} (h : Mu ρ mu ρT) {f : LF} {z : Int} (hf : Lv ρ f z) : Mu ρ (mu ++ [f]) (ρT ++ [z]) := by
  refine ⟨by simp [h.1], fun k y hy => ?_⟩
  by_cases hk : k < ρT.length
  · rw [List.getElem?_append_left hk] at hy
    obtain ⟨g, a, b⟩ := h.2 k y hy
    exact ⟨g, by rw [List.getElem?_append_left (by rw [h.1]; exact hk)]; exact a, b⟩
  · rw [List.getElem?_append_right (by omega)] at hy
    have hz : k - ρT.length < 1 := (List.getElem?_eq_some_iff.mp hy).1
    have hk0 : k = ρT.length := by omega
    subst hk0
    simp at hy
    subst hy
    exact ⟨f, by rw [← h.1]; simp, hf⟩
theorem Vk.n {sp ad : Nat → Nat} {ρ : List Int} {v : V2} {V : Value} (h : Vk sp ad ρ v V) (ht : Nat.ble v.1 1 = true) : ∃ x, Lv ρ v.2 x := by
  have := bb_le ht
  rcases (show v.1 = 0 ∨ v.1 = 1 by omega) with e | e
  · obtain ⟨x, -, a⟩ := h.i (by rw [e]; rfl); exact ⟨_, a⟩
  · obtain ⟨x, -, a⟩ := h.l (by rw [e]; rfl); exact ⟨_, a⟩
theorem Sk.nth {sp ad : Nat → Nat} {ρ : List Int} {v : V2} : ∀ {st : List V2} {SV : List Value} {k : Nat}, Sk sp ad ρ st SV → st[k]? = some v → ∃ V, Vk sp ad ρ v V
  | [], [], _, _, h => by simp at h
  | w :: r, V :: R, 0, hS, h => by simp at h; subst h; exact ⟨V, hS.1⟩
  | w :: r, V :: R, k + 1, hS, h => Sk.nth (k := k) hS.2 (by simpa using h)
theorem bds_ok {β : Type} {tb : TB} {L : LSc} {sp ad : Nat → Nat} {h0 h : PH} {bk : Bool} : ∀ (src : List SRC) {ρ : List Int} {N : NS} {m : MM} {lv : L2} {st : List V2} {LV : LVs} {SV : List Value} {mu : List LF} {ρT : List Int} {kk : NS → MM → List LF → Option β} {r : β}, Ga tb L sp ad ρ h0 h (N, m, lv, st) LV SV → Mu ρ mu ρT → (bk = true → src.length + mu.length ≤ ρ.length) → bds tb bk src N m lv st mu kk = some r → ∃ N' m' mu' ρ' ρT', kk N' m' mu' = some r ∧ Sb ρ ρ' ∧ Ga tb L sp ad ρ' h0 h (N', m', lv, st) LV SV ∧ Mu ρ' mu' ρT' ∧ ρT'.length = ρT.length + src.length ∧ Sb mu mu'
  | [], ρ, N, m, lv, st, LV, SV, mu, ρT, kk, r, hG, hM, _, hr => ⟨N, m, mu, ρ, ρT, hr, Sb.rf ρ, hG, hM, rfl, Sb.rf mu⟩
  | s :: t, ρ, N, m, lv, st, LV, SV, mu, ρT, kk, r, hG, hM, hbk, hr => by
    have hr : (bif Nat.ble s.1 1 then (bif Nat.beq s.1 0 then ob (lk2 lv s.2.1) (fun v => gd (Nat.ble v.1 1) (lf_nv N.1 v.2 (fun f => bds tb bk t N m lv st (mu ++ [f]) kk)))
      else gd (lf_wf mu.length s.2.2) (sbf mu mu.length 0 s.2.2 (fun I => gd (pv1 N I) (ld tb N m s.2.1 I (fun N' m' f => bds tb bk t N' m' lv st (mu ++ [f]) kk)))))
    else bif Nat.beq s.1 2 then (bif bk then bds tb bk t N m lv st (mu ++ [(0, [(mu.length, 1)])]) kk else ob (ax_nth mu s.2.1) (fun f => bds tb bk t N m lv st (mu ++ [f]) kk))
    else bif Nat.beq s.1 3 then ob (ax_nth st s.2.1) (fun v => gd (Nat.ble v.1 1) (lf_nv N.1 v.2 (fun f => bds tb bk t N m lv st (mu ++ [f]) kk)))
    else bif Nat.beq s.1 4 then sm_b tb N m (fun N' m' f => bds tb bk t N' m' lv st (mu ++ [f]) kk)
    else ld tb N m s.2.1 (Int.ofNat s.2.2.1.toNat, []) (fun N' m' f => lc s.2.2.2 (fun q _ => ob (ax_nth mu q.1) (fun g => lf_add (-1) g f (fun d => bds tb bk t N' m' lv st (mu ++ [d]) kk))))) = some r := hr
    -- one more, and the rest
    have STEP : ∀ {ρ1 : List Int} {N1 : NS} {m1 : MM} {f : LF} {z : Int}, Sb ρ ρ1 → Ga tb L sp ad ρ1 h0 h (N1, m1, lv, st) LV SV → Lv ρ1 f z → bds tb bk t N1 m1 lv st (mu ++ [f]) kk = some r → ∃ N' m' mu' ρ' ρT', kk N' m' mu' = some r ∧ Sb ρ ρ' ∧ Ga tb L sp ad ρ' h0 h (N', m', lv, st) LV SV ∧ Mu ρ' mu' ρT' ∧ ρT'.length = ρT.length + (s :: t).length ∧ Sb mu mu' := fun hs hG1 hf hr1 => by
      obtain ⟨N', m', mu', ρ', ρT', a1, a2, a3, a4, a5, a6⟩ := bds_ok t hG1 ((hM.mono hs).app hf) (fun hb => by
        have := hbk hb
        have hl := hs.len
        rw [List.length_append, List.length_singleton]
        simp only [List.length_cons] at this
        omega) hr1
      exact ⟨N', m', mu', ρ', ρT', a1, hs.tr a2, a3, a4, by rw [a5, List.length_append, List.length_singleton, List.length_cons]; omega, (Sb.app _ _).tr a6⟩
    obtain ⟨hN, hm, hT, hL, hS⟩ := id hG
    cases h1 : Nat.ble s.1 1 with
    | true =>
      rw [h1] at hr
      simp only [cond_true] at hr
      cases h2 : Nat.beq s.1 0 with
      | true =>
        rw [h2] at hr
        obtain ⟨v, v1, hr⟩ := ob_s (o := lk2 lv s.2.1) hr
        obtain ⟨g1, hr⟩ := gd_s hr
        obtain ⟨f, f1, f2⟩ := lf_nv_ok hN.1 v.2 (fun f => bds tb bk t N m lv st (mu ++ [f]) kk)
        rw [f1] at hr
        obtain ⟨V, V1, V2⟩ := lk2_ok hL v1
        obtain ⟨x, hx⟩ := V2.n g1
        exact STEP (Sb.rf ρ) hG (f2 x hx) hr
      | false =>
        rw [h2] at hr
        obtain ⟨g1, hr⟩ := gd_s (b := lf_wf mu.length s.2.2) hr
        obtain ⟨I, i, g2, g3, g4⟩ := sbk hM hM.1 g1 (fun I => gd (pv1 N I) (ld tb N m s.2.1 I (fun N' m' f => bds tb bk t N' m' lv st (mu ++ [f]) kk)))
        rw [g2] at hr
        obtain ⟨g5, hr⟩ := gd_s hr
        obtain ⟨N1, m1, f, ρ1, e1, e2, e3, e4, e5⟩ := ld_ok hN hm hT g4 (pv1_ok hN g5 g4) hr
        exact STEP e2 ⟨e3, e4, hT, hL.mono e2, hS.mono e2⟩ e5 e1
    | false =>
      rw [h1] at hr
      simp only [cond_false] at hr
      cases h2 : Nat.beq s.1 2 with
      | true =>
        rw [h2] at hr
        simp only [cond_true] at hr
        cases hb : bk with
        | true =>
          rw [hb] at hr
          simp only [cond_true] at hr
          have hl := hbk hb
          simp only [List.length_cons] at hl
          have hk : mu.length < ρ.length := by omega
          rw [← hb] at hr
          exact STEP (Sb.rf ρ) hG (Lv.v (List.getElem?_eq_getElem hk)) hr
        | false =>
          rw [hb] at hr
          simp only [cond_false] at hr
          obtain ⟨f, f1, hr⟩ := ob_s hr
          rw [ax_nth_eq] at f1
          have hk := (List.getElem?_eq_some_iff.mp f1).1
          rw [hM.1] at hk
          obtain ⟨f', a, b⟩ := hM.2 s.2.1 _ (List.getElem?_eq_getElem hk)
          rw [f1] at a
          cases a
          rw [← hb] at hr
          exact STEP (Sb.rf ρ) hG b hr
      | false =>
        rw [h2] at hr
        simp only [cond_false] at hr
        cases h3 : Nat.beq s.1 3 with
        | true =>
          rw [h3] at hr
          obtain ⟨v, v1, hr⟩ := ob_s (o := ax_nth st s.2.1) hr
          obtain ⟨g1, hr⟩ := gd_s hr
          rw [ax_nth_eq] at v1
          obtain ⟨f, f1, f2⟩ := lf_nv_ok hN.1 v.2 (fun f => bds tb bk t N m lv st (mu ++ [f]) kk)
          rw [f1] at hr
          obtain ⟨V, V2⟩ := Sk.nth hS v1
          obtain ⟨x, hx⟩ := V2.n g1
          exact STEP (Sb.rf ρ) hG (f2 x hx) hr
        | false =>
          rw [h3] at hr
          simp only [cond_false] at hr
          cases h4 : Nat.beq s.1 4 with
          | true =>
            rw [h4] at hr
            simp only [cond_true] at hr
            unfold sm_b at hr
            cases hs : m.2.2.2.2.1 with
            | cons f l =>
              rw [hs] at hr
              obtain ⟨n, n1, n2⟩ := hm.2.2.2.2.1 f (by rw [hs]; exact List.mem_cons_self)
              obtain ⟨q, q1, hr⟩ := ob_s (o := sm_r tb) hr
              have b := sm_r_ok hT q1
              obtain ⟨N1, a1, a2⟩ := asm_ok hN (n1.dec q.1) (by omega) hr
              exact STEP (Sb.rf ρ) ⟨a2, hm, hT, hL, hS⟩ n1 a1
            | nil =>
              rw [hs] at hr
              obtain ⟨q, q1, hr⟩ := ob_s (o := sm_r tb) hr
              have b := sm_r_ok hT q1
              obtain ⟨N1, f, e1, e2, e3, e4⟩ := nwv_ok hN (fun N' f => bds tb bk t N' (m.1, m.2.1, m.2.2.1, m.2.2.2.1, [f], m.2.2.2.2.2) lv st (mu ++ [f]) kk) b.1 b.2
              have hr : nwv N q.1 q.2 (fun N' f => bds tb bk t N' (m.1, m.2.1, m.2.2.1, m.2.2.2.1, [f], m.2.2.2.2.2) lv st (mu ++ [f]) kk) = some r := hr
              rw [e1] at hr
              have hm' := hm.mono e2
              exact STEP (m1 := (m.1, m.2.1, m.2.2.1, m.2.2.2.1, [f], m.2.2.2.2.2)) e2 ⟨e3, ⟨hm'.1, hm'.2.1, hm'.2.2.1, hm'.2.2.2.1, fun g hg => by obtain rfl := List.mem_singleton.mp hg; exact ⟨_, e4, rfl⟩, hm'.2.2.2.2.2⟩, hT, hL.mono e2, hS.mono e2⟩ e4 hr
          | false =>
            rw [h4] at hr
            simp only [cond_false] at hr
            obtain ⟨N1, m1, f, ρ1, e1, e2, e3, e4, e5⟩ := ld_ok hN hm hT (Lv.c ρ (Int.ofNat s.2.2.1.toNat)) (Int.natCast_nonneg _) hr
            obtain ⟨q, qt, eq1, e1a⟩ := lc_s e1
            obtain ⟨g, g1, e1b⟩ := ob_s e1a
            rw [ax_nth_eq] at g1
            have hk := (List.getElem?_eq_some_iff.mp g1).1
            rw [hM.1] at hk
            obtain ⟨f', a, b⟩ := hM.2 q.1 _ (List.getElem?_eq_getElem hk)
            rw [g1] at a
            cases a
            obtain ⟨d, d1, d2⟩ := lf_add_ok (-1) g f (fun d => bds tb bk t N1 m1 lv st (mu ++ [d]) kk)
            rw [d1] at e1b
            exact STEP e2 ⟨e3, e4, hT, hL.mono e2, hS.mono e2⟩ (d2 ρ1 _ _ (b.mono e2) e5) e1b
/-! an end of a unit, here -/
noncomputable def mpk {α β : Type} (f : α → (α → β) → β) (l : List α) : (List α → β) → β := List.rec (motive := fun _ => (List α → β) → β) (fun kk => kk []) (fun x _ ih kk => f x (fun y => ih (fun r => kk (y :: r)))) l
def F2 {α : Type} (R : α → α → Prop) : List α → List α → Prop
  | [], [] => True
  | x :: l, y :: r => R x y ∧ F2 R l r
  | _, _ => False
theorem F2.mem {α : Type} {R : α → α → Prop} : ∀ {l r : List α}, F2 R l r → ∀ y ∈ r, ∃ x ∈ l, R x y
  | [], [], _, y, hy => by cases hy
  | x :: l, z :: r, h, y, hy => by
    rcases List.mem_cons.mp hy with rfl | hy
    · exact ⟨x, List.mem_cons_self, h.1⟩
    · obtain ⟨x', a, b⟩ := F2.mem h.2 y hy
      exact ⟨x', List.mem_cons_of_mem _ a, b⟩
  | [], _ :: _, h, _, _ => h.elim
  | _ :: _, [], h, _, _ => h.elim
theorem mpk_ok {α β : Type} {f : α → (α → β) → β} {R : α → α → Prop} (hf : ∀ x kk, ∃ y, f x kk = kk y ∧ R x y) : ∀ (l : List α) (kk : List α → β), ∃ l', mpk f l kk = kk l' ∧ F2 R l l'
  | [], kk => ⟨[], rfl, trivial⟩
  | x :: t, kk => by
    obtain ⟨y, e1, e2⟩ := hf x (fun y => mpk f t (fun r => kk (y :: r)))
    obtain ⟨l', e3, e4⟩ := mpk_ok hf t (fun r => kk (y :: r))
    exact ⟨y :: l', e1.trans e3, e2, e4⟩
/-- a form's value is kept -/
def Lr (mu : List LF) (n b : Nat) (f g : LF) : Prop := ∀ (ρA ρT e : List Int) (x : Int), Mu ρA mu ρT → n = ρT.length → b = ρA.length → Lv (ρT ++ e) f x → Lv (ρA ++ e) g x
theorem sbf_r {β : Type} (mu : List LF) (n b : Nat) (f : LF) (kk : LF → β) : ∃ g, sbf mu n b f kk = kk g ∧ Lr mu n b f g := sbf_ok mu n b f kk
noncomputable def sb_ce {β : Type} (mu : List LF) (n b : Nat) (e : CE) (kk : CE → β) : β := sbf mu n b e.2.1 (fun I => sbf mu n b e.2.2 (fun v => kk (e.1, I, v)))
noncomputable def sb_ge {β : Type} (mu : List LF) (n b : Nat) (e : GE) (kk : GE → β) : β := sbf mu n b e.2 (fun I => kk (e.1, I))
noncomputable def sb_qe {β : Type} (mu : List LF) (n b : Nat) (e : QE) (kk : QE → β) : β := sbf mu n b e.1.2 (fun I => sbf mu n b e.2.1.2 (fun J => sbf mu n b e.2.2 (fun k => kk ((e.1.1, I), (e.2.1.1, J), k))))
noncomputable def sb_v {β : Type} (mu : List LF) (n b : Nat) (v : V2) (kk : V2 → β) : β := bif Nat.ble v.1 1 then sbf mu n b v.2 (fun I => kk (v.1, I)) else kk v
noncomputable def sb_l {β : Type} (mu : List LF) (n b : Nat) (v : Nat × V2) (kk : Nat × V2 → β) : β := sb_v mu n b v.2 (fun w => kk (v.1, w))
/-- an end of a unit, put here -/
noncomputable def ap {β : Type} (tb : TB) (N : NS) (m : MM) (mu : List LF) (W : List WE) (o : ST) (kk : NS → MM → L2 → List V2 → Option β) : Option β := ax_fc mu.length (fun n => ax_fc N.1.length (fun b =>
    mpk (sbf mu n b) o.2.1 (fun fc => mpk (sbf mu n b) o.2.2.1 (fun ne => mpk (sb_ce mu n b) o.2.2.2.1 (fun ca => mpk (sb_ge mu n b) o.2.2.2.2.1 (fun gf => mpk (sb_qe mu n b) o.2.2.2.2.2.1 (fun eq => mpk (sbf mu n b) o.2.2.2.2.2.2.1 (fun sm => mpk (sb_l mu n b) o.2.2.2.2.2.2.2.1 (fun lv => mpk (sb_v mu n b) o.2.2.2.2.2.2.2.2 (fun st =>
      keepW tb W N m (fun m' => kk (N.1 ++ o.1, fc ++ N.2.1, ne ++ N.2.2) (ca ++ m'.1, gf ++ m'.2.1, eq ++ m'.2.2.1, m'.2.2.2.1, (bif isnil sm then m'.2.2.2.2.1 else sm), m'.2.2.2.2.2) lv st)))))))))))
theorem F2.lk {sp ad : Nat → Nat} {ρ ρ' : List Int} {R : Nat × V2 → Nat × V2 → Prop} (hR : ∀ x y, R x y → x.1 = y.1 ∧ ∀ V, Vk sp ad ρ x.2 V → Vk sp ad ρ' y.2 V) : ∀ {l r : L2} {LV : LVs}, F2 R l r → Lk sp ad ρ l LV → Lk sp ad ρ' r LV
  | [], [], [], _, _ => trivial
  | x :: l, y :: r, V :: LV, h, hL => ⟨⟨(hR x y h.1).1.symm.trans hL.1.1, (hR x y h.1).2 _ hL.1.2⟩, F2.lk hR h.2 hL.2⟩
theorem F2.sk {sp ad : Nat → Nat} {ρ ρ' : List Int} {R : V2 → V2 → Prop} (hR : ∀ x y, R x y → ∀ V, Vk sp ad ρ x V → Vk sp ad ρ' y V) : ∀ {l r : List V2} {SV : List Value}, F2 R l r → Sk sp ad ρ l SV → Sk sp ad ρ' r SV
  | [], [], [], _, _ => trivial
  | x :: l, y :: r, V :: SV, h, hL => ⟨hR x y h.1 _ hL.1, F2.sk hR h.2 hL.2⟩
def Vr (mu : List LF) (n b : Nat) (x y : V2) : Prop := x.1 = y.1 ∧ (Nat.ble x.1 1 = true → Lr mu n b x.2 y.2) ∧ (Nat.ble x.1 1 = false → x = y)
theorem sb_v_r {β : Type} (mu : List LF) (n b : Nat) (v : V2) (kk : V2 → β) : ∃ w, sb_v mu n b v kk = kk w ∧ Vr mu n b v w := by
  unfold sb_v
  cases h : Nat.ble v.1 1 with
  | true =>
    obtain ⟨g, e1, e2⟩ := sbf_r mu n b v.2 (fun I => kk (v.1, I))
    exact ⟨(v.1, g), e1, rfl, fun _ => e2, fun q => by rw [h] at q; cases q⟩
  | false => exact ⟨v, rfl, rfl, (fun q => by rw [h] at q; cases q), fun _ => rfl⟩
theorem Vr.ok {sp ad : Nat → Nat} {mu : List LF} {n b : Nat} {x y : V2} (h : Vr mu n b x y) {ρA ρT e : List Int} (hM : Mu ρA mu ρT) (hn : n = ρT.length) (hb : b = ρA.length) (V : Value) (hV : Vk sp ad (ρT ++ e) x V) : Vk sp ad (ρA ++ e) y V := by
  obtain ⟨h1, h2, h3⟩ := h
  obtain ⟨t, f⟩ := x
  obtain ⟨t', g⟩ := y
  have h1 : t = t' := h1
  subst h1
  cases hb2 : Nat.ble t 1 with
  | true =>
    have hl := h2 hb2
    rcases (show t = 0 ∨ t = 1 by have := bb_le hb2; omega) with rfl | rfl
    · obtain ⟨x, a, c⟩ := hV
      exact ⟨x, a, hl ρA ρT e _ hM hn hb c⟩
    · obtain ⟨x, a, c⟩ := hV
      exact ⟨x, a, hl ρA ρT e _ hM hn hb c⟩
  | false =>
    have := h3 hb2
    have : f = g := congrArg Prod.snd this
    subst this
    have n2 := bb_nle hb2
    unfold Vk at hV ⊢
    split at hV
    · next e => have e : t = 0 := e; omega
    · next e => have e : t = 1 := e; omega
    · next e => have e : t = 2 := e; subst e; exact hV
    · next e => have e : t = 6 := e; subst e; exact hV
    · next e => have e : t = 7 := e; subst e; exact hV
    · exact hV.elim
theorem Sr.app2 {ρ ρT e : List Int} {σ σT σo : SG} (h : Sr ρ σ) (hT : ρT.length = σT.length) (h2 : Sr (ρT ++ e) (σT ++ σo)) : Sr (ρ ++ e) (σ ++ σo) := by
  have hl := h2.1
  rw [List.length_append, List.length_append] at hl
  refine ⟨by rw [List.length_append, List.length_append, h.1]; omega, fun k z hz => ?_⟩
  by_cases hk : k < ρ.length
  · rw [List.getElem?_append_left hk] at hz
    obtain ⟨q, a, b⟩ := h.2 k z hz
    exact ⟨q, by rw [List.getElem?_append_left (by rw [← h.1]; exact hk)]; exact a, b⟩
  · rw [List.getElem?_append_right (by omega)] at hz
    obtain ⟨q, a, b⟩ := h2.2 (ρT.length + (k - ρ.length)) z (by rw [List.getElem?_append_right (by omega), Nat.add_sub_cancel_left]; exact hz)
    rw [List.getElem?_append_right (by omega)] at a
    exact ⟨q, by rw [List.getElem?_append_right (by have := h.1; omega), ← h.1]; rw [show ρT.length + (k - ρ.length) - σT.length = k - ρ.length by omega] at a; exact a, b⟩
theorem ap_ok {β : Type} {tb : TB} {L : LSc} {sp ad : Nat → Nat} {ρ ρT e : List Int} {h0 h h' : PH} {N : NS} {m : MM} {mu : List LF} {W : List WE} {o : ST} {σT : SG} {LV' : LVs} {SV' : List Value} (hN : Nk ρ N) (hm : Mk tb L ρ h0 h m) (hM : Mu ρ mu ρT) (hσ : ρT.length = σT.length) (hO : Ga tb L sp ad (ρT ++ e) h h' (tO σT W o) LV' SV') {kk : NS → MM → L2 → List V2 → Option β} {r : β} (hr : ap tb N m mu W o kk = some r) : ∃ N' m' lv' st', kk N' m' lv' st' = some r ∧ Ga tb L sp ad (ρ ++ e) h0 h' (N', m', lv', st') LV' SV' := by
  unfold ap at hr
  rw [ax_fc_eq, ax_fc_eq] at hr
  obtain ⟨oN, om, oT, oL, oS⟩ := hO
  have hn := hM.1
  have hb : N.1.length = ρ.length := hN.1.1.symm
  obtain ⟨fc, a1, a2⟩ := mpk_ok (sbf_r mu mu.length N.1.length) o.2.1 (fun fc => mpk (sbf mu mu.length N.1.length) o.2.2.1 (fun ne => mpk (sb_ce mu mu.length N.1.length) o.2.2.2.1 (fun ca => mpk (sb_ge mu mu.length N.1.length) o.2.2.2.2.1 (fun gf => mpk (sb_qe mu mu.length N.1.length) o.2.2.2.2.2.1 (fun eq => mpk (sbf mu mu.length N.1.length) o.2.2.2.2.2.2.1 (fun sm => mpk (sb_l mu mu.length N.1.length) o.2.2.2.2.2.2.2.1 (fun lv => mpk (sb_v mu mu.length N.1.length) o.2.2.2.2.2.2.2.2 (fun st =>
      keepW tb W N m (fun m' => kk (N.1 ++ o.1, fc ++ N.2.1, ne ++ N.2.2) (ca ++ m'.1, gf ++ m'.2.1, eq ++ m'.2.2.1, m'.2.2.2.1, (bif isnil sm then m'.2.2.2.2.1 else sm), m'.2.2.2.2.2) lv st)))))))))
  rw [a1] at hr
  obtain ⟨ne, b1, b2⟩ := mpk_ok (sbf_r mu mu.length N.1.length) o.2.2.1 (fun ne => mpk (sb_ce mu mu.length N.1.length) o.2.2.2.1 (fun ca => mpk (sb_ge mu mu.length N.1.length) o.2.2.2.2.1 (fun gf => mpk (sb_qe mu mu.length N.1.length) o.2.2.2.2.2.1 (fun eq => mpk (sbf mu mu.length N.1.length) o.2.2.2.2.2.2.1 (fun sm => mpk (sb_l mu mu.length N.1.length) o.2.2.2.2.2.2.2.1 (fun lv => mpk (sb_v mu mu.length N.1.length) o.2.2.2.2.2.2.2.2 (fun st =>
      keepW tb W N m (fun m' => kk (N.1 ++ o.1, fc ++ N.2.1, ne ++ N.2.2) (ca ++ m'.1, gf ++ m'.2.1, eq ++ m'.2.2.1, m'.2.2.2.1, (bif isnil sm then m'.2.2.2.2.1 else sm), m'.2.2.2.2.2) lv st))))))))
  rw [b1] at hr
  obtain ⟨ca, c1, c2⟩ := mpk_ok (R := fun x y => x.1 = y.1 ∧ Lr mu mu.length N.1.length x.2.1 y.2.1 ∧ Lr mu mu.length N.1.length x.2.2 y.2.2) (f := sb_ce mu mu.length N.1.length) (fun x kk => by
    obtain ⟨I, i1, i2⟩ := sbf_r mu mu.length N.1.length x.2.1 (fun I => sbf mu mu.length N.1.length x.2.2 (fun v => kk (x.1, I, v)))
    obtain ⟨v, v1, v2⟩ := sbf_r mu mu.length N.1.length x.2.2 (fun v => kk (x.1, I, v))
    exact ⟨(x.1, I, v), i1.trans v1, rfl, i2, v2⟩) o.2.2.2.1 (fun ca => mpk (sb_ge mu mu.length N.1.length) o.2.2.2.2.1 (fun gf => mpk (sb_qe mu mu.length N.1.length) o.2.2.2.2.2.1 (fun eq => mpk (sbf mu mu.length N.1.length) o.2.2.2.2.2.2.1 (fun sm => mpk (sb_l mu mu.length N.1.length) o.2.2.2.2.2.2.2.1 (fun lv => mpk (sb_v mu mu.length N.1.length) o.2.2.2.2.2.2.2.2 (fun st =>
      keepW tb W N m (fun m' => kk (N.1 ++ o.1, fc ++ N.2.1, ne ++ N.2.2) (ca ++ m'.1, gf ++ m'.2.1, eq ++ m'.2.2.1, m'.2.2.2.1, (bif isnil sm then m'.2.2.2.2.1 else sm), m'.2.2.2.2.2) lv st)))))))
  rw [c1] at hr
  obtain ⟨gf, d1, d2⟩ := mpk_ok (R := fun x y => x.1 = y.1 ∧ Lr mu mu.length N.1.length x.2 y.2) (f := sb_ge mu mu.length N.1.length) (fun x kk => by
    obtain ⟨I, i1, i2⟩ := sbf_r mu mu.length N.1.length x.2 (fun I => kk (x.1, I))
    exact ⟨(x.1, I), i1, rfl, i2⟩) o.2.2.2.2.1 (fun gf => mpk (sb_qe mu mu.length N.1.length) o.2.2.2.2.2.1 (fun eq => mpk (sbf mu mu.length N.1.length) o.2.2.2.2.2.2.1 (fun sm => mpk (sb_l mu mu.length N.1.length) o.2.2.2.2.2.2.2.1 (fun lv => mpk (sb_v mu mu.length N.1.length) o.2.2.2.2.2.2.2.2 (fun st =>
      keepW tb W N m (fun m' => kk (N.1 ++ o.1, fc ++ N.2.1, ne ++ N.2.2) (ca ++ m'.1, gf ++ m'.2.1, eq ++ m'.2.2.1, m'.2.2.2.1, (bif isnil sm then m'.2.2.2.2.1 else sm), m'.2.2.2.2.2) lv st))))))
  rw [d1] at hr
  obtain ⟨eq, q1, q2⟩ := mpk_ok (R := fun x y => (x.1.1 = y.1.1 ∧ x.2.1.1 = y.2.1.1) ∧ Lr mu mu.length N.1.length x.1.2 y.1.2 ∧ Lr mu mu.length N.1.length x.2.1.2 y.2.1.2 ∧ Lr mu mu.length N.1.length x.2.2 y.2.2) (f := sb_qe mu mu.length N.1.length) (fun x kk => by
    obtain ⟨I, i1, i2⟩ := sbf_r mu mu.length N.1.length x.1.2 (fun I => sbf mu mu.length N.1.length x.2.1.2 (fun J => sbf mu mu.length N.1.length x.2.2 (fun k => kk ((x.1.1, I), (x.2.1.1, J), k))))
    obtain ⟨J, j1, j2⟩ := sbf_r mu mu.length N.1.length x.2.1.2 (fun J => sbf mu mu.length N.1.length x.2.2 (fun k => kk ((x.1.1, I), (x.2.1.1, J), k)))
    obtain ⟨k, k1, k2⟩ := sbf_r mu mu.length N.1.length x.2.2 (fun k => kk ((x.1.1, I), (x.2.1.1, J), k))
    exact ⟨((x.1.1, I), (x.2.1.1, J), k), i1.trans (j1.trans k1), ⟨rfl, rfl⟩, i2, j2, k2⟩) o.2.2.2.2.2.1 (fun eq => mpk (sbf mu mu.length N.1.length) o.2.2.2.2.2.2.1 (fun sm => mpk (sb_l mu mu.length N.1.length) o.2.2.2.2.2.2.2.1 (fun lv => mpk (sb_v mu mu.length N.1.length) o.2.2.2.2.2.2.2.2 (fun st =>
      keepW tb W N m (fun m' => kk (N.1 ++ o.1, fc ++ N.2.1, ne ++ N.2.2) (ca ++ m'.1, gf ++ m'.2.1, eq ++ m'.2.2.1, m'.2.2.2.1, (bif isnil sm then m'.2.2.2.2.1 else sm), m'.2.2.2.2.2) lv st)))))
  rw [q1] at hr
  obtain ⟨sm, s1, s2⟩ := mpk_ok (sbf_r mu mu.length N.1.length) o.2.2.2.2.2.2.1 (fun sm => mpk (sb_l mu mu.length N.1.length) o.2.2.2.2.2.2.2.1 (fun lv => mpk (sb_v mu mu.length N.1.length) o.2.2.2.2.2.2.2.2 (fun st =>
      keepW tb W N m (fun m' => kk (N.1 ++ o.1, fc ++ N.2.1, ne ++ N.2.2) (ca ++ m'.1, gf ++ m'.2.1, eq ++ m'.2.2.1, m'.2.2.2.1, (bif isnil sm then m'.2.2.2.2.1 else sm), m'.2.2.2.2.2) lv st))))
  rw [s1] at hr
  obtain ⟨lv, l1, l2⟩ := mpk_ok (R := fun x y => x.1 = y.1 ∧ Vr mu mu.length N.1.length x.2 y.2) (f := sb_l mu mu.length N.1.length) (fun x kk => by
    obtain ⟨w, w1, w2⟩ := sb_v_r mu mu.length N.1.length x.2 (fun w => kk (x.1, w))
    exact ⟨(x.1, w), w1, rfl, w2⟩) o.2.2.2.2.2.2.2.1 (fun lv => mpk (sb_v mu mu.length N.1.length) o.2.2.2.2.2.2.2.2 (fun st =>
      keepW tb W N m (fun m' => kk (N.1 ++ o.1, fc ++ N.2.1, ne ++ N.2.2) (ca ++ m'.1, gf ++ m'.2.1, eq ++ m'.2.2.1, m'.2.2.2.1, (bif isnil sm then m'.2.2.2.2.1 else sm), m'.2.2.2.2.2) lv st)))
  rw [l1] at hr
  obtain ⟨st, t1, t2⟩ := mpk_ok (sb_v_r mu mu.length N.1.length) o.2.2.2.2.2.2.2.2 (fun st =>
      keepW tb W N m (fun m' => kk (N.1 ++ o.1, fc ++ N.2.1, ne ++ N.2.2) (ca ++ m'.1, gf ++ m'.2.1, eq ++ m'.2.2.1, m'.2.2.2.1, (bif isnil sm then m'.2.2.2.2.1 else sm), m'.2.2.2.2.2) lv st))
  rw [t1] at hr
  have hW : ∀ c k, Wout W c k → h' c k = h c k := fun c k hw => om.2.2.2.1 c k hw
  obtain ⟨m', k1, k2⟩ := keepW_ok (h' := h') hN hm hW (fun m' => kk (N.1 ++ o.1, fc ++ N.2.1, ne ++ N.2.2) (ca ++ m'.1, gf ++ m'.2.1, eq ++ m'.2.2.1, m'.2.2.2.1, (bif isnil sm then m'.2.2.2.2.1 else sm), m'.2.2.2.2.2) lv st)
  rw [k1] at hr
  have k3 := k2.mono (Sb.app ρ e)
  refine ⟨_, _, _, _, hr, ⟨hN.1.app2 hσ oN.1, fun f hf => ?_, fun f hf => ?_⟩, ⟨fun c hc => ?_, fun c hc => ?_, fun c hc => ?_, k3.2.2.2.1, fun f hf => ?_, k3.2.2.2.2.2⟩, oT, ?_, ?_⟩
  · rcases List.mem_append.mp hf with hf | hf
    · obtain ⟨x, x1, x2⟩ := F2.mem a2 f hf
      obtain ⟨y, y1, y2⟩ := oN.2.1 x x1
      exact ⟨y, x2 ρ ρT e y hM hn hb y1, y2⟩
    · obtain ⟨y, y1, y2⟩ := hN.2.1 f hf
      exact ⟨y, y1.mono (Sb.app ρ e), y2⟩
  · rcases List.mem_append.mp hf with hf | hf
    · obtain ⟨x, x1, x2⟩ := F2.mem b2 f hf
      obtain ⟨y, y1, y2⟩ := oN.2.2 x x1
      exact ⟨y, x2 ρ ρT e y hM hn hb y1, y2⟩
    · obtain ⟨y, y1, y2⟩ := hN.2.2 f hf
      exact ⟨y, y1.mono (Sb.app ρ e), y2⟩
  · rcases List.mem_append.mp hc with hc | hc
    · obtain ⟨x, x1, x2, x3, x4⟩ := F2.mem c2 c hc
      obtain ⟨i, y, z1, z2, z3, z4⟩ := om.1 x x1
      exact ⟨i, y, x3 ρ ρT e i hM hn hb z1, z2, x4 ρ ρT e y hM hn hb z3, by rw [← x2]; exact z4⟩
    · exact k3.1 c hc
  · rcases List.mem_append.mp hc with hc | hc
    · obtain ⟨x, x1, x2, x3⟩ := F2.mem d2 c hc
      obtain ⟨y, z1, z2⟩ := om.2.1 x x1
      exact ⟨y, x3 ρ ρT e y hM hn hb z1, by rw [← x2]; exact z2⟩
    · exact k3.2.1 c hc
  · rcases List.mem_append.mp hc with hc | hc
    · obtain ⟨x, x1, ⟨x2, x2'⟩, x3, x4, x5⟩ := F2.mem q2 c hc
      obtain ⟨i, j, y, z1, z2, z3, z4⟩ := om.2.2.1 x x1
      exact ⟨i, j, y, x3 ρ ρT e i hM hn hb z1, x4 ρ ρT e j hM hn hb z2, x5 ρ ρT e y hM hn hb z3, by rw [← x2, ← x2']; exact z4⟩
    · exact k3.2.2.1 c hc
  · have hf : f ∈ (bif isnil sm then m'.2.2.2.2.1 else sm) := hf
    cases hs : sm with
    | nil =>
      rw [hs] at hf
      exact k3.2.2.2.2.1 f hf
    | cons g t =>
      rw [hs] at hf
      have hf : f ∈ sm := by rw [hs]; exact hf
      obtain ⟨x, x1, x2⟩ := F2.mem s2 f hf
      obtain ⟨y, y1, y2⟩ := om.2.2.2.2.1 x x1
      exact ⟨y, x2 ρ ρT e y hM hn hb y1, y2⟩
  · exact F2.lk (fun x y hxy => ⟨hxy.1, fun V hV => hxy.2.ok hM hn hb V hV⟩) l2 oL
  · exact F2.sk (fun x y hxy V hV => hxy.ok hM hn hb V hV) t2 oS
