/-! THE MACHINE BY FORMS, 1: rows that are good, read -/
abbrev J3 : Type := (Int × Int) × (Int × Int) × (Int × Int)
noncomputable def jn {β : Type} (a b : Int × Int) (kk : Int × Int → β) : β := i_fc (i_min a.1 b.1) (fun x => i_fc (i_max a.2 b.2) (fun y => kk (x, y)))
/-- may the kind v be the entry's -/
noncomputable def rt_m (N : NS) (fm : Nat) (v : LF) (e : Nat × Int × (Int × Int) × (Int × Int)) : Bool := Nat.beq e.1 fm && (i_le (lf_lo N.1 v) e.2.1 && (i_le e.2.1 (lf_hi N.1 v) && lf_sc (-1) v e.2.1 (fun nd => !(pvn N (v.1 - e.2.1, v.2) nd))))
noncomputable def rt_j {β : Type} (N : NS) (fm : Nat) (v : LF) (l : RT) : Option J3 → (Option J3 → β) → β := List.rec (motive := fun _ => Option J3 → (Option J3 → β) → β) (fun a kk => kk a) (fun e _ ih a kk => bif rt_m N fm v e then (match a with
    | none => ih (some ((e.2.1, e.2.1), e.2.2.1, e.2.2.2)) kk
    | some J => jn J.1 (e.2.1, e.2.1) (fun x => jn J.2.1 e.2.2.1 (fun y => jn J.2.2 e.2.2.2 (fun z => ih (some (x, y, z)) kk)))) else ih a kk) l
def J3in (J : J3) (k a b : Int) : Prop := (J.1.1 ≤ k ∧ k ≤ J.1.2) ∧ (J.2.1.1 ≤ a ∧ a ≤ J.2.1.2) ∧ (J.2.2.1 ≤ b ∧ b ≤ J.2.2.2)
theorem jn_ok {β : Type} (a b : Int × Int) (kk : Int × Int → β) : ∃ q, jn a b kk = kk q ∧ ∀ x, (a.1 ≤ x ∧ x ≤ a.2) ∨ (b.1 ≤ x ∧ x ≤ b.2) → q.1 ≤ x ∧ x ≤ q.2 := by
  unfold jn
  rw [i_fc_eq, i_fc_eq]
  have m1 := i_min_ok a.1 b.1
  have m2 := i_max_ok a.2 b.2
  refine ⟨_, rfl, fun x hx => ?_⟩
  dsimp only
  omega
theorem rt_j_ok {β : Type} {N : NS} {fm : Nat} {v : LF} : ∀ (l : RT) (a : Option J3) (kk : Option J3 → β), ∃ a', rt_j N fm v l a kk = kk a' ∧ (∀ J k x y, a = some J → J3in J k x y → ∃ J', a' = some J' ∧ J3in J' k x y) ∧ ∀ e ∈ l, rt_m N fm v e = true → ∀ x y, e.2.2.1.1 ≤ x → x ≤ e.2.2.1.2 → e.2.2.2.1 ≤ y → y ≤ e.2.2.2.2 → ∃ J', a' = some J' ∧ J3in J' e.2.1 x y
  | [], a, kk => ⟨a, rfl, fun J k x y h1 h2 => ⟨J, h1, h2⟩, fun e he => by cases he⟩
  | e :: t, a, kk => by
    cases hm : rt_m N fm v e with
    | false =>
      obtain ⟨a', e1, e2, e3⟩ := rt_j_ok t a kk
      refine ⟨a', ?_, e2, fun e' he' hm' => ?_⟩
      · show (bif rt_m N fm v e then _ else rt_j N fm v t a kk) = _
        rw [hm]
        exact e1
      · rcases List.mem_cons.mp he' with rfl | he'
        · rw [hm] at hm'; cases hm'
        · exact e3 e' he' hm'
    | true =>
      cases a with
      | none =>
        obtain ⟨a', e1, e2, e3⟩ := rt_j_ok t (some ((e.2.1, e.2.1), e.2.2.1, e.2.2.2)) kk
        refine ⟨a', ?_, (fun J k x y h1 => by cases h1), fun e' he' hm' x y x1 x2 x3 x4 => ?_⟩
        · show (bif rt_m N fm v e then rt_j N fm v t (some ((e.2.1, e.2.1), e.2.2.1, e.2.2.2)) kk else _) = _
          rw [hm]
          exact e1
        · rcases List.mem_cons.mp he' with rfl | he'
          · exact e2 _ _ x y rfl ⟨⟨Int.le_refl _, Int.le_refl _⟩, ⟨x1, x2⟩, ⟨x3, x4⟩⟩
          · exact e3 e' he' hm' x y x1 x2 x3 x4
      | some J0 =>
        obtain ⟨p, p1, p2⟩ := jn_ok J0.1 (e.2.1, e.2.1) (fun x => jn J0.2.1 e.2.2.1 (fun y => jn J0.2.2 e.2.2.2 (fun z => rt_j N fm v t (some (x, y, z)) kk)))
        obtain ⟨q, q1, q2⟩ := jn_ok J0.2.1 e.2.2.1 (fun y => jn J0.2.2 e.2.2.2 (fun z => rt_j N fm v t (some (p, y, z)) kk))
        obtain ⟨s, s1, s2⟩ := jn_ok J0.2.2 e.2.2.2 (fun z => rt_j N fm v t (some (p, q, z)) kk)
        obtain ⟨a', e1, e2, e3⟩ := rt_j_ok t (some (p, q, s)) kk
        refine ⟨a', ?_, fun J k x y h1 h2 => ?_, fun e' he' hm' x y x1 x2 x3 x4 => ?_⟩
        · show (bif rt_m N fm v e then jn J0.1 (e.2.1, e.2.1) (fun x => jn J0.2.1 e.2.2.1 (fun y => jn J0.2.2 e.2.2.2 (fun z => rt_j N fm v t (some (x, y, z)) kk))) else _) = _
          rw [hm]
          exact p1.trans (q1.trans (s1.trans e1))
        · cases h1
          exact e2 _ k x y rfl ⟨p2 k (Or.inl h2.1), q2 x (Or.inl h2.2.1), s2 y (Or.inl h2.2.2)⟩
        · rcases List.mem_cons.mp he' with rfl | he'
          · exact e2 _ _ x y rfl ⟨p2 _ (Or.inr ⟨Int.le_refl _, Int.le_refl _⟩), q2 x (Or.inr ⟨x1, x2⟩), s2 y (Or.inr ⟨x3, x4⟩)⟩
          · exact e3 e' he' hm' x y x1 x2 x3 x4
/-- a form is within a range, from now on -/
noncomputable def asr {β : Type} (N : NS) (v : LF) (q : Int × Int) (pr : Option β) (kk : NS → Option β) : Option β := asm N (v.1 - q.1, v.2) pr (fun N1 => lf_sc (-1) v q.2 (fun f => asm N1 f pr kk))
theorem asr_ok {β : Type} {ρ : List Int} {N : NS} (hN : Nk ρ N) {v : LF} {x : Int} (hv : Lv ρ v x) {q : Int × Int} (h1 : q.1 ≤ x) (h2 : x ≤ q.2) {pr : Option β} {kk : NS → Option β} {r : β} (h : asr N v q pr kk = some r) : ∃ N', kk N' = some r ∧ Nk ρ N' := by
  unfold asr at h
  obtain ⟨N1, a1, a2⟩ := asm_ok hN (hv.dec q.1) (by omega) h
  obtain ⟨f, f1, f2⟩ := lf_sc_ok (-1) v q.2 (fun f => asm N1 f pr kk)
  rw [f1] at a1
  exact asm_ok a2 (f2 ρ _ hv) (by omega) a1
/-- the row of a place -/
def qof (s o : Nat) (I : LF) : LF := ((I.1 - Int.ofNat o) / Int.ofNat s, I.2.map (fun t => (t.1, t.2 / Int.ofNat s)))
/-- one row of good rows: its numbers -/
noncomputable def rf1 {β : Type} (tb : TB) (G : Nat × Nat × (Nat × Nat) × (Nat × Nat) × (Nat × Nat)) (n : LF) (e : CE) (N : NS) (m : MM) (pr : Option β) (kk : NS → Option β) : Option β :=
  bif Nat.beq e.1 G.2.2.1.1 && (lf_wf N.1.length (qof G.2.1 G.2.2.1.2 e.2.1) && (lf_sc (Int.ofNat G.2.1) (qof G.2.1 G.2.2.1.2 e.2.1) (Int.ofNat G.2.2.1.2) (fun I => lf_eq I e.2.1) && (pv1 N (qof G.2.1 G.2.2.1.2 e.2.1) && lf_add (-1) (qof G.2.1 G.2.2.1.2 e.2.1) (n.1 - 1, n.2) (pv1 N)))) then
    rt_j N G.1 e.2.2 tb.2.2.2.1 none (fun J => match J with
      | none => kk N
      | some J => asr N e.2.2 J.1 pr (fun N1 => lf_sc (Int.ofNat G.2.1) (qof G.2.1 G.2.2.1.2 e.2.1) (Int.ofNat G.2.2.2.1.2) (fun I2 => lf_sc (Int.ofNat G.2.1) (qof G.2.1 G.2.2.1.2 e.2.1) (Int.ofNat G.2.2.2.2.2) (fun I3 =>
        (match ca_fd G.2.2.2.1.1 I2 m.1 with
          | none => (match ca_fd G.2.2.2.2.1 I3 m.1 with
            | none => kk N1
            | some vb => asr N1 vb J.2.2 pr kk)
          | some va => asr N1 va J.2.1 pr (fun N2 => match ca_fd G.2.2.2.2.1 I3 m.1 with
            | none => kk N2
            | some vb => asr N2 vb J.2.2 pr kk))))))
  else kk N
theorem rf1_ok {β : Type} {tb : TB} {L : LSc} {ρ : List Int} {h0 h : PH} {N : NS} {m : MM} (hN : Nk ρ N) (hm : Mk tb L ρ h0 h m) {G : Nat × Nat × (Nat × Nat) × (Nat × Nat) × (Nat × Nat)} {n : LF} {y : Int} (hn : Lv ρ n y) (hG : ∀ k : Nat, (k : Int) < y → Rok tb.2.2.2.1 G.1 (h G.2.2.1.1 (G.2.2.1.2 + G.2.1 * k)) (h G.2.2.2.1.1 (G.2.2.2.1.2 + G.2.1 * k)) (h G.2.2.2.2.1 (G.2.2.2.2.2 + G.2.1 * k))) {e : CE} (he : e ∈ m.1) {pr : Option β} {kk : NS → Option β} {r : β} (hr : rf1 tb G n e N m pr kk = some r) : ∃ N', kk N' = some r ∧ Nk ρ N' := by
  unfold rf1 at hr
  cases hc : (Nat.beq e.1 G.2.2.1.1 && (lf_wf N.1.length (qof G.2.1 G.2.2.1.2 e.2.1) && (lf_sc (Int.ofNat G.2.1) (qof G.2.1 G.2.2.1.2 e.2.1) (Int.ofNat G.2.2.1.2) (fun I => lf_eq I e.2.1) && (pv1 N (qof G.2.1 G.2.2.1.2 e.2.1) && lf_add (-1) (qof G.2.1 G.2.2.1.2 e.2.1) (n.1 - 1, n.2) (pv1 N))))) with
  | false => rw [hc] at hr; exact ⟨N, hr, hN⟩
  | true =>
    rw [hc] at hr
    simp only [cond_true] at hr
    have w1 := bb_and hc
    have w2 := bb_and w1.2
    have w3 := bb_and w2.2
    have w4 := bb_and w3.2
    generalize qof G.2.1 G.2.2.1.2 e.2.1 = q at hr w2 w3 w4
    obtain ⟨x, hx⟩ := lf_wf_ok (ρ := ρ) w2.1 (by rw [hN.1.1]; exact Nat.le_refl _)
    have x0 := pv1_ok hN w4.1 hx
    obtain ⟨d, d1, d2⟩ := lf_add_ok (-1) q (n.1 - 1, n.2) (pv1 N)
    have w5 := w4.2
    rw [d1] at w5
    have x1 := pv1_ok hN w5 (d2 ρ _ _ hx (hn.dec 1))
    have PL : ∀ o : Nat, (Int.ofNat G.2.1 * x + Int.ofNat o).toNat = o + G.2.1 * x.toNat := fun o => by
      have e : Int.ofNat G.2.1 * x + Int.ofNat o = ((o + G.2.1 * x.toNat : Nat) : Int) := by
        rw [Int.natCast_add, Int.natCast_mul, Int.toNat_of_nonneg x0]
        show (G.2.1 : Int) * x + (o : Int) = _
        omega
      rw [e]
      rfl
    obtain ⟨I, i1, i2⟩ := lf_sc_ok (Int.ofNat G.2.1) q (Int.ofNat G.2.2.1.2) (fun I => lf_eq I e.2.1)
    have w6 := w3.1
    rw [i1] at w6
    have eI := lf_eq_ok w6
    obtain ⟨i, z, z1, z2, z3, z4⟩ := hm.1 e he
    have hi := i2 ρ _ hx
    rw [eI] at hi
    have ei := z1.fn hi
    rw [ei, bb_eq w1.1, PL] at z4
    obtain ⟨e0, f1, f2, f3, f4, f5, f6, f7⟩ := hG x.toNat (by omega)
    rw [z4] at f3
    have hmay : rt_m N G.1 e.2.2 e0 = true := by
      unfold rt_m
      have b := lf_b_ok hN.1 z3
      rw [show Nat.beq e0.1 G.1 = true from by rw [f2]; exact Nat.beq_refl _]
      have LE : ∀ a b : Int, a ≤ b → i_le a b = true := fun a b hab => by
        cases hh : i_le a b with
        | true => rfl
        | false => have := i_le_no hh; omega
      rw [LE _ _ (show lf_lo N.1 e.2.2 ≤ e0.2.1 by omega), LE _ _ (show e0.2.1 ≤ lf_hi N.1 e.2.2 by omega)]
      obtain ⟨nd, n1, n2⟩ := lf_sc_ok (-1) e.2.2 e0.2.1 (fun nd => !(pvn N (e.2.2.1 - e0.2.1, e.2.2.2) nd))
      rw [n1]
      cases hp : pvn N (e.2.2.1 - e0.2.1, e.2.2.2) nd with
      | false => rfl
      | true =>
        exfalso
        have hnd := n2 ρ _ z3
        rw [show -1 * z + e0.2.1 = -(z - e0.2.1) by omega] at hnd
        exact pvn_ok hN (z3.dec e0.2.1) hnd hp (by omega)
    obtain ⟨J, j1, -, j3⟩ := rt_j_ok (N := N) (fm := G.1) (v := e.2.2) tb.2.2.2.1 none (fun J => match J with
      | none => kk N
      | some J => asr N e.2.2 J.1 pr (fun N1 => lf_sc (Int.ofNat G.2.1) q (Int.ofNat G.2.2.2.1.2) (fun I2 => lf_sc (Int.ofNat G.2.1) q (Int.ofNat G.2.2.2.2.2) (fun I3 =>
        (match ca_fd G.2.2.2.1.1 I2 m.1 with
          | none => (match ca_fd G.2.2.2.2.1 I3 m.1 with
            | none => kk N1
            | some vb => asr N1 vb J.2.2 pr kk)
          | some va => asr N1 va J.2.1 pr (fun N2 => match ca_fd G.2.2.2.2.1 I3 m.1 with
            | none => kk N2
            | some vb => asr N2 vb J.2.2 pr kk))))))
    rw [j1] at hr
    obtain ⟨J', k1, k2⟩ := j3 e0 f1 hmay _ _ f4 f5 f6 f7
    rw [k1] at hr
    dsimp only at hr
    obtain ⟨N1, a1, a2⟩ := asr_ok hN z3 (by have := k2.1.1; omega) (by have := k2.1.2; omega) hr
    obtain ⟨I2, b1, b2⟩ := lf_sc_ok (Int.ofNat G.2.1) q (Int.ofNat G.2.2.2.1.2) (fun I2 => lf_sc (Int.ofNat G.2.1) q (Int.ofNat G.2.2.2.2.2) (fun I3 =>
        (match ca_fd G.2.2.2.1.1 I2 m.1 with
          | none => (match ca_fd G.2.2.2.2.1 I3 m.1 with
            | none => kk N1
            | some vb => asr N1 vb J'.2.2 pr kk)
          | some va => asr N1 va J'.2.1 pr (fun N2 => match ca_fd G.2.2.2.2.1 I3 m.1 with
            | none => kk N2
            | some vb => asr N2 vb J'.2.2 pr kk))))
    rw [b1] at a1
    obtain ⟨I3, c1, c2⟩ := lf_sc_ok (Int.ofNat G.2.1) q (Int.ofNat G.2.2.2.2.2) (fun I3 =>
        (match ca_fd G.2.2.2.1.1 I2 m.1 with
          | none => (match ca_fd G.2.2.2.2.1 I3 m.1 with
            | none => kk N1
            | some vb => asr N1 vb J'.2.2 pr kk)
          | some va => asr N1 va J'.2.1 pr (fun N2 => match ca_fd G.2.2.2.2.1 I3 m.1 with
            | none => kk N2
            | some vb => asr N2 vb J'.2.2 pr kk)))
    rw [c1] at a1
    have VB : ∀ {N2 : NS}, Nk ρ N2 → (match ca_fd G.2.2.2.2.1 I3 m.1 with | none => kk N2 | some vb => asr N2 vb J'.2.2 pr kk) = some r → ∃ N', kk N' = some r ∧ Nk ρ N' := fun hN2 hr2 => by
      cases hcb : ca_fd G.2.2.2.2.1 I3 m.1 with
      | none => rw [hcb] at hr2; exact ⟨_, hr2, hN2⟩
      | some vb =>
        rw [hcb] at hr2
        have v3 := (ca_at hm (c2 ρ _ hx) hcb).2
        rw [PL] at v3
        exact asr_ok hN2 v3 k2.2.2.1 k2.2.2.2 hr2
    cases hca : ca_fd G.2.2.2.1.1 I2 m.1 with
    | none => rw [hca] at a1; exact VB a2 a1
    | some va =>
      rw [hca] at a1
      have v2 := (ca_at hm (b2 ρ _ hx) hca).2
      rw [PL] at v2
      obtain ⟨N2, g1, g2⟩ := asr_ok a2 v2 k2.2.1.1 k2.2.1.2 a1
      exact VB g2 g1
noncomputable def rf_c {β : Type} (tb : TB) (G : Nat × Nat × (Nat × Nat) × (Nat × Nat) × (Nat × Nat)) (n : LF) (m : MM) (pr : Option β) (l : List CE) : NS → (NS → Option β) → Option β := List.rec (motive := fun _ => NS → (NS → Option β) → Option β) (fun N kk => kk N) (fun e _ ih N kk => rf1 tb G n e N m pr (fun N' => ih N' kk)) l
noncomputable def rf_g {β : Type} (tb : TB) (m : MM) (pr : Option β) (l : List GE) : NS → (NS → Option β) → Option β := List.rec (motive := fun _ => NS → (NS → Option β) → Option β) (fun N kk => kk N) (fun g _ ih N kk => match ax_nth tb.2.2.1 g.1 with
  | none => ih N kk
  | some G => rf_c tb G g.2 m pr m.1 N (fun N' => ih N' kk)) l
noncomputable def rfn {β : Type} (tb : TB) (N : NS) (m : MM) (pr : Option β) (kk : NS → Option β) : Option β := rf_g tb m pr m.2.1 N kk
theorem rf_c_ok {β : Type} {tb : TB} {L : LSc} {ρ : List Int} {h0 h : PH} {m : MM} (hm : Mk tb L ρ h0 h m) {G : Nat × Nat × (Nat × Nat) × (Nat × Nat) × (Nat × Nat)} {n : LF} {y : Int} (hn : Lv ρ n y) (hG : ∀ k : Nat, (k : Int) < y → Rok tb.2.2.2.1 G.1 (h G.2.2.1.1 (G.2.2.1.2 + G.2.1 * k)) (h G.2.2.2.1.1 (G.2.2.2.1.2 + G.2.1 * k)) (h G.2.2.2.2.1 (G.2.2.2.2.2 + G.2.1 * k))) {pr : Option β} : ∀ (l : List CE) {N : NS} {kk : NS → Option β} {r : β}, (∀ e ∈ l, e ∈ m.1) → Nk ρ N → rf_c tb G n m pr l N kk = some r → ∃ N', kk N' = some r ∧ Nk ρ N'
  | [], N, kk, r, _, hN, hr => ⟨N, hr, hN⟩
  | e :: t, N, kk, r, hl, hN, hr => by
    have hr : rf1 tb G n e N m pr (fun N' => rf_c tb G n m pr t N' kk) = some r := hr
    obtain ⟨N1, a1, a2⟩ := rf1_ok hN hm hn hG (hl e List.mem_cons_self) hr
    exact rf_c_ok hm hn hG t (fun e he => hl e (List.mem_cons_of_mem _ he)) a2 a1
theorem rf_g_ok {β : Type} {tb : TB} {L : LSc} {ρ : List Int} {h0 h : PH} {m : MM} (hm : Mk tb L ρ h0 h m) {pr : Option β} : ∀ (l : List GE) {N : NS} {kk : NS → Option β} {r : β}, (∀ e ∈ l, e ∈ m.2.1) → Nk ρ N → rf_g tb m pr l N kk = some r → ∃ N', kk N' = some r ∧ Nk ρ N'
  | [], N, kk, r, _, hN, hr => ⟨N, hr, hN⟩
  | g :: t, N, kk, r, hl, hN, hr => by
    have hl2 : ∀ e ∈ t, e ∈ m.2.1 := fun e he => hl e (List.mem_cons_of_mem _ he)
    have hr : (match ax_nth tb.2.2.1 g.1 with | none => rf_g tb m pr t N kk | some G => rf_c tb G g.2 m pr m.1 N (fun N' => rf_g tb m pr t N' kk)) = some r := hr
    obtain ⟨y, y1, G, y2, y3⟩ := hm.2.1 g (hl g List.mem_cons_self)
    rw [ax_nth_eq, y2] at hr
    obtain ⟨N1, a1, a2⟩ := rf_c_ok hm y1 y3 m.1 (fun _ he => he) hN hr
    exact rf_g_ok hm t hl2 a2 a1
theorem rfn_ok {β : Type} {tb : TB} {L : LSc} {ρ : List Int} {h0 h : PH} {N : NS} {m : MM} (hN : Nk ρ N) (hm : Mk tb L ρ h0 h m) {pr : Option β} {kk : NS → Option β} {r : β} (hr : rfn tb N m pr kk = some r) : ∃ N', kk N' = some r ∧ Nk ρ N' := rf_g_ok hm m.2.1 (fun _ he => he) hN hr
