/-! one state says what another one asks, 2: rows, pieces, locals -/
/-- three numbers are those of a good row -/
noncomputable def rowm (rt : RT) (N : NS) (fm : Nat) (vk va vb : LF) : Bool := anys (fun e => Nat.beq e.1 fm && (pv1 N (vk.1 - e.2.1, vk.2) && (lf_sc (-1) vk e.2.1 (pv1 N) && (pv1 N (va.1 - e.2.2.1.1, va.2) && (lf_sc (-1) va e.2.2.1.2 (pv1 N) && (pv1 N (vb.1 - e.2.2.2.1, vb.2) && lf_sc (-1) vb e.2.2.2.2 (pv1 N))))))) rt
/-- the row g of the rows id is good, by what is known -/
noncomputable def rowck (tb : TB) (N : NS) (m : MM) (G : Nat × Nat × (Nat × Nat) × (Nat × Nat) × (Nat × Nat)) (g : LF) : Bool :=
  pv1 N g && lf_sc (Int.ofNat G.2.1) g (Int.ofNat G.2.2.1.2) (fun I => match ca_fd G.2.2.1.1 I m.1 with
    | none => false
    | some vk => lf_sc (Int.ofNat G.2.1) g (Int.ofNat G.2.2.2.1.2) (fun I2 => match ca_fd G.2.2.2.1.1 I2 m.1 with
      | none => false
      | some va => lf_sc (Int.ofNat G.2.1) g (Int.ofNat G.2.2.2.2.2) (fun I3 => match ca_fd G.2.2.2.2.1 I3 m.1 with
        | none => false
        | some vb => rowm tb.2.2.2.1 N G.1 vk va vb)))
theorem ca_at {tb : TB} {L : LSc} {ρ : List Int} {h0 h : PH} {m : MM} (hm : Mk tb L ρ h0 h m) {c : Nat} {I v : LF} {i : Int} (hI : Lv ρ I i) (hc : ca_fd c I m.1 = some v) : 0 ≤ i ∧ Lv ρ v (h c i.toNat) := by
  obtain ⟨i', x, z1, z2, z3, z4⟩ := hm.1 _ (ca_fd_ok hc)
  have : i = i' := hI.fn z1
  subst this
  exact ⟨z2, by rw [z4]; exact z3⟩
theorem rowck_ok {tb : TB} {L : LSc} {ρ : List Int} {h0 h : PH} {N : NS} {m : MM} (hN : Nk ρ N) (hm : Mk tb L ρ h0 h m) {G : Nat × Nat × (Nat × Nat) × (Nat × Nat) × (Nat × Nat)} {g : LF} {x : Int} (hg : Lv ρ g x) (hr : rowck tb N m G g = true) : 0 ≤ x ∧ Rok tb.2.2.2.1 G.1 (h G.2.2.1.1 (G.2.2.1.2 + G.2.1 * x.toNat)) (h G.2.2.2.1.1 (G.2.2.2.1.2 + G.2.1 * x.toNat)) (h G.2.2.2.2.1 (G.2.2.2.2.2 + G.2.1 * x.toNat)) := by
  unfold rowck at hr
  have w := bb_and hr
  have x0 := pv1_ok hN w.1 hg
  refine ⟨x0, ?_⟩
  have PL : ∀ o : Nat, (Int.ofNat G.2.1 * x + Int.ofNat o).toNat = o + G.2.1 * x.toNat := fun o => by
    have e : Int.ofNat G.2.1 * x + Int.ofNat o = ((o + G.2.1 * x.toNat : Nat) : Int) := by
      rw [Int.natCast_add, Int.natCast_mul, Int.toNat_of_nonneg x0]
      show (G.2.1 : Int) * x + (o : Int) = _
      omega
    rw [e]
    rfl
  obtain ⟨I1, a1, a2⟩ := lf_sc_ok (Int.ofNat G.2.1) g (Int.ofNat G.2.2.1.2) (fun I => match ca_fd G.2.2.1.1 I m.1 with
    | none => false
    | some vk => lf_sc (Int.ofNat G.2.1) g (Int.ofNat G.2.2.2.1.2) (fun I2 => match ca_fd G.2.2.2.1.1 I2 m.1 with
      | none => false
      | some va => lf_sc (Int.ofNat G.2.1) g (Int.ofNat G.2.2.2.2.2) (fun I3 => match ca_fd G.2.2.2.2.1 I3 m.1 with
        | none => false
        | some vb => rowm tb.2.2.2.1 N G.1 vk va vb)))
  have k1 := w.2
  rw [a1] at k1
  try dsimp only at k1
  cases c1 : ca_fd G.2.2.1.1 I1 m.1 with
  | none => rw [c1] at k1; cases k1
  | some vk =>
    rw [c1] at k1
    try dsimp only at k1
    obtain ⟨I2, b1, b2⟩ := lf_sc_ok (Int.ofNat G.2.1) g (Int.ofNat G.2.2.2.1.2) (fun I2 => match ca_fd G.2.2.2.1.1 I2 m.1 with
      | none => false
      | some va => lf_sc (Int.ofNat G.2.1) g (Int.ofNat G.2.2.2.2.2) (fun I3 => match ca_fd G.2.2.2.2.1 I3 m.1 with
        | none => false
        | some vb => rowm tb.2.2.2.1 N G.1 vk va vb))
    rw [b1] at k1
    try dsimp only at k1
    cases c2 : ca_fd G.2.2.2.1.1 I2 m.1 with
    | none => rw [c2] at k1; cases k1
    | some va =>
      rw [c2] at k1
      try dsimp only at k1
      obtain ⟨I3, d1, d2⟩ := lf_sc_ok (Int.ofNat G.2.1) g (Int.ofNat G.2.2.2.2.2) (fun I3 => match ca_fd G.2.2.2.2.1 I3 m.1 with
        | none => false
        | some vb => rowm tb.2.2.2.1 N G.1 vk va vb)
      rw [d1] at k1
      try dsimp only at k1
      cases c3 : ca_fd G.2.2.2.2.1 I3 m.1 with
      | none => rw [c3] at k1; cases k1
      | some vb =>
        rw [c3] at k1
        try dsimp only at k1
        have v1 := (ca_at hm (a2 ρ _ hg) c1).2
        have v2 := (ca_at hm (b2 ρ _ hg) c2).2
        have v3 := (ca_at hm (d2 ρ _ hg) c3).2
        rw [PL] at v1 v2 v3
        obtain ⟨e, e1, e2⟩ := anys_ok k1
        have y1 := bb_and e2
        have y2 := bb_and y1.2
        have y3 := bb_and y2.2
        have y4 := bb_and y3.2
        have y5 := bb_and y4.2
        have y6 := bb_and y5.2
        have LO : ∀ (v : LF) (z n : Int), pv1 N (v.1 - n, v.2) = true → Lv ρ v z → n ≤ z := fun v z n q hv => by have := pv1_ok hN q (hv.dec n); omega
        have HI : ∀ (v : LF) (z n : Int), lf_sc (-1) v n (pv1 N) = true → Lv ρ v z → z ≤ n := fun v z n q hv => by
          obtain ⟨f, f1, f2⟩ := lf_sc_ok (-1) v n (pv1 N)
          rw [f1] at q
          have := pv1_ok hN q (f2 ρ _ hv)
          omega
        have r1 := LO _ _ _ y2.1 v1
        have r2 := HI _ _ _ y3.1 v1
        exact ⟨e, e1, bb_eq y1.1, by omega, LO _ _ _ y4.1 v2, HI _ _ _ y5.1 v2, LO _ _ _ y6.1 v3, HI _ _ _ y6.2 v3⟩
/-- a column of one is the same as that of another, by a piece -/
noncomputable def colq (N : NS) (m : MM) (o1 o2 : Nat × Nat) (s : Nat) (f : LF) : Bool := anys (fun e => Nat.beq e.1.1 o1.1 && (Nat.beq e.2.1.1 o2.1 && (cst e.1.2 && (cst e.2.1.2 && (i_eq (Int.ofNat o1.2 - e.1.2.1) (Int.ofNat o2.2 - e.2.1.2.1) && (i_nn (Int.ofNat o1.2 - e.1.2.1) && lf_add (-(Int.ofNat s)) f (e.2.2.1 - (Int.ofNat o1.2 - e.1.2.1 - (Int.ofNat s - 1)), e.2.2.2) (pv1 N))))))) m.2.2.1
theorem colq_ok {tb : TB} {L : LSc} {ρ : List Int} {h0 h : PH} {N : NS} {m : MM} (hN : Nk ρ N) (hm : Mk tb L ρ h0 h m) {o1 o2 : Nat × Nat} {s : Nat} {f : LF} {x : Int} (hf : Lv ρ f x) (hs : 1 ≤ s) (hq : colq N m o1 o2 s f = true) {k : Nat} (hk : (k : Int) < x) : h o1.1 (o1.2 + s * k) = h o2.1 (o2.2 + s * k) := by
  obtain ⟨e, e1, e2⟩ := anys_ok hq
  have y1 := bb_and e2
  have y2 := bb_and y1.2
  have y3 := bb_and y2.2
  have y4 := bb_and y3.2
  have y5 := bb_and y4.2
  have y6 := bb_and y5.2
  obtain ⟨i, j, n, z1, z2, z3, z4, z5, z6⟩ := hm.2.2.1 e e1
  have ei := cst_ok y3.1 z1
  have ej := cst_ok y4.1 z2
  have q1 := i_eq_ok y5.1
  have q2 := i_nn_ok y6.1
  obtain ⟨d, d1, d2⟩ := lf_add_ok (-(Int.ofNat s)) f (e.2.2.1 - (Int.ofNat o1.2 - e.1.2.1 - (Int.ofNat s - 1)), e.2.2.2) (pv1 N)
  have y7 := y6.2
  rw [d1] at y7
  have z := pv1_ok hN y7 (d2 ρ _ _ hf (z3.dec (Int.ofNat o1.2 - e.1.2.1 - (Int.ofNat s - 1))))
  have m1 : (s : Int) * ((k : Int) + 1) ≤ (s : Int) * x := Int.mul_le_mul_of_nonneg_left (by omega) (Int.natCast_nonneg s)
  rw [Int.mul_add] at m1
  have e3 : -(Int.ofNat s) * x = -((s : Int) * x) := Int.neg_mul _ _
  rw [e3] at z
  have o1e : (Int.ofNat o1.2 : Int) = (o1.2 : Int) := rfl
  have o2e : (Int.ofNat o2.2 : Int) = (o2.2 : Int) := rfl
  have s1e : (Int.ofNat s : Int) = (s : Int) := rfl
  rw [o1e] at q1 q2 z
  rw [s1e] at z
  rw [o2e] at q1
  have mk : ((s * k : Nat) : Int) = (s : Int) * (k : Int) := Int.natCast_mul s k
  have r := z6 (((o1.2 : Int) - e.1.2.1).toNat + s * k) (by
    rw [Int.natCast_add, Int.toNat_of_nonneg q2]
    omega)
  rw [← bb_eq y1.1, ← bb_eq y2.1]
  have p1 : o1.2 + s * k = i.toNat + (((o1.2 : Int) - e.1.2.1).toNat + s * k) := by omega
  have p2 : o2.2 + s * k = j.toNat + (((o1.2 : Int) - e.1.2.1).toNat + s * k) := by omega
  rw [p1, p2]
  exact r
noncomputable def gpr (tb : TB) (N : NS) (m : MM) (id : Nat) (f : LF) : Bool := match ax_nth tb.2.2.1 id with
  | none => false
  | some G => lf_sc (-1) f 0 (pv1 N) || (anys (fun e => (Nat.beq e.1 id && (lf_add (-1) f e.2 (pv1 N) || (lf_add (-1) f (e.2.1 + 1, e.2.2) (pv1 N) && rowck tb N m G e.2))) || (match ax_nth tb.2.2.1 e.1 with
      | none => false
      | some G2 => Nat.beq G.1 G2.1 && (Nat.beq G.2.1 G2.2.1 && (Nat.ble 1 G.2.1 && (lf_add (-1) f e.2 (pv1 N) && (colq N m G.2.2.1 G2.2.2.1 G.2.1 f && (colq N m G.2.2.2.1 G2.2.2.2.1 G.2.1 f && colq N m G.2.2.2.2 G2.2.2.2.2 G.2.1 f))))))) m.2.1)
theorem gpr_ok {tb : TB} {L : LSc} {ρ : List Int} {h0 h : PH} {N : NS} {m : MM} (hN : Nk ρ N) (hm : Mk tb L ρ h0 h m) {id : Nat} {f : LF} {x : Int} (hf : Lv ρ f x) (hg : gpr tb N m id f = true) : Gok tb h id x := by
  unfold gpr at hg
  rw [ax_nth_eq] at hg
  cases hG : tb.2.2.1[id]? with
  | none => rw [hG] at hg; cases hg
  | some G =>
    rw [hG] at hg
    try dsimp only at hg
    refine ⟨G, hG, ?_⟩
    rcases (Bool.or_eq_true _ _).mp hg with hg | hg
    · obtain ⟨d, d1, d2⟩ := lf_sc_ok (-1) f 0 (pv1 N)
      rw [d1] at hg
      have := pv1_ok hN hg (d2 ρ _ hf)
      intro k hk
      omega
    · obtain ⟨e, e1, e2⟩ := anys_ok hg
      obtain ⟨n, n1, G2, g1, g2⟩ := hm.2.1 e e1
      rcases (Bool.or_eq_true _ _).mp e2 with e2 | e2
      · have w := bb_and e2
        have ei := bb_eq w.1
        rw [ei, hG] at g1
        cases g1
        rcases (Bool.or_eq_true _ _).mp w.2 with w2 | w2
        · obtain ⟨d, d1, d2⟩ := lf_add_ok (-1) f e.2 (pv1 N)
          rw [d1] at w2
          have := pv1_ok hN w2 (d2 ρ _ _ hf n1)
          exact fun k hk => g2 k (by omega)
        · have w3 := bb_and w2
          obtain ⟨d, d1, d2⟩ := lf_add_ok (-1) f (e.2.1 + 1, e.2.2) (pv1 N)
          have w4 := w3.1
          rw [d1] at w4
          have n1' : Lv ρ (e.2.1 + 1, e.2.2) (n + 1) := by
            obtain ⟨y, a, b⟩ := n1
            exact ⟨y, a, by show n + 1 = e.2.1 + 1 + y; omega⟩
          have := pv1_ok hN w4 (d2 ρ _ _ hf n1')
          have rr := rowck_ok hN hm n1 w3.2
          intro k hk
          by_cases hkn : (k : Int) < n
          · exact g2 k hkn
          · have : k = n.toNat := by omega
            rw [this]
            exact rr.2
      · rw [ax_nth_eq, g1] at e2
        try dsimp only at e2
        have w1 := bb_and e2
        have w2 := bb_and w1.2
        have w3 := bb_and w2.2
        have w4 := bb_and w3.2
        have w5 := bb_and w4.2
        have w6 := bb_and w5.2
        obtain ⟨d, d1, d2⟩ := lf_add_ok (-1) f e.2 (pv1 N)
        have w7 := w4.1
        rw [d1] at w7
        have := pv1_ok hN w7 (d2 ρ _ _ hf n1)
        intro k hk
        rw [colq_ok hN hm hf (bb_le w3.1) w5.1 hk, colq_ok hN hm hf (bb_le w3.1) w6.1 hk, colq_ok hN hm hf (bb_le w3.1) w6.2 hk, bb_eq w1.1, bb_eq w2.1]
        exact g2 k (by omega)
/-- a piece is the same as another, by what is known -/
noncomputable def qpr (N : NS) (m : MM) (p q : Nat × LF) (n : LF) : Bool :=
  (lf_sc (-1) n 0 (pv1 N) && (pv1 N p.2 && pv1 N q.2)) || anys (fun e => Nat.beq e.1.1 p.1 && (Nat.beq e.2.1.1 q.1 && (eqv N e.1.2 p.2 && (eqv N e.2.1.2 q.2 && (lf_add (-1) n e.2.2 (pv1 N) || (pv1 N e.2.2 && (lf_add (-1) n (e.2.2.1 + 1, e.2.2.2) (pv1 N) && lf_add 1 e.2.2 e.1.2 (fun I => lf_add 1 e.2.2 e.2.1.2 (fun J => match ca_fd p.1 I m.1 with
    | none => false
    | some v => (match ca_fd q.1 J m.1 with
      | none => false
      | some w => eqv N v w)))))))))) m.2.2.1
theorem qpr_ok {tb : TB} {L : LSc} {ρ : List Int} {h0 h : PH} {N : NS} {m : MM} (hN : Nk ρ N) (hm : Mk tb L ρ h0 h m) {p q : Nat × LF} {n : LF} {i j x : Int} (hi : Lv ρ p.2 i) (hj : Lv ρ q.2 j) (hn : Lv ρ n x) (hq : qpr N m p q n = true) : Qok h p.1 q.1 i j x := by
  unfold qpr at hq
  rcases (Bool.or_eq_true _ _).mp hq with hq | hq
  · have w := bb_and hq
    have w2 := bb_and w.2
    obtain ⟨d, d1, d2⟩ := lf_sc_ok (-1) n 0 (pv1 N)
    have w3 := w.1
    rw [d1] at w3
    have := pv1_ok hN w3 (d2 ρ _ hn)
    exact ⟨pv1_ok hN w2.1 hi, pv1_ok hN w2.2 hj, fun k hk => by omega⟩
  · obtain ⟨e, e1, e2⟩ := anys_ok hq
    have w1 := bb_and e2
    have w2 := bb_and w1.2
    have w3 := bb_and w2.2
    have w4 := bb_and w3.2
    obtain ⟨i', j', y, z1, z2, z3, z4, z5, z6⟩ := hm.2.2.1 e e1
    have ei : i' = i := eqv_ok hN z1 hi w3.1
    have ej : j' = j := eqv_ok hN z2 hj w4.1
    subst ei
    subst ej
    have c1 := bb_eq w1.1
    have c2 := bb_eq w2.1
    rw [c1, c2] at z6
    refine ⟨z4, z5, ?_⟩
    rcases (Bool.or_eq_true _ _).mp w4.2 with w5 | w5
    · obtain ⟨d, d1, d2⟩ := lf_add_ok (-1) n e.2.2 (pv1 N)
      rw [d1] at w5
      have := pv1_ok hN w5 (d2 ρ _ _ hn z3)
      exact fun k hk => z6 k (by omega)
    · have w6 := bb_and w5
      have w7 := bb_and w6.2
      have y0 := pv1_ok hN w6.1 z3
      obtain ⟨d, d1, d2⟩ := lf_add_ok (-1) n (e.2.2.1 + 1, e.2.2.2) (pv1 N)
      have w8 := w7.1
      rw [d1] at w8
      have z3' : Lv ρ (e.2.2.1 + 1, e.2.2.2) (y + 1) := by
        obtain ⟨u, a, b⟩ := z3
        exact ⟨u, a, by show y + 1 = e.2.2.1 + 1 + u; omega⟩
      have := pv1_ok hN w8 (d2 ρ _ _ hn z3')
      obtain ⟨I, i1, i2⟩ := lf_add_ok 1 e.2.2 e.1.2 (fun I => lf_add 1 e.2.2 e.2.1.2 (fun J => match ca_fd p.1 I m.1 with
        | none => false
        | some v => (match ca_fd q.1 J m.1 with
          | none => false
          | some w => eqv N v w)))
      have w9 := w7.2
      rw [i1] at w9
      obtain ⟨J, j1, j2⟩ := lf_add_ok 1 e.2.2 e.2.1.2 (fun J => match ca_fd p.1 I m.1 with
        | none => false
        | some v => (match ca_fd q.1 J m.1 with
          | none => false
          | some w => eqv N v w))
      rw [j1] at w9
      try dsimp only at w9
      intro k hk
      by_cases hky : (k : Int) < y
      · exact z6 k hky
      · cases c3 : ca_fd p.1 I m.1 with
        | none => rw [c3] at w9; cases w9
        | some v =>
          rw [c3] at w9
          try dsimp only at w9
          cases c4 : ca_fd q.1 J m.1 with
          | none => rw [c4] at w9; cases w9
          | some w =>
            rw [c4] at w9
            try dsimp only at w9
            have v1 := (ca_at hm (i2 ρ _ _ z3 z1) c3).2
            have v2 := (ca_at hm (j2 ρ _ _ z3 z2) c4).2
            have r := eqv_ok hN v1 v2 w9
            rw [show i'.toNat + k = (1 * y + i').toNat by omega, show j'.toNat + k = (1 * y + j').toNat by omega]
            exact r
noncomputable def v_eq (N : NS) (mu : List LF) (n : Nat) (t w : V2) : Bool := Nat.beq t.1 w.1 && (bif Nat.ble t.1 1 then sbf mu n 0 t.2 (fun f => eqv N w.2 f) else lf_eq t.2 w.2)
theorem v_eq_ok {sp ad : Nat → Nat} {ρ ρT : List Int} {N : NS} (hN : Nk ρ N) {mu : List LF} {n : Nat} (hM : Mu ρ mu ρT) (hn : n = ρT.length) {t w : V2} (hw : lf_wf n t.2 = true) {V : Value} (hV : Vk sp ad ρ w V) (h : v_eq N mu n t w = true) : Vk sp ad ρT t V := by
  have a := bb_and h
  have e := bb_eq a.1
  have b := a.2
  obtain ⟨tt, tf⟩ := t
  obtain ⟨wt, wf⟩ := w
  have e : tt = wt := e
  subst e
  cases hb : Nat.ble tt 1 with
  | true =>
    rw [hb] at b
    obtain ⟨g, x, g1, g2, g3⟩ := sbk hM hn hw (fun f => eqv N wf f)
    have b2 : eqv N wf g = true := by
      have b3 : sbf mu n 0 tf (fun f => eqv N wf f) = true := b
      rw [g1] at b3
      exact b3
    rcases (show tt = 0 ∨ tt = 1 by have := bb_le hb; omega) with rfl | rfl
    · obtain ⟨y, y1, y2⟩ := hV
      have := eqv_ok hN y2 g3 b2
      exact ⟨y, y1, by show Lv ρT tf y.toInt; rw [this]; exact g2⟩
    · obtain ⟨y, y1, y2⟩ := hV
      have := eqv_ok hN y2 g3 b2
      exact ⟨y, y1, by show Lv ρT tf y.toInt; rw [this]; exact g2⟩
  | false =>
    rw [hb] at b
    have b : lf_eq tf wf = true := b
    have := lf_eq_ok b
    subst this
    have n2 := bb_nle hb
    unfold Vk at hV ⊢
    split at hV
    · next e => have e : tt = 0 := e; omega
    · next e => have e : tt = 1 := e; omega
    · next e => have e : tt = 2 := e; subst e; exact hV
    · next e => have e : tt = 6 := e; subst e; exact hV
    · next e => have e : tt = 7 := e; subst e; exact hV
    · exact hV.elim
noncomputable def sb_lv (N : NS) (mu : List LF) (n : Nat) (lv : L2) (l : L2) : Bool := alls (fun t => match lk2 lv t.1 with
  | some w => v_eq N mu n t.2 w
  | none => false) l
noncomputable def sb_st (N : NS) (mu : List LF) (n : Nat) (l : List V2) : List V2 → Bool := List.rec (motive := fun _ => List V2 → Bool) (fun s => List.rec (motive := fun _ => Bool) true (fun _ _ _ => false) s) (fun t _ ih s => List.rec (motive := fun _ => Bool) false (fun w r _ => v_eq N mu n t w && ih r) s) l
theorem sb_lv_ok {sp ad : Nat → Nat} {ρ ρT : List Int} {N : NS} (hN : Nk ρ N) {mu : List LF} {n : Nat} (hM : Mu ρ mu ρT) (hn : n = ρT.length) {lv : L2} {LV : LVs} (hL : Lk sp ad ρ lv LV) : ∀ {l : L2}, (∀ t ∈ l, lf_wf n t.2.2 = true) → sb_lv N mu n lv l = true → ∃ LV', (∀ q ∈ LV', q ∈ LV) ∧ Lk sp ad ρT l LV'
  | [], _, _ => ⟨[], (fun q hq => by cases hq), trivial⟩
  | t :: r, hw, h => by
    have h : ((match lk2 lv t.1 with | some w => v_eq N mu n t.2 w | none => false) && sb_lv N mu n lv r) = true := h
    have a := bb_and h
    obtain ⟨LV', b1, b2⟩ := sb_lv_ok hN hM hn hL (fun t ht => hw t (List.mem_cons_of_mem _ ht)) a.2
    have a1 := a.1
    cases hk : lk2 lv t.1 with
    | none => rw [hk] at a1; cases a1
    | some w =>
      rw [hk] at a1
      obtain ⟨V, v1, v2⟩ := lk2_ok hL hk
      exact ⟨(t.1, V) :: LV', fun q hq => by
        rcases List.mem_cons.mp hq with rfl | hq
        · exact v1
        · exact b1 q hq, ⟨⟨rfl, v_eq_ok hN hM hn (hw t List.mem_cons_self) v2 a1⟩, b2⟩⟩
theorem sb_st_ok {sp ad : Nat → Nat} {ρ ρT : List Int} {N : NS} (hN : Nk ρ N) {mu : List LF} {n : Nat} (hM : Mu ρ mu ρT) (hn : n = ρT.length) : ∀ {l st : List V2} {SV : List Value}, Sk sp ad ρ st SV → (∀ t ∈ l, lf_wf n t.2 = true) → sb_st N mu n l st = true → Sk sp ad ρT l SV
  | [], [], [], _, _, _ => trivial
  | [], _ :: _, _, _, _, h => by cases h
  | _ :: _, [], _, _, _, h => by cases h
  | t :: r, w :: s, SV, hS, hw, h => by
    obtain ⟨V, R, rfl, h1, h2⟩ := hS.cons
    have h : (v_eq N mu n t w && sb_st N mu n r s) = true := h
    have a := bb_and h
    exact ⟨v_eq_ok hN hM hn (hw t List.mem_cons_self) h1 a.1, sb_st_ok hN hM hn h2 (fun t ht => hw t (List.mem_cons_of_mem _ ht)) a.2⟩
noncomputable def ce_wf (n : Nat) (e : CE) : Bool := lf_wf n e.2.1 && lf_wf n e.2.2
noncomputable def st_wf (n : Nat) (T : ST) : Bool := alls (lf_wf n) T.2.1 && (alls (lf_wf n) T.2.2.1 && (alls (ce_wf n) T.2.2.2.1 && (alls (fun e => lf_wf n e.2) T.2.2.2.2.1 && (alls (fun e => lf_wf n e.1.2 && (lf_wf n e.2.1.2 && lf_wf n e.2.2)) T.2.2.2.2.2.1 && (alls (lf_wf n) T.2.2.2.2.2.2.1 && (alls (fun t => lf_wf n t.2.2) T.2.2.2.2.2.2.2.1 && alls (fun t => lf_wf n t.2) T.2.2.2.2.2.2.2.2))))))
/-- the state A says all that T asks (but for the ranges), T's unknowns being mu -/
noncomputable def sub (tb : TB) (N : NS) (m : MM) (lv : L2) (st : List V2) (mu : List LF) (n : Nat) (T : ST) : Bool :=
  sb_lv N mu n lv T.2.2.2.2.2.2.2.1 && (sb_st N mu n T.2.2.2.2.2.2.2.2 st && (alls (fun f => sbf mu n 0 f (pv2 N)) T.2.1 && (alls (fun f => sbf mu n 0 f (fun d => lf_sc (-1) d 0 (fun nd => pvn N d nd))) T.2.2.1 &&
  (alls (fun e => sbf mu n 0 e.2.1 (fun I => match ca_fd e.1 I m.1 with
    | some v => sbf mu n 0 e.2.2 (fun w => eqv N v w)
    | none => false)) T.2.2.2.1 && (alls (fun e => sbf mu n 0 e.2 (fun f => gpr tb N m e.1 f)) T.2.2.2.2.1 && (alls (fun e => sbf mu n 0 e.1.2 (fun p => sbf mu n 0 e.2.1.2 (fun q => sbf mu n 0 e.2.2 (fun k => qpr N m (e.1.1, p) (e.2.1.1, q) k)))) T.2.2.2.2.2.1 &&
  alls (fun f => match m.2.2.2.2.1 with
    | g :: _ => sbf mu n 0 f (fun w => eqv N g w)
    | [] => false) T.2.2.2.2.2.2.1))))))
theorem sub_ok {tb : TB} {L : LSc} {sp ad : Nat → Nat} {ρ ρT : List Int} {h0 h : PH} {N : NS} {m : MM} {lv : L2} {st : List V2} {LV : LVs} {SV : List Value} (hG : Ga tb L sp ad ρ h0 h (N, m, lv, st) LV SV) {mu : List LF} {n : Nat} (hM : Mu ρ mu ρT) (hn : n = ρT.length) {T : ST} {σ : SG} {W : List WE} (hσ : Sr ρT σ) (hW : ∀ c k, Wout W c k → h c k = h0 c k) (hw : st_wf n T = true) (hs : sub tb N m lv st mu n T = true) : ∃ LV', (∀ q ∈ LV', q ∈ LV) ∧ Ga tb L sp ad ρT h0 h ((σ, T.2.1, T.2.2.1), (T.2.2.2.1, T.2.2.2.2.1, T.2.2.2.2.2.1, W, T.2.2.2.2.2.2.1, []), T.2.2.2.2.2.2.2.1, T.2.2.2.2.2.2.2.2) LV' SV := by
  obtain ⟨hN, hm, hT, hL, hS⟩ := hG
  have w1 := bb_and hw
  have w2 := bb_and w1.2
  have w3 := bb_and w2.2
  have w4 := bb_and w3.2
  have w5 := bb_and w4.2
  have w6 := bb_and w5.2
  have w7 := bb_and w6.2
  have s1 := bb_and hs
  have s2 := bb_and s1.2
  have s3 := bb_and s2.2
  have s4 := bb_and s3.2
  have s5 := bb_and s4.2
  have s6 := bb_and s5.2
  have s7 := bb_and s6.2
  obtain ⟨LV', v1, v2⟩ := sb_lv_ok hN hM hn hL (alls_ok w7.1) s1.1
  refine ⟨LV', v1, ⟨hσ, fun f hf => ?_, fun f hf => ?_⟩, ⟨fun e he => ?_, fun e he => ?_, fun e he => ?_, hW, fun f hf => ?_, fun e he => by cases he⟩, hT, v2, sb_st_ok hN hM hn hS (alls_ok w7.2) s2.1⟩
  · obtain ⟨g, x, g1, g2, g3⟩ := sbk hM hn (alls_ok w1.1 f hf) (pv2 N)
    have z := alls_ok s3.1 f hf
    rw [g1] at z
    exact ⟨x, g2, pv2_ok hN z g3⟩
  · obtain ⟨g, x, g1, g2, g3⟩ := sbk hM hn (alls_ok w2.1 f hf) (fun d => lf_sc (-1) d 0 (fun nd => pvn N d nd))
    have z := alls_ok s4.1 f hf
    rw [g1] at z
    obtain ⟨nd, d1, d2⟩ := lf_sc_ok (-1) g 0 (fun nd => pvn N g nd)
    rw [d1] at z
    have hnd := d2 ρ _ g3
    rw [show -1 * x + 0 = -x by omega] at hnd
    exact ⟨x, g2, pvn_ok hN g3 hnd z⟩
  · have we := bb_and (alls_ok w3.1 e he)
    obtain ⟨I, i, g1, g2, g3⟩ := sbk hM hn we.1 (fun I => match ca_fd e.1 I m.1 with
      | some v => sbf mu n 0 e.2.2 (fun w => eqv N v w)
      | none => false)
    have z := alls_ok s5.1 e he
    rw [g1] at z
    try dsimp only at z
    cases hc : ca_fd e.1 I m.1 with
    | none => rw [hc] at z; cases z
    | some v =>
      rw [hc] at z
      try dsimp only at z
      obtain ⟨w, x, k1, k2, k3⟩ := sbk hM hn we.2 (fun w => eqv N v w)
      rw [k1] at z
      have y := ca_at hm g3 hc
      have := eqv_ok hN y.2 k3 z
      exact ⟨i, x, g2, y.1, k2, this⟩
  · obtain ⟨g, x, g1, g2, g3⟩ := sbk hM hn (alls_ok w4.1 e he) (fun f => gpr tb N m e.1 f)
    have z := alls_ok s6.1 e he
    rw [g1] at z
    exact ⟨x, g2, gpr_ok hN hm g3 z⟩
  · have we := bb_and (alls_ok w5.1 e he)
    have we2 := bb_and we.2
    have z := alls_ok s7.1 e he
    obtain ⟨p, i, p1, p2, p3⟩ := sbk hM hn we.1 (fun p => sbf mu n 0 e.2.1.2 (fun q => sbf mu n 0 e.2.2 (fun k => qpr N m (e.1.1, p) (e.2.1.1, q) k)))
    rw [p1] at z
    obtain ⟨q, j, q1, q2, q3⟩ := sbk hM hn we2.1 (fun q => sbf mu n 0 e.2.2 (fun k => qpr N m (e.1.1, p) (e.2.1.1, q) k))
    rw [q1] at z
    obtain ⟨k, x, k1, k2, k3⟩ := sbk hM hn we2.2 (fun k => qpr N m (e.1.1, p) (e.2.1.1, q) k)
    rw [k1] at z
    exact ⟨i, j, x, p2, q2, k2, qpr_ok hN hm (p := (e.1.1, p)) (q := (e.2.1.1, q)) p3 q3 k3 z⟩
  · have z := alls_ok s7.2 f hf
    cases hsm : m.2.2.2.2.1 with
    | nil => rw [hsm] at z; cases z
    | cons g t =>
      rw [hsm] at z
      try dsimp only at z
      obtain ⟨w, x, k1, k2, k3⟩ := sbk hM hn (alls_ok w6.1 f hf) (fun w => eqv N g w)
      rw [k1] at z
      obtain ⟨y, y1, y2⟩ := hm.2.2.2.2.1 g (by rw [hsm]; exact List.mem_cons_self)
      have := eqv_ok hN y1 k3 z
      exact ⟨x, k2, by rw [← this]; exact y2⟩
