section
/-! 45z.8v.step -/
/-! live(): what a step does to a LAND -/
def diE (L : PH) (p : Nat) (v : Int) (M : PH) : Prop := (bB (L 0 7) p = true → v = 0 ∧ M = L) ∧ (¬ bB (L 0 7) p = true → v = 1 ∧ W10 M ∧ DIn (ddL L p) p (L 0 4).toNat M)
def stE (L : PH) (a b v : Int) (M : PH) : Prop := ((bB (L 1 1) a.toNat = true ↔ b = 1) → v = 0 ∧ M = L) ∧ (¬ (bB (L 1 1) a.toNat = true ↔ b = 1) → v = 1 ∧ W10 M ∧ ∀ j k : Nat, j ≠ 3 → j ≠ 4 → M j k = flL L 1 1 a j k)
def dnL (L : PH) (x K a b n v : Int) (M : PH) (y : Int) : Prop :=
  (K = 1 → y = x ∧ stE L a 1 v M) ∧ (K = 13 → y = x ∧ stE L a 0 v M) ∧
  (K = 10 → y = x ∧ (9999 < w32 (L 0 12 + n) → v = 0 ∧ M = L) ∧ (¬ 9999 < w32 (L 0 12 + n) → v = 1 ∧ M = nsL L n.toNat)) ∧
  (K = 11 → y = x ∧ diE L a.toNat v M) ∧
  (K = 12 → y = x ∧ (bB (L 0 7) a.toNat = true ∨ L 7 (8 * b.toNat + a.toNat) = 0 → v = 0 ∧ M = L) ∧ (¬ (bB (L 0 7) a.toNat = true ∨ L 7 (8 * b.toNat + a.toNat) = 0) → v = 1 ∧ M = owe L b a 0)) ∧
  (K = 14 → y = x ∧ (¬ bB (L 0 7) a.toNat = true ∨ bB (L 0 7) b.toNat = true → v = 0 ∧ M = L) ∧ (¬ (¬ bB (L 0 7) a.toNat = true ∨ bB (L 0 7) b.toNat = true) → v = 1 ∧ M = owe L a b (cap9 (L 7 (8 * a.toNat + b.toNat) + n)))) ∧
  (K = 16 → (clv L (L 0 4).toNat < 1 → y = x ∧ v = 0 ∧ M = L) ∧ (1 ≤ clv L (L 0 4).toNat → ∃ p : Nat, (p : Int) < L 0 4 ∧ ¬ bB (L 0 7) p = true ∧ clv L p = dwI x (clv L (L 0 4).toNat) ∧ y = dwN x ∧ v = 1 ∧ W10 M ∧ DIn (ddL L p) p (L 0 4).toNat M))
set_option maxRecDepth 10000 in
theorem v_X3_isDone5 {sl : Nat} {si : Nat → Int} {K : Nat → PH → ZL → List ZV → Prop} {Q : PH → List ZV → Prop} {h : PH}  {k : Int} (H : 0 ≤ k ∧ k < (60 : Nat) → R32 (h 23 k.toNat) → 0 ≤ k ∧ k < (60 : Nat) → R32 (h 24 k.toNat) → 0 ≤ k ∧ k < (60 : Nat) → R32 (h 25 k.toNat) → 0 ≤ k ∧ k < (60 : Nat) → R32 (h 22 k.toNat) → ((h 22 k.toNat) < 1 ∨ 14 < (h 22 k.toNat) → ∀ h25 v25, CP (zz sl si (7, 0)) mX3_drawLiving h [(2, 89), (2, 5)] h25 [(0, v25)] → R32 v25 → ∀ h26 v26, CP (zz sl si (7, 0)) mX1_bury h25 [(2, 5), (0, v25)] h26 [(0, v26)] → v26 = 0 ∨ v26 = 1 → Q h26 [(0, v26)]) ∧ (¬ ((h 22 k.toNat) < 1 ∨ 14 < (h 22 k.toNat)) → ((h 22 k.toNat) = 1 → ∀ h24 v24, CP (zz sl si (7, 0)) mX5_strew h [(2, 6), (0, (h 23 k.toNat)), (0, 1)] h24 [(0, v24)] → v24 = 0 ∨ v24 = 1 → Q h24 [(0, v24)]) ∧ (¬ (h 22 k.toNat) = 1 → ((h 22 k.toNat) = 2 → ∀ h22 v22, CP (zz sl si (7, 0)) mX3_drawLiving h [(2, 89), (2, 5)] h22 [(0, v22)] → R32 v22 → ∀ h23 v23, CP (zz sl si (7, 0)) mX1_bury h22 [(2, 5), (0, v22)] h23 [(0, v23)] → v23 = 0 ∨ v23 = 1 → Q h23 [(0, v23)]) ∧ (¬ (h 22 k.toNat) = 2 → ((h 22 k.toNat) = 3 → ∀ h20 v20, CP (zz sl si (7, 0)) mX3_drawLiving h [(2, 89), (2, 5)] h20 [(0, v20)] → R32 v20 → ∀ h21 v21, CP (zz sl si (7, 0)) mX1_bury h20 [(2, 5), (0, v20)] h21 [(0, v21)] → v21 = 0 ∨ v21 = 1 → Q h21 [(0, v21)]) ∧ (¬ (h 22 k.toNat) = 3 → ((h 22 k.toNat) = 4 → ∀ h18 v18, CP (zz sl si (7, 0)) mX3_drawLiving h [(2, 89), (2, 5)] h18 [(0, v18)] → R32 v18 → ∀ h19 v19, CP (zz sl si (7, 0)) mX1_bury h18 [(2, 5), (0, v18)] h19 [(0, v19)] → v19 = 0 ∨ v19 = 1 → Q h19 [(0, v19)]) ∧ (¬ (h 22 k.toNat) = 4 → ((h 22 k.toNat) = 5 → ∀ h16 v16, CP (zz sl si (7, 0)) mX3_drawLiving h [(2, 89), (2, 5)] h16 [(0, v16)] → R32 v16 → ∀ h17 v17, CP (zz sl si (7, 0)) mX1_bury h16 [(2, 5), (0, v16)] h17 [(0, v17)] → v17 = 0 ∨ v17 = 1 → Q h17 [(0, v17)]) ∧ (¬ (h 22 k.toNat) = 5 → ((h 22 k.toNat) = 6 → ∀ h14 v14, CP (zz sl si (7, 0)) mX3_drawLiving h [(2, 89), (2, 5)] h14 [(0, v14)] → R32 v14 → ∀ h15 v15, CP (zz sl si (7, 0)) mX1_bury h14 [(2, 5), (0, v14)] h15 [(0, v15)] → v15 = 0 ∨ v15 = 1 → Q h15 [(0, v15)]) ∧ (¬ (h 22 k.toNat) = 6 → ((h 22 k.toNat) = 7 → ∀ h12 v12, CP (zz sl si (7, 0)) mX3_drawLiving h [(2, 89), (2, 5)] h12 [(0, v12)] → R32 v12 → ∀ h13 v13, CP (zz sl si (7, 0)) mX1_bury h12 [(2, 5), (0, v12)] h13 [(0, v13)] → v13 = 0 ∨ v13 = 1 → Q h13 [(0, v13)]) ∧ (¬ (h 22 k.toNat) = 7 → ((h 22 k.toNat) = 8 → ∀ h10 v10, CP (zz sl si (7, 0)) mX3_drawLiving h [(2, 89), (2, 5)] h10 [(0, v10)] → R32 v10 → ∀ h11 v11, CP (zz sl si (7, 0)) mX1_bury h10 [(2, 5), (0, v10)] h11 [(0, v11)] → v11 = 0 ∨ v11 = 1 → Q h11 [(0, v11)]) ∧ (¬ (h 22 k.toNat) = 8 → ((h 22 k.toNat) = 9 → ∀ h8 v8, CP (zz sl si (7, 0)) mX3_drawLiving h [(2, 89), (2, 5)] h8 [(0, v8)] → R32 v8 → ∀ h9 v9, CP (zz sl si (7, 0)) mX1_bury h8 [(2, 5), (0, v8)] h9 [(0, v9)] → v9 = 0 ∨ v9 = 1 → Q h9 [(0, v9)]) ∧ (¬ (h 22 k.toNat) = 9 → ((h 22 k.toNat) = 10 → R32 (h 5 12) → ((w32 ((h 5 12) + (h 25 k.toNat))) ≤ 9999 → ∀ h7, CP (zz sl si (7, 0)) mX1_passNights h [(2, 5), (0, (h 25 k.toNat))] h7 [] → Q h7 [(0, 1)]) ∧ (¬ ((w32 ((h 5 12) + (h 25 k.toNat))) ≤ 9999) → Q h [(0, 0)])) ∧ (¬ (h 22 k.toNat) = 10 → ((h 22 k.toNat) = 11 → ∀ h6 v6, CP (zz sl si (7, 0)) mX1_bury h [(2, 5), (0, (h 23 k.toNat))] h6 [(0, v6)] → v6 = 0 ∨ v6 = 1 → Q h6 [(0, v6)]) ∧ (¬ (h 22 k.toNat) = 11 → ((h 22 k.toNat) = 12 → ∀ h5 v5, CP (zz sl si (7, 0)) mX1_remit h [(2, 5), (0, (h 23 k.toNat)), (0, (h 24 k.toNat))] h5 [(0, v5)] → v5 = 0 ∨ v5 = 1 → Q h5 [(0, v5)]) ∧ (¬ (h 22 k.toNat) = 12 → ((h 22 k.toNat) = 13 → ∀ h4 v4, CP (zz sl si (7, 0)) mX5_strew h [(2, 6), (0, (h 23 k.toNat)), (0, 0)] h4 [(0, v4)] → v4 = 0 ∨ v4 = 1 → Q h4 [(0, v4)]) ∧ (¬ (h 22 k.toNat) = 13 → ((h 22 k.toNat) = 14 → ∀ h3 v3, CP (zz sl si (7, 0)) mX1_slander h [(2, 5), (0, (h 23 k.toNat)), (0, (h 24 k.toNat)), (0, (h 25 k.toNat))] h3 [(0, v3)] → v3 = 0 ∨ v3 = 1 → Q h3 [(0, v3)]) ∧ (¬ (h 22 k.toNat) = 14 → ∀ h1 v1, CP (zz sl si (7, 0)) mX3_drawLiving h [(2, 89), (2, 5)] h1 [(0, v1)] → R32 v1 → ∀ h2 v2, CP (zz sl si (7, 0)) mX1_bury h1 [(2, 5), (0, v1)] h2 [(0, v2)] → v2 = 0 ∨ v2 = 1 → Q h2 [(0, v2)])))))))))))))))) : vc (zz sl si (7, 0)) (fun _ => false) K Q mX3_isDone 33 0 mX3_isDone.2.2.2.2.2.2 h [(0, (2, 89)), (1, (2, 21)), (2, (2, 5)), (3, (0, k))] [] := H
set_option maxHeartbeats 600000 in
theorem c_X3_isDone5 {sl : Nat} {si : Nat → Int} {h h' : PH} {L : PH} {k K a b n : Int} {v : Int} (hL : CL 5 h L) (hw : W10 L) (hx0 : 0 ≤ h 89 7 ∧ h 89 7 ≤ 65535) (eK : h 22 k.toNat = K) (ea : h 23 k.toNat = a) (eb : h 24 k.toNat = b) (en : h 25 k.toNat = n) (hok : okw L K a b n) (hK : K = 1 ∨ (10 ≤ K ∧ K ≤ 14) ∨ K = 16) (hc : CP (zz sl si (7, 0)) mX3_isDone h [(2, 89), (2, 21), (2, 5), (0, k)] h' [(0, v)]) : ∃ M x, dnL L (h 89 7) K a b n v M x ∧ CL 5 h' M ∧ W10 M ∧ h' 89 7 = x ∧ (0 ≤ x ∧ x ≤ 65535) ∧ ∀ c k : Nat, ¬ (5 ≤ c ∧ c ≤ 20) → ¬ (c = 89 ∧ k = 7) → h' c k = h c k := by
  have q : (fun (xh : PH) (r : List ZV) => ∀ v : Int, r = [(0, v)] → (∃ M x, dnL L (h 89 7) K a b n v M x ∧ CL 5 xh M ∧ W10 M ∧ xh 89 7 = x ∧ (0 ≤ x ∧ x ≤ 65535) ∧ ∀ c k : Nat, ¬ (5 ≤ c ∧ c ≤ 20) → ¬ (c = 89 ∧ k = 7) → xh c k = h c k)) h' [(0, v)] := by
    refine cp_vc (cut := (fun _ => false)) (K := fun p hx lv st => False) (Q := fun (xh : PH) (r : List ZV) => ∀ v : Int, r = [(0, v)] → (∃ M x, dnL L (h 89 7) K a b n v M x ∧ CL 5 xh M ∧ W10 M ∧ xh 89 7 = x ∧ (0 ≤ x ∧ x ≤ 65535) ∧ ∀ c k : Nat, ¬ (5 ≤ c ∧ c ≤ 20) → ¬ (c = 89 ∧ k = 7) → xh c k = h c k)) (v_X3_isDone5 ?_) (fun pc hx lv st hcut hK => ?_) hc
    · exact (fun b1 r2 => (fun b3 r4 => (fun b5 r6 => (fun b7 r8 => ⟨fun c25 => (fun h25 v25 p25 q25 => (fun h26 v26 p26 q26 => (by have kk : K = 16 := (by omega); have cb := clv_b (L := L) (L 0 4).toNat; have h8 := hw.1.1.2.1; obtain ⟨y, n⟩ := c_X3_drawLiving5 hL hw hx0 p25; intro v e; cases e; by_cases z : clv L (L 0 4).toNat < 1; (obtain ⟨z1, z2⟩ := y z; have z2 := z2.symm; subst z2; have bu := c_X1_bury5 hL hw.1 hw.2.1 (Or.inl z1) p26; rcases bu with ⟨b1, b2, b3⟩ | ⟨b1, b2, b3⟩; (rw [b2]; exact ⟨L, h 89 7, (by unfold dnL; refine ⟨?_, ?_, ?_, ?_, ?_, ?_, ?_⟩ <;> intro q <;> first | (exfalso; omega) | exact (⟨fun _ => ⟨rfl, b1, rfl⟩, fun q => absurd q (by omega)⟩)), hL, hw, rfl, hx0, fun _ _ _ _ => rfl⟩); (exact absurd z1 b2)); (obtain ⟨p, z1, z2, z3, z4, z5⟩ := n (by omega); have hL2 : CL 5 h25 L := hL.fr (fun c k q1 q2 => by rw [z5, up_ne (by omega)]); have bu := c_X1_bury5 hL2 hw.1 hw.2.1 (Or.inr (by omega)) p26; rw [z4, Int.toNat_natCast] at bu; rcases bu with ⟨b1, b2, b3⟩ | ⟨b1, b2, b3, ⟨M, b4, b5⟩, b6⟩; (exact absurd (b3.resolve_left (by omega)) z2); (have wM := hw.di z1 b5; exact ⟨M, dwN (h 89 7), (by unfold dnL; refine ⟨?_, ?_, ?_, ?_, ?_, ?_, ?_⟩ <;> intro q <;> first | (exfalso; omega) | exact (⟨fun q => absurd q z, fun _ => ⟨p, z1, z2, z3, rfl, b1, wM, b5⟩⟩)), b4, wM, (by rw [b6 89 7 (by omega) (by omega) (by omega), z5, up_sm]), dwN_b hx0.1 hx0.2, fun c k q1 q2 => by rw [b6 c k (by omega) (by omega) (by omega), z5, up_ne q2]⟩))))), fun c25 => ⟨fun c24 => (fun h24 v24 p24 q24 => (by rw [ea] at p24; have hr := hok.2.1 (by omega); obtain ⟨y, n⟩ := c_X5_strew5 hL hw hr (by omega) p24; intro v e; cases e; by_cases z : (bB (L 1 1) a.toNat = true ↔ (1 : Int) = 1); (obtain ⟨z1, z2⟩ := y z; rw [z2]; exact ⟨L, h 89 7, (by unfold dnL; refine ⟨?_, ?_, ?_, ?_, ?_, ?_, ?_⟩ <;> intro q <;> first | (exfalso; omega) | exact (⟨rfl, fun _ => ⟨z1, rfl⟩, fun q => absurd z q⟩)), hL, hw, rfl, hx0, fun _ _ _ _ => rfl⟩); (obtain ⟨z1, ⟨M, m1, m2, m3⟩, m4⟩ := n z; have wM := hw.sa hr m2 m3; exact ⟨M, h 89 7, (by unfold dnL; refine ⟨?_, ?_, ?_, ?_, ?_, ?_, ?_⟩ <;> intro q <;> first | (exfalso; omega) | exact (⟨rfl, fun q => absurd q z, fun _ => ⟨z1, wM, m3⟩⟩)), m1, wM, m4 89 7 (by omega) (by omega) (by omega), hx0, fun c k q1 q2 => m4 c k (by omega) (by omega) (by omega)⟩))), fun c24 => ⟨fun c23 => (fun h22 v22 p22 q22 => (fun h23 v23 p23 q23 => (by exfalso; omega))), fun c23 => ⟨fun c22 => (fun h20 v20 p20 q20 => (fun h21 v21 p21 q21 => (by exfalso; omega))), fun c22 => ⟨fun c21 => (fun h18 v18 p18 q18 => (fun h19 v19 p19 q19 => (by exfalso; omega))), fun c21 => ⟨fun c20 => (fun h16 v16 p16 q16 => (fun h17 v17 p17 q17 => (by exfalso; omega))), fun c20 => ⟨fun c19 => (fun h14 v14 p14 q14 => (fun h15 v15 p15 q15 => (by exfalso; omega))), fun c19 => ⟨fun c18 => (fun h12 v12 p12 q12 => (fun h13 v13 p13 q13 => (by exfalso; omega))), fun c18 => ⟨fun c17 => (fun h10 v10 p10 q10 => (fun h11 v11 p11 q11 => (by exfalso; omega))), fun c17 => ⟨fun c16 => (fun h8 v8 p8 q8 => (fun h9 v9 p9 q9 => (by exfalso; omega))), fun c16 => ⟨fun c13 => (fun r14 => ⟨fun c15 => (fun h7 p7 => (by have k12 : h 5 12 = L 0 12 := hL 0 12 (Or.inl ⟨rfl, Or.inr (Or.inr (Or.inr (Or.inr (Or.inl rfl))))⟩); rw [k12, en] at c15; have hn := hok.2.2.2.2.2.1 (by omega); rw [en] at p7; obtain ⟨x1, x2⟩ := c_X1_passNights5 hL hw.1 (by omega) p7; intro v e; cases e; exact ⟨nsL L n.toNat, h 89 7, (by unfold dnL; refine ⟨?_, ?_, ?_, ?_, ?_, ?_, ?_⟩ <;> intro q <;> first | (exfalso; omega) | exact (⟨rfl, fun q => absurd q (by omega), fun _ => ⟨rfl, rfl⟩⟩)), x1, nsL_w10 hw n.toNat, x2 89 7 (by omega) (by omega), hx0, fun c k q1 q2 => x2 c k (by omega) (by omega)⟩)), fun c15 => (by have k12 : h 5 12 = L 0 12 := hL 0 12 (Or.inl ⟨rfl, Or.inr (Or.inr (Or.inr (Or.inr (Or.inl rfl))))⟩); rw [k12, en] at c15; have hn := hok.2.2.2.2.2.1 (by omega); intro v e; cases e; exact ⟨L, h 89 7, (by unfold dnL; refine ⟨?_, ?_, ?_, ?_, ?_, ?_, ?_⟩ <;> intro q <;> first | (exfalso; omega) | exact (⟨rfl, fun _ => ⟨rfl, rfl⟩, fun q => absurd (show 9999 < w32 (L 0 12 + n) by omega) q⟩)), hL, hw, rfl, hx0, fun _ _ _ _ => rfl⟩)⟩), fun c13 => ⟨fun c12 => (fun h6 v6 p6 q6 => (by rw [ea] at p6; have hr := hok.2.2.1 (by omega); have bu := c_X1_bury5 hL hw.1 hw.2.1 (Or.inr hr) p6; intro v e; cases e; rcases bu with ⟨b1, b2, b3⟩ | ⟨b1, b2, b3, ⟨M, b4, b5⟩, b6⟩; (rw [b2]; exact ⟨L, h 89 7, (by unfold dnL; refine ⟨?_, ?_, ?_, ?_, ?_, ?_, ?_⟩ <;> intro q <;> first | (exfalso; omega) | exact (⟨rfl, fun _ => ⟨b1, rfl⟩, fun q => absurd (b3.resolve_left (by have := hr.1; omega)) q⟩)), hL, hw, rfl, hx0, fun _ _ _ _ => rfl⟩); (have ha4 := hr.2; have ha0 := hr.1; have wM := hw.di (by omega) b5; exact ⟨M, h 89 7, (by unfold dnL; refine ⟨?_, ?_, ?_, ?_, ?_, ?_, ?_⟩ <;> intro q <;> first | (exfalso; omega) | exact (⟨rfl, fun q => absurd q b3, fun _ => ⟨b1, wM, b5⟩⟩)), b4, wM, b6 89 7 (by omega) (by omega) (by omega), hx0, fun c k q1 q2 => b6 c k (by omega) (by omega) (by omega)⟩))), fun c12 => ⟨fun c11 => (fun h5 v5 p5 q5 => (by rw [ea, eb] at p5; have hr := hok.2.2.1 (by omega); have hr2 := hok.2.2.2.1 (by omega); have re := c_X1_remit5 hL hw.1 hr hr2 p5; intro v e; cases e; rcases re with ⟨b1, b2, b3⟩ | ⟨b1, b2, b3, b4, b5⟩; (rw [b2]; exact ⟨L, h 89 7, (by unfold dnL; refine ⟨?_, ?_, ?_, ?_, ?_, ?_, ?_⟩ <;> intro q <;> first | (exfalso; omega) | exact (⟨rfl, fun _ => ⟨b1, rfl⟩, fun q => absurd b3 q⟩)), hL, hw, rfl, hx0, fun _ _ _ _ => rfl⟩); (exact ⟨owe L b a 0, h 89 7, (by unfold dnL; refine ⟨?_, ?_, ?_, ?_, ?_, ?_, ?_⟩ <;> intro q <;> first | (exfalso; omega) | exact (⟨rfl, fun q => q.elim (fun y => absurd y b2) (fun y => absurd y b3), fun _ => ⟨b1, rfl⟩⟩)), b4, hw.ow hr2 hr (Or.inr rfl) (by omega), b5 89 7 (by omega) (by omega), hx0, fun c k q1 q2 => b5 c k (by omega) (by omega)⟩))), fun c11 => ⟨fun c10 => (fun h4 v4 p4 q4 => (by rw [ea] at p4; have hr := hok.2.1 (by omega); obtain ⟨y, n⟩ := c_X5_strew5 hL hw hr (by omega) p4; intro v e; cases e; by_cases z : (bB (L 1 1) a.toNat = true ↔ (0 : Int) = 1); (obtain ⟨z1, z2⟩ := y z; rw [z2]; exact ⟨L, h 89 7, (by unfold dnL; refine ⟨?_, ?_, ?_, ?_, ?_, ?_, ?_⟩ <;> intro q <;> first | (exfalso; omega) | exact (⟨rfl, fun _ => ⟨z1, rfl⟩, fun q => absurd z q⟩)), hL, hw, rfl, hx0, fun _ _ _ _ => rfl⟩); (obtain ⟨z1, ⟨M, m1, m2, m3⟩, m4⟩ := n z; have wM := hw.sa hr m2 m3; exact ⟨M, h 89 7, (by unfold dnL; refine ⟨?_, ?_, ?_, ?_, ?_, ?_, ?_⟩ <;> intro q <;> first | (exfalso; omega) | exact (⟨rfl, fun q => absurd q z, fun _ => ⟨z1, wM, m3⟩⟩)), m1, wM, m4 89 7 (by omega) (by omega) (by omega), hx0, fun c k q1 q2 => m4 c k (by omega) (by omega) (by omega)⟩))), fun c10 => ⟨fun c9 => (fun h3 v3 p3 q3 => (by rw [ea, eb, en] at p3; have hr := hok.2.2.1 (by omega); have hr2 := hok.2.2.2.1 (by omega); have hn := hok.2.2.2.2.2.2.1 (by omega); have h8 := hw.1.1.2.1; have ra := hr.1; have ra2 := hr.2; have rb := hr2.1; have rb2 := hr2.2; have o7 := hw.1.1.2.2.2.2.1 (8 * a.toNat + b.toNat) (by omega); have re := c_X1_slander5 hL hw.1 hr hr2 hn p3; intro v e; cases e; rcases re with ⟨b1, b2, b3⟩ | ⟨b1, b2, b3, b4, b5⟩; (rw [b2]; exact ⟨L, h 89 7, (by unfold dnL; refine ⟨?_, ?_, ?_, ?_, ?_, ?_, ?_⟩ <;> intro q <;> first | (exfalso; omega) | exact (⟨rfl, fun _ => ⟨b1, rfl⟩, fun q => absurd b3 q⟩)), hL, hw, rfl, hx0, fun _ _ _ _ => rfl⟩); (exact ⟨owe L a b (cap9 (L 7 (8 * a.toNat + b.toNat) + n)), h 89 7, (by unfold dnL; refine ⟨?_, ?_, ?_, ?_, ?_, ?_, ?_⟩ <;> intro q <;> first | (exfalso; omega) | exact (⟨rfl, fun q => q.elim (fun y => absurd b2 y) (fun y => absurd y b3), fun _ => ⟨b1, rfl⟩⟩)), b4, hw.ow hr hr2 (Or.inl (fun z => b3 (by rw [← z]; exact b2))) (cap9_b (by omega)), b5 89 7 (by omega) (by omega), hx0, fun c k q1 q2 => b5 c k (by omega) (by omega)⟩))), fun c9 => (fun h1 v1 p1 q1 => (fun h2 v2 p2 q2 => (by exfalso; omega)))⟩⟩⟩⟩⟩⟩⟩⟩⟩⟩⟩⟩⟩⟩⟩))))
    · exact hK.elim
  exact q v rfl
end
section
/-! 45z.8w.nby -/
/-! live(): NIGHTS of a step, in the reference -/
set_option maxRecDepth 10000 in
theorem v_X12_nightsByL {sl : Nat} {si : Nat → Int} {K : Nat → PH → ZL → List ZV → Prop} {Q : PH → List ZV → Prop} {h : PH}  {a : Int} (H : 0 ≤ (2 : Int) ∧ (2 : Int) < (3696 : Nat) → R32 (h 170 2) → ((w32 ((h 170 2) + a)) ≤ 9999 → 0 ≤ (3 : Int) ∧ (3 : Int) < (3696 : Nat) → R32 (h 170 3) → ∀ h1, CP (zz sl si (7, 0)) mX12_nights h [(2, 169), (0, a)] h1 [] → 0 ≤ (1 : Int) ∧ (1 : Int) < (5 : Nat) → R32 (h1 183 1) → 0 ≤ (1 : Int) ∧ (1 : Int) < (5 : Nat) → 0 ≤ (2 : Int) ∧ (2 : Int) < (5 : Nat) → R32 (h1 183 2) → 0 ≤ (3 : Int) ∧ (3 : Int) < (3696 : Nat) → R32 (h1 170 3) → 0 ≤ (2 : Int) ∧ (2 : Int) < (5 : Nat) → Q (uph (uph h1 183 1 (w32 ((h1 183 1) + a))) 183 2 (w32 ((h1 183 2) + (w32 ((h1 170 3) - (h 170 3)))))) [(0, 1)]) ∧ (¬ ((w32 ((h 170 2) + a)) ≤ 9999) → Q h [(0, 0)])) : vc (zz sl si (7, 0)) (fun _ => false) K Q mX12_nightsBy 41 0 mX12_nightsBy.2.2.2.2.2.2 h [(0, (2, 169)), (1, (0, a))] [] := H
set_option maxHeartbeats 600000 in
theorem c_X12_nightsByL {sl : Nat} {si : Nat → Int} {h h' : PH} {L : PH} {a : Int} {v : Int} (r : RN9 h L) (hw : W10 L) (hB : BdR h) (hD : BdD h) (ha : 0 ≤ a ∧ a ≤ 9999) (hc : CP (zz sl si (7, 0)) mX12_nightsBy h [(2, 169), (0, a)] h' [(0, v)]) : ((9999 < w32 (L 0 12 + a)) → v = 0 ∧ h' = h) ∧ (¬ (9999 < w32 (L 0 12 + a)) → v = 1 ∧ RN9 h' (nsL L a.toNat) ∧ (BdR h' ∧ BdD h') ∧ (h' 183 1 = w32 (h 183 1 + a) ∧ h' 183 2 = w32 (h 183 2 + w32 ((nsL L a.toNat) 0 13 - L 0 13))) ∧ ∀ c k : Nat, ¬ (c = 170 ∧ k < 131 ∧ k ≠ 4) → ¬ (c = 178 ∧ k < 7) → ¬ (c = 183 ∧ (k = 1 ∨ k = 2)) → h' c k = h c k) := by
  have q : (fun (xh : PH) (r : List ZV) => ∀ v : Int, r = [(0, v)] → (((9999 < w32 (L 0 12 + a)) → v = 0 ∧ xh = h) ∧ (¬ (9999 < w32 (L 0 12 + a)) → v = 1 ∧ RN9 xh (nsL L a.toNat) ∧ (BdR xh ∧ BdD xh) ∧ (xh 183 1 = w32 (h 183 1 + a) ∧ xh 183 2 = w32 (h 183 2 + w32 ((nsL L a.toNat) 0 13 - L 0 13))) ∧ ∀ c k : Nat, ¬ (c = 170 ∧ k < 131 ∧ k ≠ 4) → ¬ (c = 178 ∧ k < 7) → ¬ (c = 183 ∧ (k = 1 ∨ k = 2)) → xh c k = h c k))) h' [(0, v)] := by
    refine cp_vc (cut := (fun _ => false)) (K := fun p hx lv st => False) (Q := fun (xh : PH) (r : List ZV) => ∀ v : Int, r = [(0, v)] → (((9999 < w32 (L 0 12 + a)) → v = 0 ∧ xh = h) ∧ (¬ (9999 < w32 (L 0 12 + a)) → v = 1 ∧ RN9 xh (nsL L a.toNat) ∧ (BdR xh ∧ BdD xh) ∧ (xh 183 1 = w32 (h 183 1 + a) ∧ xh 183 2 = w32 (h 183 2 + w32 ((nsL L a.toNat) 0 13 - L 0 13))) ∧ ∀ c k : Nat, ¬ (c = 170 ∧ k < 131 ∧ k ≠ 4) → ¬ (c = 178 ∧ k < 7) → ¬ (c = 183 ∧ (k = 1 ∨ k = 2)) → xh c k = h c k))) (v_X12_nightsByL ?_) (fun pc hx lv st hcut hK => ?_) hc
    · exact (fun b1 r2 => ⟨fun c3 => (fun b4 r5 => (fun h1 p1 => (fun b6 r7 => (fun b8 => (fun b9 r10 => (fun b11 r12 => (fun b13 => (by have n2 : h 170 2 = L 0 12 := r.1.2.2.1; have n3 : h 170 3 = L 0 13 := r.1.2.2.2; have e := c_X12_nights hB hD ha p1; obtain ⟨x1, x2, x3⟩ := nsR_b hB hD a.toNat; have rr := e.r; have rn := (ns_b9 r hw.1 a.toNat).e rr; have n3b : h1 170 3 = nsL L a.toNat 0 13 := rn.1.2.2.2; have F : ∀ c k : Nat, ¬ (c = 170 ∧ k < 131 ∧ k ≠ 4) → ¬ (c = 178 ∧ k < 7) → h1 c k = h c k := (fun c k q1 q2 => (e c k q2).trans (x3 c k (by omega))); have f1 : h1 183 1 = h 183 1 := F 183 1 (by omega) (by omega); have f2 : h1 183 2 = h 183 2 := F 183 2 (by omega) (by omega); rw [n2] at c3; rw [n3b, n3, f1, f2]; have e7 : ∀ (v w : Int), (uph (uph h1 183 1 v) 183 2 w) 170 = nsR h a.toNat 170 := (fun v w => (show (uph (uph h1 183 1 v) 183 2 w) 170 = h1 170 from funext (fun k => by rw [up_ne (by omega), up_ne (by omega)])).trans rr); intro v e; cases e; exact ⟨fun q => absurd q (by omega), fun _ => ⟨rfl, (ns_b9 r hw.1 a.toNat).e (e7 _ _), ⟨(Bd_e (e7 _ _)).1 x1, (Bd_e (e7 _ _)).2.1 x2⟩, ⟨by rw [up_ne (by omega), up_sm], up_sm⟩, fun c k q1 q2 q3 => by rw [up_ne (by omega), up_ne (by omega)]; exact F c k q1 q2⟩⟩)))))))), fun c3 => (by have n2 : h 170 2 = L 0 12 := r.1.2.2.1; have n3 : h 170 3 = L 0 13 := r.1.2.2.2; rw [n2] at c3; intro v e; cases e; exact ⟨fun _ => ⟨rfl, rfl⟩, fun q => absurd (show 9999 < w32 (L 0 12 + a) by omega) q⟩)⟩)
    · exact hK.elim
  exact q v rfl
end
section
/-! 45z.8x.trace -/
/-! live(): the steps of a life -/
def hdS (L : PH) (K a b n : Int) : Prop := if K = 19 then ¬ (bB (L 0 7) a.toNat = true ∧ 0 < L 8 a.toNat) else if K = 20 then L 11 a.toNat = b else if b = 60 then L 15 a.toNat < n else if b = 62 then n < L 15 a.toNat else L 15 a.toNat = n
def upt (T : Nat → Int) (o : Nat) (v : Int) : Nat → Int := fun i => if i = o then v else T i
theorem upt_s {T : Nat → Int} {o : Nat} {v : Int} : upt T o v o = v := if_pos rfl
theorem upt_o {T : Nat → Int} {o i : Nat} {v : Int} (h : i ≠ o) : upt T o v i = T i := if_neg h
def same3 (s u : (Int × PH × Int × (Nat → Int) × Int × Int)) : Prop := u.2.1 = s.2.1 ∧ u.2.2.1 = s.2.2.1 ∧ u.2.2.2.2.2 = s.2.2.2.2.2
/-- one place of TALES: place, LAND, draws, turns, done, missed -/
def lstp (Y : PH) (s u : (Int × PH × Int × (Nat → Int) × Int × Int)) : Prop :=
  (0 ≤ s.1 ∧ s.1 < Y 43 2) ∧ (Y 44 s.1.toNat ≠ 22 → s.2.2.2.2.1 < 300 ∧ u.2.2.2.2.1 = s.2.2.2.2.1 + 1) ∧ (Y 44 s.1.toNat = 22 → u.2.2.2.2.1 = s.2.2.2.2.1) ∧
  (Y 44 s.1.toNat = 21 → same3 s u ∧ u.1 = s.1 + 1 ∧ u.2.2.2.1 = upt s.2.2.2.1 s.1.toNat (Y 47 s.1.toNat)) ∧
  (Y 44 s.1.toNat = 22 → same3 s u ∧ u.2.2.2.1 = upt s.2.2.2.1 (Y 48 s.1.toNat).toNat (w32 (s.2.2.2.1 (Y 48 s.1.toNat).toNat - 1)) ∧ (Y 44 (Y 48 s.1.toNat).toNat = 21 ∧ 0 < w32 (s.2.2.2.1 (Y 48 s.1.toNat).toNat - 1) → u.1 = Y 48 s.1.toNat + 1) ∧ (¬ (Y 44 (Y 48 s.1.toNat).toNat = 21 ∧ 0 < w32 (s.2.2.2.1 (Y 48 s.1.toNat).toNat - 1)) → u.1 = s.1 + 1)) ∧
  (Y 44 s.1.toNat = 18 ∨ Y 44 s.1.toNat = 19 ∨ Y 44 s.1.toNat = 20 → same3 s u ∧ u.2.2.2.1 = s.2.2.2.1 ∧ (hdS s.2.1 (Y 44 s.1.toNat) (Y 45 s.1.toNat) (Y 46 s.1.toNat) (Y 47 s.1.toNat) → u.1 = s.1 + 1) ∧ (¬ hdS s.2.1 (Y 44 s.1.toNat) (Y 45 s.1.toNat) (Y 46 s.1.toNat) (Y 47 s.1.toNat) → u.1 = Y 48 s.1.toNat + 1)) ∧
  (Y 44 s.1.toNat = 23 → same3 s u ∧ u.2.2.2.1 = s.2.2.2.1 ∧ u.1 = Y 43 2) ∧
  (Y 44 s.1.toNat = 1 ∨ (10 ≤ Y 44 s.1.toNat ∧ Y 44 s.1.toNat ≤ 14) ∨ Y 44 s.1.toNat = 16 → u.1 = s.1 + 1 ∧ u.2.2.2.1 = s.2.2.2.1 ∧ ∃ v : Int, (v = 0 ∨ v = 1) ∧ W10 u.2.1 ∧ dnL s.2.1 s.2.2.1 (Y 44 s.1.toNat) (Y 45 s.1.toNat) (Y 46 s.1.toNat) (Y 47 s.1.toNat) v u.2.1 u.2.2.1 ∧ u.2.2.2.2.2 = s.2.2.2.2.2 + (1 - v))
def trL (Y : PH) : Nat → (Int × PH × Int × (Nat → Int) × Int × Int) → (Int × PH × Int × (Nat → Int) × Int × Int) → Prop
  | 0, s, u => s = u
  | n + 1, s, u => ∃ t, lstp Y s t ∧ trL Y n t u
theorem trL_r {Y : PH} : ∀ (n : Nat) {s t u : (Int × PH × Int × (Nat → Int) × Int × Int)}, trL Y n s t → lstp Y t u → trL Y (n + 1) s u
  | 0, s, t, u, h, l => by cases h; exact ⟨u, l, rfl⟩
  | n + 1, s, t, u, ⟨r, a, b⟩, l => ⟨r, a, trL_r n b l⟩
/-- nothing comes behind -/
def fin (Y : PH) (s : (Int × PH × Int × (Nat → Int) × Int × Int)) : Prop := ¬ (0 ≤ s.1 ∧ s.1 < Y 43 2) ∨ (Y 44 s.1.toNat ≠ 22 ∧ 300 ≤ s.2.2.2.2.1)
theorem trL_0 {Y : PH} {n : Nat} {s u : (Int × PH × Int × (Nat → Int) × Int × Int)} (h : trL Y n s u) (f : fin Y s) : s = u := by
  match n, h with
  | 0, h => exact h
  | n + 1, ⟨t, l, _⟩ => exact (f.elim (fun q => q l.1) (fun q => absurd (l.2.1 q.1).1 (by omega))).elim
theorem trL_1 {Y : PH} {n : Nat} {s u : (Int × PH × Int × (Nat → Int) × Int × Int)} (h : trL Y n s u) (f : fin Y u) (g : ¬ fin Y s) : ∃ m t, n = m + 1 ∧ lstp Y s t ∧ trL Y m t u := by
  match n, h with
  | 0, h => cases h; exact absurd f g
  | n + 1, ⟨t, l, q⟩ => exact ⟨n, t, rfl, l, q⟩
/-- the LOOP at o is open at k -/
def opk (Y : PH) (k : Int) (o : Nat) : Prop := (o : Int) < k ∧ k ≤ Y 48 o ∧ isO (Y 44 o)
def WYc (L Y : PH) : Prop := 0 ≤ Y 43 2 ∧
  (∀ k : Nat, (k : Int) < Y 43 2 → okw L (Y 44 k) (Y 45 k) (Y 46 k) (Y 47 k)) ∧
  (∀ k : Nat, (k : Int) < Y 43 2 → isO (Y 44 k) → ((k : Int) < Y 48 k ∧ Y 48 k < Y 43 2) ∧ Y 44 (Y 48 k).toNat = 22 ∧ Y 48 (Y 48 k).toNat = (k : Int)) ∧
  (∀ k : Nat, (k : Int) < Y 43 2 → Y 44 k = 22 → (0 ≤ Y 48 k ∧ Y 48 k < (k : Int)) ∧ isO (Y 44 (Y 48 k).toNat) ∧ Y 48 (Y 48 k).toNat = (k : Int)) ∧
  ∀ o p : Nat, (o : Int) < Y 43 2 → isO (Y 44 o) → isO (Y 44 p) → o < p → (p : Int) < Y 48 o → Y 48 p < Y 48 o
section WYC
variable {L Y : PH}
theorem WYc.n0 (w : WYc L Y) : 0 ≤ Y 43 2 := w.1
theorem WYc.ok (w : WYc L Y) : ∀ k : Nat, (k : Int) < Y 43 2 → okw L (Y 44 k) (Y 45 k) (Y 46 k) (Y 47 k) := w.2.1
theorem WYc.op (w : WYc L Y) : ∀ k : Nat, (k : Int) < Y 43 2 → isO (Y 44 k) → ((k : Int) < Y 48 k ∧ Y 48 k < Y 43 2) ∧ Y 44 (Y 48 k).toNat = 22 ∧ Y 48 (Y 48 k).toNat = (k : Int) := w.2.2.1
theorem WYc.cl (w : WYc L Y) : ∀ k : Nat, (k : Int) < Y 43 2 → Y 44 k = 22 → (0 ≤ Y 48 k ∧ Y 48 k < (k : Int)) ∧ isO (Y 44 (Y 48 k).toNat) ∧ Y 48 (Y 48 k).toNat = (k : Int) := w.2.2.2.1
theorem WYc.ne (w : WYc L Y) : ∀ o p : Nat, (o : Int) < Y 43 2 → isO (Y 44 o) → isO (Y 44 p) → o < p → (p : Int) < Y 48 o → Y 48 p < Y 48 o := w.2.2.2.2
end WYC
theorem WY9.c {L Y : PH} (w : WY9 L Y) (z : Y 50 4 = 0) : WYc L Y := by
  obtain ⟨⟨a0, -⟩, a1, -, a3, a4, a5⟩ := w
  have nk : ∀ k, ¬ inK Y k := fun k ⟨i, hi, _⟩ => by omega
  exact ⟨a0, a1, fun k hk ho => a3 k hk ho (nk _), fun k hk h => by obtain ⟨x, y, z, -⟩ := a4 k hk h; exact ⟨x, y, z⟩, fun o p ho h1 h2 h3 h4 => (a5 o p ho h1 (nk _) h2 h3 h4).2⟩
theorem lstp_o {L Y : PH} {s u : (Int × PH × Int × (Nat → Int) × Int × Int)} (w : WYc L Y) (t : lstp Y s u) : (0 ≤ u.1 ∧ u.1 ≤ Y 43 2) ∧ ∀ o : Nat, opk Y u.1 o → (opk Y s.1 o ∧ u.2.2.2.1 o = s.2.2.2.1 o ∧ (Y 44 s.1.toNat = 22 → (o : Int) ≠ Y 48 s.1.toNat)) ∨ ((o : Int) = s.1 ∧ isO (Y 44 s.1.toNat) ∧ (Y 44 s.1.toNat = 21 → u.2.2.2.1 o = Y 47 o)) ∨ (Y 44 s.1.toNat = 22 ∧ (o : Int) = Y 48 s.1.toNat ∧ Y 44 o = 21 ∧ u.2.2.2.1 o = w32 (s.2.2.2.1 o - 1) ∧ 0 < w32 (s.2.2.2.1 o - 1) ∧ opk Y s.1 o) := by
  obtain ⟨k, L1, x, T, d, m⟩ := s
  obtain ⟨k', L2, x', T', d', m'⟩ := u
  obtain ⟨⟨h0, h1⟩, -, -, t21, t22, tw, t23, tr⟩ := t
  simp only [] at h0 h1 t21 t22 tw t23 tr ⊢
  obtain ⟨i, rfl⟩ : ∃ i : Nat, k = (i : Int) := ⟨k.toNat, by omega⟩
  simp only [Int.toNat_natCast] at *
  have ok := w.ok i h1
  have kk := ok.1
  -- one further
  have up : ¬ (Y 44 i = 22) → ∀ o : Nat, opk Y ((i : Int) + 1) o → o ≠ i → opk Y (i : Int) o := fun _ o ⟨a, b, c⟩ hn => ⟨by omega, by omega, c⟩
  by_cases c21 : Y 44 i = 21
  · obtain ⟨-, e, eT⟩ := t21 c21
    subst e; subst eT
    refine ⟨by omega, fun o ho => ?_⟩
    by_cases q : o = i
    · subst q
      exact Or.inr (Or.inl ⟨rfl, Or.inr (Or.inr (Or.inr c21)), fun _ => upt_s⟩)
    · exact Or.inl ⟨up (by omega) o ho q, upt_o q, fun z => by omega⟩
  · by_cases c22 : Y 44 i = 22
    · obtain ⟨-, eT, ea, eb⟩ := t22 c22
      obtain ⟨⟨b0, b1⟩, b2, b3⟩ := w.cl i h1 c22
      have b4 : ((Y 48 i).toNat : Int) = Y 48 i := Int.toNat_of_nonneg b0
      subst eT
      by_cases z : Y 44 (Y 48 i).toNat = 21 ∧ 0 < w32 (T (Y 48 i).toNat - 1)
      · have e := ea z
        subst e
        refine ⟨by omega, fun o ho => ?_⟩
        by_cases q : o = (Y 48 i).toNat
        · subst q
          exact Or.inr (Or.inr ⟨c22, b4, z.1, upt_s, z.2, by omega, by omega, b2⟩)
        · obtain ⟨o1, o2, o3⟩ := ho
          have n := w.ne o (Y 48 i).toNat (by omega) o3 b2 (by omega) (by omega)
          rw [b3] at n
          exact Or.inl ⟨⟨by omega, by omega, o3⟩, upt_o q, fun _ => by omega⟩
      · have e := eb z
        subst e
        refine ⟨by omega, fun o ho => ?_⟩
        obtain ⟨o1, o2, o3⟩ := ho
        have q : o ≠ (Y 48 i).toNat := fun q => by subst q; omega
        have q2 : o ≠ i := fun q => by subst q; clear t21 t22 tw t23 tr; unfold isO at o3; omega
        exact Or.inl ⟨⟨by omega, by omega, o3⟩, upt_o q, fun _ => by omega⟩
    · by_cases cw : Y 44 i = 18 ∨ Y 44 i = 19 ∨ Y 44 i = 20
      · obtain ⟨-, eT, ea, eb⟩ := tw cw
        have io : isO (Y 44 i) := by unfold isO; omega
        obtain ⟨⟨b0, b1⟩, b2, b3⟩ := w.op i h1 io
        subst eT
        by_cases z : hdS L1 (Y 44 i) (Y 45 i) (Y 46 i) (Y 47 i)
        · have e := ea z
          subst e
          refine ⟨by omega, fun o ho => ?_⟩
          by_cases q : o = i
          · subst q
            exact Or.inr (Or.inl ⟨rfl, io, fun z => absurd z c21⟩)
          · exact Or.inl ⟨up c22 o ho q, rfl, fun z => absurd z c22⟩
        · have e := eb z
          subst e
          refine ⟨by omega, fun o ho => ?_⟩
          obtain ⟨o1, o2, o3⟩ := ho
          by_cases q : o = i
          · subst q
            omega
          · refine Or.inl ⟨⟨?_, by omega, o3⟩, rfl, fun z => absurd z c22⟩
            show (o : Int) < i
            by_cases g : o < i
            · omega
            · exfalso
              by_cases g2 : (o : Int) < Y 48 i
              · have n := w.ne i o h1 io o3 (by omega) g2
                omega
              · have e : o = (Y 48 i).toNat := by omega
                rw [e, b2] at o3
                unfold isO at o3
                omega
      · by_cases c23 : Y 44 i = 23
        · obtain ⟨-, eT, e⟩ := t23 c23
          subst eT; subst e
          refine ⟨by omega, fun o ho => ?_⟩
          obtain ⟨o1, o2, o3⟩ := ho
          have := w.op o (by omega) o3
          omega
        · obtain ⟨e, eT, -⟩ := tr (by omega)
          subst e; subst eT
          refine ⟨by omega, fun o ho => ?_⟩
          have q2 : o ≠ i := fun q => by subst q; clear t21 t22 tw t23 tr; have := ho.2.2; unfold isO at this; omega
          exact Or.inl ⟨up c22 o ho q2, rfl, fun z => absurd z c22⟩
def ENk (Y : PH) (T : Nat → Int) (k : Int) : Prop := ∀ o : Nat, opk Y k o → Y 44 o = 21 → 1 ≤ T o ∧ T o ≤ 99
theorem lstp_en {L Y : PH} {s u : (Int × PH × Int × (Nat → Int) × Int × Int)} (w : WYc L Y) (t : lstp Y s u) (e : ENk Y s.2.2.2.1 s.1) : ENk Y u.2.2.2.1 u.1 := fun o ho h21 => by
  have ks := t.1
  rcases (lstp_o w t).2 o ho with ⟨a, b, -⟩ | ⟨a, b, c⟩ | ⟨-, -, -, b, c, a⟩
  · rw [b]; exact e o a h21
  · have eo : s.1.toNat = o := by omega
    rw [eo] at c
    rw [c h21]
    exact (w.ok o (by omega)).2.2.2.2.2.2.1 (Or.inr h21)
  · have := e o a h21
    rw [w32_id (by omega) (by omega)] at b c
    omega
def phe (Y : PH) (T : Nat → Int) (k : Int) (o : Nat) : Int := if (o : Int) < k ∧ k ≤ Y 48 o ∧ (Y 44 o = 18 ∨ Y 44 o = 19 ∨ Y 44 o = 20 ∨ Y 44 o = 21) then (if Y 44 o = 21 then T o else 1) else 0
def phS (f : Nat → Int) : Nat → Int
  | 0 => 0
  | n + 1 => phS f n + f n
theorem phS_le {f g : Nat → Int} {q : Nat} {c : Int} (h1 : ∀ o, o ≠ q → g o ≤ f o) (h2 : g q ≤ f q + c) : ∀ n : Nat, phS g n ≤ phS f n + (if q < n then c else 0)
  | 0 => by simp [phS]
  | n + 1 => by
    have i := phS_le h1 h2 n
    show phS g n + g n ≤ phS f n + f n + _
    by_cases e : n = q
    · subst e
      rw [if_neg (by omega)] at i
      rw [if_pos (by omega)]
      omega
    · have := h1 n e
      by_cases z : q < n
      · rw [if_pos z] at i
        rw [if_pos (by omega)]
        omega
      · rw [if_neg z] at i
        rw [if_neg (by omega)]
        omega
theorem phS_nn {f : Nat → Int} (h : ∀ o, 0 ≤ f o) : ∀ n, 0 ≤ phS f n
  | 0 => by simp [phS]
  | n + 1 => by have := phS_nn h n; have := h n; show 0 ≤ phS f n + f n; omega
theorem phe_y {Y : PH} {T : Nat → Int} {k : Int} {o : Nat} (h : opk Y k o) : phe Y T k o = if Y 44 o = 21 then T o else 1 := if_pos h
theorem phe_n {Y : PH} {T : Nat → Int} {k : Int} {o : Nat} (h : ¬ opk Y k o) : phe Y T k o = 0 := if_neg h
theorem phe_nn {Y : PH} {T : Nat → Int} {k : Int} (e : ENk Y T k) (o : Nat) : 0 ≤ phe Y T k o := by
  by_cases h : opk Y k o
  · rw [phe_y h]
    split
    · have := e o h (by assumption); omega
    · omega
  · rw [phe_n h]; omega
def phi (Y : PH) (T : Nat → Int) (k : Int) : Int := phS (phe Y T k) 60
theorem phi_nn {Y : PH} {T : Nat → Int} {k : Int} (e : ENk Y T k) : 0 ≤ phi Y T k := phS_nn (phe_nn e) 60
theorem lstp_phi {L Y : PH} {s u : (Int × PH × Int × (Nat → Int) × Int × Int)} (w : WYc L Y) (h60 : Y 43 2 ≤ 60) (t : lstp Y s u) (e : ENk Y s.2.2.2.1 s.1) : (Y 44 s.1.toNat ≠ 22 → phi Y u.2.2.2.1 u.1 ≤ phi Y s.2.2.2.1 s.1 + 99) ∧ (Y 44 s.1.toNat = 22 → phi Y u.2.2.2.1 u.1 + 1 ≤ phi Y s.2.2.2.1 s.1) := by
  have ks := t.1
  have O := (lstp_o w t).2
  have nn := phe_nn e
  have main : ∀ o : Nat, ((o : Int) = s.1 → isO (Y 44 s.1.toNat) → False) → (Y 44 s.1.toNat = 22 → (o : Int) = Y 48 s.1.toNat → False) → phe Y u.2.2.2.1 u.1 o ≤ phe Y s.2.2.2.1 s.1 o := fun o n1 n2 => by
    by_cases h : opk Y u.1 o
    · rcases O o h with ⟨a, b, -⟩ | ⟨a, b, c⟩ | ⟨a, b, -⟩
      · rw [phe_y h, phe_y a, b]; omega
      · exact (n1 a b).elim
      · exact (n2 a b).elim
    · rw [phe_n h]; exact nn o
  refine ⟨fun h22 => ?_, fun h22 => ?_⟩
  · have z := phS_le (f := phe Y s.2.2.2.1 s.1) (g := phe Y u.2.2.2.1 u.1) (q := s.1.toNat) (c := 99) (fun o ho => main o (fun q _ => by omega) (fun q => absurd q h22)) (by
      have n0 := nn s.1.toNat
      by_cases h : opk Y u.1 s.1.toNat
      · rw [phe_y h]
        rcases O s.1.toNat h with ⟨a, b, -⟩ | ⟨a, b, c⟩ | ⟨a, b, -⟩
        · have := a.1; omega
        · by_cases c21 : Y 44 s.1.toNat = 21
          · rw [if_pos c21, c c21]
            have := (w.ok s.1.toNat (by omega)).2.2.2.2.2.2.1 (Or.inr c21)
            omega
          · rw [if_neg c21]; omega
        · exact absurd a h22
      · rw [phe_n h]; omega) 60
    rw [if_pos (by omega)] at z
    exact z
  · obtain ⟨⟨b0, b1⟩, b2, b3⟩ := w.cl s.1.toNat (by omega) h22
    have z := phS_le (f := phe Y s.2.2.2.1 s.1) (g := phe Y u.2.2.2.1 u.1) (q := (Y 48 s.1.toNat).toNat) (c := -1) (fun o ho => main o (fun _ q => by rw [h22] at q; unfold isO at q; omega) (fun _ q => ho (by omega))) (by
      have a : opk Y s.1 (Y 48 s.1.toNat).toNat := ⟨by omega, by omega, b2⟩
      rw [phe_y a]
      by_cases h : opk Y u.1 (Y 48 s.1.toNat).toNat
      · rw [phe_y h]
        rcases O _ h with ⟨-, b, c⟩ | ⟨-, b, c⟩ | ⟨-, b, c, d, f, -⟩
        · exact absurd (by omega) (c h22)
        · rw [h22] at b; unfold isO at b; omega
        · rw [if_pos c, if_pos c, d]
          have := e _ a c
          rw [w32_id (by omega) (by omega)]
          omega
      · rw [phe_n h]
        by_cases c21 : Y 44 (Y 48 s.1.toNat).toNat = 21
        · rw [if_pos c21]; have := e _ a c21; omega
        · rw [if_neg c21]; omega) 60
    rw [if_pos (by omega)] at z
    unfold phi
    omega
theorem lstp_d {Y : PH} {s u : (Int × PH × Int × (Nat → Int) × Int × Int)} (t : lstp Y s u) (h : 0 ≤ s.2.2.2.2.2 ∧ s.2.2.2.2.2 ≤ s.2.2.2.2.1 ∧ s.2.2.2.2.1 ≤ 300) (kk : Y 44 s.1.toNat = 1 ∨ (10 ≤ Y 44 s.1.toNat ∧ Y 44 s.1.toNat ≤ 14) ∨ Y 44 s.1.toNat = 16 ∨ (18 ≤ Y 44 s.1.toNat ∧ Y 44 s.1.toNat ≤ 23)) : 0 ≤ u.2.2.2.2.2 ∧ u.2.2.2.2.2 ≤ u.2.2.2.2.1 ∧ u.2.2.2.2.1 ≤ 300 := by
  obtain ⟨-, t0, t1, t21, t22, tw, t23, tr⟩ := t
  by_cases c22 : Y 44 s.1.toNat = 22
  · have a := t1 c22
    have b := (t22 c22).1.2.2
    omega
  · obtain ⟨a, a'⟩ := t0 c22
    by_cases cr : Y 44 s.1.toNat = 1 ∨ (10 ≤ Y 44 s.1.toNat ∧ Y 44 s.1.toNat ≤ 14) ∨ Y 44 s.1.toNat = 16
    · obtain ⟨-, -, v, hv, -, -, e⟩ := tr cr
      omega
    · have b : same3 s u := by
        by_cases c21 : Y 44 s.1.toNat = 21
        · exact (t21 c21).1
        · by_cases c23 : Y 44 s.1.toNat = 23
          · exact (t23 c23).1
          · exact (tw (by clear tr; omega)).1
      have := b.2.2
      omega
theorem dnL_k {L M : PH} {x K a b n v y : Int} (d : dnL L x K a b n v M y) (kk : K = 1 ∨ (10 ≤ K ∧ K ≤ 14) ∨ K = 16) (w : W10 L) : M 1 0 = L 1 0 ∧ M 0 4 = L 0 4 ∧ (∀ k, M 9 k = L 9 k) ∧ ∀ k, M 10 k = L 10 k := by
  have S : ∀ c : Int, stE L a c v M → M 1 0 = L 1 0 ∧ M 0 4 = L 0 4 ∧ (∀ k, M 9 k = L 9 k) ∧ ∀ k, M 10 k = L 10 k := fun c h => by
    by_cases z : (bB (L 1 1) a.toNat = true ↔ c = 1)
    · rw [(h.1 z).2]; exact ⟨rfl, rfl, fun _ => rfl, fun _ => rfl⟩
    · obtain ⟨-, -, e⟩ := h.2 z
      exact ⟨(e _ _ (by omega) (by omega)).trans (fl_o (by omega)), (e _ _ (by omega) (by omega)).trans (fl_o (by omega)), fun k => (e _ _ (by omega) (by omega)).trans (fl_o (by omega)), fun k => (e _ _ (by omega) (by omega)).trans (fl_o (by omega))⟩
  have D : ∀ p : Nat, DIn (ddL L p) p (L 0 4).toNat M → M 1 0 = L 1 0 ∧ M 0 4 = L 0 4 ∧ (∀ k, M 9 k = L 9 k) ∧ ∀ k, M 10 k = L 10 k := fun p h => by
    have e := h.2.1
    exact ⟨(e _ _ (by omega) (by omega)).trans (up_ne (by omega)), (e _ _ (by omega) (by omega)).trans (up_ne (by omega)), fun k => (e _ _ (by omega) (by omega)).trans (up_ne (by omega)), fun k => (e _ _ (by omega) (by omega)).trans (up_ne (by omega))⟩
  have R : M = L → M 1 0 = L 1 0 ∧ M 0 4 = L 0 4 ∧ (∀ k, M 9 k = L 9 k) ∧ ∀ k, M 10 k = L 10 k := fun e => by rw [e]; exact ⟨rfl, rfl, fun _ => rfl, fun _ => rfl⟩
  have W : ∀ p q v : Int, M = owe L p q v → M 1 0 = L 1 0 ∧ M 0 4 = L 0 4 ∧ (∀ k, M 9 k = L 9 k) ∧ ∀ k, M 10 k = L 10 k := fun p q v e => by
    rw [e]; unfold owe
    exact ⟨by rw [up_ne (by omega), up_ne (by omega)], by rw [up_ne (by omega), up_ne (by omega)], fun _ => by rw [up_ne (by omega), up_ne (by omega)], fun _ => by rw [up_ne (by omega), up_ne (by omega)]⟩
  obtain ⟨d1, d13, d10, d11, d12, d14, d16⟩ := d
  by_cases c1 : K = 1
  · exact S _ (d1 c1).2
  by_cases c13 : K = 13
  · exact S _ (d13 c13).2
  by_cases c10 : K = 10
  · obtain ⟨-, q1, q2⟩ := d10 c10
    by_cases z : 9999 < w32 (L 0 12 + n)
    · exact R (q1 z).2
    · have e := (q2 z).2
      obtain ⟨-, n1, n2⟩ := nsL_w w.1 n.toNat
      rw [e]
      exact ⟨n2, n1, fun k => nsL_o (Or.inl rfl) _, fun k => nsL_o (Or.inr rfl) _⟩
  by_cases c11 : K = 11
  · obtain ⟨-, q⟩ := d11 c11
    by_cases z : bB (L 0 7) a.toNat = true
    · exact R (q.1 z).2
    · exact D _ (q.2 z).2.2
  by_cases c12 : K = 12
  · obtain ⟨-, q1, q2⟩ := d12 c12
    by_cases z : bB (L 0 7) a.toNat = true ∨ L 7 (8 * b.toNat + a.toNat) = 0
    · exact R (q1 z).2
    · exact W _ _ _ (q2 z).2
  by_cases c14 : K = 14
  · obtain ⟨-, q1, q2⟩ := d14 c14
    by_cases z : ¬ bB (L 0 7) a.toNat = true ∨ bB (L 0 7) b.toNat = true
    · exact R (q1 z).2
    · exact W _ _ _ (q2 z).2
  obtain ⟨q1, q2⟩ := d16 (by clear d1 d13 d10 d11 d12 d14 d16; omega)
  by_cases z : clv L (L 0 4).toNat < 1
  · exact R (q1 z).2.2
  · obtain ⟨p, -, -, -, -, -, -, e⟩ := q2 (by omega)
    exact D p e

section NS2
variable {L : PH}
theorem soM_g {p b j k : Nat} (hj : j ≠ 7 ∧ j ≠ 8 ∧ j ≠ 15) : soM L p b j k = L j k := by
  unfold soM
  split
  · split
    · rw [owe_o (by omega) (by omega), owe_o (by omega) (by omega)]
    · rw [owe_o (by omega) (by omega)]
  · split
    · split
      · rfl
      · rw [up_ne (by omega)]
    · split
      · rw [owe_o (by omega) (by omega)]
      · rfl
theorem haL_g {p k : Nat} (hk : k ≠ 13) : haL L p 0 k = L 0 k := by
  unfold haL
  by_cases c1 : bB (L 0 7) p = true ∧ 0 < L 8 p
  · rw [if_pos c1]
    by_cases c2 : amL L p (L 0 4).toNat = -1
    · rw [if_pos c2]
    · rw [if_neg c2]
      by_cases c3 : L 11 (amL L p (L 0 4).toNat).toNat = L 11 p
      · rw [if_pos c3]; unfold soL; rw [soM_g (by omega), up_ne (by omega)]
      · rw [if_neg c3, up_ne (by omega)]
  · rw [if_neg c1]
theorem niL_g {k : Nat} (hk : k ≠ 13) : ∀ p : Nat, niL L p 0 k = if k = 12 then w32 (L 0 12 + 1) else L 0 k
  | 0 => by
    by_cases z : k = 12
    · subst z; rw [if_pos rfl]; exact up_sm
    · rw [if_neg z]; exact up_ne (by omega)
  | p + 1 => (haL_g hk).trans (niL_g hk p)
theorem nsL_g {k : Nat} (hk : k ≠ 12 ∧ k ≠ 13) : ∀ n : Nat, nsL L n 0 k = L 0 k
  | 0 => rfl
  | n + 1 => ((niL_g hk.2 _).trans (if_neg hk.1)).trans (nsL_g hk n)
theorem w32_bm (z : Int) : w32 z = z.bmod 4294967296 := Int32.toInt_ofInt
theorem w32_a (a b : Int) : w32 (w32 a + b) = w32 (a + b) := by
  rw [w32_bm, w32_bm, w32_bm]; exact Int.bmod_add_bmod
theorem w32_s (a b : Int) : w32 (w32 a - b) = w32 (a - b) := by
  rw [w32_bm, w32_bm, w32_bm]; exact Int.bmod_sub_bmod
theorem w32_r (a b : Int) : w32 (a + w32 b) = w32 (a + b) := by
  rw [w32_bm, w32_bm, w32_bm]; exact Int.add_bmod_bmod
theorem nsL_12 : ∀ n : Nat, nsL L (n + 1) 0 12 = w32 (L 0 12 + ((n + 1 : Nat) : Int))
  | 0 => (niL_g (by omega) _).trans (if_pos rfl)
  | n + 1 => ((niL_g (by omega) _).trans (if_pos rfl)).trans (by rw [nsL_12 n, w32_a]; congr 1; omega)
end NS2
end
section
/-! 45z.8y.does -/
/-! live(): what a step does, in the reference -/
def CNT (h L : PH) (c1 c2 c3 : Int) : Prop := h 183 1 = w32 (L 0 12 - c1) ∧ h 183 2 = w32 (L 0 13 - c2) ∧ h 183 3 = w32 (bnS (L 0 7) - c3)
def RLF (h L : PH) (x c1 c2 c3 : Int) : Prop := RN9 h L ∧ (BdR h ∧ BdD h ∧ BdH h) ∧ h 169 27 = x ∧ CNT h L c1 c2 c3
def LFf (h h' : PH) : Prop := ∀ c k : Nat, ¬ (c = 169 ∧ k = 27) → ¬ (c = 170 ∧ k < 131 ∧ k ≠ 4) → ¬ (c = 178 ∧ k < 7) → ¬ (c = 183 ∧ 1 ≤ k ∧ k ≤ 3) → h' c k = h c k
section LF
variable {h h' L M : PH} {x y c1 c2 c3 : Int}
theorem BdR.f (b : BdR h) (e : ∀ k : Nat, k = 0 ∨ k = 1 ∨ (27 ≤ k ∧ k < 67 ∧ k % 5 = 2) → h' 170 k = h 170 k) : BdR h' := ⟨by rw [e 0 (by omega)]; exact b.1, by rw [e 1 (by omega)]; exact b.2.1, fun q hq => by rw [e _ (by omega)]; exact b.2.2 q hq⟩
theorem BdD.n (r : RN9 h' M) (w : W10 M) : BdD h' := fun i hi => by rw [r.2.2.2.1 i hi]; exact w.1.1.2.2.2.2.1 i hi
theorem BdH.f (b : BdH h) (e : ∀ k : Nat, 131 ≤ k → k < 163 → h' 170 k = h 170 k) : BdH h' := fun p hp => by
  obtain ⟨a1, a2⟩ := b p hp
  exact ⟨by rw [e _ (by omega) (by omega)]; exact a1, fun k k1 k3 => by rw [e _ (by omega) (by omega)]; exact a2 k k1 k3⟩
theorem RLF.dx (r : RLF h L x c1 c2 c3) : RLF (uph h 169 27 y) L y c1 c2 c3 := by
  obtain ⟨a, b, c, d⟩ := r
  have e : (uph h 169 27 y) 170 = h 170 := funext (fun k => up_ne (by omega))
  have z := Bd_e e
  exact ⟨a.e e, ⟨z.1 b.1, z.2.1 b.2.1, z.2.2 b.2.2⟩, up_sm, by rw [CNT, up_ne (by omega), up_ne (by omega), up_ne (by omega)]; exact d⟩
theorem lf_di (r : RLF h L x c1 c2 c3) (w : W10 L) {p : Nat} (hp : (p : Int) < L 0 4) (hd : ¬ bB (L 0 7) p = true) (m : DIn (ddL L p) p (L 0 4).toNat M) : RLF (uph (diR h p) 183 3 (w32 (h 183 3 + 1))) M x c1 c2 c3 ∧ LFf h (uph (diR h p) 183 3 (w32 (h 183 3 + 1))) := by
  obtain ⟨a, ⟨b1, b2, b3⟩, c, ⟨d1, d2, d3⟩⟩ := r
  have h8 := w.1.1.2.1
  have n1 : h 170 1 = L 0 4 := a.1.2.1
  obtain ⟨q1, q2, q3, q4⟩ := diR_b (p := p) (by omega) (by omega) b1 b2 b3
  have e : (uph (diR h p) 183 3 (w32 (h 183 3 + 1))) 170 = diR h p 170 := funext (fun k => up_ne (by omega))
  have z := Bd_e e
  have ws := w.1.1.2.2.2.2.2.2.1
  have m1 : M 0 12 = L 0 12 := (m.2.1 _ _ (by omega) (by omega)).trans (up_ne (by omega))
  have m2 : M 0 13 = L 0 13 := (m.2.1 _ _ (by omega) (by omega)).trans (up_ne (by omega))
  have m3 : bnS (M 0 7) = bnS (L 0 7) + 1 := by
    rw [show M 0 7 = zor (L 0 7) (zshl 1 (p : Int)) from (m.2.1 _ _ (by omega) (by omega)).trans up_sm]
    exact (bn_or (n := (p : Int)) ws.1 ws.2.1 (by omega) (by omega) hd).2.2
  refine ⟨⟨(di_b9 a w.1 w.2.1 hp (w.2.2.1 p (by omega)) m).e e, ⟨z.1 q1, z.2.1 q2, z.2.2 q3⟩, ?_, ?_, ?_, ?_⟩, fun c k k1 k2 k3 k4 => ?_⟩
  · rw [up_ne (by omega), q4 _ _ (by omega)]; exact c
  · rw [up_ne (by omega), q4 _ _ (by omega), m1]; exact d1
  · rw [up_ne (by omega), q4 _ _ (by omega), m2]; exact d2
  · rw [up_sm, d3, m3, w32_a]; congr 1; omega
  · rw [up_ne (by omega)]; exact q4 c k (by omega)
theorem lf_ow {p q v : Int} (r : RLF h L x c1 c2 c3) (rn : RN9 h' (owe L p q v)) (w : W10 (owe L p q v)) (e : ∀ c k : Nat, ¬ (c = 170 ∧ 67 ≤ k ∧ k < 131) → h' c k = h c k) : RLF h' (owe L p q v) x c1 c2 c3 ∧ LFf h h' := by
  obtain ⟨a, ⟨b1, b2, b3⟩, c, ⟨d1, d2, d3⟩⟩ := r
  have o : ∀ k, owe L p q v 0 k = L 0 k := fun k => by unfold owe; rw [up_ne (by omega), up_ne (by omega)]
  refine ⟨⟨rn, ⟨b1.f (fun k hk => e _ _ (by omega)), BdD.n rn w, b3.f (fun k k1 k2 => e _ _ (by omega))⟩, ?_, ?_, ?_, ?_⟩, fun c k k1 k2 k3 k4 => e c k (by omega)⟩
  · rw [e _ _ (by omega)]; exact c
  · rw [e _ _ (by omega), o]; exact d1
  · rw [e _ _ (by omega), o]; exact d2
  · rw [e _ _ (by omega), o]; exact d3
theorem lf_st {i b : Int} (r : RLF h L x c1 c2 c3) (w : W10 L) (hi : 0 ≤ i ∧ i < L 1 0) (hb : b = 0 ∨ b = 1) (hne : ¬ (bB (L 1 1) i.toNat = true ↔ b = 1)) (wM : W10 M) (eM : ∀ j k : Nat, j ≠ 3 → j ≠ 4 → M j k = flL L 1 1 i j k) : RLF (uph h 170 (6 + 3 * i.toNat) b) M x c1 c2 c3 ∧ LFf h (uph h 170 (6 + 3 * i.toNat) b) := by
  obtain ⟨a, ⟨b1, b2, b3⟩, c, ⟨d1, d2, d3⟩⟩ := r
  have h7 := w.1.1.1
  have rn : RN9 (uph h 170 (6 + 3 * i.toNat) b) M := (a.us (by omega) hb hne).t eM
  have o : ∀ k, M 0 k = L 0 k := fun k => (eM _ _ (by omega) (by omega)).trans (fl_o (by omega))
  refine ⟨⟨rn, ⟨b1.f (fun k hk => up_ne (by omega)), BdD.n rn wM, b3.f (fun k k1 k2 => up_ne (by omega))⟩, ?_, ?_, ?_, ?_⟩, fun c k k1 k2 k3 k4 => up_ne (by omega)⟩
  · rw [up_ne (by omega)]; exact c
  · rw [up_ne (by omega), o]; exact d1
  · rw [up_ne (by omega), o]; exact d2
  · rw [up_ne (by omega), o]; exact d3
theorem lf_ni {n : Int} (r : RLF h L x c1 c2 c3) (hn : 1 ≤ n) (rn : RN9 h' (nsL L n.toNat)) (bd : BdR h' ∧ BdD h') (e1 : h' 183 1 = w32 (h 183 1 + n)) (e2 : h' 183 2 = w32 (h 183 2 + w32 ((nsL L n.toNat) 0 13 - L 0 13))) (e : ∀ c k : Nat, ¬ (c = 170 ∧ k < 131 ∧ k ≠ 4) → ¬ (c = 178 ∧ k < 7) → ¬ (c = 183 ∧ (k = 1 ∨ k = 2)) → h' c k = h c k) : RLF h' (nsL L n.toNat) x c1 c2 c3 ∧ LFf h h' := by
  obtain ⟨a, ⟨b1, b2, b3⟩, c, ⟨d1, d2, d3⟩⟩ := r
  refine ⟨⟨rn, ⟨bd.1, bd.2, b3.f (fun k k1 k2 => e _ _ (by omega) (by omega) (by omega))⟩, ?_, ?_, ?_, ?_⟩, fun c k k1 k2 k3 k4 => e c k (by omega) (by omega) (by omega)⟩
  · rw [e _ _ (by omega) (by omega) (by omega)]; exact c
  · obtain ⟨m, hm⟩ : ∃ m : Nat, n.toNat = m + 1 := ⟨n.toNat - 1, by omega⟩
    rw [e1, d1, hm, nsL_12, w32_a, w32_s]; congr 1; omega
  · rw [e2, d2, w32_r, w32_a]; congr 1; omega
  · rw [e _ _ (by omega) (by omega) (by omega), nsL_g (by omega)]; exact d3
theorem kcd_e {K c : Int} (hk : K = 1 ∨ (10 ≤ K ∧ K ≤ 14) ∨ K = 16 ∨ (18 ≤ K ∧ K ≤ 21)) (e : c = kcd K) (hc : 5 ≤ c ∧ c ≤ 15) : (c = 5 ∧ K = 1) ∨ (c = 15 ∧ K = 16) ∨ (c = K ∧ 10 ≤ K ∧ K ≤ 14) := by
  unfold kcd at e
  by_cases q : K = 1
  · rw [if_pos q] at e; omega
  rw [if_neg q] at e
  by_cases q : K = 16
  · rw [if_pos q] at e; omega
  rw [if_neg q] at e
  by_cases q : K = 21
  · rw [if_pos q] at e; omega
  rw [if_neg q, if_neg (by omega), if_neg (by omega)] at e
  by_cases q : K = 18
  · rw [if_pos q] at e; omega
  rw [if_neg q] at e
  by_cases q : K = 19
  · rw [if_pos q] at e; omega
  rw [if_neg q] at e
  by_cases q : K = 20
  · rw [if_pos q] at e; omega
  rw [if_neg q] at e
  omega
theorem kcd_r {K : Int} (hk : K = 1 ∨ (10 ≤ K ∧ K ≤ 14) ∨ K = 16) : 5 ≤ kcd K ∧ kcd K ≤ 15 := by
  unfold kcd
  by_cases q : K = 1
  · rw [if_pos q]; omega
  rw [if_neg q]
  by_cases q : K = 16
  · rw [if_pos q]; omega
  rw [if_neg q, if_neg (by omega), if_neg (by omega), if_neg (by omega), if_neg (by omega), if_neg (by omega), if_neg (by omega)]; omega
end LF
set_option maxRecDepth 10000 in
theorem v_X12_doesL {sl : Nat} {si : Nat → Int} {K : Nat → PH → ZL → List ZV → Prop} {Q : PH → List ZV → Prop} {h : PH}  {r : Int} (H : 0 ≤ w32 (r + 1) ∧ w32 (r + 1) < (3696 : Nat) → R32 (h 170 (w32 (r + 1)).toNat) → 0 ≤ w32 (r + 2) ∧ w32 (r + 2) < (3696 : Nat) → R32 (h 170 (w32 (r + 2)).toNat) → 0 ≤ r ∧ r < (3696 : Nat) → R32 (h 170 r.toNat) → ((h 170 r.toNat) < 5 ∨ 15 < (h 170 r.toNat) → Q h [(0, 1)]) ∧ (¬ ((h 170 r.toNat) < 5 ∨ 15 < (h 170 r.toNat)) → ((h 170 r.toNat) = 5 → ∀ h8 v8, CP (zz sl si (7, 0)) mX12_houseRow h [(0, (h 170 (w32 (r + 1)).toNat))] h8 [(0, v8)] → R32 v8 → ∀ h9 v9, CP (zz sl si (7, 0)) mX12_turns h8 [(2, 169), (0, v8), (0, 1)] h9 [(0, v9)] → v9 = 0 ∨ v9 = 1 → Q h9 [(0, v9)]) ∧ (¬ (h 170 r.toNat) = 5 → ((h 170 r.toNat) = 6 → Q h [(0, 1)]) ∧ (¬ (h 170 r.toNat) = 6 → ((h 170 r.toNat) = 7 → Q h [(0, 1)]) ∧ (¬ (h 170 r.toNat) = 7 → ((h 170 r.toNat) = 8 → Q h [(0, 1)]) ∧ (¬ (h 170 r.toNat) = 8 → ((h 170 r.toNat) = 9 → Q h [(0, 1)]) ∧ (¬ (h 170 r.toNat) = 9 → ((h 170 r.toNat) = 10 → ∀ h7 v7, CP (zz sl si (7, 0)) mX12_nightsBy h [(2, 169), (0, (h 170 (w32 (r + 1)).toNat))] h7 [(0, v7)] → v7 = 0 ∨ v7 = 1 → Q h7 [(0, v7)]) ∧ (¬ (h 170 r.toNat) = 10 → ((h 170 r.toNat) = 11 → ∀ h6 v6, CP (zz sl si (7, 0)) mX12_diesBy h [(2, 169), (0, (h 170 (w32 (r + 1)).toNat))] h6 [(0, v6)] → v6 = 0 ∨ v6 = 1 → Q h6 [(0, v6)]) ∧ (¬ (h 170 r.toNat) = 11 → ((h 170 r.toNat) = 12 → ∀ h5 v5, CP (zz sl si (7, 0)) mX12_forgives h [(2, 169), (0, (h 170 (w32 (r + 1)).toNat)), (0, (h 170 (w32 (r + 2)).toNat))] h5 [(0, v5)] → R32 v5 → (v5 = (-1) → Q h5 [(0, 0)]) ∧ (¬ (v5 = (-1)) → Q h5 [(0, 1)])) ∧ (¬ (h 170 r.toNat) = 12 → ((h 170 r.toNat) = 13 → ∀ h3 v3, CP (zz sl si (7, 0)) mX12_houseRow h [(0, (h 170 (w32 (r + 1)).toNat))] h3 [(0, v3)] → R32 v3 → ∀ h4 v4, CP (zz sl si (7, 0)) mX12_turns h3 [(2, 169), (0, v3), (0, 0)] h4 [(0, v4)] → v4 = 0 ∨ v4 = 1 → Q h4 [(0, v4)]) ∧ (¬ (h 170 r.toNat) = 13 → ((h 170 r.toNat) = 14 → 0 ≤ w32 (r + 3) ∧ w32 (r + 3) < (3696 : Nat) → R32 (h 170 (w32 (r + 3)).toNat) → ∀ h2 v2, CP (zz sl si (7, 0)) mX12_forges h [(2, 169), (0, (h 170 (w32 (r + 1)).toNat)), (0, (h 170 (w32 (r + 2)).toNat)), (0, (h 170 (w32 (r + 3)).toNat))] h2 [(0, v2)] → v2 = 0 ∨ v2 = 1 → Q h2 [(0, v2)]) ∧ (¬ (h 170 r.toNat) = 14 → ((h 170 r.toNat) = 15 → ∀ h1 v1, CP (zz sl si (7, 0)) mX12_diesAny h [(2, 169)] h1 [(0, v1)] → v1 = 0 ∨ v1 = 1 → Q h1 [(0, v1)]) ∧ (¬ (h 170 r.toNat) = 15 → Q h [(0, 1)]))))))))))))) : vc (zz sl si (7, 0)) (fun _ => false) K Q mX12_does 32 0 mX12_does.2.2.2.2.2.2 h [(0, (2, 169)), (1, (0, r))] [] := H
set_option maxHeartbeats 600000 in
theorem c_X12_doesL {sl : Nat} {si : Nat → Int} {h h' : PH} {L M : PH} {r K a b n w x y c1 c2 c3 : Int} {v : Int} (hw : W10 L) (r9 : RLF h L x c1 c2 c3) (hx0 : 0 ≤ x ∧ x ≤ 65535) (f0 : h 170 r.toNat = kcd K) (f1 : h 170 (w32 (r + 1)).toNat = erow K a b n 1) (f2 : h 170 (w32 (r + 2)).toNat = erow K a b n 2) (f3 : h 170 (w32 (r + 3)).toNat = erow K a b n 3) (hok : okw L K a b n) (hd : ((K = 1 ∨ (10 ≤ K ∧ K ≤ 14) ∨ K = 16) ∧ W10 M ∧ dnL L x K a b n w M y) ∨ ((18 ≤ K ∧ K ≤ 21) ∧ w = 1 ∧ M = L ∧ y = x)) (hc : CP (zz sl si (7, 0)) mX12_does h [(2, 169), (0, r)] h' [(0, v)]) : v = w ∧ RLF h' M y c1 c2 c3 ∧ LFf h h' := by
  have q : (fun (xh : PH) (r : List ZV) => ∀ v : Int, r = [(0, v)] → (v = w ∧ RLF xh M y c1 c2 c3 ∧ LFf h xh)) h' [(0, v)] := by
    refine cp_vc (cut := (fun _ => false)) (K := fun p hx lv st => False) (Q := fun (xh : PH) (r : List ZV) => ∀ v : Int, r = [(0, v)] → (v = w ∧ RLF xh M y c1 c2 c3 ∧ LFf h xh)) (v_X12_doesL ?_) (fun pc hx lv st hcut hK => ?_) hc
    · exact (fun b1 r2 => (fun b3 r4 => (fun b5 r6 => ⟨fun c21 => (by have hk2 : K = 1 ∨ (10 ≤ K ∧ K ≤ 14) ∨ K = 16 ∨ (18 ≤ K ∧ K ≤ 21) := (by omega); rcases hd with ⟨k1, -⟩ | ⟨k1, k2, k3, k4⟩; (have := kcd_r k1; omega); (subst k3; subst k4; intro v e; cases e; rw [k2]; exact ⟨rfl, r9, fun c k _ _ _ _ => rfl⟩)), fun c21 => ⟨fun c20 => (fun h8 v8 p8 q8 => by obtain ⟨t8, e8⟩ := c_X12_houseRow p8; have t8 := t8.symm; subst t8; exact (fun h9 v9 p9 q9 => (by have hk2 : K = 1 ∨ (10 ≤ K ∧ K ≤ 14) ∨ K = 16 ∨ (18 ≤ K ∧ K ≤ 21) := (by omega); have kc : K = 1 := (by have := kcd_e hk2 f0 (by omega); omega); subst kc; obtain ⟨-, wM, d1, d13, d10, d11, d12, d14, d16⟩ := hd.resolve_right (by omega); have g1 : h 170 (w32 (r + 1)).toNat = a := f1; rw [g1] at e8; have hr := hok.2.1 (by omega); have h7 := hw.1.1.1; have hr0 := hr.1; have hr1 := hr.2; rw [e8 (by omega) (by omega)] at p9; have tu := c_X12_turns (by omega) p9; rw [show (6 + 3 * a).toNat = 6 + 3 * a.toNat by omega, (r9.1.2.1 a.toNat (by omega)).1, bt_B (by omega)] at tu; obtain ⟨d, s1, s2⟩ := d1 rfl; subst d; intro v e; cases e; rcases tu with ⟨u1, u2, u3⟩ | ⟨u1, u2, u3⟩; (obtain ⟨q1, q2⟩ := s1 u1; subst q2; subst u3; exact ⟨by omega, r9, fun c k _ _ _ _ => rfl⟩); (obtain ⟨q1, q2, q3⟩ := s2 u1; subst u3; exact ⟨by omega, lf_st r9 hw hr (by omega) u1 q2 q3⟩)))), fun c20 => ⟨fun c19 => (by exfalso; have hk2 : K = 1 ∨ (10 ≤ K ∧ K ≤ 14) ∨ K = 16 ∨ (18 ≤ K ∧ K ≤ 21) := (by omega); rcases hd with ⟨k1, -⟩ | ⟨k1, -⟩; (have := kcd_e hk2 f0 (by omega); omega); (have := kcd_e hk2 f0 (by omega); omega)), fun c19 => ⟨fun c18 => (by exfalso; have hk2 : K = 1 ∨ (10 ≤ K ∧ K ≤ 14) ∨ K = 16 ∨ (18 ≤ K ∧ K ≤ 21) := (by omega); rcases hd with ⟨k1, -⟩ | ⟨k1, -⟩; (have := kcd_e hk2 f0 (by omega); omega); (have := kcd_e hk2 f0 (by omega); omega)), fun c18 => ⟨fun c17 => (by exfalso; have hk2 : K = 1 ∨ (10 ≤ K ∧ K ≤ 14) ∨ K = 16 ∨ (18 ≤ K ∧ K ≤ 21) := (by omega); rcases hd with ⟨k1, -⟩ | ⟨k1, -⟩; (have := kcd_e hk2 f0 (by omega); omega); (have := kcd_e hk2 f0 (by omega); omega)), fun c17 => ⟨fun c16 => (by exfalso; have hk2 : K = 1 ∨ (10 ≤ K ∧ K ≤ 14) ∨ K = 16 ∨ (18 ≤ K ∧ K ≤ 21) := (by omega); rcases hd with ⟨k1, -⟩ | ⟨k1, -⟩; (have := kcd_e hk2 f0 (by omega); omega); (have := kcd_e hk2 f0 (by omega); omega)), fun c16 => ⟨fun c15 => (fun h7 v7 p7 q7 => (by have hk2 : K = 1 ∨ (10 ≤ K ∧ K ≤ 14) ∨ K = 16 ∨ (18 ≤ K ∧ K ≤ 21) := (by omega); have kc : K = 10 := (by have := kcd_e hk2 f0 (by omega); omega); subst kc; obtain ⟨-, wM, d1, d13, d10, d11, d12, d14, d16⟩ := hd.resolve_right (by omega); have g1 : h 170 (w32 (r + 1)).toNat = n := f1; rw [g1] at p7; have hn := hok.2.2.2.2.2.1 (by omega); have ni := c_X12_nightsByL r9.1 hw r9.2.1.1 r9.2.1.2.1 (by omega) p7; obtain ⟨d, s1, s2⟩ := d10 rfl; subst d; intro v e; cases e; by_cases z : 9999 < w32 (L 0 12 + n); (obtain ⟨q1, q2⟩ := s1 z; obtain ⟨u1, u2⟩ := ni.1 z; subst q2; subst u2; exact ⟨by omega, r9, fun c k _ _ _ _ => rfl⟩); (obtain ⟨q1, q2⟩ := s2 z; obtain ⟨u1, u2, u3, ⟨u4, u5⟩, u6⟩ := ni.2 z; subst q2; exact ⟨by omega, lf_ni r9 (by omega) u2 u3 u4 u5 u6⟩))), fun c15 => ⟨fun c14 => (fun h6 v6 p6 q6 => (by have hk2 : K = 1 ∨ (10 ≤ K ∧ K ≤ 14) ∨ K = 16 ∨ (18 ≤ K ∧ K ≤ 21) := (by omega); have kc : K = 11 := (by have := kcd_e hk2 f0 (by omega); omega); subst kc; obtain ⟨-, wM, d1, d13, d10, d11, d12, d14, d16⟩ := hd.resolve_right (by omega); have g1 : h 170 (w32 (r + 1)).toNat = a := f1; rw [g1] at p6; have hr := hok.2.2.1 (by omega); have hr0 := hr.1; have hr1 := hr.2; have di := c_X12_diesByL r9.1 hw r9.2.1.1 r9.2.1.2.1 r9.2.1.2.2 hr p6; obtain ⟨d, s1, s2⟩ := d11 rfl; subst d; intro v e; cases e; by_cases z : bB (L 0 7) a.toNat = true; (obtain ⟨q1, q2⟩ := s1 z; obtain ⟨u1, u2⟩ := di.1 z; subst q2; subst u2; exact ⟨by omega, r9, fun c k _ _ _ _ => rfl⟩); (obtain ⟨q1, q2, q3⟩ := s2 z; obtain ⟨u1, u2⟩ := di.2 z; subst u2; exact ⟨by omega, lf_di r9 hw (by omega) z q3⟩))), fun c14 => ⟨fun c12 => (fun h5 v5 p5 q5 => ⟨fun c13 => (by have hk2 : K = 1 ∨ (10 ≤ K ∧ K ≤ 14) ∨ K = 16 ∨ (18 ≤ K ∧ K ≤ 21) := (by omega); have kc : K = 12 := (by have := kcd_e hk2 f0 (by omega); omega); subst kc; obtain ⟨-, wM, d1, d13, d10, d11, d12, d14, d16⟩ := hd.resolve_right (by omega); have g1 : h 170 (w32 (r + 1)).toNat = a := f1; have g2 : h 170 (w32 (r + 2)).toNat = b := f2; rw [g1, g2] at p5; have hr := hok.2.2.1 (by omega); have hr0 := hr.1; have hr1 := hr.2; have hr2 := hok.2.2.2.1 (by omega); have o7 := hw.1.1.2.2.2.2.1 (8 * b.toNat + a.toNat) (by have := hr2.1; have := hr2.2; have := hw.1.1.2.1; omega); have fo := c_X12_forgivesL r9.1 hw ⟨hr, hr2⟩ p5; obtain ⟨d, s1, s2⟩ := d12 rfl; subst d; intro v e; cases e; by_cases z : bB (L 0 7) a.toNat = true ∨ L 7 (8 * b.toNat + a.toNat) = 0; (obtain ⟨q1, q2⟩ := s1 z; obtain ⟨u1, u2⟩ := fo.1 z; subst q2; subst u2; exact ⟨by clear d16; omega, r9, fun c k _ _ _ _ => rfl⟩); (obtain ⟨q1, q2⟩ := s2 z; obtain ⟨u1, u2, u3, u4⟩ := fo.2 z; subst q2; clear d16; omega)), fun c13 => (by have hk2 : K = 1 ∨ (10 ≤ K ∧ K ≤ 14) ∨ K = 16 ∨ (18 ≤ K ∧ K ≤ 21) := (by omega); have kc : K = 12 := (by have := kcd_e hk2 f0 (by omega); omega); subst kc; obtain ⟨-, wM, d1, d13, d10, d11, d12, d14, d16⟩ := hd.resolve_right (by omega); have g1 : h 170 (w32 (r + 1)).toNat = a := f1; have g2 : h 170 (w32 (r + 2)).toNat = b := f2; rw [g1, g2] at p5; have hr := hok.2.2.1 (by omega); have hr0 := hr.1; have hr1 := hr.2; have hr2 := hok.2.2.2.1 (by omega); have o7 := hw.1.1.2.2.2.2.1 (8 * b.toNat + a.toNat) (by have := hr2.1; have := hr2.2; have := hw.1.1.2.1; omega); have fo := c_X12_forgivesL r9.1 hw ⟨hr, hr2⟩ p5; obtain ⟨d, s1, s2⟩ := d12 rfl; subst d; intro v e; cases e; by_cases z : bB (L 0 7) a.toNat = true ∨ L 7 (8 * b.toNat + a.toNat) = 0; (obtain ⟨q1, q2⟩ := s1 z; obtain ⟨u1, u2⟩ := fo.1 z; subst q2; subst u2; clear d16; omega); (obtain ⟨q1, q2⟩ := s2 z; obtain ⟨u1, u2, u3, u4⟩ := fo.2 z; subst q2; exact ⟨by clear d16; omega, lf_ow r9 u2 wM u4⟩))⟩), fun c12 => ⟨fun c11 => (fun h3 v3 p3 q3 => by obtain ⟨t3, e3⟩ := c_X12_houseRow p3; have t3 := t3.symm; subst t3; exact (fun h4 v4 p4 q4 => (by have hk2 : K = 1 ∨ (10 ≤ K ∧ K ≤ 14) ∨ K = 16 ∨ (18 ≤ K ∧ K ≤ 21) := (by omega); have kc : K = 13 := (by have := kcd_e hk2 f0 (by omega); omega); subst kc; obtain ⟨-, wM, d1, d13, d10, d11, d12, d14, d16⟩ := hd.resolve_right (by omega); have g1 : h 170 (w32 (r + 1)).toNat = a := f1; rw [g1] at e3; have hr := hok.2.1 (by omega); have h7 := hw.1.1.1; have hr0 := hr.1; have hr1 := hr.2; rw [e3 (by omega) (by omega)] at p4; have tu := c_X12_turns (by omega) p4; rw [show (6 + 3 * a).toNat = 6 + 3 * a.toNat by omega, (r9.1.2.1 a.toNat (by omega)).1, bt_B (by omega)] at tu; obtain ⟨d, s1, s2⟩ := d13 rfl; subst d; intro v e; cases e; rcases tu with ⟨u1, u2, u3⟩ | ⟨u1, u2, u3⟩; (obtain ⟨q1, q2⟩ := s1 u1; subst q2; subst u3; exact ⟨by omega, r9, fun c k _ _ _ _ => rfl⟩); (obtain ⟨q1, q2, q3⟩ := s2 u1; subst u3; exact ⟨by omega, lf_st r9 hw hr (by omega) u1 q2 q3⟩)))), fun c11 => ⟨fun c8 => (fun b9 r10 => (fun h2 v2 p2 q2 => (by have hk2 : K = 1 ∨ (10 ≤ K ∧ K ≤ 14) ∨ K = 16 ∨ (18 ≤ K ∧ K ≤ 21) := (by omega); have kc : K = 14 := (by have := kcd_e hk2 f0 (by omega); omega); subst kc; obtain ⟨-, wM, d1, d13, d10, d11, d12, d14, d16⟩ := hd.resolve_right (by omega); have g1 : h 170 (w32 (r + 1)).toNat = a := f1; have g2 : h 170 (w32 (r + 2)).toNat = b := f2; have g3 : h 170 (w32 (r + 3)).toNat = n := f3; rw [g1, g2, g3] at p2; have hr := hok.2.2.1 (by omega); have hr0 := hr.1; have hr1 := hr.2; have hr2 := hok.2.2.2.1 (by omega); have hn := hok.2.2.2.2.2.2.1 (by omega); have fo := c_X12_forgesL r9.1 hw ⟨⟨hr, hr2⟩, hn⟩ p2; obtain ⟨d, s1, s2⟩ := d14 rfl; subst d; intro v e; cases e; by_cases z : ¬ bB (L 0 7) a.toNat = true ∨ bB (L 0 7) b.toNat = true; (obtain ⟨q1, q2⟩ := s1 z; obtain ⟨u1, u2⟩ := fo.1 z; subst q2; subst u2; exact ⟨by omega, r9, fun c k _ _ _ _ => rfl⟩); (obtain ⟨q1, q2⟩ := s2 z; obtain ⟨u1, u2, u3, u4⟩ := fo.2 z; subst q2; exact ⟨by omega, lf_ow r9 u2 wM u4⟩)))), fun c8 => ⟨fun c7 => (fun h1 v1 p1 q1 => (by have hk2 : K = 1 ∨ (10 ≤ K ∧ K ≤ 14) ∨ K = 16 ∨ (18 ≤ K ∧ K ≤ 21) := (by omega); have kc : K = 16 := (by have := kcd_e hk2 f0 (by omega); omega); subst kc; obtain ⟨-, wM, d1, d13, d10, d11, d12, d14, d16⟩ := hd.resolve_right (by omega); have e27 := r9.2.2.1; have da := c_X12_diesAnyL r9.1 hw r9.2.1.1 r9.2.1.2.1 r9.2.1.2.2 (by omega) p1; rw [e27] at da; obtain ⟨s1, s2⟩ := d16 rfl; intro v e; cases e; by_cases z : clv L (L 0 4).toNat < 1; (obtain ⟨q0, q1, q2⟩ := s1 z; obtain ⟨u1, u2⟩ := da.1 z; subst q0; subst q2; subst u2; exact ⟨by omega, r9, fun c k _ _ _ _ => rfl⟩); (obtain ⟨p, m1, m2, m3, m4, m5, m6, m7⟩ := s2 (by omega); obtain ⟨p', m1', m2', m3', m4', m5'⟩ := da.2 (by omega); have ep := clv_u m2 m2' (m3.trans m3'.symm); subst ep; subst m4; subst m5'; have t := lf_di (r9.dx (y := dwN x)) hw m1 m2 m7; have u3 : uph h 169 27 (dwN x) 183 3 = h 183 3 := up_ne (by omega); rw [u3] at t; exact ⟨by omega, t.1, fun c k k1 k2 k3 k4 => (t.2 c k k1 k2 k3 k4).trans (up_ne k1)⟩))), fun c7 => (by exfalso; have hk2 : K = 1 ∨ (10 ≤ K ∧ K ≤ 14) ∨ K = 16 ∨ (18 ≤ K ∧ K ≤ 21) := (by omega); rcases hd with ⟨k1, -⟩ | ⟨k1, -⟩; (have := kcd_e hk2 f0 (by omega); omega); (have := kcd_e hk2 f0 (by omega); omega))⟩⟩⟩⟩⟩⟩⟩⟩⟩⟩⟩⟩)))
    · exact hK.elim
  exact q v rfl
theorem w32_1700 : w32 (1721 - 1700) = 21 ∧ w32 (1722 - 1700) = 22 ∧ w32 (1723 - 1700) = 23 := by decide +kernel
set_option maxRecDepth 10000 in
theorem v_X12_holdsL {sl : Nat} {si : Nat → Int} {K : Nat → PH → ZL → List ZV → Prop} {Q : PH → List ZV → Prop} {h : PH}  {r : Int} (H : 0 ≤ r ∧ r < (3696 : Nat) → R32 (h 170 r.toNat) → ((w32 ((h 170 r.toNat) - 1700)) ≠ 22 → ((w32 ((h 170 r.toNat) - 1700)) ≠ 23 → 0 ≤ w32 (r + 1) ∧ w32 (r + 1) < (3696 : Nat) → R32 (h 170 (w32 (r + 1)).toNat) → ∀ h1 v1, CP (zz sl si (7, 0)) mX12_houseRow h [(0, (h 170 (w32 (r + 1)).toNat))] h1 [(0, v1)] → R32 v1 → 0 ≤ w32 (v1 + 2) ∧ w32 (v1 + 2) < (3696 : Nat) → R32 (h1 170 (w32 (v1 + 2)).toNat) → 0 ≤ w32 (r + 5) ∧ w32 (r + 5) < (3696 : Nat) → R32 (h1 170 (w32 (r + 5)).toNat) → ((h1 170 (w32 (r + 5)).toNat) ≠ 60 → 0 ≤ w32 (r + 5) ∧ w32 (r + 5) < (3696 : Nat) → R32 (h1 170 (w32 (r + 5)).toNat) → ((h1 170 (w32 (r + 5)).toNat) ≠ 62 → 0 ≤ w32 (r + 2) ∧ w32 (r + 2) < (3696 : Nat) → R32 (h1 170 (w32 (r + 2)).toNat) → ((h1 170 (w32 (v1 + 2)).toNat) ≠ (h1 170 (w32 (r + 2)).toNat) → Q h1 [(0, 0)]) ∧ (¬ ((h1 170 (w32 (v1 + 2)).toNat) ≠ (h1 170 (w32 (r + 2)).toNat)) → Q h1 [(0, 1)])) ∧ (¬ ((h1 170 (w32 (r + 5)).toNat) ≠ 62) → 0 ≤ w32 (r + 2) ∧ w32 (r + 2) < (3696 : Nat) → R32 (h1 170 (w32 (r + 2)).toNat) → ((h1 170 (w32 (v1 + 2)).toNat) ≤ (h1 170 (w32 (r + 2)).toNat) → Q h1 [(0, 0)]) ∧ (¬ ((h1 170 (w32 (v1 + 2)).toNat) ≤ (h1 170 (w32 (r + 2)).toNat)) → Q h1 [(0, 1)]))) ∧ (¬ ((h1 170 (w32 (r + 5)).toNat) ≠ 60) → 0 ≤ w32 (r + 2) ∧ w32 (r + 2) < (3696 : Nat) → R32 (h1 170 (w32 (r + 2)).toNat) → ((h1 170 (w32 (r + 2)).toNat) ≤ (h1 170 (w32 (v1 + 2)).toNat) → Q h1 [(0, 0)]) ∧ (¬ ((h1 170 (w32 (r + 2)).toNat) ≤ (h1 170 (w32 (v1 + 2)).toNat)) → Q h1 [(0, 1)]))) ∧ (¬ ((w32 ((h 170 r.toNat) - 1700)) ≠ 23) → 0 ≤ w32 (r + 1) ∧ w32 (r + 1) < (3696 : Nat) → R32 (h 170 (w32 (r + 1)).toNat) → ∀ h2 v2, CP (zz sl si (7, 0)) mX12_whereOf h [(2, 169), (0, (h 170 (w32 (r + 1)).toNat))] h2 [(0, v2)] → R32 v2 → 0 ≤ w32 (r + 2) ∧ w32 (r + 2) < (3696 : Nat) → R32 (h2 170 (w32 (r + 2)).toNat) → (v2 ≠ (h2 170 (w32 (r + 2)).toNat) → Q h2 [(0, 0)]) ∧ (¬ (v2 ≠ (h2 170 (w32 (r + 2)).toNat)) → Q h2 [(0, 1)]))) ∧ (¬ ((w32 ((h 170 r.toNat) - 1700)) ≠ 22) → 0 ≤ w32 (r + 1) ∧ w32 (r + 1) < (3696 : Nat) → R32 (h 170 (w32 (r + 1)).toNat) → ∀ h3 v3, CP (zz sl si (7, 0)) mX12_isGhost h [(2, 169), (0, (h 170 (w32 (r + 1)).toNat))] h3 [(0, v3)] → v3 = 0 ∨ v3 = 1 → (v3 ≠ 0 → Q h3 [(0, 0)]) ∧ (¬ (v3 ≠ 0) → Q h3 [(0, 1)]))) : vc (zz sl si (7, 0)) (fun _ => false) K Q mX12_holds 55 0 mX12_holds.2.2.2.2.2.2 h [(0, (2, 169)), (1, (0, r))] [] := H
set_option maxHeartbeats 600000 in
theorem c_X12_holdsL {sl : Nat} {si : Nat → Int} {h h' : PH} {L : PH} {r K a b n x c1 c2 c3 : Int} {v : Int} (hw : W10 L) (r9 : RLF h L x c1 c2 c3) (f0 : h 170 r.toNat = kcd K) (f1 : h 170 (w32 (r + 1)).toNat = erow K a b n 1) (f2 : h 170 (w32 (r + 2)).toNat = erow K a b n 2) (f5 : h 170 (w32 (r + 5)).toNat = erow K a b n 5) (hok : okw L K a b n) (hK : 18 ≤ K ∧ K ≤ 20) (hc : CP (zz sl si (7, 0)) mX12_holds h [(2, 169), (0, r)] h' [(0, v)]) : h' = h ∧ (v = 1 ↔ hdS L K a b n) := by
  have q : (fun (xh : PH) (r : List ZV) => ∀ v : Int, r = [(0, v)] → (xh = h ∧ (v = 1 ↔ hdS L K a b n))) h' [(0, v)] := by
    refine cp_vc (cut := (fun _ => false)) (K := fun p hx lv st => False) (Q := fun (xh : PH) (r : List ZV) => ∀ v : Int, r = [(0, v)] → (xh = h ∧ (v = 1 ↔ hdS L K a b n))) (v_X12_holdsL ?_) (fun pc hx lv st hcut hK => ?_) hc
    · exact (fun b1 r2 => ⟨fun c3 => ⟨fun c4 => (fun b5 r6 => (fun h1 v1 p1 q1 => by obtain ⟨t1, e1⟩ := c_X12_houseRow p1; have t1 := t1.symm; subst t1; exact (fun b7 r8 => (fun b9 r10 => ⟨fun c11 => (fun b12 r13 => ⟨fun c14 => (fun b15 r16 => ⟨fun c17 => (by have kc : K = 18 := (by rcases (show K = 18 ∨ K = 19 ∨ K = 20 by omega) with kc | kc | kc; (exact kc); (exfalso; rw [kc] at f0; rw [show h 170 r.toNat = 1722 from f0] at c3 c4; have := w32_1700; omega); (exfalso; rw [kc] at f0; rw [show h 170 r.toNat = 1723 from f0] at c3 c4; have := w32_1700; omega)); subst kc; have hr := hok.2.1 (by omega); have h7 := hw.1.1.1; have hr0 := hr.1; have hr1 := hr.2; have g1 : h 170 (w32 (r + 1)).toNat = a := f1; have g2 : h 170 (w32 (r + 2)).toNat = n := f2; have g5 : h 170 (w32 (r + 5)).toNat = b := f5; rw [g1] at e1; have ev := e1 (by omega) (by omega); have g9 : h 170 (w32 (v1 + 2)).toNat = L 15 a.toNat := (by rw [ev, show (w32 (6 + 3 * a + 2)).toNat = 8 + 3 * a.toNat by (rw [w32_id (by omega) (by omega)]; omega)]; exact (r9.1.2.1 a.toNat (by omega)).2.2); intro v e; cases e; refine ⟨rfl, ?_⟩; unfold hdS; rw [if_neg (show ¬ (18 : Int) = 19 by omega), if_neg (show ¬ (18 : Int) = 20 by omega), if_neg (by omega), if_neg (by omega)]; omega), fun c17 => (by have kc : K = 18 := (by rcases (show K = 18 ∨ K = 19 ∨ K = 20 by omega) with kc | kc | kc; (exact kc); (exfalso; rw [kc] at f0; rw [show h 170 r.toNat = 1722 from f0] at c3 c4; have := w32_1700; omega); (exfalso; rw [kc] at f0; rw [show h 170 r.toNat = 1723 from f0] at c3 c4; have := w32_1700; omega)); subst kc; have hr := hok.2.1 (by omega); have h7 := hw.1.1.1; have hr0 := hr.1; have hr1 := hr.2; have g1 : h 170 (w32 (r + 1)).toNat = a := f1; have g2 : h 170 (w32 (r + 2)).toNat = n := f2; have g5 : h 170 (w32 (r + 5)).toNat = b := f5; rw [g1] at e1; have ev := e1 (by omega) (by omega); have g9 : h 170 (w32 (v1 + 2)).toNat = L 15 a.toNat := (by rw [ev, show (w32 (6 + 3 * a + 2)).toNat = 8 + 3 * a.toNat by (rw [w32_id (by omega) (by omega)]; omega)]; exact (r9.1.2.1 a.toNat (by omega)).2.2); intro v e; cases e; refine ⟨rfl, ?_⟩; unfold hdS; rw [if_neg (show ¬ (18 : Int) = 19 by omega), if_neg (show ¬ (18 : Int) = 20 by omega), if_neg (by omega), if_neg (by omega)]; omega)⟩), fun c14 => (fun b18 r19 => ⟨fun c20 => (by have kc : K = 18 := (by rcases (show K = 18 ∨ K = 19 ∨ K = 20 by omega) with kc | kc | kc; (exact kc); (exfalso; rw [kc] at f0; rw [show h 170 r.toNat = 1722 from f0] at c3 c4; have := w32_1700; omega); (exfalso; rw [kc] at f0; rw [show h 170 r.toNat = 1723 from f0] at c3 c4; have := w32_1700; omega)); subst kc; have hr := hok.2.1 (by omega); have h7 := hw.1.1.1; have hr0 := hr.1; have hr1 := hr.2; have g1 : h 170 (w32 (r + 1)).toNat = a := f1; have g2 : h 170 (w32 (r + 2)).toNat = n := f2; have g5 : h 170 (w32 (r + 5)).toNat = b := f5; rw [g1] at e1; have ev := e1 (by omega) (by omega); have g9 : h 170 (w32 (v1 + 2)).toNat = L 15 a.toNat := (by rw [ev, show (w32 (6 + 3 * a + 2)).toNat = 8 + 3 * a.toNat by (rw [w32_id (by omega) (by omega)]; omega)]; exact (r9.1.2.1 a.toNat (by omega)).2.2); intro v e; cases e; refine ⟨rfl, ?_⟩; unfold hdS; rw [if_neg (show ¬ (18 : Int) = 19 by omega), if_neg (show ¬ (18 : Int) = 20 by omega), if_neg (by omega), if_pos (by omega)]; omega), fun c20 => (by have kc : K = 18 := (by rcases (show K = 18 ∨ K = 19 ∨ K = 20 by omega) with kc | kc | kc; (exact kc); (exfalso; rw [kc] at f0; rw [show h 170 r.toNat = 1722 from f0] at c3 c4; have := w32_1700; omega); (exfalso; rw [kc] at f0; rw [show h 170 r.toNat = 1723 from f0] at c3 c4; have := w32_1700; omega)); subst kc; have hr := hok.2.1 (by omega); have h7 := hw.1.1.1; have hr0 := hr.1; have hr1 := hr.2; have g1 : h 170 (w32 (r + 1)).toNat = a := f1; have g2 : h 170 (w32 (r + 2)).toNat = n := f2; have g5 : h 170 (w32 (r + 5)).toNat = b := f5; rw [g1] at e1; have ev := e1 (by omega) (by omega); have g9 : h 170 (w32 (v1 + 2)).toNat = L 15 a.toNat := (by rw [ev, show (w32 (6 + 3 * a + 2)).toNat = 8 + 3 * a.toNat by (rw [w32_id (by omega) (by omega)]; omega)]; exact (r9.1.2.1 a.toNat (by omega)).2.2); intro v e; cases e; refine ⟨rfl, ?_⟩; unfold hdS; rw [if_neg (show ¬ (18 : Int) = 19 by omega), if_neg (show ¬ (18 : Int) = 20 by omega), if_neg (by omega), if_pos (by omega)]; omega)⟩)⟩), fun c11 => (fun b21 r22 => ⟨fun c23 => (by have kc : K = 18 := (by rcases (show K = 18 ∨ K = 19 ∨ K = 20 by omega) with kc | kc | kc; (exact kc); (exfalso; rw [kc] at f0; rw [show h 170 r.toNat = 1722 from f0] at c3 c4; have := w32_1700; omega); (exfalso; rw [kc] at f0; rw [show h 170 r.toNat = 1723 from f0] at c3 c4; have := w32_1700; omega)); subst kc; have hr := hok.2.1 (by omega); have h7 := hw.1.1.1; have hr0 := hr.1; have hr1 := hr.2; have g1 : h 170 (w32 (r + 1)).toNat = a := f1; have g2 : h 170 (w32 (r + 2)).toNat = n := f2; have g5 : h 170 (w32 (r + 5)).toNat = b := f5; rw [g1] at e1; have ev := e1 (by omega) (by omega); have g9 : h 170 (w32 (v1 + 2)).toNat = L 15 a.toNat := (by rw [ev, show (w32 (6 + 3 * a + 2)).toNat = 8 + 3 * a.toNat by (rw [w32_id (by omega) (by omega)]; omega)]; exact (r9.1.2.1 a.toNat (by omega)).2.2); intro v e; cases e; refine ⟨rfl, ?_⟩; unfold hdS; rw [if_neg (show ¬ (18 : Int) = 19 by omega), if_neg (show ¬ (18 : Int) = 20 by omega), if_pos (by omega)]; omega), fun c23 => (by have kc : K = 18 := (by rcases (show K = 18 ∨ K = 19 ∨ K = 20 by omega) with kc | kc | kc; (exact kc); (exfalso; rw [kc] at f0; rw [show h 170 r.toNat = 1722 from f0] at c3 c4; have := w32_1700; omega); (exfalso; rw [kc] at f0; rw [show h 170 r.toNat = 1723 from f0] at c3 c4; have := w32_1700; omega)); subst kc; have hr := hok.2.1 (by omega); have h7 := hw.1.1.1; have hr0 := hr.1; have hr1 := hr.2; have g1 : h 170 (w32 (r + 1)).toNat = a := f1; have g2 : h 170 (w32 (r + 2)).toNat = n := f2; have g5 : h 170 (w32 (r + 5)).toNat = b := f5; rw [g1] at e1; have ev := e1 (by omega) (by omega); have g9 : h 170 (w32 (v1 + 2)).toNat = L 15 a.toNat := (by rw [ev, show (w32 (6 + 3 * a + 2)).toNat = 8 + 3 * a.toNat by (rw [w32_id (by omega) (by omega)]; omega)]; exact (r9.1.2.1 a.toNat (by omega)).2.2); intro v e; cases e; refine ⟨rfl, ?_⟩; unfold hdS; rw [if_neg (show ¬ (18 : Int) = 19 by omega), if_neg (show ¬ (18 : Int) = 20 by omega), if_pos (by omega)]; omega)⟩)⟩)))), fun c4 => (fun b24 r25 => (fun h2 v2 p2 q2 => by obtain ⟨t2, e2⟩ := c_X12_whereOf p2; have t2 := t2.symm; subst t2; exact (fun b26 r27 => ⟨fun c28 => (by have kc : K = 20 := (by rcases (show K = 18 ∨ K = 19 ∨ K = 20 by omega) with kc | kc | kc; (exfalso; rw [kc] at f0; rw [show h 170 r.toNat = 1721 from f0] at c3 c4; have := w32_1700; omega); (exfalso; rw [kc] at f0; rw [show h 170 r.toNat = 1722 from f0] at c3 c4; have := w32_1700; omega); (exact kc)); subst kc; have hr := hok.2.2.1 (by omega); have h8 := hw.1.1.2.1; have hr0 := hr.1; have hr1 := hr.2; have g1 : h 170 (w32 (r + 1)).toNat = a := f1; have g2 : h 170 (w32 (r + 2)).toNat = b := f2; rw [g1] at e2; have ev := e2 (by omega) (by omega); rw [((r9.1.2.2.1 a.toNat (by omega)).1 (by omega)).1] at ev; rw [g2] at c28; intro v e; cases e; refine ⟨rfl, ?_⟩; unfold hdS; rw [if_neg (show ¬ (20 : Int) = 19 by omega), if_pos rfl]; omega), fun c28 => (by have kc : K = 20 := (by rcases (show K = 18 ∨ K = 19 ∨ K = 20 by omega) with kc | kc | kc; (exfalso; rw [kc] at f0; rw [show h 170 r.toNat = 1721 from f0] at c3 c4; have := w32_1700; omega); (exfalso; rw [kc] at f0; rw [show h 170 r.toNat = 1722 from f0] at c3 c4; have := w32_1700; omega); (exact kc)); subst kc; have hr := hok.2.2.1 (by omega); have h8 := hw.1.1.2.1; have hr0 := hr.1; have hr1 := hr.2; have g1 : h 170 (w32 (r + 1)).toNat = a := f1; have g2 : h 170 (w32 (r + 2)).toNat = b := f2; rw [g1] at e2; have ev := e2 (by omega) (by omega); rw [((r9.1.2.2.1 a.toNat (by omega)).1 (by omega)).1] at ev; rw [g2] at c28; intro v e; cases e; refine ⟨rfl, ?_⟩; unfold hdS; rw [if_neg (show ¬ (20 : Int) = 19 by omega), if_pos rfl]; omega)⟩)))⟩, fun c3 => (fun b29 r30 => (fun h3 v3 p3 q3 => ⟨fun c31 => (by have kc : K = 19 := (by rcases (show K = 18 ∨ K = 19 ∨ K = 20 by omega) with kc | kc | kc; (exfalso; rw [kc] at f0; rw [show h 170 r.toNat = 1721 from f0] at c3; have := w32_1700; omega); (exact kc); (exfalso; rw [kc] at f0; rw [show h 170 r.toNat = 1723 from f0] at c3; have := w32_1700; omega)); subst kc; have hr := hok.2.2.1 (by omega); have h8 := hw.1.1.2.1; have hr0 := hr.1; have hr1 := hr.2; have g1 : h 170 (w32 (r + 1)).toNat = a := f1; have n1 : h 170 1 = L 0 4 := r9.1.1.2.1; rw [g1] at p3; obtain ⟨u1, u2⟩ := c_X12_isGhost (by omega) r9.2.1.2.1 (by omega) p3; rw [tot_b r9.1 hw.1 (by omega), (r9.1.2.2.1 a.toNat (by omega)).2.1, bt_B (by omega)] at u2; intro v e; cases e; refine ⟨u1, ?_⟩; unfold hdS; rw [if_pos rfl]; exact ⟨fun z => absurd z (by omega), fun z => absurd (u2.mp (by omega)) z⟩), fun c31 => (by have kc : K = 19 := (by rcases (show K = 18 ∨ K = 19 ∨ K = 20 by omega) with kc | kc | kc; (exfalso; rw [kc] at f0; rw [show h 170 r.toNat = 1721 from f0] at c3; have := w32_1700; omega); (exact kc); (exfalso; rw [kc] at f0; rw [show h 170 r.toNat = 1723 from f0] at c3; have := w32_1700; omega)); subst kc; have hr := hok.2.2.1 (by omega); have h8 := hw.1.1.2.1; have hr0 := hr.1; have hr1 := hr.2; have g1 : h 170 (w32 (r + 1)).toNat = a := f1; have n1 : h 170 1 = L 0 4 := r9.1.1.2.1; rw [g1] at p3; obtain ⟨u1, u2⟩ := c_X12_isGhost (by omega) r9.2.1.2.1 (by omega) p3; rw [tot_b r9.1 hw.1 (by omega), (r9.1.2.2.1 a.toNat (by omega)).2.1, bt_B (by omega)] at u2; intro v e; cases e; refine ⟨u1, ?_⟩; unfold hdS; rw [if_pos rfl]; exact ⟨fun _ z => by have := u2.mpr z; omega, fun _ => rfl⟩)⟩))⟩)
    · exact hK.elim
  exact q v rfl
end
section
/-! 45z.8z.plc -/
/-! live(): a life in the class -/
theorem uph_upt {h : PH} {c k : Nat} {v : Int} : (uph h c k v) c = upt (h c) k v := funext (fun i => by
  by_cases e : i = k
  · subst e; rw [up_sm, upt_s]
  · rw [up_ne (by omega), upt_o e])
section LS
variable {Y L M : PH} {k v x x' d m m' : Int} {T T' : Nat → Int}
theorem ls_21 (h : 0 ≤ k ∧ k < Y 43 2) (hd : d < 300) (hK : Y 44 k.toNat = 21) (hv : v = k + 1) (hT : T' = upt T k.toNat (Y 47 k.toNat)) (hx : x' = x) (hm : m' = m) : lstp Y (k, L, x, T, d, m) (v, L, x', T', d + 1, m') := by
  unfold lstp same3; dsimp only
  exact ⟨h, fun _ => ⟨hd, rfl⟩, fun q => absurd q (by omega), fun _ => ⟨⟨rfl, hx, hm⟩, hv, hT⟩, fun q => absurd q (by omega), fun q => absurd q (by omega), fun q => absurd q (by omega), fun q => absurd q (by omega)⟩
theorem ls_22 (h : 0 ≤ k ∧ k < Y 43 2) (hK : Y 44 k.toNat = 22) (hT : T' = upt T (Y 48 k.toNat).toNat (w32 (T (Y 48 k.toNat).toNat - 1))) (hx : x' = x) (hm : m' = m) (h1 : Y 44 (Y 48 k.toNat).toNat = 21 ∧ 0 < w32 (T (Y 48 k.toNat).toNat - 1) → v = Y 48 k.toNat + 1) (h2 : ¬ (Y 44 (Y 48 k.toNat).toNat = 21 ∧ 0 < w32 (T (Y 48 k.toNat).toNat - 1)) → v = k + 1) : lstp Y (k, L, x, T, d, m) (v, L, x', T', d, m') := by
  unfold lstp same3; dsimp only
  exact ⟨h, fun q => absurd hK q, fun _ => rfl, fun q => absurd q (by omega), fun _ => ⟨⟨rfl, hx, hm⟩, hT, h1, h2⟩, fun q => absurd q (by omega), fun q => absurd q (by omega), fun q => absurd q (by omega)⟩
theorem ls_w (h : 0 ≤ k ∧ k < Y 43 2) (hd : d < 300) (hK : 18 ≤ Y 44 k.toNat ∧ Y 44 k.toNat ≤ 20) (hT : T' = T) (hx : x' = x) (hm : m' = m) (h1 : hdS L (Y 44 k.toNat) (Y 45 k.toNat) (Y 46 k.toNat) (Y 47 k.toNat) → v = k + 1) (h2 : ¬ hdS L (Y 44 k.toNat) (Y 45 k.toNat) (Y 46 k.toNat) (Y 47 k.toNat) → v = Y 48 k.toNat + 1) : lstp Y (k, L, x, T, d, m) (v, L, x', T', d + 1, m') := by
  unfold lstp same3; dsimp only
  exact ⟨h, fun _ => ⟨hd, rfl⟩, fun q => absurd q (by omega), fun q => absurd q (by omega), fun q => absurd q (by omega), fun _ => ⟨⟨rfl, hx, hm⟩, hT, h1, h2⟩, fun q => absurd q (by omega), fun q => absurd q (by omega)⟩
theorem ls_23 (h : 0 ≤ k ∧ k < Y 43 2) (hd : d < 300) (hK : Y 44 k.toNat = 23) (hv : v = Y 43 2) (hT : T' = T) (hx : x' = x) (hm : m' = m) : lstp Y (k, L, x, T, d, m) (v, L, x', T', d + 1, m') := by
  unfold lstp same3; dsimp only
  exact ⟨h, fun _ => ⟨hd, rfl⟩, fun q => absurd q (by omega), fun q => absurd q (by omega), fun q => absurd q (by omega), fun q => absurd q (by omega), fun _ => ⟨⟨rfl, hx, hm⟩, hT, hv⟩, fun q => absurd q (by omega)⟩
theorem ls_r (h : 0 ≤ k ∧ k < Y 43 2) (hd : d < 300) (hK : Y 44 k.toNat = 1 ∨ (10 ≤ Y 44 k.toNat ∧ Y 44 k.toNat ≤ 14) ∨ Y 44 k.toNat = 16) (hv : v = k + 1) (hT : T' = T) (hM : ∃ w : Int, (w = 0 ∨ w = 1) ∧ W10 M ∧ dnL L x (Y 44 k.toNat) (Y 45 k.toNat) (Y 46 k.toNat) (Y 47 k.toNat) w M x' ∧ m' = m + (1 - w)) : lstp Y (k, L, x, T, d, m) (v, M, x', T', d + 1, m') := by
  unfold lstp same3; dsimp only
  exact ⟨h, fun _ => ⟨hd, rfl⟩, fun q => absurd q (by omega), fun q => absurd q (by omega), fun q => absurd q (by omega), fun q => absurd q (by omega), fun q => absurd q (by omega), fun _ => ⟨hv, hT, hM⟩⟩
theorem dnL_v {K a b n : Int} (d : dnL L x K a b n v M x') (kk : K = 1 ∨ (10 ≤ K ∧ K ≤ 14) ∨ K = 16) : v = 0 ∨ v = 1 := by
  obtain ⟨d1, d13, d10, d11, d12, d14, d16⟩ := d
  have S : ∀ c : Int, stE L a c v M → v = 0 ∨ v = 1 := fun c h => by
    by_cases z : (bB (L 1 1) a.toNat = true ↔ c = 1)
    · exact Or.inl (h.1 z).1
    · exact Or.inr (h.2 z).1
  by_cases c1 : K = 1
  · exact S _ (d1 c1).2
  by_cases c13 : K = 13
  · exact S _ (d13 c13).2
  by_cases c10 : K = 10
  · obtain ⟨-, q1, q2⟩ := d10 c10
    by_cases z : 9999 < w32 (L 0 12 + n)
    · exact Or.inl (q1 z).1
    · exact Or.inr (q2 z).1
  by_cases c11 : K = 11
  · obtain ⟨-, q⟩ := d11 c11
    by_cases z : bB (L 0 7) a.toNat = true
    · exact Or.inl (q.1 z).1
    · exact Or.inr (q.2 z).1
  by_cases c12 : K = 12
  · obtain ⟨-, q1, q2⟩ := d12 c12
    by_cases z : bB (L 0 7) a.toNat = true ∨ L 7 (8 * b.toNat + a.toNat) = 0
    · exact Or.inl (q1 z).1
    · exact Or.inr (q2 z).1
  by_cases c14 : K = 14
  · obtain ⟨-, q1, q2⟩ := d14 c14
    by_cases z : ¬ bB (L 0 7) a.toNat = true ∨ bB (L 0 7) b.toNat = true
    · exact Or.inl (q1 z).1
    · exact Or.inr (q2 z).1
  obtain ⟨q1, q2⟩ := d16 (by clear d1 d13 d10 d11 d12 d14 d16; omega)
  by_cases z : clv L (L 0 4).toNat < 1
  · exact Or.inl (q1 z).2.1
  · obtain ⟨p, -, -, -, -, e, -⟩ := q2 (by omega)
    exact Or.inr e
end LS
set_option maxRecDepth 10000 in
theorem v_X3_comparesL {sl : Nat} {si : Nat → Int} {K : Nat → PH → ZL → List ZV → Prop} {Q : PH → List ZV → Prop} {h : PH} {a b c : Int} (H : (b = 60 → (c ≤ a → Q h [(0, 0)]) ∧ (¬ (c ≤ a) → Q h [(0, 1)])) ∧ (¬ b = 60 → (b = 62 → (a ≤ c → Q h [(0, 0)]) ∧ (¬ (a ≤ c) → Q h [(0, 1)])) ∧ (¬ b = 62 → (a ≠ c → Q h [(0, 0)]) ∧ (¬ (a ≠ c) → Q h [(0, 1)])))) : vc (zz sl si (7, 0)) (fun _ => false) K Q mX3_compares 10 0 mX3_compares.2.2.2.2.2.2 h [(0, (0, a)), (1, (0, b)), (2, (0, c))] [] := H
set_option maxHeartbeats 600000 in
theorem c_X3_comparesL {sl : Nat} {si : Nat → Int} {h h' : PH} {a b c : Int} {v : Int} (hc : CP (zz sl si (7, 0)) mX3_compares h [(0, a), (0, b), (0, c)] h' [(0, v)]) : h' = h ∧ (v = 1 ↔ if b = 60 then a < c else if b = 62 then c < a else a = c) := by
  have q : (fun (xh : PH) (r : List ZV) => ∀ v : Int, r = [(0, v)] → (xh = h ∧ (v = 1 ↔ if b = 60 then a < c else if b = 62 then c < a else a = c))) h' [(0, v)] := by
    refine cp_vc (cut := (fun _ => false)) (K := fun p hx lv st => False) (Q := fun (xh : PH) (r : List ZV) => ∀ v : Int, r = [(0, v)] → (xh = h ∧ (v = 1 ↔ if b = 60 then a < c else if b = 62 then c < a else a = c))) (v_X3_comparesL ?_) (fun pc hx lv st hcut hK => ?_) hc
    · exact ⟨fun c4 => ⟨fun c5 => (by intro v e; cases e; rw [if_pos c4]; exact ⟨rfl, by omega⟩), fun c5 => (by intro v e; cases e; rw [if_pos c4]; exact ⟨rfl, by omega⟩)⟩, fun c4 => ⟨fun c2 => ⟨fun c3 => (by intro v e; cases e; rw [if_neg c4, if_pos c2]; exact ⟨rfl, by omega⟩), fun c3 => (by intro v e; cases e; rw [if_neg c4, if_pos c2]; exact ⟨rfl, by omega⟩)⟩, fun c2 => ⟨fun c1 => (by intro v e; cases e; rw [if_neg c4, if_neg c2]; exact ⟨rfl, by omega⟩), fun c1 => (by intro v e; cases e; rw [if_neg c4, if_neg c2]; exact ⟨rfl, by omega⟩)⟩⟩⟩
    · exact hK.elim
  exact q v rfl
set_option maxRecDepth 10000 in
theorem v_X3_holds5 {sl : Nat} {si : Nat → Int} {K : Nat → PH → ZL → List ZV → Prop} {Q : PH → List ZV → Prop} {h : PH}  {a : Int} (H : 0 ≤ a ∧ a < (60 : Nat) → R32 (h 23 a.toNat) → 0 ≤ a ∧ a < (60 : Nat) → R32 (h 24 a.toNat) → 0 ≤ a ∧ a < (60 : Nat) → R32 (h 22 a.toNat) → ((h 22 a.toNat) = 19 → ∀ h2 v2, CP (zz sl si (7, 0)) mX1_isGhost h [(2, 5), (0, (h 23 a.toNat))] h2 [(0, v2)] → v2 = 0 ∨ v2 = 1 → (v2 ≠ 0 → Q h2 [(0, 0)]) ∧ (¬ (v2 ≠ 0) → Q h2 [(0, 1)])) ∧ (¬ (h 22 a.toNat) = 19 → ((h 22 a.toNat) = 20 → 0 ≤ (h 23 a.toNat) ∧ (h 23 a.toNat) < (8 : Nat) → R32 (h 16 (h 23 a.toNat).toNat) → ((h 16 (h 23 a.toNat).toNat) ≠ (h 24 a.toNat) → Q h [(0, 0)]) ∧ (¬ ((h 16 (h 23 a.toNat).toNat) ≠ (h 24 a.toNat)) → Q h [(0, 1)])) ∧ (¬ (h 22 a.toNat) = 20 → 0 ≤ (h 23 a.toNat) ∧ (h 23 a.toNat) < (7 : Nat) → R32 (h 20 (h 23 a.toNat).toNat) → 0 ≤ a ∧ a < (60 : Nat) → R32 (h 25 a.toNat) → ∀ h1 v1, CP (zz sl si (7, 0)) mX3_compares h [(0, (h 20 (h 23 a.toNat).toNat)), (0, (h 24 a.toNat)), (0, (h 25 a.toNat))] h1 [(0, v1)] → v1 = 0 ∨ v1 = 1 → Q h1 [(0, v1)]))) : vc (zz sl si (7, 0)) (fun _ => false) K Q mX3_holds 28 0 mX3_holds.2.2.2.2.2.2 h [(0, (2, 21)), (1, (2, 5)), (2, (0, a))] [] := H
set_option maxHeartbeats 600000 in
theorem c_X3_holds5 {sl : Nat} {si : Nat → Int} {h h' : PH} {L : PH} {a K p q n : Int} {v : Int} (hL : CL 5 h L) (hw : W10 L) (eK : h 22 a.toNat = K) (ea : h 23 a.toNat = p) (eb : h 24 a.toNat = q) (en : h 25 a.toNat = n) (hok : okw L K p q n) (hK : 18 ≤ K ∧ K ≤ 20) (hc : CP (zz sl si (7, 0)) mX3_holds h [(2, 21), (2, 5), (0, a)] h' [(0, v)]) : h' = h ∧ (v = 1 ↔ hdS L K p q n) := by
  have q : (fun (xh : PH) (r : List ZV) => ∀ v : Int, r = [(0, v)] → (xh = h ∧ (v = 1 ↔ hdS L K p q n))) h' [(0, v)] := by
    refine cp_vc (cut := (fun _ => false)) (K := fun p hx lv st => False) (Q := fun (xh : PH) (r : List ZV) => ∀ v : Int, r = [(0, v)] → (xh = h ∧ (v = 1 ↔ hdS L K p q n))) (v_X3_holds5 ?_) (fun pc hx lv st hcut hK => ?_) hc
    · exact (fun b1 r2 => (fun b3 r4 => (fun b5 r6 => ⟨fun c15 => (fun h2 v2 p2 q2 => ⟨fun c16 => (by rw [eK] at c15; have hr := hok.2.2.1 (by omega); have h8 := hw.1.1.2.1; have hr0 := hr.1; have hr1 := hr.2; rw [ea] at p2; obtain ⟨u1, u2⟩ := c_X1_isGhost5 hL (by omega) p2; intro v e; cases e; refine ⟨u1, ?_⟩; unfold hdS; rw [if_pos (by omega)]; exact ⟨fun z => absurd z (by omega), fun z => absurd (u2.mp (by omega)) z⟩), fun c16 => (by rw [eK] at c15; have hr := hok.2.2.1 (by omega); have h8 := hw.1.1.2.1; have hr0 := hr.1; have hr1 := hr.2; rw [ea] at p2; obtain ⟨u1, u2⟩ := c_X1_isGhost5 hL (by omega) p2; intro v e; cases e; refine ⟨u1, ?_⟩; unfold hdS; rw [if_pos (by omega)]; exact ⟨fun _ z => by have := u2.mpr z; omega, fun _ => rfl⟩)⟩), fun c15 => ⟨fun c11 => (fun b12 r13 => ⟨fun c14 => (by rw [eK] at c15 c11; have hr := hok.2.2.1 (by omega); have h8 := hw.1.1.2.1; have hr0 := hr.1; have hr1 := hr.2; rw [ea, eb] at c14; have k11 : h 16 p.toNat = L 11 p.toNat := hL 11 p.toNat (il11 (by omega)); rw [k11] at c14; intro v e; cases e; refine ⟨rfl, ?_⟩; unfold hdS; rw [if_neg (by omega), if_pos (by omega)]; omega), fun c14 => (by rw [eK] at c15 c11; have hr := hok.2.2.1 (by omega); have h8 := hw.1.1.2.1; have hr0 := hr.1; have hr1 := hr.2; rw [ea, eb] at c14; have k11 : h 16 p.toNat = L 11 p.toNat := hL 11 p.toNat (il11 (by omega)); rw [k11] at c14; intro v e; cases e; refine ⟨rfl, ?_⟩; unfold hdS; rw [if_neg (by omega), if_pos (by omega)]; omega)⟩), fun c11 => (fun b7 r8 => (fun b9 r10 => (fun h1 v1 p1 q1 => (by rw [eK] at c15 c11; have hr := hok.2.1 (by omega); have h7 := hw.1.1.1; have hr0 := hr.1; have hr1 := hr.2; rw [ea, eb, en] at p1; have k15 : h 20 p.toNat = L 15 p.toNat := hL 15 p.toNat (il15 (by omega)); rw [k15] at p1; obtain ⟨u1, u2⟩ := c_X3_comparesL p1; intro v e; cases e; refine ⟨u1, ?_⟩; unfold hdS; rw [if_neg (by omega), if_neg (by omega)]; exact u2))))⟩⟩)))
    · exact hK.elim
  exact q v rfl
set_option maxRecDepth 10000 in
theorem v_X3_placeBehind5 {sl : Nat} {si : Nat → Int} {K : Nat → PH → ZL → List ZV → Prop} {Q : PH → List ZV → Prop} {h : PH}  {a : Int} (H : 0 ≤ a ∧ a < (60 : Nat) → R32 (h 26 a.toNat) → 0 ≤ a ∧ a < (60 : Nat) → R32 (h 22 a.toNat) → ((h 22 a.toNat) < 18 ∨ 23 < (h 22 a.toNat) → R32 (h 89 2) → ∀ h5 v5, CP (zz sl si (7, 0)) mX3_isDone h [(2, 89), (2, 21), (2, 5), (0, a)] h5 [(0, v5)] → v5 = 0 ∨ v5 = 1 → (v5 = 0 → Q (uph h5 89 2 (w32 ((h 89 2) + 1))) [(0, w32 (a + 1))]) ∧ (¬ (v5 = 0) → Q (uph h5 89 2 (w32 ((h 89 2) + 0))) [(0, w32 (a + 1))])) ∧ (¬ ((h 22 a.toNat) < 18 ∨ 23 < (h 22 a.toNat)) → ((h 22 a.toNat) = 18 → ∀ h4 v4, CP (zz sl si (7, 0)) mX3_holds h [(2, 21), (2, 5), (0, a)] h4 [(0, v4)] → v4 = 0 ∨ v4 = 1 → (v4 = 0 → Q h4 [(0, w32 ((h 26 a.toNat) + 1))]) ∧ (¬ (v4 = 0) → Q h4 [(0, w32 (a + 1))])) ∧ (¬ (h 22 a.toNat) = 18 → ((h 22 a.toNat) = 19 → ∀ h3 v3, CP (zz sl si (7, 0)) mX3_holds h [(2, 21), (2, 5), (0, a)] h3 [(0, v3)] → v3 = 0 ∨ v3 = 1 → (v3 = 0 → Q h3 [(0, w32 ((h 26 a.toNat) + 1))]) ∧ (¬ (v3 = 0) → Q h3 [(0, w32 (a + 1))])) ∧ (¬ (h 22 a.toNat) = 19 → ((h 22 a.toNat) = 20 → ∀ h2 v2, CP (zz sl si (7, 0)) mX3_holds h [(2, 21), (2, 5), (0, a)] h2 [(0, v2)] → v2 = 0 ∨ v2 = 1 → (v2 = 0 → Q h2 [(0, w32 ((h 26 a.toNat) + 1))]) ∧ (¬ (v2 = 0) → Q h2 [(0, w32 (a + 1))])) ∧ (¬ (h 22 a.toNat) = 20 → ((h 22 a.toNat) = 21 → 0 ≤ a ∧ a < (60 : Nat) → R32 (h 25 a.toNat) → 0 ≤ a ∧ a < (60 : Nat) → Q (uph h 90 a.toNat (h 25 a.toNat)) [(0, w32 (a + 1))]) ∧ (¬ (h 22 a.toNat) = 21 → ((h 22 a.toNat) = 22 → 0 ≤ (h 26 a.toNat) ∧ (h 26 a.toNat) < (60 : Nat) → R32 (h 90 (h 26 a.toNat).toNat) → 0 ≤ (h 26 a.toNat) ∧ (h 26 a.toNat) < (60 : Nat) → 0 ≤ (h 26 a.toNat) ∧ (h 26 a.toNat) < (60 : Nat) → R32 (h 22 (h 26 a.toNat).toNat) → ((h 22 (h 26 a.toNat).toNat) ≠ 21 → Q (uph h 90 (h 26 a.toNat).toNat (w32 ((h 90 (h 26 a.toNat).toNat) - 1))) [(0, w32 (a + 1))]) ∧ (¬ ((h 22 (h 26 a.toNat).toNat) ≠ 21) → 0 ≤ (h 26 a.toNat) ∧ (h 26 a.toNat) < (60 : Nat) → R32 ((uph h 90 (h 26 a.toNat).toNat (w32 ((h 90 (h 26 a.toNat).toNat) - 1))) 90 (h 26 a.toNat).toNat) → (((uph h 90 (h 26 a.toNat).toNat (w32 ((h 90 (h 26 a.toNat).toNat) - 1))) 90 (h 26 a.toNat).toNat) ≤ 0 → Q (uph h 90 (h 26 a.toNat).toNat (w32 ((h 90 (h 26 a.toNat).toNat) - 1))) [(0, w32 (a + 1))]) ∧ (¬ (((uph h 90 (h 26 a.toNat).toNat (w32 ((h 90 (h 26 a.toNat).toNat) - 1))) 90 (h 26 a.toNat).toNat) ≤ 0) → Q (uph h 90 (h 26 a.toNat).toNat (w32 ((h 90 (h 26 a.toNat).toNat) - 1))) [(0, w32 ((h 26 a.toNat) + 1))]))) ∧ (¬ (h 22 a.toNat) = 22 → ((h 22 a.toNat) = 23 → R32 (h 21 2) → Q h [(0, (h 21 2))]) ∧ (¬ (h 22 a.toNat) = 23 → R32 (h 89 2) → ∀ h1 v1, CP (zz sl si (7, 0)) mX3_isDone h [(2, 89), (2, 21), (2, 5), (0, a)] h1 [(0, v1)] → v1 = 0 ∨ v1 = 1 → (v1 = 0 → Q (uph h1 89 2 (w32 ((h 89 2) + 1))) [(0, w32 (a + 1))]) ∧ (¬ (v1 = 0) → Q (uph h1 89 2 (w32 ((h 89 2) + 0))) [(0, w32 (a + 1))]))))))))) : vc (zz sl si (7, 0)) (fun _ => false) K Q mX3_placeBehind 36 0 mX3_placeBehind.2.2.2.2.2.2 h [(0, (2, 89)), (1, (2, 21)), (2, (2, 5)), (3, (0, a))] [] := H
set_option maxHeartbeats 600000 in
theorem c_X3_placeBehind5 {sl : Nat} {si : Nat → Int} {h h' : PH} {L Y : PH} {a d : Int} {v : Int} (hL : CL 5 h L) (hw : W10 L) (hx0 : 0 ≤ h 89 7 ∧ h 89 7 ≤ 65535) (hs : CS 21 h Y) (w : WYc L Y) (h60 : Y 43 2 ≤ 60) (ha : 0 ≤ a ∧ a < Y 43 2) (hd : Y 44 a.toNat ≠ 22 → d < 300) (hm : 0 ≤ h 89 2 ∧ h 89 2 ≤ 300) (hc : CP (zz sl si (7, 0)) mX3_placeBehind h [(2, 89), (2, 21), (2, 5), (0, a)] h' [(0, v)]) : ∃ M d', lstp Y (a, L, h 89 7, h 90, d, h 89 2) (v, M, h' 89 7, h' 90, d', h' 89 2) ∧ CL 5 h' M ∧ W10 M ∧ (0 ≤ h' 89 7 ∧ h' 89 7 ≤ 65535) ∧ ∀ c k : Nat, ¬ (5 ≤ c ∧ c ≤ 20) → ¬ (c = 89 ∧ (k = 7 ∨ k = 2)) → c ≠ 90 → h' c k = h c k := by
  have q : (fun (xh : PH) (r : List ZV) => ∀ v : Int, r = [(0, v)] → (∃ M d', lstp Y (a, L, h 89 7, h 90, d, h 89 2) (v, M, xh 89 7, xh 90, d', xh 89 2) ∧ CL 5 xh M ∧ W10 M ∧ (0 ≤ xh 89 7 ∧ xh 89 7 ≤ 65535) ∧ ∀ c k : Nat, ¬ (5 ≤ c ∧ c ≤ 20) → ¬ (c = 89 ∧ (k = 7 ∨ k = 2)) → c ≠ 90 → xh c k = h c k)) h' [(0, v)] := by
    refine cp_vc (cut := (fun _ => false)) (K := fun p hx lv st => False) (Q := fun (xh : PH) (r : List ZV) => ∀ v : Int, r = [(0, v)] → (∃ M d', lstp Y (a, L, h 89 7, h 90, d, h 89 2) (v, M, xh 89 7, xh 90, d', xh 89 2) ∧ CL 5 xh M ∧ W10 M ∧ (0 ≤ xh 89 7 ∧ xh 89 7 ≤ 65535) ∧ ∀ c k : Nat, ¬ (5 ≤ c ∧ c ≤ 20) → ¬ (c = 89 ∧ (k = 7 ∨ k = 2)) → c ≠ 90 → xh c k = h c k)) (v_X3_placeBehind5 ?_) (fun pc hx lv st hcut hK => ?_) hc
    · exact (fun b1 r2 => (fun b3 r4 => ⟨fun c29 => (fun r30 => (fun h5 v5 p5 q5 => ⟨fun c31 => (by have eK : h 22 a.toNat = Y 44 a.toNat := hs.2.2.2 0 a.toNat (by omega) (by omega); have ea : h 23 a.toNat = Y 45 a.toNat := hs.2.2.2 1 a.toNat (by omega) (by omega); have eb : h 24 a.toNat = Y 46 a.toNat := hs.2.2.2 2 a.toNat (by omega) (by omega); have en : h 25 a.toNat = Y 47 a.toNat := hs.2.2.2 3 a.toNat (by omega) (by omega); have ep : h 26 a.toNat = Y 48 a.toNat := hs.2.2.2 4 a.toNat (by omega) (by omega); have hok := w.ok a.toNat (by omega); have kk := hok.1; obtain ⟨M, x, q1, q2, q3, q4, q5, q6⟩ := c_X3_isDone5 hL hw hx0 eK ea eb en hok (by omega) p5; intro v e; cases e; have vv := dnL_v q1 (by omega); have f90 : h5 90 = h 90 := funext (fun i => q6 90 i (by omega) (by omega)); refine ⟨M, d + 1, ?_, q2.fr (fun c k k1 k2 => up_ne (by omega)), q3, (by rw [up_ne (by omega), q4]; exact q5), fun c k k1 k2 k3 => by rw [up_ne (by omega)]; exact q6 c k k1 (by omega)⟩; rw [up_ne (by omega), q4, up_sm, show (uph h5 89 2 (w32 (h 89 2 + 1))) 90 = h 90 from (funext (fun i => up_ne (by omega))).trans f90]; exact ls_r ha (hd (by omega)) (by omega) (by rw [w32_id (by omega) (by omega)]) rfl ⟨v5, vv, q3, q1, by rw [w32_id (by omega) (by omega)]; omega⟩), fun c31 => (by have eK : h 22 a.toNat = Y 44 a.toNat := hs.2.2.2 0 a.toNat (by omega) (by omega); have ea : h 23 a.toNat = Y 45 a.toNat := hs.2.2.2 1 a.toNat (by omega) (by omega); have eb : h 24 a.toNat = Y 46 a.toNat := hs.2.2.2 2 a.toNat (by omega) (by omega); have en : h 25 a.toNat = Y 47 a.toNat := hs.2.2.2 3 a.toNat (by omega) (by omega); have ep : h 26 a.toNat = Y 48 a.toNat := hs.2.2.2 4 a.toNat (by omega) (by omega); have hok := w.ok a.toNat (by omega); have kk := hok.1; obtain ⟨M, x, q1, q2, q3, q4, q5, q6⟩ := c_X3_isDone5 hL hw hx0 eK ea eb en hok (by omega) p5; intro v e; cases e; have vv := dnL_v q1 (by omega); have f90 : h5 90 = h 90 := funext (fun i => q6 90 i (by omega) (by omega)); refine ⟨M, d + 1, ?_, q2.fr (fun c k k1 k2 => up_ne (by omega)), q3, (by rw [up_ne (by omega), q4]; exact q5), fun c k k1 k2 k3 => by rw [up_ne (by omega)]; exact q6 c k k1 (by omega)⟩; rw [up_ne (by omega), q4, up_sm, show (uph h5 89 2 (w32 (h 89 2 + 0))) 90 = h 90 from (funext (fun i => up_ne (by omega))).trans f90]; exact ls_r ha (hd (by omega)) (by omega) (by rw [w32_id (by omega) (by omega)]) rfl ⟨v5, vv, q3, q1, by rw [w32_id (by omega) (by omega)]; omega⟩)⟩)), fun c29 => ⟨fun c27 => (fun h4 v4 p4 q4 => ⟨fun c28 => (by have eK : h 22 a.toNat = Y 44 a.toNat := hs.2.2.2 0 a.toNat (by omega) (by omega); have ea : h 23 a.toNat = Y 45 a.toNat := hs.2.2.2 1 a.toNat (by omega) (by omega); have eb : h 24 a.toNat = Y 46 a.toNat := hs.2.2.2 2 a.toNat (by omega) (by omega); have en : h 25 a.toNat = Y 47 a.toNat := hs.2.2.2 3 a.toNat (by omega) (by omega); have ep : h 26 a.toNat = Y 48 a.toNat := hs.2.2.2 4 a.toNat (by omega) (by omega); have hok := w.ok a.toNat (by omega); have kk := hok.1; obtain ⟨u1, u2⟩ := c_X3_holds5 hL hw eK ea eb en hok (by omega) p4; subst u1; have o := w.op a.toNat (by omega) (by unfold isO; omega); rw [ep]; intro v e; cases e; exact ⟨L, d + 1, ls_w ha (hd (by omega)) (by omega) rfl rfl rfl (fun z => absurd (u2.mpr z) (by omega)) (fun z => by rw [w32_id (by omega) (by omega)]), hL, hw, hx0, fun c k _ _ _ => rfl⟩), fun c28 => (by have eK : h 22 a.toNat = Y 44 a.toNat := hs.2.2.2 0 a.toNat (by omega) (by omega); have ea : h 23 a.toNat = Y 45 a.toNat := hs.2.2.2 1 a.toNat (by omega) (by omega); have eb : h 24 a.toNat = Y 46 a.toNat := hs.2.2.2 2 a.toNat (by omega) (by omega); have en : h 25 a.toNat = Y 47 a.toNat := hs.2.2.2 3 a.toNat (by omega) (by omega); have ep : h 26 a.toNat = Y 48 a.toNat := hs.2.2.2 4 a.toNat (by omega) (by omega); have hok := w.ok a.toNat (by omega); have kk := hok.1; obtain ⟨u1, u2⟩ := c_X3_holds5 hL hw eK ea eb en hok (by omega) p4; subst u1; intro v e; cases e; exact ⟨L, d + 1, ls_w ha (hd (by omega)) (by omega) rfl rfl rfl (fun z => by rw [w32_id (by omega) (by omega)]) (fun z => absurd (u2.mp (by omega)) z), hL, hw, hx0, fun c k _ _ _ => rfl⟩)⟩), fun c27 => ⟨fun c25 => (fun h3 v3 p3 q3 => ⟨fun c26 => (by have eK : h 22 a.toNat = Y 44 a.toNat := hs.2.2.2 0 a.toNat (by omega) (by omega); have ea : h 23 a.toNat = Y 45 a.toNat := hs.2.2.2 1 a.toNat (by omega) (by omega); have eb : h 24 a.toNat = Y 46 a.toNat := hs.2.2.2 2 a.toNat (by omega) (by omega); have en : h 25 a.toNat = Y 47 a.toNat := hs.2.2.2 3 a.toNat (by omega) (by omega); have ep : h 26 a.toNat = Y 48 a.toNat := hs.2.2.2 4 a.toNat (by omega) (by omega); have hok := w.ok a.toNat (by omega); have kk := hok.1; obtain ⟨u1, u2⟩ := c_X3_holds5 hL hw eK ea eb en hok (by omega) p3; subst u1; have o := w.op a.toNat (by omega) (by unfold isO; omega); rw [ep]; intro v e; cases e; exact ⟨L, d + 1, ls_w ha (hd (by omega)) (by omega) rfl rfl rfl (fun z => absurd (u2.mpr z) (by omega)) (fun z => by rw [w32_id (by omega) (by omega)]), hL, hw, hx0, fun c k _ _ _ => rfl⟩), fun c26 => (by have eK : h 22 a.toNat = Y 44 a.toNat := hs.2.2.2 0 a.toNat (by omega) (by omega); have ea : h 23 a.toNat = Y 45 a.toNat := hs.2.2.2 1 a.toNat (by omega) (by omega); have eb : h 24 a.toNat = Y 46 a.toNat := hs.2.2.2 2 a.toNat (by omega) (by omega); have en : h 25 a.toNat = Y 47 a.toNat := hs.2.2.2 3 a.toNat (by omega) (by omega); have ep : h 26 a.toNat = Y 48 a.toNat := hs.2.2.2 4 a.toNat (by omega) (by omega); have hok := w.ok a.toNat (by omega); have kk := hok.1; obtain ⟨u1, u2⟩ := c_X3_holds5 hL hw eK ea eb en hok (by omega) p3; subst u1; intro v e; cases e; exact ⟨L, d + 1, ls_w ha (hd (by omega)) (by omega) rfl rfl rfl (fun z => by rw [w32_id (by omega) (by omega)]) (fun z => absurd (u2.mp (by omega)) z), hL, hw, hx0, fun c k _ _ _ => rfl⟩)⟩), fun c25 => ⟨fun c23 => (fun h2 v2 p2 q2 => ⟨fun c24 => (by have eK : h 22 a.toNat = Y 44 a.toNat := hs.2.2.2 0 a.toNat (by omega) (by omega); have ea : h 23 a.toNat = Y 45 a.toNat := hs.2.2.2 1 a.toNat (by omega) (by omega); have eb : h 24 a.toNat = Y 46 a.toNat := hs.2.2.2 2 a.toNat (by omega) (by omega); have en : h 25 a.toNat = Y 47 a.toNat := hs.2.2.2 3 a.toNat (by omega) (by omega); have ep : h 26 a.toNat = Y 48 a.toNat := hs.2.2.2 4 a.toNat (by omega) (by omega); have hok := w.ok a.toNat (by omega); have kk := hok.1; obtain ⟨u1, u2⟩ := c_X3_holds5 hL hw eK ea eb en hok (by omega) p2; subst u1; have o := w.op a.toNat (by omega) (by unfold isO; omega); rw [ep]; intro v e; cases e; exact ⟨L, d + 1, ls_w ha (hd (by omega)) (by omega) rfl rfl rfl (fun z => absurd (u2.mpr z) (by omega)) (fun z => by rw [w32_id (by omega) (by omega)]), hL, hw, hx0, fun c k _ _ _ => rfl⟩), fun c24 => (by have eK : h 22 a.toNat = Y 44 a.toNat := hs.2.2.2 0 a.toNat (by omega) (by omega); have ea : h 23 a.toNat = Y 45 a.toNat := hs.2.2.2 1 a.toNat (by omega) (by omega); have eb : h 24 a.toNat = Y 46 a.toNat := hs.2.2.2 2 a.toNat (by omega) (by omega); have en : h 25 a.toNat = Y 47 a.toNat := hs.2.2.2 3 a.toNat (by omega) (by omega); have ep : h 26 a.toNat = Y 48 a.toNat := hs.2.2.2 4 a.toNat (by omega) (by omega); have hok := w.ok a.toNat (by omega); have kk := hok.1; obtain ⟨u1, u2⟩ := c_X3_holds5 hL hw eK ea eb en hok (by omega) p2; subst u1; intro v e; cases e; exact ⟨L, d + 1, ls_w ha (hd (by omega)) (by omega) rfl rfl rfl (fun z => by rw [w32_id (by omega) (by omega)]) (fun z => absurd (u2.mp (by omega)) z), hL, hw, hx0, fun c k _ _ _ => rfl⟩)⟩), fun c23 => ⟨fun c19 => (fun b20 r21 => (fun b22 => (by have eK : h 22 a.toNat = Y 44 a.toNat := hs.2.2.2 0 a.toNat (by omega) (by omega); have ea : h 23 a.toNat = Y 45 a.toNat := hs.2.2.2 1 a.toNat (by omega) (by omega); have eb : h 24 a.toNat = Y 46 a.toNat := hs.2.2.2 2 a.toNat (by omega) (by omega); have en : h 25 a.toNat = Y 47 a.toNat := hs.2.2.2 3 a.toNat (by omega) (by omega); have ep : h 26 a.toNat = Y 48 a.toNat := hs.2.2.2 4 a.toNat (by omega) (by omega); have hok := w.ok a.toNat (by omega); have kk := hok.1; intro v e; cases e; refine ⟨L, d + 1, ?_, hL.fr (fun c k k1 k2 => up_ne (by omega)), hw, (by rw [up_ne (by omega)]; exact hx0), fun c k k1 k2 k3 => up_ne (by omega)⟩; rw [up_ne (by omega), up_ne (by omega), uph_upt, en]; exact ls_21 ha (hd (by omega)) (by omega) (by rw [w32_id (by omega) (by omega)]) rfl rfl rfl))), fun c19 => ⟨fun c9 => (fun b10 r11 => (fun b12 => (fun b13 r14 => ⟨fun c15 => (by have eK : h 22 a.toNat = Y 44 a.toNat := hs.2.2.2 0 a.toNat (by omega) (by omega); have ea : h 23 a.toNat = Y 45 a.toNat := hs.2.2.2 1 a.toNat (by omega) (by omega); have eb : h 24 a.toNat = Y 46 a.toNat := hs.2.2.2 2 a.toNat (by omega) (by omega); have en : h 25 a.toNat = Y 47 a.toNat := hs.2.2.2 3 a.toNat (by omega) (by omega); have ep : h 26 a.toNat = Y 48 a.toNat := hs.2.2.2 4 a.toNat (by omega) (by omega); have hok := w.ok a.toNat (by omega); have kk := hok.1; have o := w.cl a.toNat (by omega) (by omega); rw [ep] at c15; rw [ep]; have eo : h 22 (Y 48 a.toNat).toNat = Y 44 (Y 48 a.toNat).toNat := hs.2.2.2 0 _ (by omega) (by omega); rw [eo] at c15; intro v e; cases e; refine ⟨L, d, ?_, hL.fr (fun c k k1 k2 => up_ne (by omega)), hw, (by rw [up_ne (by omega)]; exact hx0), fun c k k1 k2 k3 => up_ne (by omega)⟩; rw [up_ne (by omega), up_ne (by omega), uph_upt]; exact ls_22 ha (by omega) rfl rfl rfl (fun z => absurd z.1 c15) (fun z => by rw [w32_id (by omega) (by omega)])), fun c15 => (fun b16 r17 => ⟨fun c18 => (by have eK : h 22 a.toNat = Y 44 a.toNat := hs.2.2.2 0 a.toNat (by omega) (by omega); have ea : h 23 a.toNat = Y 45 a.toNat := hs.2.2.2 1 a.toNat (by omega) (by omega); have eb : h 24 a.toNat = Y 46 a.toNat := hs.2.2.2 2 a.toNat (by omega) (by omega); have en : h 25 a.toNat = Y 47 a.toNat := hs.2.2.2 3 a.toNat (by omega) (by omega); have ep : h 26 a.toNat = Y 48 a.toNat := hs.2.2.2 4 a.toNat (by omega) (by omega); have hok := w.ok a.toNat (by omega); have kk := hok.1; have o := w.cl a.toNat (by omega) (by omega); rw [ep] at c15; rw [ep]; have eo : h 22 (Y 48 a.toNat).toNat = Y 44 (Y 48 a.toNat).toNat := hs.2.2.2 0 _ (by omega) (by omega); rw [eo] at c15; rw [ep, up_sm] at c18; intro v e; cases e; refine ⟨L, d, ?_, hL.fr (fun c k k1 k2 => up_ne (by omega)), hw, (by rw [up_ne (by omega)]; exact hx0), fun c k k1 k2 k3 => up_ne (by omega)⟩; rw [up_ne (by omega), up_ne (by omega), uph_upt]; exact ls_22 ha (by omega) rfl rfl rfl (fun z => absurd z.2 (by omega)) (fun z => by rw [w32_id (by omega) (by omega)])), fun c18 => (by have eK : h 22 a.toNat = Y 44 a.toNat := hs.2.2.2 0 a.toNat (by omega) (by omega); have ea : h 23 a.toNat = Y 45 a.toNat := hs.2.2.2 1 a.toNat (by omega) (by omega); have eb : h 24 a.toNat = Y 46 a.toNat := hs.2.2.2 2 a.toNat (by omega) (by omega); have en : h 25 a.toNat = Y 47 a.toNat := hs.2.2.2 3 a.toNat (by omega) (by omega); have ep : h 26 a.toNat = Y 48 a.toNat := hs.2.2.2 4 a.toNat (by omega) (by omega); have hok := w.ok a.toNat (by omega); have kk := hok.1; have o := w.cl a.toNat (by omega) (by omega); rw [ep] at c15; rw [ep]; have eo : h 22 (Y 48 a.toNat).toNat = Y 44 (Y 48 a.toNat).toNat := hs.2.2.2 0 _ (by omega) (by omega); rw [eo] at c15; rw [ep, up_sm] at c18; intro v e; cases e; refine ⟨L, d, ?_, hL.fr (fun c k k1 k2 => up_ne (by omega)), hw, (by rw [up_ne (by omega)]; exact hx0), fun c k k1 k2 k3 => up_ne (by omega)⟩; rw [up_ne (by omega), up_ne (by omega), uph_upt]; exact ls_22 ha (by omega) rfl rfl rfl (fun z => by rw [w32_id (by omega) (by omega)]) (fun z => absurd (show _ ∧ _ from ⟨by omega, by omega⟩) z))⟩)⟩))), fun c9 => ⟨fun c7 => (fun r8 => (by have eK : h 22 a.toNat = Y 44 a.toNat := hs.2.2.2 0 a.toNat (by omega) (by omega); have ea : h 23 a.toNat = Y 45 a.toNat := hs.2.2.2 1 a.toNat (by omega) (by omega); have eb : h 24 a.toNat = Y 46 a.toNat := hs.2.2.2 2 a.toNat (by omega) (by omega); have en : h 25 a.toNat = Y 47 a.toNat := hs.2.2.2 3 a.toNat (by omega) (by omega); have ep : h 26 a.toNat = Y 48 a.toNat := hs.2.2.2 4 a.toNat (by omega) (by omega); have hok := w.ok a.toNat (by omega); have kk := hok.1; intro v e; cases e; exact ⟨L, d + 1, ls_23 ha (hd (by omega)) (by omega) hs.2.2.1 rfl rfl rfl, hL, hw, hx0, fun c k _ _ _ => rfl⟩)), fun c7 => (fun r5 => (fun h1 v1 p1 q1 => ⟨fun c6 => (by have eK : h 22 a.toNat = Y 44 a.toNat := hs.2.2.2 0 a.toNat (by omega) (by omega); have ea : h 23 a.toNat = Y 45 a.toNat := hs.2.2.2 1 a.toNat (by omega) (by omega); have eb : h 24 a.toNat = Y 46 a.toNat := hs.2.2.2 2 a.toNat (by omega) (by omega); have en : h 25 a.toNat = Y 47 a.toNat := hs.2.2.2 3 a.toNat (by omega) (by omega); have ep : h 26 a.toNat = Y 48 a.toNat := hs.2.2.2 4 a.toNat (by omega) (by omega); have hok := w.ok a.toNat (by omega); have kk := hok.1; exfalso; omega), fun c6 => (by have eK : h 22 a.toNat = Y 44 a.toNat := hs.2.2.2 0 a.toNat (by omega) (by omega); have ea : h 23 a.toNat = Y 45 a.toNat := hs.2.2.2 1 a.toNat (by omega) (by omega); have eb : h 24 a.toNat = Y 46 a.toNat := hs.2.2.2 2 a.toNat (by omega) (by omega); have en : h 25 a.toNat = Y 47 a.toNat := hs.2.2.2 3 a.toNat (by omega) (by omega); have ep : h 26 a.toNat = Y 48 a.toNat := hs.2.2.2 4 a.toNat (by omega) (by omega); have hok := w.ok a.toNat (by omega); have kk := hok.1; exfalso; omega)⟩))⟩⟩⟩⟩⟩⟩⟩))
    · exact hK.elim
  exact q v rfl
set_option maxRecDepth 10000 in
theorem v_X3_begin5 {sl : Nat} {si : Nat → Int} {K : Nat → PH → ZL → List ZV → Prop} {Q : PH → List ZV → Prop} {h : PH}  {a : Int} (H : R32 (h 5 12) → R32 (h 5 13) → R32 (h 5 7) → ∀ h1 v1, CP (zz sl si (7, 0)) mJ6_bitCount_0f7a4 (uph (uph (uph (uph (uph h 89 0 1) 89 1 0) 89 2 0) 89 3 (w32 (-(h 5 12)))) 89 4 (w32 (-(h 5 13)))) [(0, (h 5 7))] h1 [(0, v1)] → R32 v1 → Q (uph (uph (uph h1 89 5 (w32 (-v1))) 89 6 0) 89 7 a) []) : vc (zz sl si (7, 0)) (fun _ => false) K Q mX3_begin 34 0 mX3_begin.2.2.2.2.2.2 h [(0, (2, 89)), (1, (2, 5)), (2, (0, a))] [] := H
set_option maxHeartbeats 600000 in
theorem c_X3_begin5 {sl : Nat} {si : Nat → Int} {h h' : PH} {L : PH} {a : Int} (hL : CL 5 h L) (hw : W10 L) (hc : CP (zz sl si (7, 0)) mX3_begin h [(2, 89), (2, 5), (0, a)] h' []) : (h' 89 0 = 1 ∧ h' 89 1 = 0 ∧ h' 89 2 = 0 ∧ h' 89 3 = w32 (-(L 0 12)) ∧ h' 89 4 = w32 (-(L 0 13)) ∧ h' 89 5 = w32 (-(bnS (L 0 7))) ∧ h' 89 6 = 0 ∧ h' 89 7 = a) ∧ ∀ c k : Nat, c ≠ 89 → h' c k = h c k := by
  have q : (fun (xh : PH) (r : List ZV) => (xh 89 0 = 1 ∧ xh 89 1 = 0 ∧ xh 89 2 = 0 ∧ xh 89 3 = w32 (-(L 0 12)) ∧ xh 89 4 = w32 (-(L 0 13)) ∧ xh 89 5 = w32 (-(bnS (L 0 7))) ∧ xh 89 6 = 0 ∧ xh 89 7 = a) ∧ ∀ c k : Nat, c ≠ 89 → xh c k = h c k) h' [] := by
    refine cp_vc (cut := (fun _ => false)) (K := fun p hx lv st => False) (Q := fun (xh : PH) (r : List ZV) => (xh 89 0 = 1 ∧ xh 89 1 = 0 ∧ xh 89 2 = 0 ∧ xh 89 3 = w32 (-(L 0 12)) ∧ xh 89 4 = w32 (-(L 0 13)) ∧ xh 89 5 = w32 (-(bnS (L 0 7))) ∧ xh 89 6 = 0 ∧ xh 89 7 = a) ∧ ∀ c k : Nat, c ≠ 89 → xh c k = h c k) (v_X3_begin5 ?_) (fun pc hx lv st hcut hK => ?_) hc
    · exact (fun r1 => (fun r2 => (fun r3 => (fun h1 v1 p1 q1 => (by have k12 : h 5 12 = L 0 12 := hL 0 12 (Or.inl ⟨rfl, Or.inr (Or.inr (Or.inr (Or.inr (Or.inl rfl))))⟩); have k13 : h 5 13 = L 0 13 := hL 0 13 (Or.inl ⟨rfl, Or.inr (Or.inr (Or.inr (Or.inr (Or.inr rfl))))⟩); have k7 : h 5 7 = L 0 7 := hL 0 7 (Or.inl ⟨rfl, Or.inr (Or.inl rfl)⟩); have s7 := hw.1.1.s.2.1; rw [k7, k12, k13] at p1; obtain ⟨t1, w1⟩ := c_J6_bitCountS s7.1 s7.2.1 p1; rw [t1, w1]; exact ⟨⟨by rw [up_ne (by omega), up_ne (by omega), up_ne (by omega), up_ne (by omega), up_ne (by omega), up_ne (by omega), up_ne (by omega), up_sm], by rw [up_ne (by omega), up_ne (by omega), up_ne (by omega), up_ne (by omega), up_ne (by omega), up_ne (by omega), up_sm], by rw [up_ne (by omega), up_ne (by omega), up_ne (by omega), up_ne (by omega), up_ne (by omega), up_sm], by rw [up_ne (by omega), up_ne (by omega), up_ne (by omega), up_ne (by omega), up_sm], by rw [up_ne (by omega), up_ne (by omega), up_ne (by omega), up_sm], by rw [up_ne (by omega), up_ne (by omega), up_sm], by rw [up_ne (by omega), up_sm], up_sm⟩, fun c k q => by rw [up_ne (by omega), up_ne (by omega), up_ne (by omega), up_ne (by omega), up_ne (by omega), up_ne (by omega), up_ne (by omega), up_ne (by omega)]⟩)))))
    · exact hK.elim
  exact q
end
