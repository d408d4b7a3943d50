section
/-! 45z.6f.rtale3 -/
def vk (k : Int) : Prop := k = 5 ∨ (10 ≤ k ∧ k ≤ 20 ∧ k ≠ 16)
theorem vk_st {T : TX} {s : Nat} : isSt (kwo T s) ↔ vk (rk T s) ∧ rk T s ≠ 19 := by
  rw [st_rk]
  unfold vk
  omega
theorem T4.cg {T : TX} {s : Nat} {L Y : PH} {o o' : Prop} {v : Int} {h : PH} {r : PR} (t : T4 T s L Y o v h r) (e : o ↔ o') : T4 T s L Y o' v h r := by
  match r, t with
  | .inl q, t => exact t
  | .inr _, t =>
    obtain ⟨a, b, c, K, x, y, n, g, d1, d2, d3, d4⟩ := t
    exact ⟨a, b, c, K, x, y, n, g, d1, d2, d3, d4.trans e⟩
set_option maxRecDepth 10000 in
theorem v_X12_taleOrder {sl : Nat} {si : Nat → Int} {K : Nat → PH → ZL → List ZV → Prop} {Q : PH → List ZV → Prop} {h : PH}     {a b : Int} (H : (a < 5 ∨ 18 < a → Q h [(0, 1)]) ∧ (¬ (a < 5 ∨ 18 < a) → (a = 5 → ∀ h12 v12, CP (zz sl si (7, 0)) mX12_houseTo h [(2, 169), (0, w32 (b + 1))] h12 [(0, v12)] → v12 = 0 ∨ v12 = 1 → Q h12 [(0, v12)]) ∧ (¬ a = 5 → (a = 6 → Q h [(0, 1)]) ∧ (¬ a = 6 → (a = 7 → Q h [(0, 1)]) ∧ (¬ a = 7 → (a = 8 → Q h [(0, 1)]) ∧ (¬ a = 8 → (a = 9 → Q h [(0, 1)]) ∧ (¬ a = 9 → (a = 10 → ∀ h11 v11, CP (zz sl si (7, 0)) mX12_number h [(2, 169), (0, w32 (b + 1)), (0, 1), (0, 9)] h11 [(0, v11)] → v11 = 0 ∨ v11 = 1 → Q h11 [(0, v11)]) ∧ (¬ a = 10 → (a = 11 → ∀ h10 v10, CP (zz sl si (7, 0)) mX12_personTo h [(2, 169), (0, w32 (b + 1))] h10 [(0, v10)] → v10 = 0 ∨ v10 = 1 → Q h10 [(0, v10)]) ∧ (¬ a = 11 → (a = 12 → ∀ h8 v8, CP (zz sl si (7, 0)) mX12_personTo h [(2, 169), (0, w32 (b + 1))] h8 [(0, v8)] → v8 = 0 ∨ v8 = 1 → (v8 = 0 → Q h8 [(0, 0)]) ∧ (¬ (v8 = 0) → ∀ h9 v9, CP (zz sl si (7, 0)) mX12_personTo h8 [(2, 169), (0, w32 (b + 2))] h9 [(0, v9)] → v9 = 0 ∨ v9 = 1 → (v9 = 0 → Q h9 [(0, 0)]) ∧ (¬ (v9 = 0) → Q h9 [(0, 1)]))) ∧ (¬ a = 12 → (a = 13 → ∀ h7 v7, CP (zz sl si (7, 0)) mX12_houseTo h [(2, 169), (0, w32 (b + 1))] h7 [(0, v7)] → v7 = 0 ∨ v7 = 1 → Q h7 [(0, v7)]) ∧ (¬ a = 13 → (a = 14 → ∀ h3 v3, CP (zz sl si (7, 0)) mX12_personTo h [(2, 169), (0, w32 (b + 1))] h3 [(0, v3)] → v3 = 0 ∨ v3 = 1 → (v3 = 0 → Q h3 [(0, 0)]) ∧ (¬ (v3 = 0) → ∀ h4 v4, CP (zz sl si (7, 0)) mX12_wantWord h3 [(2, 169), (6, 3), (0, 16)] h4 [(0, v4)] → v4 = 0 ∨ v4 = 1 → (v4 = 0 → Q h4 [(0, 0)]) ∧ (¬ (v4 = 0) → ∀ h5 v5, CP (zz sl si (7, 0)) mX12_personTo h4 [(2, 169), (0, w32 (b + 2))] h5 [(0, v5)] → v5 = 0 ∨ v5 = 1 → (v5 = 0 → Q h5 [(0, 0)]) ∧ (¬ (v5 = 0) → ∀ h6 v6, CP (zz sl si (7, 0)) mX12_number h5 [(2, 169), (0, w32 (b + 3)), (0, 1), (0, 99)] h6 [(0, v6)] → v6 = 0 ∨ v6 = 1 → (v6 = 0 → Q h6 [(0, 0)]) ∧ (¬ (v6 = 0) → Q h6 [(0, 1)]))))) ∧ (¬ a = 14 → (a = 15 → Q h [(0, 1)]) ∧ (¬ a = 15 → (a = 16 → Q h [(0, 1)]) ∧ (¬ a = 16 → (a = 17 → ∀ h2 v2, CP (zz sl si (7, 0)) mX12_test h [(2, 169), (0, b)] h2 [(0, v2)] → v2 = 0 ∨ v2 = 1 → Q h2 [(0, v2)]) ∧ (¬ a = 17 → (a = 18 → ∀ h1 v1, CP (zz sl si (7, 0)) mX12_number h [(2, 169), (0, w32 (b + 1)), (0, 1), (0, 99)] h1 [(0, v1)] → v1 = 0 ∨ v1 = 1 → Q h1 [(0, v1)]) ∧ (¬ a = 18 → Q h [(0, 1)])))))))))))))))) : vc (zz sl si (7, 0)) (fun _ => false) K Q mX12_taleOrder 32 0 mX12_taleOrder.2.2.2.2.2.2 h [(0, (2, 169)), (1, (0, a)), (2, (0, b))] [] := H
set_option maxHeartbeats 600000 in
theorem c_X12_taleOrder {sl : Nat} {si : Nat → Int} {h h' : PH} {T : TX} {s : Nat} {L Y : PH} {g : Nat → Int} {a b : Int} {v : Int} (ea : a = rk T s) (hN : RN T h (nt T s)) (hw : WT Y) (hW : WN L) (hb : b = 2276 + 6 * Y 43 2) (hP : RP h L Y (Y 43 1 + 1) g) (g0 : g 0 = rk T s) (gz : ∀ i : Nat, 1 ≤ i → i < 6 → g i = 0) (hv : vk (rk T s) ∧ rk T s ≠ 19) (hc : CP (zz sl si (7, 0)) mX12_taleOrder h [(2, 169), (0, a), (0, b)] h' [(0, v)]) : T4 T (nt T s) L Y (kwo T s = 17 ∨ kwo T s = 21) v h' (if kwo T s = 17 then qTest T L (nt T s) (stp Y) else qRest T L (nt T s) (kwo T s) (stp Y)) := by
  have q : (fun (xh : PH) (r : List ZV) => ∀ v : Int, r = [(0, v)] → (T4 T (nt T s) L Y (kwo T s = 17 ∨ kwo T s = 21) v xh (if kwo T s = 17 then qTest T L (nt T s) (stp Y) else qRest T L (nt T s) (kwo T s) (stp Y)))) h' [(0, v)] := by
    refine cp_vc (cut := (fun _ => false)) (K := fun p hx lv st => False) (Q := fun (xh : PH) (r : List ZV) => ∀ v : Int, r = [(0, v)] → (T4 T (nt T s) L Y (kwo T s = 17 ∨ kwo T s = 21) v xh (if kwo T s = 17 then qTest T L (nt T s) (stp Y) else qRest T L (nt T s) (kwo T s) (stp Y)))) (v_X12_taleOrder ?_) (fun pc hx lv st hcut hK => ?_) hc
    · exact ⟨fun c21 => (by have g1 := gz 1 (by omega) (by omega); have g2 := gz 2 (by omega) (by omega); have g3 := gz 3 (by omega) (by omega); have g5 := gz 5 (by omega) (by omega); have i1 : (w32 (b + 1)).toNat = 2276 + 6 * (Y 43 2).toNat + 1 := ixrt (j := 1) hw hb (by omega); have i2 : (w32 (b + 2)).toNat = 2276 + 6 * (Y 43 2).toNat + 2 := ixrt (j := 2) hw hb (by omega); have i3 : (w32 (b + 3)).toNat = 2276 + 6 * (Y 43 2).toNat + 3 := ixrt (j := 3) hw hb (by omega); have i5 : (w32 (b + 5)).toNat = 2276 + 6 * (Y 43 2).toNat + 5 := ixrt (j := 5) hw hb (by omega); have hv1 := hv.1; have hv2 := hv.2; unfold vk at hv1; have rk0 : rk T s = 20 := (by omega); have kw : kwo T s = 23 := (rk_kwo (i := 20) (by omega) rfl (by omega)).mp rk0; rw [rk0] at g0; intro v e; cases e; exact T4.r (by rw [if_neg (by omega), kw]; exact qRest_d (by omega)) rfl hN (Nat.le_refl _) hP (fun i h6 h4 => by rcases (show i = 0 ∨ i = 1 ∨ i = 2 ∨ i = 3 ∨ i = 5 by omega) with z | z | z | z | z <;> subst z <;> simp [sg, erow, kcd, g0, g1, g2, g3, g5]) (by unfold isP; omega)), fun c21 => ⟨fun c20 => (fun h12 v12 p12 q12 => (by have g1 := gz 1 (by omega) (by omega); have g2 := gz 2 (by omega) (by omega); have g3 := gz 3 (by omega) (by omega); have g5 := gz 5 (by omega) (by omega); have i1 : (w32 (b + 1)).toNat = 2276 + 6 * (Y 43 2).toNat + 1 := ixrt (j := 1) hw hb (by omega); have i2 : (w32 (b + 2)).toNat = 2276 + 6 * (Y 43 2).toNat + 2 := ixrt (j := 2) hw hb (by omega); have i3 : (w32 (b + 3)).toNat = 2276 + 6 * (Y 43 2).toNat + 3 := ixrt (j := 3) hw hb (by omega); have i5 : (w32 (b + 5)).toNat = 2276 + 6 * (Y 43 2).toNat + 5 := ixrt (j := 5) hw hb (by omega); have hv1 := hv.1; have hv2 := hv.2; unfold vk at hv1; have rk0 : rk T s = 5 := (by omega); have kw : kwo T s = 1 := (rk_kwo (i := 5) (by omega) rfl (by omega)).mp rk0; rw [rk0] at g0; obtain ⟨y, f1⟩ := c_X12_houseTo hN hP.1.1 hW p12; rw [i1] at y f1; have l1 := nt_b hN.le; intro v e; cases e; rcases y with ⟨y0, y1, y2, y3⟩ | ⟨y1, y2, z, y3, y4⟩; (exact T4.r (by rw [if_neg (by omega), kw]; unfold qRest; rw [if_neg (by decide), if_neg (by decide), if_neg (by decide), if_pos rfl]; unfold qHous; rw [if_neg y1]) y0 y2 l1.1 (hP.f1 hw (i := 1) (by omega) f1 y3) (fun i h6 h4 => by rcases (show i = 0 ∨ i = 1 ∨ i = 2 ∨ i = 3 ∨ i = 5 by omega) with z | z | z | z | z <;> subst z <;> simp [sg, erow, kcd, g0, g1, g2, g3, g5]) (by unfold isP; omega)); exact T4.l (by rw [if_neg (by omega), kw]; unfold qRest; rw [if_neg (by decide), if_neg (by decide), if_neg (by decide), if_pos rfl]; unfold qHous; rw [if_pos y2]; exact y3) y1 y4)), fun c20 => ⟨fun c19 => (by exact absurd hv (by unfold vk; omega)), fun c19 => ⟨fun c18 => (by exact absurd hv (by unfold vk; omega)), fun c18 => ⟨fun c17 => (by exact absurd hv (by unfold vk; omega)), fun c17 => ⟨fun c16 => (by exact absurd hv (by unfold vk; omega)), fun c16 => ⟨fun c15 => (fun h11 v11 p11 q11 => (by have g1 := gz 1 (by omega) (by omega); have g2 := gz 2 (by omega) (by omega); have g3 := gz 3 (by omega) (by omega); have g5 := gz 5 (by omega) (by omega); have i1 : (w32 (b + 1)).toNat = 2276 + 6 * (Y 43 2).toNat + 1 := ixrt (j := 1) hw hb (by omega); have i2 : (w32 (b + 2)).toNat = 2276 + 6 * (Y 43 2).toNat + 2 := ixrt (j := 2) hw hb (by omega); have i3 : (w32 (b + 3)).toNat = 2276 + 6 * (Y 43 2).toNat + 3 := ixrt (j := 3) hw hb (by omega); have i5 : (w32 (b + 5)).toNat = 2276 + 6 * (Y 43 2).toNat + 5 := ixrt (j := 5) hw hb (by omega); have hv1 := hv.1; have hv2 := hv.2; unfold vk at hv1; have rk0 : rk T s = 10 := (by omega); have kw : kwo T s = 10 := (rk_kwo (i := 10) (by omega) rfl (by omega)).mp rk0; rw [rk0] at g0; obtain ⟨x, f1⟩ := q_rn hN (fun v => adY (stp Y) 10 0 0 v) q11 p11; have l1 := nt_b hN.le; intro v e; cases e; rcases x with ⟨x1, x2, x3, x4⟩ | ⟨x1, z, x2, x3⟩; (rw [i1] at x4 f1; exact T4.r (by rw [if_neg (by omega), kw]; unfold qRest; rw [if_pos rfl]; exact x2) x1 x3 l1.1 (hP.f1 hw (i := 1) (by omega) f1 x4) (fun i h6 h4 => by rcases (show i = 0 ∨ i = 1 ∨ i = 2 ∨ i = 3 ∨ i = 5 by omega) with z | z | z | z | z <;> subst z <;> simp [sg, erow, kcd, g0, g1, g2, g3, g5]) (by unfold isP; omega)); exact T4.l (by rw [if_neg (by omega), kw]; unfold qRest; rw [if_pos rfl]; exact x2) x1 x3)), fun c15 => ⟨fun c14 => (fun h10 v10 p10 q10 => (by have g1 := gz 1 (by omega) (by omega); have g2 := gz 2 (by omega) (by omega); have g3 := gz 3 (by omega) (by omega); have g5 := gz 5 (by omega) (by omega); have i1 : (w32 (b + 1)).toNat = 2276 + 6 * (Y 43 2).toNat + 1 := ixrt (j := 1) hw hb (by omega); have i2 : (w32 (b + 2)).toNat = 2276 + 6 * (Y 43 2).toNat + 2 := ixrt (j := 2) hw hb (by omega); have i3 : (w32 (b + 3)).toNat = 2276 + 6 * (Y 43 2).toNat + 3 := ixrt (j := 3) hw hb (by omega); have i5 : (w32 (b + 5)).toNat = 2276 + 6 * (Y 43 2).toNat + 5 := ixrt (j := 5) hw hb (by omega); have hv1 := hv.1; have hv2 := hv.2; unfold vk at hv1; have rk0 : rk T s = 11 := (by omega); have kw : kwo T s = 11 := (rk_kwo (i := 11) (by omega) rfl (by omega)).mp rk0; rw [rk0] at g0; obtain ⟨y, f1⟩ := c_X12_personTo hN hP.1.1 hW p10; rw [i1] at y f1; have l1 := nt_b hN.le; intro v e; cases e; rcases y with ⟨y0, y1, y2, y3⟩ | ⟨y1, y2, z, y3, y4⟩; (exact T4.r (by rw [if_neg (by omega), kw]; unfold qRest; rw [if_neg (by decide), if_neg (by decide), if_pos rfl]; unfold qPers; rw [if_neg y1]) y0 y2 l1.1 (hP.f1 hw (i := 1) (by omega) f1 y3) (fun i h6 h4 => by rcases (show i = 0 ∨ i = 1 ∨ i = 2 ∨ i = 3 ∨ i = 5 by omega) with z | z | z | z | z <;> subst z <;> simp [sg, erow, kcd, g0, g1, g2, g3, g5]) (by unfold isP; omega)); exact T4.l (by rw [if_neg (by omega), kw]; unfold qRest; rw [if_neg (by decide), if_neg (by decide), if_pos rfl]; unfold qPers; rw [if_pos y2]; exact y3) y1 y4)), fun c14 => ⟨fun c11 => (fun h8 v8 p8 q8 => ⟨fun c12 => (by have g1 := gz 1 (by omega) (by omega); have g2 := gz 2 (by omega) (by omega); have g3 := gz 3 (by omega) (by omega); have g5 := gz 5 (by omega) (by omega); have i1 : (w32 (b + 1)).toNat = 2276 + 6 * (Y 43 2).toNat + 1 := ixrt (j := 1) hw hb (by omega); have i2 : (w32 (b + 2)).toNat = 2276 + 6 * (Y 43 2).toNat + 2 := ixrt (j := 2) hw hb (by omega); have i3 : (w32 (b + 3)).toNat = 2276 + 6 * (Y 43 2).toNat + 3 := ixrt (j := 3) hw hb (by omega); have i5 : (w32 (b + 5)).toNat = 2276 + 6 * (Y 43 2).toNat + 5 := ixrt (j := 5) hw hb (by omega); have hv1 := hv.1; have hv2 := hv.2; unfold vk at hv1; have rk0 : rk T s = 12 := (by omega); have kw : kwo T s = 12 := (rk_kwo (i := 12) (by omega) rfl (by omega)).mp rk0; rw [rk0] at g0; obtain ⟨y, f1⟩ := c_X12_personTo hN hP.1.1 hW p8; rw [i1] at y f1; rcases y with ⟨y1, y2⟩ | ⟨y1, y2, z, y3, y4⟩; (exact absurd y1 (by omega)); intro v e; cases e; exact T4.l (by rw [if_neg (by omega), kw]; unfold qRest; rw [if_neg (by decide), if_neg (by decide), if_neg (by decide), if_neg (by decide), if_neg (by decide), if_pos rfl]; unfold qFgv; rw [if_pos y2]; exact y3) rfl y4), fun c12 => (fun h9 v9 p9 q9 => ⟨fun c13 => (by have g1 := gz 1 (by omega) (by omega); have g2 := gz 2 (by omega) (by omega); have g3 := gz 3 (by omega) (by omega); have g5 := gz 5 (by omega) (by omega); have i1 : (w32 (b + 1)).toNat = 2276 + 6 * (Y 43 2).toNat + 1 := ixrt (j := 1) hw hb (by omega); have i2 : (w32 (b + 2)).toNat = 2276 + 6 * (Y 43 2).toNat + 2 := ixrt (j := 2) hw hb (by omega); have i3 : (w32 (b + 3)).toNat = 2276 + 6 * (Y 43 2).toNat + 3 := ixrt (j := 3) hw hb (by omega); have i5 : (w32 (b + 5)).toNat = 2276 + 6 * (Y 43 2).toNat + 5 := ixrt (j := 5) hw hb (by omega); have hv1 := hv.1; have hv2 := hv.2; unfold vk at hv1; have rk0 : rk T s = 12 := (by omega); have kw : kwo T s = 12 := (rk_kwo (i := 12) (by omega) rfl (by omega)).mp rk0; rw [rk0] at g0; obtain ⟨y, f1⟩ := c_X12_personTo hN hP.1.1 hW p8; rw [i1] at y f1; obtain ⟨y0, y1, y2, y3⟩ := y.resolve_right (fun q => by omega); have P1 := hP.f1 hw (i := 1) (by omega) f1 y3; have l1 := nt_b hN.le; obtain ⟨x, f2⟩ := c_X12_personTo y2 P1.1.1 hW p9; rw [i2] at x f2; have l2 := nt_b y2.le; rcases x with ⟨x1, x2⟩ | ⟨x1, x2, z, x3, x4⟩; (exact absurd x1 (by omega)); intro v e; cases e; exact T4.l (by rw [if_neg (by omega), kw]; unfold qRest; rw [if_neg (by decide), if_neg (by decide), if_neg (by decide), if_neg (by decide), if_neg (by decide), if_pos rfl]; unfold qFgv; rw [if_neg y1, if_pos x2]; exact x3) rfl x4), fun c13 => (by have g1 := gz 1 (by omega) (by omega); have g2 := gz 2 (by omega) (by omega); have g3 := gz 3 (by omega) (by omega); have g5 := gz 5 (by omega) (by omega); have i1 : (w32 (b + 1)).toNat = 2276 + 6 * (Y 43 2).toNat + 1 := ixrt (j := 1) hw hb (by omega); have i2 : (w32 (b + 2)).toNat = 2276 + 6 * (Y 43 2).toNat + 2 := ixrt (j := 2) hw hb (by omega); have i3 : (w32 (b + 3)).toNat = 2276 + 6 * (Y 43 2).toNat + 3 := ixrt (j := 3) hw hb (by omega); have i5 : (w32 (b + 5)).toNat = 2276 + 6 * (Y 43 2).toNat + 5 := ixrt (j := 5) hw hb (by omega); have hv1 := hv.1; have hv2 := hv.2; unfold vk at hv1; have rk0 : rk T s = 12 := (by omega); have kw : kwo T s = 12 := (rk_kwo (i := 12) (by omega) rfl (by omega)).mp rk0; rw [rk0] at g0; obtain ⟨y, f1⟩ := c_X12_personTo hN hP.1.1 hW p8; rw [i1] at y f1; obtain ⟨y0, y1, y2, y3⟩ := y.resolve_right (fun q => by omega); have P1 := hP.f1 hw (i := 1) (by omega) f1 y3; have l1 := nt_b hN.le; obtain ⟨x, f2⟩ := c_X12_personTo y2 P1.1.1 hW p9; rw [i2] at x f2; have l2 := nt_b y2.le; obtain ⟨x0, x1, x2, x3⟩ := x.resolve_right (fun q => by omega); intro v e; cases e; exact T4.r (by rw [if_neg (by omega), kw]; unfold qRest; rw [if_neg (by decide), if_neg (by decide), if_neg (by decide), if_neg (by decide), if_neg (by decide), if_pos rfl]; unfold qFgv; rw [if_neg y1, if_neg x1]) rfl x2 (by omega) (P1.f1 hw (i := 2) (by omega) f2 x3) (fun i h6 h4 => by rcases (show i = 0 ∨ i = 1 ∨ i = 2 ∨ i = 3 ∨ i = 5 by omega) with z | z | z | z | z <;> subst z <;> simp [sg, erow, kcd, g0, g1, g2, g3, g5]) (by unfold isP; omega))⟩)⟩), fun c11 => ⟨fun c10 => (fun h7 v7 p7 q7 => (by have g1 := gz 1 (by omega) (by omega); have g2 := gz 2 (by omega) (by omega); have g3 := gz 3 (by omega) (by omega); have g5 := gz 5 (by omega) (by omega); have i1 : (w32 (b + 1)).toNat = 2276 + 6 * (Y 43 2).toNat + 1 := ixrt (j := 1) hw hb (by omega); have i2 : (w32 (b + 2)).toNat = 2276 + 6 * (Y 43 2).toNat + 2 := ixrt (j := 2) hw hb (by omega); have i3 : (w32 (b + 3)).toNat = 2276 + 6 * (Y 43 2).toNat + 3 := ixrt (j := 3) hw hb (by omega); have i5 : (w32 (b + 5)).toNat = 2276 + 6 * (Y 43 2).toNat + 5 := ixrt (j := 5) hw hb (by omega); have hv1 := hv.1; have hv2 := hv.2; unfold vk at hv1; have rk0 : rk T s = 13 := (by omega); have kw : kwo T s = 13 := (rk_kwo (i := 13) (by omega) rfl (by omega)).mp rk0; rw [rk0] at g0; obtain ⟨y, f1⟩ := c_X12_houseTo hN hP.1.1 hW p7; rw [i1] at y f1; have l1 := nt_b hN.le; intro v e; cases e; rcases y with ⟨y0, y1, y2, y3⟩ | ⟨y1, y2, z, y3, y4⟩; (exact T4.r (by rw [if_neg (by omega), kw]; unfold qRest; rw [if_neg (by decide), if_neg (by decide), if_neg (by decide), if_neg (by decide), if_pos rfl]; unfold qHous; rw [if_neg y1]) y0 y2 l1.1 (hP.f1 hw (i := 1) (by omega) f1 y3) (fun i h6 h4 => by rcases (show i = 0 ∨ i = 1 ∨ i = 2 ∨ i = 3 ∨ i = 5 by omega) with z | z | z | z | z <;> subst z <;> simp [sg, erow, kcd, g0, g1, g2, g3, g5]) (by unfold isP; omega)); exact T4.l (by rw [if_neg (by omega), kw]; unfold qRest; rw [if_neg (by decide), if_neg (by decide), if_neg (by decide), if_neg (by decide), if_pos rfl]; unfold qHous; rw [if_pos y2]; exact y3) y1 y4)), fun c10 => ⟨fun c5 => (fun h3 v3 p3 q3 => ⟨fun c6 => (by have g1 := gz 1 (by omega) (by omega); have g2 := gz 2 (by omega) (by omega); have g3 := gz 3 (by omega) (by omega); have g5 := gz 5 (by omega) (by omega); have i1 : (w32 (b + 1)).toNat = 2276 + 6 * (Y 43 2).toNat + 1 := ixrt (j := 1) hw hb (by omega); have i2 : (w32 (b + 2)).toNat = 2276 + 6 * (Y 43 2).toNat + 2 := ixrt (j := 2) hw hb (by omega); have i3 : (w32 (b + 3)).toNat = 2276 + 6 * (Y 43 2).toNat + 3 := ixrt (j := 3) hw hb (by omega); have i5 : (w32 (b + 5)).toNat = 2276 + 6 * (Y 43 2).toNat + 5 := ixrt (j := 5) hw hb (by omega); have hv1 := hv.1; have hv2 := hv.2; unfold vk at hv1; have rk0 : rk T s = 14 := (by omega); have kw : kwo T s = 14 := (rk_kwo (i := 14) (by omega) rfl (by omega)).mp rk0; rw [rk0] at g0; obtain ⟨y, f1⟩ := c_X12_personTo hN hP.1.1 hW p3; rw [i1] at y f1; rcases y with ⟨y1, y2⟩ | ⟨y1, y2, z, y3, y4⟩; (exact absurd y1 (by omega)); intro v e; cases e; exact T4.l (by rw [if_neg (by omega), kw]; unfold qRest; rw [if_neg (by decide), if_neg (by decide), if_neg (by decide), if_neg (by decide), if_neg (by decide), if_neg (by decide), if_pos rfl]; unfold qFrg; rw [if_pos y2]; exact y3) rfl y4), fun c6 => (fun h4 v4 p4 q4 => ⟨fun c7 => (by have g1 := gz 1 (by omega) (by omega); have g2 := gz 2 (by omega) (by omega); have g3 := gz 3 (by omega) (by omega); have g5 := gz 5 (by omega) (by omega); have i1 : (w32 (b + 1)).toNat = 2276 + 6 * (Y 43 2).toNat + 1 := ixrt (j := 1) hw hb (by omega); have i2 : (w32 (b + 2)).toNat = 2276 + 6 * (Y 43 2).toNat + 2 := ixrt (j := 2) hw hb (by omega); have i3 : (w32 (b + 3)).toNat = 2276 + 6 * (Y 43 2).toNat + 3 := ixrt (j := 3) hw hb (by omega); have i5 : (w32 (b + 5)).toNat = 2276 + 6 * (Y 43 2).toNat + 5 := ixrt (j := 5) hw hb (by omega); have hv1 := hv.1; have hv2 := hv.2; unfold vk at hv1; have rk0 : rk T s = 14 := (by omega); have kw : kwo T s = 14 := (rk_kwo (i := 14) (by omega) rfl (by omega)).mp rk0; rw [rk0] at g0; obtain ⟨y, f1⟩ := c_X12_personTo hN hP.1.1 hW p3; rw [i1] at y f1; obtain ⟨y0, y1, y2, y3⟩ := y.resolve_right (fun q => by omega); have P1 := hP.f1 hw (i := 1) (by omega) f1 y3; have l1 := nt_b hN.le; obtain ⟨w1, w2, f3⟩ := c_X12_wantWord y2 p4; obtain ⟨w3, w4⟩ := w2 (by omega); have w5 : ¬ isW T (nt T (nt T s)) 15 := (fun z => w3 ((r_iw (i := 16) (by omega) rfl rfl).mpr z)); intro v e; cases e; exact T4.l (f := (fltk T 2 (nt T (nt T s)), nt T (nt T s))) (by rw [if_neg (by omega), kw]; unfold qRest; rw [if_neg (by decide), if_neg (by decide), if_neg (by decide), if_neg (by decide), if_neg (by decide), if_neg (by decide), if_pos rfl]; unfold qFrg; rw [if_neg y1, if_neg w5]; rfl) rfl w4), fun c7 => (fun h5 v5 p5 q5 => ⟨fun c8 => (by have g1 := gz 1 (by omega) (by omega); have g2 := gz 2 (by omega) (by omega); have g3 := gz 3 (by omega) (by omega); have g5 := gz 5 (by omega) (by omega); have i1 : (w32 (b + 1)).toNat = 2276 + 6 * (Y 43 2).toNat + 1 := ixrt (j := 1) hw hb (by omega); have i2 : (w32 (b + 2)).toNat = 2276 + 6 * (Y 43 2).toNat + 2 := ixrt (j := 2) hw hb (by omega); have i3 : (w32 (b + 3)).toNat = 2276 + 6 * (Y 43 2).toNat + 3 := ixrt (j := 3) hw hb (by omega); have i5 : (w32 (b + 5)).toNat = 2276 + 6 * (Y 43 2).toNat + 5 := ixrt (j := 5) hw hb (by omega); have hv1 := hv.1; have hv2 := hv.2; unfold vk at hv1; have rk0 : rk T s = 14 := (by omega); have kw : kwo T s = 14 := (rk_kwo (i := 14) (by omega) rfl (by omega)).mp rk0; rw [rk0] at g0; obtain ⟨y, f1⟩ := c_X12_personTo hN hP.1.1 hW p3; rw [i1] at y f1; obtain ⟨y0, y1, y2, y3⟩ := y.resolve_right (fun q => by omega); have P1 := hP.f1 hw (i := 1) (by omega) f1 y3; have l1 := nt_b hN.le; obtain ⟨w1, w2, f3⟩ := c_X12_wantWord y2 p4; obtain ⟨w3, w4⟩ := w1 (by omega); have w5 : isW T (nt T (nt T s)) 15 := (r_iw (i := 16) (by omega) rfl rfl).mp w3; have P3 := P1.f0 hw f3; have l3 := nt_b y2.le; obtain ⟨x, f2⟩ := c_X12_personTo w4 P3.1.1 hW p5; rw [i2] at x f2; have l2 := nt_b w4.le; rcases x with ⟨x1, x2⟩ | ⟨x1, x2, z, x3, x4⟩; (exact absurd x1 (by omega)); intro v e; cases e; exact T4.l (by rw [if_neg (by omega), kw]; unfold qRest; rw [if_neg (by decide), if_neg (by decide), if_neg (by decide), if_neg (by decide), if_neg (by decide), if_neg (by decide), if_pos rfl]; unfold qFrg; rw [if_neg y1, if_pos w5, if_pos x2]; exact x3) rfl x4), fun c8 => (fun h6 v6 p6 q6 => ⟨fun c9 => (by have g1 := gz 1 (by omega) (by omega); have g2 := gz 2 (by omega) (by omega); have g3 := gz 3 (by omega) (by omega); have g5 := gz 5 (by omega) (by omega); have i1 : (w32 (b + 1)).toNat = 2276 + 6 * (Y 43 2).toNat + 1 := ixrt (j := 1) hw hb (by omega); have i2 : (w32 (b + 2)).toNat = 2276 + 6 * (Y 43 2).toNat + 2 := ixrt (j := 2) hw hb (by omega); have i3 : (w32 (b + 3)).toNat = 2276 + 6 * (Y 43 2).toNat + 3 := ixrt (j := 3) hw hb (by omega); have i5 : (w32 (b + 5)).toNat = 2276 + 6 * (Y 43 2).toNat + 5 := ixrt (j := 5) hw hb (by omega); have hv1 := hv.1; have hv2 := hv.2; unfold vk at hv1; have rk0 : rk T s = 14 := (by omega); have kw : kwo T s = 14 := (rk_kwo (i := 14) (by omega) rfl (by omega)).mp rk0; rw [rk0] at g0; obtain ⟨y, f1⟩ := c_X12_personTo hN hP.1.1 hW p3; rw [i1] at y f1; obtain ⟨y0, y1, y2, y3⟩ := y.resolve_right (fun q => by omega); have P1 := hP.f1 hw (i := 1) (by omega) f1 y3; have l1 := nt_b hN.le; obtain ⟨w1, w2, f3⟩ := c_X12_wantWord y2 p4; obtain ⟨w3, w4⟩ := w1 (by omega); have w5 : isW T (nt T (nt T s)) 15 := (r_iw (i := 16) (by omega) rfl rfl).mp w3; have P3 := P1.f0 hw f3; have l3 := nt_b y2.le; obtain ⟨x, f2⟩ := c_X12_personTo w4 P3.1.1 hW p5; rw [i2] at x f2; have l2 := nt_b w4.le; obtain ⟨x0, x1, x2, x3⟩ := x.resolve_right (fun q => by omega); obtain ⟨u, f4⟩ := q_rn x2 (fun v => adY (stp Y) 14 (pe T L (nt T s)) (pe T L (nt T (nt T (nt T s)))) v) q6 p6; have l4 := nt_b x2.le; intro v e; cases e; rcases u with ⟨u1, u2⟩ | ⟨u1, z, u2, u3⟩; (exact absurd u1 (by omega)); exact T4.l (by rw [if_neg (by omega), kw]; unfold qRest; rw [if_neg (by decide), if_neg (by decide), if_neg (by decide), if_neg (by decide), if_neg (by decide), if_neg (by decide), if_pos rfl]; unfold qFrg; rw [if_neg y1, if_pos w5, if_neg x1]; exact u2) rfl u3), fun c9 => (by have g1 := gz 1 (by omega) (by omega); have g2 := gz 2 (by omega) (by omega); have g3 := gz 3 (by omega) (by omega); have g5 := gz 5 (by omega) (by omega); have i1 : (w32 (b + 1)).toNat = 2276 + 6 * (Y 43 2).toNat + 1 := ixrt (j := 1) hw hb (by omega); have i2 : (w32 (b + 2)).toNat = 2276 + 6 * (Y 43 2).toNat + 2 := ixrt (j := 2) hw hb (by omega); have i3 : (w32 (b + 3)).toNat = 2276 + 6 * (Y 43 2).toNat + 3 := ixrt (j := 3) hw hb (by omega); have i5 : (w32 (b + 5)).toNat = 2276 + 6 * (Y 43 2).toNat + 5 := ixrt (j := 5) hw hb (by omega); have hv1 := hv.1; have hv2 := hv.2; unfold vk at hv1; have rk0 : rk T s = 14 := (by omega); have kw : kwo T s = 14 := (rk_kwo (i := 14) (by omega) rfl (by omega)).mp rk0; rw [rk0] at g0; obtain ⟨y, f1⟩ := c_X12_personTo hN hP.1.1 hW p3; rw [i1] at y f1; obtain ⟨y0, y1, y2, y3⟩ := y.resolve_right (fun q => by omega); have P1 := hP.f1 hw (i := 1) (by omega) f1 y3; have l1 := nt_b hN.le; obtain ⟨w1, w2, f3⟩ := c_X12_wantWord y2 p4; obtain ⟨w3, w4⟩ := w1 (by omega); have w5 : isW T (nt T (nt T s)) 15 := (r_iw (i := 16) (by omega) rfl rfl).mp w3; have P3 := P1.f0 hw f3; have l3 := nt_b y2.le; obtain ⟨x, f2⟩ := c_X12_personTo w4 P3.1.1 hW p5; rw [i2] at x f2; have l2 := nt_b w4.le; obtain ⟨x0, x1, x2, x3⟩ := x.resolve_right (fun q => by omega); obtain ⟨u, f4⟩ := q_rn x2 (fun v => adY (stp Y) 14 (pe T L (nt T s)) (pe T L (nt T (nt T (nt T s)))) v) q6 p6; have l4 := nt_b x2.le; have P4 := P3.f1 hw (i := 2) (by omega) f2 x3; intro v e; cases e; obtain ⟨u1, u2, u3, u4⟩ := u.resolve_right (fun q => by omega); rw [i3] at u4 f4; exact T4.r (by rw [if_neg (by omega), kw]; unfold qRest; rw [if_neg (by decide), if_neg (by decide), if_neg (by decide), if_neg (by decide), if_neg (by decide), if_neg (by decide), if_pos rfl]; unfold qFrg; rw [if_neg y1, if_pos w5, if_neg x1]; exact u2) rfl u3 (by omega) (P4.f1 hw (i := 3) (by omega) f4 u4) (fun i h6 h4 => by rcases (show i = 0 ∨ i = 1 ∨ i = 2 ∨ i = 3 ∨ i = 5 by omega) with z | z | z | z | z <;> subst z <;> simp [sg, erow, kcd, g0, g1, g2, g3, g5]) (by unfold isP; omega))⟩)⟩)⟩)⟩), fun c5 => ⟨fun c4 => (by have g1 := gz 1 (by omega) (by omega); have g2 := gz 2 (by omega) (by omega); have g3 := gz 3 (by omega) (by omega); have g5 := gz 5 (by omega) (by omega); have i1 : (w32 (b + 1)).toNat = 2276 + 6 * (Y 43 2).toNat + 1 := ixrt (j := 1) hw hb (by omega); have i2 : (w32 (b + 2)).toNat = 2276 + 6 * (Y 43 2).toNat + 2 := ixrt (j := 2) hw hb (by omega); have i3 : (w32 (b + 3)).toNat = 2276 + 6 * (Y 43 2).toNat + 3 := ixrt (j := 3) hw hb (by omega); have i5 : (w32 (b + 5)).toNat = 2276 + 6 * (Y 43 2).toNat + 5 := ixrt (j := 5) hw hb (by omega); have hv1 := hv.1; have hv2 := hv.2; unfold vk at hv1; have rk0 : rk T s = 15 := (by omega); have kw : kwo T s = 16 := (rk_kwo (i := 15) (by omega) rfl (by omega)).mp rk0; rw [rk0] at g0; intro v e; cases e; exact T4.r (by rw [if_neg (by omega), kw]; exact qRest_d (by omega)) rfl hN (Nat.le_refl _) hP (fun i h6 h4 => by rcases (show i = 0 ∨ i = 1 ∨ i = 2 ∨ i = 3 ∨ i = 5 by omega) with z | z | z | z | z <;> subst z <;> simp [sg, erow, kcd, g0, g1, g2, g3, g5]) (by unfold isP; omega)), fun c4 => ⟨fun c3 => (by exact absurd hv (by unfold vk; omega)), fun c3 => ⟨fun c2 => (fun h2 v2 p2 q2 => (by have rk0 : rk T s = 17 := (by omega); have kw : kwo T s = 17 := (rk_kwo (i := 17) (by omega) rfl (by omega)).mp rk0; have t := c_X12_test hN hw hW hb hP gz p2; intro v e; cases e; rw [if_pos kw]; exact t.cg ⟨fun _ => Or.inl kw, fun _ => trivial⟩)), fun c2 => ⟨fun c1 => (fun h1 v1 p1 q1 => (by have g1 := gz 1 (by omega) (by omega); have g2 := gz 2 (by omega) (by omega); have g3 := gz 3 (by omega) (by omega); have g5 := gz 5 (by omega) (by omega); have i1 : (w32 (b + 1)).toNat = 2276 + 6 * (Y 43 2).toNat + 1 := ixrt (j := 1) hw hb (by omega); have i2 : (w32 (b + 2)).toNat = 2276 + 6 * (Y 43 2).toNat + 2 := ixrt (j := 2) hw hb (by omega); have i3 : (w32 (b + 3)).toNat = 2276 + 6 * (Y 43 2).toNat + 3 := ixrt (j := 3) hw hb (by omega); have i5 : (w32 (b + 5)).toNat = 2276 + 6 * (Y 43 2).toNat + 5 := ixrt (j := 5) hw hb (by omega); have hv1 := hv.1; have hv2 := hv.2; unfold vk at hv1; have rk0 : rk T s = 18 := (by omega); have kw : kwo T s = 21 := (rk_kwo (i := 18) (by omega) rfl (by omega)).mp rk0; rw [rk0] at g0; obtain ⟨x, f1⟩ := q_rn hN (fun v => adY (stp Y) 21 0 0 v) q1 p1; have l1 := nt_b hN.le; intro v e; cases e; rcases x with ⟨x1, x2, x3, x4⟩ | ⟨x1, z, x2, x3⟩; (rw [i1] at x4 f1; exact T4.r (by rw [if_neg (by omega), kw]; unfold qRest; rw [if_neg (by decide), if_pos rfl]; exact x2) x1 x3 l1.1 (hP.f1 hw (i := 1) (by omega) f1 x4) (fun i h6 h4 => by rcases (show i = 0 ∨ i = 1 ∨ i = 2 ∨ i = 3 ∨ i = 5 by omega) with z | z | z | z | z <;> subst z <;> simp [sg, erow, kcd, g0, g1, g2, g3, g5]) (by unfold isP; omega)); exact T4.l (by rw [if_neg (by omega), kw]; unfold qRest; rw [if_neg (by decide), if_pos rfl]; exact x2) x1 x3)), fun c1 => (by omega)⟩⟩⟩⟩⟩⟩⟩⟩⟩⟩⟩⟩⟩⟩⟩
    · exact hK.elim
  exact q v rfl
set_option maxRecDepth 10000 in
theorem v_X12_taleOrder19 {sl : Nat} {si : Nat → Int} {K : Nat → PH → ZL → List ZV → Prop} {Q : PH → List ZV → Prop} {h : PH} {a b : Int} (H : (a < 5 ∨ 18 < a → Q h [(0, 1)]) ∧ (¬ (a < 5 ∨ 18 < a) → (a = 5 → ∀ h12 v12, CP (zz sl si (7, 0)) mX12_houseTo h [(2, 169), (0, w32 (b + 1))] h12 [(0, v12)] → v12 = 0 ∨ v12 = 1 → Q h12 [(0, v12)]) ∧ (¬ a = 5 → (a = 6 → Q h [(0, 1)]) ∧ (¬ a = 6 → (a = 7 → Q h [(0, 1)]) ∧ (¬ a = 7 → (a = 8 → Q h [(0, 1)]) ∧ (¬ a = 8 → (a = 9 → Q h [(0, 1)]) ∧ (¬ a = 9 → (a = 10 → ∀ h11 v11, CP (zz sl si (7, 0)) mX12_number h [(2, 169), (0, w32 (b + 1)), (0, 1), (0, 9)] h11 [(0, v11)] → v11 = 0 ∨ v11 = 1 → Q h11 [(0, v11)]) ∧ (¬ a = 10 → (a = 11 → ∀ h10 v10, CP (zz sl si (7, 0)) mX12_personTo h [(2, 169), (0, w32 (b + 1))] h10 [(0, v10)] → v10 = 0 ∨ v10 = 1 → Q h10 [(0, v10)]) ∧ (¬ a = 11 → (a = 12 → ∀ h8 v8, CP (zz sl si (7, 0)) mX12_personTo h [(2, 169), (0, w32 (b + 1))] h8 [(0, v8)] → v8 = 0 ∨ v8 = 1 → (v8 = 0 → Q h8 [(0, 0)]) ∧ (¬ (v8 = 0) → ∀ h9 v9, CP (zz sl si (7, 0)) mX12_personTo h8 [(2, 169), (0, w32 (b + 2))] h9 [(0, v9)] → v9 = 0 ∨ v9 = 1 → (v9 = 0 → Q h9 [(0, 0)]) ∧ (¬ (v9 = 0) → Q h9 [(0, 1)]))) ∧ (¬ a = 12 → (a = 13 → ∀ h7 v7, CP (zz sl si (7, 0)) mX12_houseTo h [(2, 169), (0, w32 (b + 1))] h7 [(0, v7)] → v7 = 0 ∨ v7 = 1 → Q h7 [(0, v7)]) ∧ (¬ a = 13 → (a = 14 → ∀ h3 v3, CP (zz sl si (7, 0)) mX12_personTo h [(2, 169), (0, w32 (b + 1))] h3 [(0, v3)] → v3 = 0 ∨ v3 = 1 → (v3 = 0 → Q h3 [(0, 0)]) ∧ (¬ (v3 = 0) → ∀ h4 v4, CP (zz sl si (7, 0)) mX12_wantWord h3 [(2, 169), (6, 3), (0, 16)] h4 [(0, v4)] → v4 = 0 ∨ v4 = 1 → (v4 = 0 → Q h4 [(0, 0)]) ∧ (¬ (v4 = 0) → ∀ h5 v5, CP (zz sl si (7, 0)) mX12_personTo h4 [(2, 169), (0, w32 (b + 2))] h5 [(0, v5)] → v5 = 0 ∨ v5 = 1 → (v5 = 0 → Q h5 [(0, 0)]) ∧ (¬ (v5 = 0) → ∀ h6 v6, CP (zz sl si (7, 0)) mX12_number h5 [(2, 169), (0, w32 (b + 3)), (0, 1), (0, 99)] h6 [(0, v6)] → v6 = 0 ∨ v6 = 1 → (v6 = 0 → Q h6 [(0, 0)]) ∧ (¬ (v6 = 0) → Q h6 [(0, 1)]))))) ∧ (¬ a = 14 → (a = 15 → Q h [(0, 1)]) ∧ (¬ a = 15 → (a = 16 → Q h [(0, 1)]) ∧ (¬ a = 16 → (a = 17 → ∀ h2 v2, CP (zz sl si (7, 0)) mX12_test h [(2, 169), (0, b)] h2 [(0, v2)] → v2 = 0 ∨ v2 = 1 → Q h2 [(0, v2)]) ∧ (¬ a = 17 → (a = 18 → ∀ h1 v1, CP (zz sl si (7, 0)) mX12_number h [(2, 169), (0, w32 (b + 1)), (0, 1), (0, 99)] h1 [(0, v1)] → v1 = 0 ∨ v1 = 1 → Q h1 [(0, v1)]) ∧ (¬ a = 18 → Q h [(0, 1)])))))))))))))))) : vc (zz sl si (7, 0)) (fun _ => false) K Q mX12_taleOrder 32 0 mX12_taleOrder.2.2.2.2.2.2 h [(0, (2, 169)), (1, (0, a)), (2, (0, b))] [] := H
set_option maxHeartbeats 600000 in
theorem c_X12_taleOrder19 {sl : Nat} {si : Nat → Int} {h h' : PH} {a b : Int} {v : Int} (ha : a = 19) (hc : CP (zz sl si (7, 0)) mX12_taleOrder h [(2, 169), (0, a), (0, b)] h' [(0, v)]) : h' = h ∧ v = 1 := by
  have q : (fun (xh : PH) (r : List ZV) => ∀ v : Int, r = [(0, v)] → (xh = h ∧ v = 1)) h' [(0, v)] := by
    refine cp_vc (cut := (fun _ => false)) (K := fun p hx lv st => False) (Q := fun (xh : PH) (r : List ZV) => ∀ v : Int, r = [(0, v)] → (xh = h ∧ v = 1)) (v_X12_taleOrder19 ?_) (fun pc hx lv st hcut hK => ?_) hc
    · exact ⟨fun c21 => (by intro v e; cases e; exact ⟨rfl, rfl⟩), fun c21 => ⟨fun c20 => (fun h12 v12 p12 q12 => (by omega)), fun c20 => ⟨fun c19 => (by omega), fun c19 => ⟨fun c18 => (by omega), fun c18 => ⟨fun c17 => (by omega), fun c17 => ⟨fun c16 => (by omega), fun c16 => ⟨fun c15 => (fun h11 v11 p11 q11 => (by omega)), fun c15 => ⟨fun c14 => (fun h10 v10 p10 q10 => (by omega)), fun c14 => ⟨fun c11 => (fun h8 v8 p8 q8 => ⟨fun c12 => (by omega), fun c12 => (fun h9 v9 p9 q9 => ⟨fun c13 => (by omega), fun c13 => (by omega)⟩)⟩), fun c11 => ⟨fun c10 => (fun h7 v7 p7 q7 => (by omega)), fun c10 => ⟨fun c5 => (fun h3 v3 p3 q3 => ⟨fun c6 => (by omega), fun c6 => (fun h4 v4 p4 q4 => ⟨fun c7 => (by omega), fun c7 => (fun h5 v5 p5 q5 => ⟨fun c8 => (by omega), fun c8 => (fun h6 v6 p6 q6 => ⟨fun c9 => (by omega), fun c9 => (by omega)⟩)⟩)⟩)⟩), fun c5 => ⟨fun c4 => (by omega), fun c4 => ⟨fun c3 => (by omega), fun c3 => ⟨fun c2 => (fun h2 v2 p2 q2 => (by omega)), fun c2 => ⟨fun c1 => (fun h1 v1 p1 q1 => (by omega)), fun c1 => (by omega)⟩⟩⟩⟩⟩⟩⟩⟩⟩⟩⟩⟩⟩⟩⟩
    · exact hK.elim
  exact q v rfl
noncomputable def ooT (T : TX) (s : Nat) : Int := if rk T s = 17 ∨ rk T s = 18 then 1 else 0
/-- a step is read: a FAULT, or a token and TALES -/
def T5 (T : TX) (s : Nat) (L : PH) (v : Int) (h : PH) (r : PR) : Prop := match r with
  | .inl q => v = 0 ∧ RF h q.1 q.2 ∧ NmL h L
  | .inr q => v = 1 ∧ RN T h q.1 ∧ RTt h L q.2 ∧ WT q.2 ∧ s < q.1
theorem T5.l {T : TX} {s : Nat} {L : PH} {v : Int} {h : PH} {r : PR} {f : Int × Nat} (e : r = .inl f) (h0 : v = 0) (h1 : RF h f.1 f.2) (h2 : NmL h L := by first | (refine NmL.f0 ?_ (by assumption); (first | (first | exact P5.1.1 | exact P4.1.1 | exact P3.1.1 | exact P2.1.1 | exact P1.1.1 | exact hP.1.1 | exact B1.1 | exact j5.1 | exact hT.1 | exact hM | exact n) | (refine NmL.f0 ?_ (by assumption); (first | exact P5.1.1 | exact P4.1.1 | exact P3.1.1 | exact P2.1.1 | exact P1.1.1 | exact hP.1.1 | exact B1.1 | exact j5.1 | exact hT.1 | exact hM | exact n)) | (refine NmL.f1 ?_ (by assumption) (by omega); (first | exact P5.1.1 | exact P4.1.1 | exact P3.1.1 | exact P2.1.1 | exact P1.1.1 | exact hP.1.1 | exact B1.1 | exact j5.1 | exact hT.1 | exact hM | exact n)))) | (refine NmL.f1 ?_ (by assumption) (by omega); (first | (first | exact P5.1.1 | exact P4.1.1 | exact P3.1.1 | exact P2.1.1 | exact P1.1.1 | exact hP.1.1 | exact B1.1 | exact j5.1 | exact hT.1 | exact hM | exact n) | (refine NmL.f0 ?_ (by assumption); (first | exact P5.1.1 | exact P4.1.1 | exact P3.1.1 | exact P2.1.1 | exact P1.1.1 | exact hP.1.1 | exact B1.1 | exact j5.1 | exact hT.1 | exact hM | exact n)) | (refine NmL.f1 ?_ (by assumption) (by omega); (first | exact P5.1.1 | exact P4.1.1 | exact P3.1.1 | exact P2.1.1 | exact P1.1.1 | exact hP.1.1 | exact B1.1 | exact j5.1 | exact hT.1 | exact hM | exact n)))) | (first | exact P5.1.1 | exact P4.1.1 | exact P3.1.1 | exact P2.1.1 | exact P1.1.1 | exact hP.1.1 | exact B1.1 | exact j5.1 | exact hT.1 | exact hM | exact n)) : T5 T s L v h r := by rw [e]; exact ⟨h0, h1, h2⟩
/-- a step is read, but for its semicolon -/
def S9 (T : TX) (L Y : PH) (s : Nat) (h : PH) : Prop := ∃ t Z, pTale T L s Y = semi T t Z ∧ RN T h t ∧ RTt h L Z ∧ WT Z ∧ s ≤ t
noncomputable def cntT (T : TX) (s : Nat) (Y : PH) : Int := if rk T s = 19 then Y 43 1 else Y 43 1 + 1
theorem RTt.f0 {h h' L Y : PH} (r : RTt h L Y) (hw : WT Y) (f : FN0 h h') : RTt h' L Y := RB.fr r hw (by rw [f 170 2116 (by omega)]; exact r.2.1) (by rw [f 169 22 (by omega)]; exact r.2.2.1) (fun c k q => f c k (by omega))
theorem RTt.cl {h h' L Y : PH} {c : Int} (r : RB h L Y (Y 43 2 + 1) (Y 43 1)) (hw : WT Y) (h1 : 1 ≤ Y 50 4) (g : ∀ i : Nat, i < 6 → i ≠ 4 → h 170 (2276 + 6 * (Y 43 2).toNat + i) = erow 22 0 0 0 i) (hc : c = Y 51 (Y 50 4 - 1).toNat) (f : ∀ c' k : Nat, ¬ (c' = 169 ∧ k = 21) → ¬ (c' = 170 ∧ (k = 2276 + 6 * (Y 43 2).toNat + 4 ∨ k = 2276 + 6 * c.toNat + 4)) → h' c' k = h c' k) (f1 : h' 169 21 = Y 50 4 - 1) (f2 : h' 170 (2276 + 6 * (Y 43 2).toNat + 4) = c) (f3 : h' 170 (2276 + 6 * c.toNat + 4) = Y 43 2) : RTt h' L (cls Y) := by
  obtain ⟨r1, r2, r3, r4, r5, r6, r7⟩ := r
  obtain ⟨w1, w2, w3, w4, w5⟩ := hw
  obtain ⟨n1, n2⟩ := cls_n (Y := Y)
  have n3 : cls Y 43 1 = Y 43 1 := cls_o (by omega)
  have b := w5 (Y 50 4 - 1).toNat (by omega)
  rw [← hc] at b
  have A := fun k => ad_r (Y := uph Y 50 4 (Y 50 4 - 1)) (a := 22) (b := 0) (c := 0) (d := 0) (k := k)
  have un : uph Y 50 4 (Y 50 4 - 1) 43 2 = Y 43 2 := up_ne (by omega)
  rw [un] at A
  have cr : ∀ j k : Nat, 44 ≤ j → j ≤ 47 → cls Y j k = adY (uph Y 50 4 (Y 50 4 - 1)) 22 0 0 0 j k := fun j k q1 q2 => by unfold cls; rw [up_ne (by omega), up_ne (by omega)]
  have c8 : ∀ k : Nat, cls Y 48 k = if k = (Y 43 2).toNat then c else if k = c.toNat then Y 43 2 else Y 48 k := fun k => by
    unfold cls
    rw [← hc]
    by_cases e : k = (Y 43 2).toNat
    · rw [if_pos e, e, up_sm]
    · rw [if_neg e, up_ne (by omega)]
      by_cases e2 : k = c.toNat
      · rw [if_pos e2, e2, up_sm]
      · rw [if_neg e2, up_ne (by omega), (A k).2.2.2.2, if_neg e, up_ne (by omega)]
  refine ⟨r1.fr (fun c k q => f c k (by omega) (by omega)), by rw [n1, f 170 2116 (by omega) (by omega)]; exact r2, by rw [n3, f 169 22 (by omega) (by omega)]; exact r3, by rw [n2]; exact f1, fun i hi => ?_, fun k hk i h6 h4 => ?_, fun k hk p q => ?_⟩
  · rw [n2] at hi
    rw [cls_o (by omega), f 177 i (by omega) (by omega)]
    exact r5 i (by omega)
  · rw [n1] at hk
    obtain ⟨a1, a2, a3, a4, -⟩ := A k
    rw [cr 44 k (by omega) (by omega), cr 45 k (by omega) (by omega), cr 46 k (by omega) (by omega), cr 47 k (by omega) (by omega), a1, a2, a3, a4, f 170 _ (by omega) (by omega)]
    by_cases e : k = (Y 43 2).toNat
    · rw [if_pos e, if_pos e, if_pos e, if_pos e, e]; exact g i h6 h4
    · rw [if_neg e, if_neg e, if_neg e, if_neg e, up_ne (by omega), up_ne (by omega), up_ne (by omega), up_ne (by omega)]
      exact r6 k (by omega) i h6 h4
  · rw [n1] at hk
    rw [c8]
    by_cases e : k = (Y 43 2).toNat
    · rw [if_pos e, e, show 2280 + 6 * (Y 43 2).toNat = 2276 + 6 * (Y 43 2).toNat + 4 by omega]; exact f2
    · rw [if_neg e]
      by_cases e2 : k = c.toNat
      · rw [if_pos e2, e2, show 2280 + 6 * c.toNat = 2276 + 6 * c.toNat + 4 by omega]; exact f3
      · rw [if_neg e2, f 170 _ (by omega) (by omega)]
        rw [cr 44 k (by omega) (by omega), (A k).1, if_neg e, up_ne (by omega)] at p
        refine r7 k (by omega) p (fun i hi z => ?_)
        by_cases e3 : i = (Y 50 4 - 1).toNat
        · rw [e3, ← hc] at z; omega
        · exact q i (by rw [n2]; omega) (by rw [cls_o (by omega)]; exact z)
theorem ooT_0 {T : TX} {s : Nat} : ooT T s = 0 ↔ ¬ (rk T s = 17 ∨ rk T s = 18) := by
  unfold ooT
  by_cases c : rk T s = 17 ∨ rk T s = 18
  · rw [if_pos c]; exact ⟨fun z => absurd z (by omega), fun z => absurd c z⟩
  · rw [if_neg c]; exact ⟨fun _ => c, fun _ => rfl⟩
theorem op_rk {T : TX} {s : Nat} : (rk T s = 17 ∨ rk T s = 18) ↔ (kwo T s = 17 ∨ kwo T s = 21) := by
  have a : rk T s = 17 ↔ kwo T s = 17 := rk_kwo (i := 17) (by omega) rfl (by omega)
  have b : rk T s = 18 ↔ kwo T s = 21 := rk_kwo (i := 18) (by omega) rfl (by omega)
  rw [a, b]
theorem no22 {T : TX} {s : Nat} (h : rk T s ≠ 19) : ¬ isW T s 22 := fun z => h ((rk_kwo (i := 19) (by omega) rfl (by omega)).mpr ((kwo_w (by omega)).mpr z))
theorem ye22 {T : TX} {s : Nat} (h : rk T s = 19) : isW T s 22 := (kwo_w (by omega)).mp ((rk_kwo (i := 19) (by omega) rfl (by omega)).mp h)
theorem pT_bad {T : TX} {L Y : PH} {s : Nat} (h : ¬ vk (rk T s)) : pTale T L s Y = .inl (fltk T 2 s, s) := by
  rw [pT_no (no22 (fun z => h (by unfold vk; omega))) (fun z => h (vk_st.mp z).1)]
  rfl
theorem pT_end {T : TX} {L Y : PH} {s : Nat} (h : rk T s = 19) : pTale T L s Y = if 1 ≤ Y 50 4 then semi T (nt T s) (cls Y) else bad T 2 s := by
  unfold pTale
  rw [cif4_p (ye22 h)]
theorem pT_step {T : TX} {L Y : PH} {s : Nat} (h : rk T s ≠ 19) (h1 : vk (rk T s)) (h2 : ¬ 30 ≤ Y 43 1) (h3 : ooT T s ≠ 0 → ¬ 3 ≤ Y 50 4) : pTale T L s Y = qStep T L s (kwo T s) Y := by
  rw [pT_y (no22 h) (vk_st.mpr ⟨h1, h⟩), if_neg h2, cif4_n]
  intro z
  exact h3 (fun y => ooT_0.mp y (op_rk.mpr z.1)) z.2
theorem RN.k2 {T : TX} {h h' : PH} {s : Nat} (hN : RN T h s) (e : ∀ c k : Nat, (c = 169 ∧ k ≤ 18) ∨ c = 176 → h' c k = h c k) : RN T h' s := ⟨hN.1.kp (fun c k q => e c k (by omega)), by rw [e 169 18 (by omega)]; exact hN.2.1, by rw [e 169 17 (by omega)]; exact hN.2.2⟩
set_option maxRecDepth 10000 in
theorem v_X12_taleStep {sl : Nat} {si : Nat → Int} {K : Nat → PH → ZL → List ZV → Prop} {Q : PH → List ZV → Prop} {h : PH}    (H : ∀ h1 v1, CP (zz sl si (7, 0)) mX12_inWords h [(2, 169), (6, 3)] h1 [(0, v1)] → R32 v1 → 0 ≤ (2116 : Int) ∧ (2116 : Int) < (3696 : Nat) → R32 (h1 170 2116) → (v1 = 17 → K 44 h1 [(4, (0, 1)), (3, (0, w32 (2276 + (w32 (6 * (h1 170 2116)))))), (2, (0, (h1 170 2116))), (1, (0, v1)), (0, (2, 169))] []) ∧ (¬ (v1 = 17) → (v1 ≠ 18 → K 44 h1 [(4, (0, 0)), (3, (0, w32 (2276 + (w32 (6 * (h1 170 2116)))))), (2, (0, (h1 170 2116))), (1, (0, v1)), (0, (2, 169))] []) ∧ (¬ (v1 ≠ 18) → K 44 h1 [(4, (0, 1)), (3, (0, w32 (2276 + (w32 (6 * (h1 170 2116)))))), (2, (0, (h1 170 2116))), (1, (0, v1)), (0, (2, 169))] []))) : vc (zz sl si (7, 0)) (fun p => Nat.beq p 44 || Nat.beq p 67 || Nat.beq p 86 || Nat.beq p 108 || Nat.beq p 128 || Nat.beq p 158 || Nat.beq p 233 || Nat.beq p 290) K Q mX12_taleStep 26 0 mX12_taleStep.2.2.2.2.2.2 h [(0, (2, 169))] [] := H
set_option maxRecDepth 10000 in
theorem v_X12_taleStep_44 {sl : Nat} {si : Nat → Int} {K : Nat → PH → ZL → List ZV → Prop} {Q : PH → List ZV → Prop} {h : PH}    {k n r o : Int} (H : (k = 5 → K 67 h [(0, (2, 169)), (1, (0, k)), (2, (0, n)), (3, (0, r)), (4, (0, o))] []) ∧ (¬ (k = 5) → (k < 10 → ∀ h1 v1, CP (zz sl si (7, 0)) mX12_fails h [(2, 169), (0, 2)] h1 [(0, v1)] → v1 = 0 ∨ v1 = 1 → Q h1 [(0, v1)]) ∧ (¬ (k < 10) → ((20 : Int) < k → ∀ h2 v2, CP (zz sl si (7, 0)) mX12_fails h [(2, 169), (0, 2)] h2 [(0, v2)] → v2 = 0 ∨ v2 = 1 → Q h2 [(0, v2)]) ∧ (¬ ((20 : Int) < k) → (k = 16 → ∀ h3 v3, CP (zz sl si (7, 0)) mX12_fails h [(2, 169), (0, 2)] h3 [(0, v3)] → v3 = 0 ∨ v3 = 1 → Q h3 [(0, v3)]) ∧ (¬ (k = 16) → K 67 h [(0, (2, 169)), (1, (0, k)), (2, (0, n)), (3, (0, r)), (4, (0, o))] []))))) : vc (zz sl si (7, 0)) (fun p => Nat.beq p 44 || Nat.beq p 67 || Nat.beq p 86 || Nat.beq p 108 || Nat.beq p 128 || Nat.beq p 158 || Nat.beq p 233 || Nat.beq p 290) K Q mX12_taleStep 18 44 (ax_jmp mX12_taleStep.2.2.2.2.2.2 44) h [(0, (2, 169)), (1, (0, k)), (2, (0, n)), (3, (0, r)), (4, (0, o))] [] := H
set_option maxRecDepth 10000 in
theorem v_X12_taleStep_67 {sl : Nat} {si : Nat → Int} {K : Nat → PH → ZL → List ZV → Prop} {Q : PH → List ZV → Prop} {h : PH}    {k n r o : Int} (H : (k ≠ 19 → K 86 h [(0, (2, 169)), (1, (0, k)), (2, (0, n)), (3, (0, r)), (4, (0, o))] []) ∧ (¬ (k ≠ 19) → R32 (h 169 21) → ((h 169 21) ≠ 0 → K 86 h [(0, (2, 169)), (1, (0, k)), (2, (0, n)), (3, (0, r)), (4, (0, o))] []) ∧ (¬ ((h 169 21) ≠ 0) → ∀ h1 v1, CP (zz sl si (7, 0)) mX12_fails h [(2, 169), (0, 2)] h1 [(0, v1)] → v1 = 0 ∨ v1 = 1 → Q h1 [(0, v1)]))) : vc (zz sl si (7, 0)) (fun p => Nat.beq p 44 || Nat.beq p 67 || Nat.beq p 86 || Nat.beq p 108 || Nat.beq p 128 || Nat.beq p 158 || Nat.beq p 233 || Nat.beq p 290) K Q mX12_taleStep 12 67 (ax_jmp mX12_taleStep.2.2.2.2.2.2 67) h [(0, (2, 169)), (1, (0, k)), (2, (0, n)), (3, (0, r)), (4, (0, o))] [] := H
set_option maxRecDepth 10000 in
theorem v_X12_taleStep_86 {sl : Nat} {si : Nat → Int} {K : Nat → PH → ZL → List ZV → Prop} {Q : PH → List ZV → Prop} {h : PH}    {k n r o : Int} (H : (k = 19 → K 108 h [(0, (2, 169)), (1, (0, k)), (2, (0, n)), (3, (0, r)), (4, (0, o))] []) ∧ (¬ (k = 19) → R32 (h 169 22) → ((h 169 22) ≠ 30 → K 108 h [(0, (2, 169)), (1, (0, k)), (2, (0, n)), (3, (0, r)), (4, (0, o))] []) ∧ (¬ ((h 169 22) ≠ 30) → ∀ h1 v1, CP (zz sl si (7, 0)) mX12_fails h [(2, 169), (0, 6)] h1 [(0, v1)] → v1 = 0 ∨ v1 = 1 → Q h1 [(0, v1)]))) : vc (zz sl si (7, 0)) (fun p => Nat.beq p 44 || Nat.beq p 67 || Nat.beq p 86 || Nat.beq p 108 || Nat.beq p 128 || Nat.beq p 158 || Nat.beq p 233 || Nat.beq p 290) K Q mX12_taleStep 13 86 (ax_jmp mX12_taleStep.2.2.2.2.2.2 86) h [(0, (2, 169)), (1, (0, k)), (2, (0, n)), (3, (0, r)), (4, (0, o))] [] := H
set_option maxRecDepth 10000 in
theorem v_X12_taleStep_108 {sl : Nat} {si : Nat → Int} {K : Nat → PH → ZL → List ZV → Prop} {Q : PH → List ZV → Prop} {h : PH}    {k n r o : Int} (H : (o = 0 → K 128 h [(0, (2, 169)), (1, (0, k)), (2, (0, n)), (3, (0, r)), (4, (0, o))] []) ∧ (¬ (o = 0) → R32 (h 169 21) → ((h 169 21) ≠ 3 → K 128 h [(0, (2, 169)), (1, (0, k)), (2, (0, n)), (3, (0, r)), (4, (0, o))] []) ∧ (¬ ((h 169 21) ≠ 3) → ∀ h1 v1, CP (zz sl si (7, 0)) mX12_fails h [(2, 169), (0, 7)] h1 [(0, v1)] → v1 = 0 ∨ v1 = 1 → Q h1 [(0, v1)]))) : vc (zz sl si (7, 0)) (fun p => Nat.beq p 44 || Nat.beq p 67 || Nat.beq p 86 || Nat.beq p 108 || Nat.beq p 128 || Nat.beq p 158 || Nat.beq p 233 || Nat.beq p 290) K Q mX12_taleStep 12 108 (ax_jmp mX12_taleStep.2.2.2.2.2.2 108) h [(0, (2, 169)), (1, (0, k)), (2, (0, n)), (3, (0, r)), (4, (0, o))] [] := H
set_option maxRecDepth 10000 in
theorem v_X12_taleStep_128 {sl : Nat} {si : Nat → Int} {K : Nat → PH → ZL → List ZV → Prop} {Q : PH → List ZV → Prop} {h : PH}    {k n r o : Int} (H : R32 (h 169 22) → (k ≠ 19 → 0 ≤ r ∧ r < (3696 : Nat) → K 158 (uph (uph h 169 22 (w32 ((h 169 22) + 1))) 170 r.toNat k) [(5, (0, 1)), (0, (2, 169)), (1, (0, k)), (2, (0, n)), (3, (0, r)), (4, (0, o))] []) ∧ (¬ (k ≠ 19) → 0 ≤ r ∧ r < (3696 : Nat) → K 158 (uph (uph h 169 22 (w32 ((h 169 22) + 0))) 170 r.toNat k) [(5, (0, 1)), (0, (2, 169)), (1, (0, k)), (2, (0, n)), (3, (0, r)), (4, (0, o))] [])) : vc (zz sl si (7, 0)) (fun p => Nat.beq p 44 || Nat.beq p 67 || Nat.beq p 86 || Nat.beq p 108 || Nat.beq p 128 || Nat.beq p 158 || Nat.beq p 233 || Nat.beq p 290) K Q mX12_taleStep 19 128 (ax_jmp mX12_taleStep.2.2.2.2.2.2 128) h [(0, (2, 169)), (1, (0, k)), (2, (0, n)), (3, (0, r)), (4, (0, o))] [] := H
set_option maxRecDepth 10000 in
theorem v_X12_taleStep_158 {sl : Nat} {si : Nat → Int} {K : Nat → PH → ZL → List ZV → Prop} {Q : PH → List ZV → Prop} {h : PH}    {k n r o i : Int} (H : ((6 : Int) ≤ i → 0 ≤ (2116 : Int) ∧ (2116 : Int) < (3696 : Nat) → R32 (h 170 2116) → 0 ≤ (2116 : Int) ∧ (2116 : Int) < (3696 : Nat) → ∀ h1, CP (zz sl si (7, 0)) mX12_ahead (uph h 170 2116 (w32 ((h 170 2116) + 1))) [(2, 169)] h1 [] → ∀ h2 v2, CP (zz sl si (7, 0)) mX12_taleOrder h1 [(2, 169), (0, k), (0, r)] h2 [(0, v2)] → v2 = 0 ∨ v2 = 1 → (v2 ≠ 0 → (o = 0 → K 233 h2 [(0, (2, 169)), (1, (0, k)), (2, (0, n)), (3, (0, r)), (4, (0, o)), (5, (0, i))] []) ∧ (¬ (o = 0) → R32 (h2 169 21) → 0 ≤ (h2 169 21) ∧ (h2 169 21) < (3 : Nat) → R32 (h2 169 21) → K 233 (uph (uph h2 177 (h2 169 21).toNat n) 169 21 (w32 ((h2 169 21) + 1))) [(0, (2, 169)), (1, (0, k)), (2, (0, n)), (3, (0, r)), (4, (0, o)), (5, (0, i))] [])) ∧ (¬ (v2 ≠ 0) → Q h2 [(0, 0)])) ∧ (¬ ((6 : Int) ≤ i) → 0 ≤ w32 (r + i) ∧ w32 (r + i) < (3696 : Nat) → K 158 (uph h 170 (w32 (r + i)).toNat 0) [(5, (0, w32 (i + 1))), (0, (2, 169)), (1, (0, k)), (2, (0, n)), (3, (0, r)), (4, (0, o))] [])) : vc (zz sl si (7, 0)) (fun p => Nat.beq p 44 || Nat.beq p 67 || Nat.beq p 86 || Nat.beq p 108 || Nat.beq p 128 || Nat.beq p 158 || Nat.beq p 233 || Nat.beq p 290) K Q mX12_taleStep 34 158 (ax_jmp mX12_taleStep.2.2.2.2.2.2 158) h [(0, (2, 169)), (1, (0, k)), (2, (0, n)), (3, (0, r)), (4, (0, o)), (5, (0, i))] [] := H
set_option maxRecDepth 10000 in
theorem v_X12_taleStep_233 {sl : Nat} {si : Nat → Int} {K : Nat → PH → ZL → List ZV → Prop} {Q : PH → List ZV → Prop} {h : PH}    {k n r o : Int} (H : (k ≠ 19 → K 290 h [(0, (2, 169)), (1, (0, k)), (2, (0, n)), (3, (0, r)), (4, (0, o))] []) ∧ (¬ (k ≠ 19) → R32 (h 169 21) → R32 (w32 ((h 169 21) - 1)) → 0 ≤ (w32 ((h 169 21) - 1)) ∧ (w32 ((h 169 21) - 1)) < (3 : Nat) → R32 (h 177 (w32 ((h 169 21) - 1)).toNat) → 0 ≤ w32 (r + 4) ∧ w32 (r + 4) < (3696 : Nat) → R32 (w32 ((h 169 21) - 1)) → 0 ≤ (w32 ((h 169 21) - 1)) ∧ (w32 ((h 169 21) - 1)) < (3 : Nat) → R32 (h 177 (w32 ((h 169 21) - 1)).toNat) → 0 ≤ w32 ((w32 (2276 + (w32 (6 * (h 177 (w32 ((h 169 21) - 1)).toNat))))) + 4) ∧ w32 ((w32 (2276 + (w32 (6 * (h 177 (w32 ((h 169 21) - 1)).toNat))))) + 4) < (3696 : Nat) → K 290 (uph (uph (uph h 169 21 (w32 ((h 169 21) - 1))) 170 (w32 (r + 4)).toNat (h 177 (w32 ((h 169 21) - 1)).toNat)) 170 (w32 ((w32 (2276 + (w32 (6 * (h 177 (w32 ((h 169 21) - 1)).toNat))))) + 4)).toNat n) [(0, (2, 169)), (1, (0, k)), (2, (0, n)), (3, (0, r)), (4, (0, o))] [])) : vc (zz sl si (7, 0)) (fun p => Nat.beq p 44 || Nat.beq p 67 || Nat.beq p 86 || Nat.beq p 108 || Nat.beq p 128 || Nat.beq p 158 || Nat.beq p 233 || Nat.beq p 290) K Q mX12_taleStep 37 233 (ax_jmp mX12_taleStep.2.2.2.2.2.2 233) h [(0, (2, 169)), (1, (0, k)), (2, (0, n)), (3, (0, r)), (4, (0, o))] [] := H
set_option maxRecDepth 10000 in
theorem v_X12_taleStep_290 {sl : Nat} {si : Nat → Int} {K : Nat → PH → ZL → List ZV → Prop} {Q : PH → List ZV → Prop} {h : PH}    {k n r o : Int} (H : ∀ h1 v1, CP (zz sl si (7, 0)) mX12_wantSign h [(2, 169), (0, 59)] h1 [(0, v1)] → v1 = 0 ∨ v1 = 1 → Q h1 [(0, v1)]) : vc (zz sl si (7, 0)) (fun p => Nat.beq p 44 || Nat.beq p 67 || Nat.beq p 86 || Nat.beq p 108 || Nat.beq p 128 || Nat.beq p 158 || Nat.beq p 233 || Nat.beq p 290) K Q mX12_taleStep 6 290 (ax_jmp mX12_taleStep.2.2.2.2.2.2 290) h [(0, (2, 169)), (1, (0, k)), (2, (0, n)), (3, (0, r)), (4, (0, o))] [] := H
set_option maxHeartbeats 600000 in
theorem c_X12_taleStep {sl : Nat} {si : Nat → Int} {h h' : PH} {T : TX} {s : Nat} {L Y : PH} {v : Int} (hN : RN T h s) (hT : RTt h L Y) (hw : WT Y) (hW : WN L) (hc : CP (zz sl si (7, 0)) mX12_taleStep h [(2, 169)] h' [(0, v)]) : T5 T s L v h' (pTale T L s Y) := by
  have q : (fun (xh : PH) (r : List ZV) => ∀ v : Int, r = [(0, v)] → (T5 T s L v xh (pTale T L s Y))) h' [(0, v)] := by
    refine cp_vc (cut := (fun p => Nat.beq p 44 || Nat.beq p 67 || Nat.beq p 86 || Nat.beq p 108 || Nat.beq p 128 || Nat.beq p 158 || Nat.beq p 233 || Nat.beq p 290)) (K := fun p hx lv st => (p = 44 ∧ lK (fun u : Nat => [(0, (2, 169)), (1, (0, rk T s)), (2, (0, Y 43 2)), (3, (0, 2276 + 6 * Y 43 2)), (4, (0, ooT T s))]) (fun u hx => hx = h) p hx lv st) ∨ (p = 67 ∧ lK (fun u : Nat => [(0, (2, 169)), (1, (0, rk T s)), (2, (0, Y 43 2)), (3, (0, 2276 + 6 * Y 43 2)), (4, (0, ooT T s))]) (fun u hx => hx = h ∧ vk (rk T s)) p hx lv st) ∨ (p = 86 ∧ lK (fun u : Nat => [(0, (2, 169)), (1, (0, rk T s)), (2, (0, Y 43 2)), (3, (0, 2276 + 6 * Y 43 2)), (4, (0, ooT T s))]) (fun u hx => hx = h ∧ vk (rk T s) ∧ (rk T s = 19 → Y 50 4 ≠ 0)) p hx lv st) ∨ (p = 108 ∧ lK (fun u : Nat => [(0, (2, 169)), (1, (0, rk T s)), (2, (0, Y 43 2)), (3, (0, 2276 + 6 * Y 43 2)), (4, (0, ooT T s))]) (fun u hx => hx = h ∧ vk (rk T s) ∧ (rk T s = 19 → Y 50 4 ≠ 0) ∧ (rk T s ≠ 19 → Y 43 1 ≠ 30)) p hx lv st) ∨ (p = 128 ∧ lK (fun u : Nat => [(0, (2, 169)), (1, (0, rk T s)), (2, (0, Y 43 2)), (3, (0, 2276 + 6 * Y 43 2)), (4, (0, ooT T s))]) (fun u hx => hx = h ∧ vk (rk T s) ∧ (rk T s = 19 → Y 50 4 ≠ 0) ∧ (rk T s ≠ 19 → Y 43 1 ≠ 30) ∧ (ooT T s ≠ 0 → Y 50 4 ≠ 3)) p hx lv st) ∨ (p = 158 ∧ lK (fun u : Nat => [(0, (2, 169)), (1, (0, rk T s)), (2, (0, Y 43 2)), (3, (0, 2276 + 6 * Y 43 2)), (4, (0, ooT T s)), (5, (0, (u : Int)))]) (fun u hx => (vk (rk T s) ∧ (rk T s = 19 → Y 50 4 ≠ 0) ∧ (rk T s ≠ 19 → Y 43 1 ≠ 30) ∧ (ooT T s ≠ 0 → Y 50 4 ≠ 3)) ∧ (1 ≤ u ∧ u ≤ 6) ∧ RB hx L Y (Y 43 2) (cntT T s Y) ∧ RN T hx s ∧ hx 170 (2276 + 6 * (Y 43 2).toNat) = rk T s ∧ ∀ i : Nat, 1 ≤ i → i < u → hx 170 (2276 + 6 * (Y 43 2).toNat + i) = 0) p hx lv st) ∨ (p = 233 ∧ lK (fun u : Nat => [(0, (2, 169)), (1, (0, rk T s)), (2, (0, Y 43 2)), (3, (0, 2276 + 6 * Y 43 2)), (4, (0, ooT T s))]) (fun u hx => (rk T s = 19 ∧ RN T hx (nt T s) ∧ RB hx L Y (Y 43 2 + 1) (Y 43 1) ∧ (∀ i : Nat, i < 6 → i ≠ 4 → hx 170 (2276 + 6 * (Y 43 2).toNat + i) = erow 22 0 0 0 i) ∧ 1 ≤ Y 50 4) ∨ (rk T s ≠ 19 ∧ S9 T L Y s hx)) p hx lv st) ∨ (p = 290 ∧ lK (fun u : Nat => [(0, (2, 169)), (1, (0, rk T s)), (2, (0, Y 43 2)), (3, (0, 2276 + 6 * Y 43 2)), (4, (0, ooT T s))]) (fun u hx => S9 T L Y s hx) p hx lv st)) (Q := fun (xh : PH) (r : List ZV) => ∀ v : Int, r = [(0, v)] → (T5 T s L v xh (pTale T L s Y))) (v_X12_taleStep ?_) (fun pc hx lv st hcut hK => ?_) hc
    · exact (fun h1 v1 p1 q1 => (fun b1 r2 => ⟨fun c3 => (by obtain ⟨t1, e1⟩ := c_X12_inWords hN.1 p1; have t1 := t1.symm; subst t1; subst e1; have w := hw; obtain ⟨w1, w2, w3, w4, w5⟩ := w; have rb := hT; obtain ⟨r1, r2, r3, r4, r5, r6, r7⟩ := rb; exact Or.inl (⟨rfl, rfl, 0, rfl, rfl, rfl, by rw [r2]; rfl, by rw [r2, w32_id (z := 6 * Y 43 2) (by omega) (by omega), w32_id (by omega) (by omega)]; rfl, by unfold ooT; rw [if_pos (Or.inl c3)]; rfl, trivial⟩)), fun c3 => ⟨fun c4 => (by obtain ⟨t1, e1⟩ := c_X12_inWords hN.1 p1; have t1 := t1.symm; subst t1; subst e1; have w := hw; obtain ⟨w1, w2, w3, w4, w5⟩ := w; have rb := hT; obtain ⟨r1, r2, r3, r4, r5, r6, r7⟩ := rb; exact Or.inl (⟨rfl, rfl, 0, rfl, rfl, rfl, by rw [r2]; rfl, by rw [r2, w32_id (z := 6 * Y 43 2) (by omega) (by omega), w32_id (by omega) (by omega)]; rfl, by unfold ooT; rw [if_neg (fun z => z.elim c3 c4)]; rfl, trivial⟩)), fun c4 => (by obtain ⟨t1, e1⟩ := c_X12_inWords hN.1 p1; have t1 := t1.symm; subst t1; subst e1; have w := hw; obtain ⟨w1, w2, w3, w4, w5⟩ := w; have rb := hT; obtain ⟨r1, r2, r3, r4, r5, r6, r7⟩ := rb; exact Or.inl (⟨rfl, rfl, 0, rfl, rfl, rfl, by rw [r2]; rfl, by rw [r2, w32_id (z := 6 * Y 43 2) (by omega) (by omega), w32_id (by omega) (by omega)]; rfl, by unfold ooT; rw [if_pos (Or.inr (Classical.not_not.mp c4))]; rfl, trivial⟩))⟩⟩))
    · rcases hK with ⟨rfl, rfl, u, hJ, hs⟩ | ⟨rfl, rfl, u, hJ, hs⟩ | ⟨rfl, rfl, u, hJ, hs⟩ | ⟨rfl, rfl, u, hJ, hs⟩ | ⟨rfl, rfl, u, hJ, hs⟩ | ⟨rfl, rfl, u, hJ, hs⟩ | ⟨rfl, rfl, u, hJ, hs⟩ | ⟨rfl, rfl, u, hJ, hs⟩
      · obtain rfl := hJ
        obtain ⟨w1, w2, w3, w4, w5⟩ := id hw
        obtain ⟨r1, r2, r3, r4, r5, r6, r7⟩ := id hT
        exact ⟨_, _, hs, v_X12_taleStep_44 ⟨fun c1 => (by exact Or.inr (Or.inl (⟨rfl, rfl, 0, ⟨rfl, by unfold vk; omega⟩, rfl, rfl, rfl, rfl, rfl, trivial⟩))), fun c1 => ⟨fun c2 => (fun h1 v1 p1 q1 => (by obtain ⟨a1, a2, a3⟩ := r_fl hN (by omega) p1; intro v e; cases e; exact T5.l (f := (fltk T 2 s, s)) (pT_bad (by unfold vk; omega)) a1 a2)), fun c2 => ⟨fun c3 => (fun h2 v2 p2 q2 => (by obtain ⟨a1, a2, a3⟩ := r_fl hN (by omega) p2; intro v e; cases e; exact T5.l (f := (fltk T 2 s, s)) (pT_bad (by unfold vk; omega)) a1 a2)), fun c3 => ⟨fun c4 => (fun h3 v3 p3 q3 => (by obtain ⟨a1, a2, a3⟩ := r_fl hN (by omega) p3; intro v e; cases e; exact T5.l (f := (fltk T 2 s, s)) (pT_bad (by unfold vk; omega)) a1 a2)), fun c4 => (by exact Or.inr (Or.inl (⟨rfl, rfl, 0, ⟨rfl, by unfold vk; omega⟩, rfl, rfl, rfl, rfl, rfl, trivial⟩)))⟩⟩⟩⟩⟩
      · obtain ⟨rfl, j1⟩ := hJ
        obtain ⟨w1, w2, w3, w4, w5⟩ := id hw
        obtain ⟨r1, r2, r3, r4, r5, r6, r7⟩ := id hT
        exact ⟨_, _, hs, v_X12_taleStep_67 ⟨fun c1 => (by exact Or.inr (Or.inr (Or.inl (⟨rfl, rfl, 0, ⟨rfl, j1, fun z => by omega⟩, rfl, rfl, rfl, rfl, rfl, trivial⟩)))), fun c1 => (fun r2 => ⟨fun c3 => (by exact Or.inr (Or.inr (Or.inl (⟨rfl, rfl, 0, ⟨rfl, j1, fun z => by omega⟩, rfl, rfl, rfl, rfl, rfl, trivial⟩)))), fun c3 => (fun h1 v1 p1 q1 => (by obtain ⟨a1, a2, a3⟩ := r_fl hN (by omega) p1; intro v e; cases e; exact T5.l (f := (fltk T 2 s, s)) (by rw [pT_end (by omega), if_neg (by omega)]; rfl) a1 a2))⟩)⟩⟩
      · obtain ⟨rfl, j1, j2⟩ := hJ
        obtain ⟨w1, w2, w3, w4, w5⟩ := id hw
        obtain ⟨r1, r2, r3, r4, r5, r6, r7⟩ := id hT
        exact ⟨_, _, hs, v_X12_taleStep_86 ⟨fun c1 => (by exact Or.inr (Or.inr (Or.inr (Or.inl (⟨rfl, rfl, 0, ⟨rfl, j1, j2, fun z => by omega⟩, rfl, rfl, rfl, rfl, rfl, trivial⟩))))), fun c1 => (fun r2 => ⟨fun c3 => (by exact Or.inr (Or.inr (Or.inr (Or.inl (⟨rfl, rfl, 0, ⟨rfl, j1, j2, fun z => by omega⟩, rfl, rfl, rfl, rfl, rfl, trivial⟩))))), fun c3 => (fun h1 v1 p1 q1 => (by obtain ⟨a1, a2, a3⟩ := r_fl hN (by omega) p1; intro v e; cases e; exact T5.l (f := (fltk T 6 s, s)) (by rw [pT_y (no22 c1) (vk_st.mpr ⟨j1, c1⟩), if_pos (by omega)]; rfl) a1 a2))⟩)⟩⟩
      · obtain ⟨rfl, j1, j2, j3⟩ := hJ
        obtain ⟨w1, w2, w3, w4, w5⟩ := id hw
        obtain ⟨r1, r2, r3, r4, r5, r6, r7⟩ := id hT
        exact ⟨_, _, hs, v_X12_taleStep_108 ⟨fun c1 => (by exact Or.inr (Or.inr (Or.inr (Or.inr (Or.inl (⟨rfl, rfl, 0, ⟨rfl, j1, j2, j3, fun z => by omega⟩, rfl, rfl, rfl, rfl, rfl, trivial⟩)))))), fun c1 => (fun r2 => ⟨fun c3 => (by exact Or.inr (Or.inr (Or.inr (Or.inr (Or.inl (⟨rfl, rfl, 0, ⟨rfl, j1, j2, j3, fun z => by omega⟩, rfl, rfl, rfl, rfl, rfl, trivial⟩)))))), fun c3 => (fun h1 v1 p1 q1 => (by have oo : rk T s = 17 ∨ rk T s = 18 := Classical.byContradiction (fun z => c1 (ooT_0.mpr z)); have ne : rk T s ≠ 19 := (by omega); have j3 := j3 ne; obtain ⟨a1, a2, a3⟩ := r_fl hN (by omega) p1; intro v e; cases e; exact T5.l (f := (fltk T 7 s, s)) (by rw [pT_y (no22 ne) (vk_st.mpr ⟨j1, ne⟩), if_neg (by omega), cif4_p ⟨op_rk.mp oo, by omega⟩]; rfl) a1 a2))⟩)⟩⟩
      · obtain ⟨rfl, j1, j2, j3, j4⟩ := hJ
        obtain ⟨w1, w2, w3, w4, w5⟩ := id hw
        obtain ⟨r1, r2, r3, r4, r5, r6, r7⟩ := id hT
        exact ⟨_, _, hs, v_X12_taleStep_128 (fun r1 => ⟨fun c2 => (fun b3 => (by have ir : (2276 + 6 * Y 43 2).toNat = 2276 + 6 * (Y 43 2).toNat := (by omega); have E : RB (uph (uph hx 169 22 (w32 (hx 169 22 + 1))) 170 (2276 + 6 * Y 43 2).toNat (rk T s)) L Y (Y 43 2) (cntT T s Y) := hT.fr hw (by rw [up_ne (by omega), up_ne (by omega)]; exact r2) (by rw [up_ne (by omega), up_sm, r3, w32_id (by omega) (by omega)]; unfold cntT; rw [if_neg c2]) (fun c k q => by rw [up_ne (by omega), up_ne (by omega)]); exact Or.inr (Or.inr (Or.inr (Or.inr (Or.inr (Or.inl (⟨rfl, rfl, 1, ⟨⟨j1, j2, j3, j4⟩, by omega, E, hN.k2 (fun c k q => by rw [up_ne (by omega), up_ne (by omega)]), by rw [← ir]; exact up_sm, fun i q1 q2 => absurd q2 (by omega)⟩, rfl, rfl, rfl, rfl, rfl, rfl, trivial⟩)))))))), fun c2 => (fun b4 => (by have ir : (2276 + 6 * Y 43 2).toNat = 2276 + 6 * (Y 43 2).toNat := (by omega); have E : RB (uph (uph hx 169 22 (w32 (hx 169 22 + 0))) 170 (2276 + 6 * Y 43 2).toNat (rk T s)) L Y (Y 43 2) (cntT T s Y) := hT.fr hw (by rw [up_ne (by omega), up_ne (by omega)]; exact r2) (by rw [up_ne (by omega), up_sm, r3, w32_id (by omega) (by omega)]; unfold cntT; rw [if_pos (Classical.not_not.mp c2)]; omega) (fun c k q => by rw [up_ne (by omega), up_ne (by omega)]); exact Or.inr (Or.inr (Or.inr (Or.inr (Or.inr (Or.inl (⟨rfl, rfl, 1, ⟨⟨j1, j2, j3, j4⟩, by omega, E, hN.k2 (fun c k q => by rw [up_ne (by omega), up_ne (by omega)]), by rw [← ir]; exact up_sm, fun i q1 q2 => absurd q2 (by omega)⟩, rfl, rfl, rfl, rfl, rfl, rfl, trivial⟩))))))))⟩)⟩
      · obtain ⟨⟨j1, j2, j3, j4⟩, u1, j5, j6, j7, j8⟩ := hJ
        obtain ⟨w1, w2, w3, w4, w5⟩ := id hw
        exact ⟨_, _, hs, v_X12_taleStep_158 ⟨fun c1 => (fun b2 r3 => (fun b4 => (fun h1 p1 => (fun h2 v2 p2 q2 => ⟨fun c5 => ⟨fun c6 => (by have u6 : u = 6 := (by omega); subst u6; obtain ⟨x1, x2, x3, x4, x5, x6, x7⟩ := id j5; have U0 := j6.k2 (h' := uph hx 170 2116 (w32 (hx 170 2116 + 1))) (fun c k q => up_ne (by omega)); obtain ⟨N1, f1⟩ := r_adv U0 p1; have l1 := nt_b hN.le; have Q1 : ∀ c k : Nat, ¬ (c = 169 ∧ 12 ≤ k ∧ k ≤ 18 ∧ k ≠ 16) → ¬ (c = 170 ∧ k = 2116) → h1 c k = hx c k := (fun c k q1 q2 => (f1 c k q1).trans (up_ne (by omega))); have B1 : RB h1 L Y (Y 43 2 + 1) (cntT T s Y) := j5.fr hw (by rw [f1 170 2116 (by omega), up_sm, x2, w32_id (by omega) (by omega)]) (by rw [Q1 169 22 (by omega) (by omega)]; exact x3) (fun c k q => Q1 c k (by omega) (by omega)); have G1 : ∀ i : Nat, i < 6 → h1 170 (2276 + 6 * (Y 43 2).toNat + i) = hx 170 (2276 + 6 * (Y 43 2).toNat + i) := (fun i hi => Q1 170 _ (by omega) (by omega)); by_cases y : rk T s = 19; (obtain ⟨b1, b2⟩ := c_X12_taleOrder19 y p2; subst b1; have c9 : cntT T s Y = Y 43 1 := if_pos y; rw [c9] at B1; exact Or.inr (Or.inr (Or.inr (Or.inr (Or.inr (Or.inr (Or.inl (⟨rfl, rfl, 0, Or.inl ⟨y, N1, B1, (fun i h6 h4 => by rcases (show i = 0 ∨ i = 1 ∨ i = 2 ∨ i = 3 ∨ i = 5 by omega) with z | z | z | z | z <;> subst z; (rw [G1 0 (by omega)]; exact j7.trans y); (rw [G1 1 (by omega)]; exact j8 1 (by omega) (by omega)); (rw [G1 2 (by omega)]; exact j8 2 (by omega) (by omega)); (rw [G1 3 (by omega)]; exact j8 3 (by omega) (by omega)); (rw [G1 5 (by omega)]; exact j8 5 (by omega) (by omega))), by have := j2 y; omega⟩, rfl, rfl, rfl, rfl, rfl, trivial⟩)))))))); (have ne := y; have c9 : cntT T s Y = Y 43 1 + 1 := if_neg ne; rw [c9] at B1; have P1 : RP h1 L Y (Y 43 1 + 1) (fun i => h1 170 (2276 + 6 * (Y 43 2).toNat + i)) := ⟨B1, fun i _ => rfl⟩; have t := c_X12_taleOrder rfl N1 hw hW rfl P1 ((G1 0 (by omega)).trans j7) (fun i q1 q2 => (G1 i q2).trans (j8 i q1 (by omega))) ⟨j1, ne⟩ p2; have eq := pT_step (L := L) (Y := Y) ne j1 (by have := j3 ne; omega) (fun z => by have := j4 z; omega); unfold qStep at eq; generalize (if kwo T s = 17 then qTest T L (nt T s) (stp Y) else qRest T L (nt T s) (kwo T s) (stp Y)) = R at t eq; match R, t, eq with | .inl q, t, eq => exact absurd t.1 c5 | .inr q, t, eq => (obtain ⟨t0, t1, t2, K, ka, kb, kn, g, t3, t4, t5, t6⟩ := t; have nP : ¬ isP K := (fun z => ooT_0.mp c6 (op_rk.mpr (t6.mp z))); have eq := eq.trans (show _ = semi T q.1 q.2 by show semi T q.1 (cif3 _ (opn q.2) q.2) = _; rw [cif3_n (fun z => ooT_0.mp c6 (op_rk.mpr z))]); rw [t3] at eq; exact Or.inr (Or.inr (Or.inr (Or.inr (Or.inr (Or.inr (Or.inl (⟨rfl, rfl, 0, Or.inr ⟨ne, q.1, _, eq, t1, RTt.ad t4 hw t5 nP, (stp_w hw (by have := j3 ne; omega) A1.ad).1, by omega⟩, rfl, rfl, rfl, rfl, rfl, trivial⟩)))))))))), fun c6 => (fun r7 => (fun b8 => (fun r9 => (by have u6 : u = 6 := (by omega); subst u6; obtain ⟨x1, x2, x3, x4, x5, x6, x7⟩ := id j5; have U0 := j6.k2 (h' := uph hx 170 2116 (w32 (hx 170 2116 + 1))) (fun c k q => up_ne (by omega)); obtain ⟨N1, f1⟩ := r_adv U0 p1; have l1 := nt_b hN.le; have Q1 : ∀ c k : Nat, ¬ (c = 169 ∧ 12 ≤ k ∧ k ≤ 18 ∧ k ≠ 16) → ¬ (c = 170 ∧ k = 2116) → h1 c k = hx c k := (fun c k q1 q2 => (f1 c k q1).trans (up_ne (by omega))); have B1 : RB h1 L Y (Y 43 2 + 1) (cntT T s Y) := j5.fr hw (by rw [f1 170 2116 (by omega), up_sm, x2, w32_id (by omega) (by omega)]) (by rw [Q1 169 22 (by omega) (by omega)]; exact x3) (fun c k q => Q1 c k (by omega) (by omega)); have G1 : ∀ i : Nat, i < 6 → h1 170 (2276 + 6 * (Y 43 2).toNat + i) = hx 170 (2276 + 6 * (Y 43 2).toNat + i) := (fun i hi => Q1 170 _ (by omega) (by omega)); have oo : rk T s = 17 ∨ rk T s = 18 := Classical.byContradiction (fun z => c6 (ooT_0.mpr z)); have ne : rk T s ≠ 19 := (by omega); have c9 : cntT T s Y = Y 43 1 + 1 := if_neg ne; rw [c9] at B1; have P1 : RP h1 L Y (Y 43 1 + 1) (fun i => h1 170 (2276 + 6 * (Y 43 2).toNat + i)) := ⟨B1, fun i _ => rfl⟩; have t := c_X12_taleOrder rfl N1 hw hW rfl P1 ((G1 0 (by omega)).trans j7) (fun i q1 q2 => (G1 i q2).trans (j8 i q1 (by omega))) ⟨j1, ne⟩ p2; have eq := pT_step (L := L) (Y := Y) ne j1 (by have := j3 ne; omega) (fun z => by have := j4 z; omega); unfold qStep at eq; generalize (if kwo T s = 17 then qTest T L (nt T s) (stp Y) else qRest T L (nt T s) (kwo T s) (stp Y)) = R at t eq; match R, t, eq with | .inl q, t, eq => exact absurd t.1 c5 | .inr q, t, eq => (obtain ⟨t0, t1, t2, K, ka, kb, kn, g, t3, t4, t5, t6⟩ := t; have d4 : h2 169 21 = Y 50 4 := t4.1.2.2.2.1; have j4c := j4 c6; have eq := eq.trans (show _ = semi T q.1 (opn q.2) by show semi T q.1 (cif3 _ (opn q.2) q.2) = _; rw [cif3_p (op_rk.mp oo)]); rw [t3] at eq; have o50 : adY (stp Y) K ka kb kn 50 4 = Y 50 4 := (by rw [ad_2 (by omega) (by omega), (stp_n (Y := Y)).2.2.1]); have RO : RTt (uph (uph h2 177 (h2 169 21).toNat (Y 43 2)) 169 21 (w32 (h2 169 21 + 1))) L (opn (adY (stp Y) K ka kb kn)) := RTt.op t4 hw t5 (fun c k q1 q2 => by rw [up_ne (by omega), up_ne (by rw [d4]; omega)]) (by rw [up_sm, d4, w32_id (by omega) (by omega)]) (by rw [up_ne (by omega), d4, up_sm]); exact Or.inr (Or.inr (Or.inr (Or.inr (Or.inr (Or.inr (Or.inl (⟨rfl, rfl, 0, Or.inr ⟨ne, q.1, _, eq, t1.k2 (fun c k q => by rw [up_ne (by omega), up_ne (by omega)]), RO, (stp_w hw (by have := j3 ne; omega) A1.ad).2 (by rw [o50]; omega), by omega⟩, rfl, rfl, rfl, rfl, rfl, trivial⟩))))))))))))⟩, fun c5 => (by have u6 : u = 6 := (by omega); subst u6; obtain ⟨x1, x2, x3, x4, x5, x6, x7⟩ := id j5; have U0 := j6.k2 (h' := uph hx 170 2116 (w32 (hx 170 2116 + 1))) (fun c k q => up_ne (by omega)); obtain ⟨N1, f1⟩ := r_adv U0 p1; have l1 := nt_b hN.le; have Q1 : ∀ c k : Nat, ¬ (c = 169 ∧ 12 ≤ k ∧ k ≤ 18 ∧ k ≠ 16) → ¬ (c = 170 ∧ k = 2116) → h1 c k = hx c k := (fun c k q1 q2 => (f1 c k q1).trans (up_ne (by omega))); have B1 : RB h1 L Y (Y 43 2 + 1) (cntT T s Y) := j5.fr hw (by rw [f1 170 2116 (by omega), up_sm, x2, w32_id (by omega) (by omega)]) (by rw [Q1 169 22 (by omega) (by omega)]; exact x3) (fun c k q => Q1 c k (by omega) (by omega)); have G1 : ∀ i : Nat, i < 6 → h1 170 (2276 + 6 * (Y 43 2).toNat + i) = hx 170 (2276 + 6 * (Y 43 2).toNat + i) := (fun i hi => Q1 170 _ (by omega) (by omega)); intro v e; cases e; by_cases y : rk T s = 19; (obtain ⟨b1, b2⟩ := c_X12_taleOrder19 y p2; exact absurd b2 (by omega)); (have ne := y; have c9 : cntT T s Y = Y 43 1 + 1 := if_neg ne; rw [c9] at B1; have P1 : RP h1 L Y (Y 43 1 + 1) (fun i => h1 170 (2276 + 6 * (Y 43 2).toNat + i)) := ⟨B1, fun i _ => rfl⟩; have t := c_X12_taleOrder rfl N1 hw hW rfl P1 ((G1 0 (by omega)).trans j7) (fun i q1 q2 => (G1 i q2).trans (j8 i q1 (by omega))) ⟨j1, ne⟩ p2; have eq := pT_step (L := L) (Y := Y) ne j1 (by have := j3 ne; omega) (fun z => by have := j4 z; omega); unfold qStep at eq; generalize (if kwo T s = 17 then qTest T L (nt T s) (stp Y) else qRest T L (nt T s) (kwo T s) (stp Y)) = R at t eq; match R, t, eq with | .inl q, t, eq => exact T5.l eq rfl t.2.1 t.2.2 | .inr q, t, eq => exact absurd t.1 (by omega)))⟩)))), fun c1 => (fun b10 => (by have ix := ixrt (j := u) hw rfl (by omega); rw [ix]; have E : RB (uph hx 170 (2276 + 6 * (Y 43 2).toNat + u) 0) L Y (Y 43 2) (cntT T s Y) := j5.fr hw (by rw [up_ne (by omega)]; exact j5.2.1) (by rw [up_ne (by omega)]; exact j5.2.2.1) (fun c k q => by rw [up_ne (by omega)]); exact Or.inr (Or.inr (Or.inr (Or.inr (Or.inr (Or.inl (⟨rfl, rfl, u + 1, ⟨⟨j1, j2, j3, j4⟩, by omega, E, j6.k2 (fun c k q => up_ne (by omega)), by rw [up_ne (by omega)]; exact j7, fun i q1 q2 => (by (by_cases z : i = u; (rw [z, up_sm]); (rw [up_ne (by omega)]; exact j8 i q1 (by omega))))⟩, rfl, rfl, rfl, rfl, rfl, wv (by omega) (by omega) (by omega), trivial⟩))))))))⟩⟩
      · obtain ⟨w1, w2, w3, w4, w5⟩ := id hw
        exact ⟨_, _, hs, v_X12_taleStep_233 ⟨fun c1 => (by rcases hJ with ⟨y, z⟩ | ⟨y, z⟩; (exact absurd y c1); exact Or.inr (Or.inr (Or.inr (Or.inr (Or.inr (Or.inr (Or.inr (⟨rfl, rfl, 0, z, rfl, rfl, rfl, rfl, rfl, trivial⟩)))))))), fun c1 => (fun r2 => (fun r3 => (fun b4 r5 => (fun b6 => (fun r7 => (fun b8 r9 => (fun b10 => (by rcases hJ.symm with ⟨y, z⟩ | ⟨y, N, B, G, h1⟩; (exact absurd y c1); obtain ⟨x1, x2, x3, x4, x5, x6, x7⟩ := id B; have e4 : w32 (hx 169 21 - 1) = Y 50 4 - 1 := (by rw [x4, w32_id (by omega) (by omega)]); have d3 : ((Y 50 4 - 1).toNat : Int) < Y 50 4 := (by omega); have bb := w5 _ d3; have xc := x5 _ d3; rw [e4, xc]; have i1 : (w32 (2276 + 6 * Y 43 2 + 4)).toNat = 2276 + 6 * (Y 43 2).toNat + 4 := ixrt (j := 4) hw rfl (by omega); have i2 : (w32 ((w32 (2276 + (w32 (6 * Y 51 (Y 50 4 - 1).toNat)))) + 4)).toNat = 2276 + 6 * (Y 51 (Y 50 4 - 1).toNat).toNat + 4 := (by rw [w32_id (z := 6 * Y 51 (Y 50 4 - 1).toNat) (by omega) (by omega), w32_id (z := 2276 + 6 * Y 51 (Y 50 4 - 1).toNat) (by omega) (by omega), w32_id (by omega) (by omega)]; omega); rw [i1, i2]; have RC := RTt.cl (c := Y 51 (Y 50 4 - 1).toNat) (h' := uph (uph (uph hx 169 21 (Y 50 4 - 1)) 170 (2276 + 6 * (Y 43 2).toNat + 4) (Y 51 (Y 50 4 - 1).toNat)) 170 (2276 + 6 * (Y 51 (Y 50 4 - 1).toNat).toNat + 4) (Y 43 2)) B hw h1 G rfl (fun c k q1 q2 => by rw [up_ne (by omega), up_ne (by omega), up_ne (by omega)]) (by rw [up_ne (by omega), up_ne (by omega), up_sm]) (by rw [up_ne (by omega), up_sm]) up_sm; have l1 := nt_b hN.le; exact Or.inr (Or.inr (Or.inr (Or.inr (Or.inr (Or.inr (Or.inr (⟨rfl, rfl, 0, ⟨nt T s, cls Y, by rw [pT_end y, if_pos h1], N.k2 (fun c k q => by rw [up_ne (by omega), up_ne (by omega), up_ne (by omega)]), RC, cls_w hw h1, l1.1⟩, rfl, rfl, rfl, rfl, rfl, trivial⟩)))))))))))))))⟩⟩
      · obtain ⟨t, Z, e1, e2, e3, e4, e5⟩ := hJ
        exact ⟨_, _, hs, v_X12_taleStep_290 (fun h1 v1 p1 q1 => (by obtain ⟨a1, a2, a3⟩ := c_X12_wantSign e2 p1; have lt := nt_b e2.le; intro v e; cases e; rw [e1]; unfold semi; rcases q1 with q | q; (obtain ⟨b1, b2⟩ := a2 q; rw [if_neg b1]; exact ⟨q, b2, NmL.f0 e3.1 a3⟩); (obtain ⟨b1, b2⟩ := a1 q; rw [if_pos b1]; have lq := lt.2.2 (by have := b1.1; omega); exact ⟨q, b2, e3.f0 e4 a3, e4, by show s < nt T t; omega⟩)))⟩
  exact q v rfl
end
section
/-! 45z.6g.tales -/
/-! tales() of the reference -/
def JS8 (T : TX) (L : PH) (b : Int) (h : PH) (R : PR) : Prop := (b = 1 ∧ ∃ m s Y, RN T h s ∧ RTt h L Y ∧ WT Y ∧ m ≤ s ∧ m ≤ 300 ∧ ptl T L (300 - m) s Y = R) ∨ (b = 0 ∧ ∃ q, R = .inl q ∧ RF h q.1 q.2)
theorem JS8.st {T : TX} {L Y : PH} {m s : Nat} {v : Int} {h' : PH} {R : PR} (hs : s ≤ T.2) (h3 : T.2 ≤ 300) (us : m ≤ s) (hk : kd T s ≠ 0) (e : ptl T L (300 - m) s Y = R) (t : T5 T s L v h' (pTale T L s Y)) : JS8 T L v h' R := by
  have lt : s < T.2 := by
    have := (nx_b hs).2.2 hk
    have := (nx_b hs).2.1
    omega
  obtain ⟨k, hk2⟩ : ∃ k, 300 - m = k + 1 := ⟨300 - m - 1, by omega⟩
  rw [hk2] at e
  have e : (if kd T s = 0 then tEnd T s Y else sq (pTale T L s Y) (ptl T L k)) = R := e
  rw [if_neg hk] at e
  generalize pTale T L s Y = P at t e
  match P, t, e with
  | .inl q, t, e => exact Or.inr ⟨t.1, q, e.symm, t.2.1⟩
  | .inr q, t, e => exact Or.inl ⟨t.1, m + 1, q.1, q.2, t.2.1, t.2.2.1, t.2.2.2.1, by have := t.2.2.2.2; omega, by omega, by rw [show 300 - (m + 1) = k by omega]; exact e⟩
/-- persons, houses and names are the same -/
def CO12 (b s : Nat) (h : PH) : Prop := (h (b + 1) 0 = h 170 (528 * s) ∧ h b 4 = h 170 (528 * s + 1)) ∧ ((0 ≤ h (b + 1) 0 ∧ h (b + 1) 0 ≤ 7) ∧ (0 ≤ h b 4 ∧ h b 4 ≤ 8)) ∧ (∀ i : Nat, (i : Int) < h (b + 1) 0 → Nm (h (b + 9) i) (h 171 (15 * s + i))) ∧ ∀ p : Nat, (p : Int) < h b 4 → Nm (h (b + 10) p) (h 171 (15 * s + 7 + p))
theorem CO12.cp {b s b' s' : Nat} {h h' : PH} (hc : CO12 b s h) (e1 : h' b' 4 = h b 4) (e0 : h' (b' + 1) 0 = h (b + 1) 0) (e2 : ∀ k : Nat, k < 7 → h' (b' + 9) k = h (b + 9) k) (e3 : ∀ k : Nat, k < 8 → h' (b' + 10) k = h (b + 10) k) (e4 : ∀ k : Nat, k < 2 → h' 170 (528 * s' + k) = h 170 (528 * s + k)) (e5 : ∀ k : Nat, k < 15 → h' 171 (15 * s' + k) = h 171 (15 * s + k)) : CO12 b' s' h' := by
  obtain ⟨⟨a1, a2⟩, ⟨a3, a4⟩, a5, a6⟩ := hc
  have x0 : h' 170 (528 * s') = h 170 (528 * s) := e4 0 (by omega)
  refine ⟨⟨by rw [e0, x0]; exact a1, by rw [e1, e4 1 (by omega)]; exact a2⟩, ⟨by rw [e0]; exact a3, by rw [e1]; exact a4⟩, fun i hi => ?_, fun p hp => ?_⟩
  · rw [e0] at hi
    rw [e2 i (by omega), e5 i (by omega)]
    exact a5 i hi
  · rw [e1] at hp
    rw [e3 p (by omega), show 15 * s' + 7 + p = 15 * s' + (7 + p) by omega, e5 _ (by omega), show 15 * s + (7 + p) = 15 * s + 7 + p by omega]
    exact a6 p hp
theorem CO12.of {b s : Nat} {h L : PH} (x : CLx b h L) (r : RLd (528 * s) (15 * s) h L) (w : WL L) : CO12 b s h := by
  have e1 : h b 4 = L 0 4 := x 0 4 (Or.inl ⟨rfl, Or.inl rfl⟩) (by omega) (by omega)
  have e0 : h (b + 1) 0 = L 1 0 := x 1 0 (il1 (by decide)) (by omega) (by omega)
  have w0 := w.1
  have w1 := w.2.1
  refine ⟨⟨by rw [e0, r.1.1], by rw [e1, r.1.2.1]⟩, ⟨by rw [e0]; exact w0, by rw [e1]; exact w1⟩, fun i hi => ?_, fun p hp => ?_⟩
  · rw [e0] at hi
    rw [x 9 i (il9 (by omega)) (by omega) (by omega)]
    exact r.2.2.2.2.2.1 i hi
  · rw [e1] at hp
    rw [x 10 p (il10 (by omega)) (by omega) (by omega)]
    exact r.2.2.2.2.2.2 p hp
theorem Frm.c2 {F : List (Nat × Int × Int)} {h h' : PH} (hF : Frm F h h') {b s : Nat} (hc : CO12 b s h) (e1 : (b, 4, 4) ∈ F) (e0 : (b + 1, 0, 0) ∈ F) (e2 : (b + 9, 0, 6) ∈ F) (e3 : (b + 10, 0, 7) ∈ F) (e4 : ∀ k : Nat, k < 2 → h' 170 (528 * s + k) = h 170 (528 * s + k)) (e5 : ∀ k : Nat, k < 15 → h' 171 (15 * s + k) = h 171 (15 * s + k)) : CO12 b s h' :=
  hc.cp (fmat hF e1 4 (by omega) (by omega)) (fmat hF e0 0 (by omega) (by omega)) (fun k hk => fmat hF e2 k (by omega) (by omega)) (fun k hk => fmat hF e3 k (by omega) (by omega)) e4 e5
section PR
variable {sl : Nat} {si : Nat → Int} {h h1 h2 : PH} {a b c d e v w : Int}
end PR
end
section
/-! 45z.7a.roads -/
/-! BITS of any number -/
def bB (x : Int) (i : Nat) : Bool := (Int32.ofInt x).toBitVec.getLsbD i
theorem bB_and {x y : Int} {i : Nat} : bB (zand x y) i = (bB x i && bB y i) := by
  unfold bB zand
  rw [Int32.ofInt_toInt, Int32.toBitVec_and, BitVec.getLsbD_and]
theorem bB_or {x y : Int} {i : Nat} : bB (zor x y) i = (bB x i || bB y i) := by
  unfold bB zor
  rw [Int32.ofInt_toInt, Int32.toBitVec_or, BitVec.getLsbD_or]
theorem bB_xor {x y : Int} {i : Nat} : bB (zxor x y) i = (bB x i ^^ bB y i) := by
  unfold bB zxor
  rw [Int32.ofInt_toInt, Int32.toBitVec_xor, BitVec.getLsbD_xor]
theorem bB_m1 {i : Nat} (h : i < 32) : bB (-1) i = true := by
  have : ∀ i : Nat, i < 32 → bB (-1) i = true := by decide
  exact this i h
theorem bB_0 {i : Nat} (h : i < 32) : bB 0 i = false := by
  have : ∀ i : Nat, i < 32 → bB 0 i = false := by decide
  exact this i h
theorem bB_one {a i : Nat} (ha : a < 8) (hi : i < 8) : bB (zshl 1 (a : Int)) i = decide (i = a) := by
  have : ∀ a : Nat, a < 8 → ∀ i : Nat, i < 8 → bB (zshl 1 (a : Int)) i = decide (i = a) := by decide
  exact this a ha i hi
theorem bv1 (b : BitVec 32) : (b &&& 1#32).toInt = if b.getLsbD 0 then 1 else 0 := by
  have e : b &&& 1#32 = if b.getLsbD 0 then 1#32 else 0#32 := by
    apply BitVec.eq_of_getLsbD_eq
    intro i hi
    rw [BitVec.getLsbD_and]
    cases h : b.getLsbD 0
    · simp
      by_cases z : i = 0
      · subst z; rw [h]; simp
      · simp [z]
    · simp
      by_cases z : i = 0
      · subst z; rw [h]; simp
      · simp [z]
  rw [e]
  cases b.getLsbD 0 <;> decide
theorem shr_bB (x : Int) {i : Nat} (h : i < 8) : bB (zshr x (i : Int)) 0 = bB x i := by
  unfold bB zshr
  rw [Int32.ofInt_toInt, Int32.toBitVec_shiftRight]
  rcases (show i = 0 ∨ i = 1 ∨ i = 2 ∨ i = 3 ∨ i = 4 ∨ i = 5 ∨ i = 6 ∨ i = 7 by omega) with z | z | z | z | z | z | z | z <;> subst z <;> simp [BitVec.getElem_sshiftRight]
theorem bt_bB (x : Int) {i : Nat} (h : i < 8) : zand (zshr x (i : Int)) 1 = if bB x i then 1 else 0 := by
  have e := shr_bB x h
  unfold zand
  rw [show (Int32.ofInt (zshr x i) &&& Int32.ofInt 1).toInt = ((Int32.ofInt (zshr x i)).toBitVec &&& 1#32).toInt from rfl, bv1]
  unfold bB at e ⊢
  rw [e]
theorem bt_1 {x : Int} {i : Nat} (h : i < 8) : zand (zshr x (i : Int)) 1 = 1 ↔ bB x i = true := by
  rw [bt_bB x h]
  cases bB x i <;> simp
theorem bB_not {x : Int} {i : Nat} (h : i < 32) : bB (zxor x (-1)) i = !bB x i := by
  rw [bB_xor, bB_m1 h]
  cases bB x i <;> rfl
/-! ROADS: the search of the class -/
/-- the doors of a set of HOUSES; d, r: where doors, ROADS lie -/
noncomputable def arC (h : PH) (d : Nat) (s : Int) : Nat → Int
  | 0 => 0
  | k + 1 => if zand (zshr s k) 1 = 1 then zor (arC h d s k) (h d k) else arC h d s k
theorem arC_c {h h' : PH} {d : Nat} {s : Int} : ∀ {n : Nat}, (∀ k : Nat, k < n → h' d k = h d k) → arC h' d s n = arC h d s n
  | 0, _ => rfl
  | k + 1, e => by
    show (if _ then zor (arC h' d s k) (h' d k) else arC h' d s k) = _
    rw [arC_c (fun i hi => e i (by omega)), e k (by omega)]
    rfl
theorem arC_b {h : PH} {d : Nat} {s : Int} {t : Nat} (ht : t < 8) : ∀ {n : Nat}, n ≤ 8 → (bB (arC h d s n) t = true ↔ ∃ a, a < n ∧ bB s a = true ∧ bB (h d a) t = true)
  | 0, _ => by
    show bB 0 t = true ↔ _
    rw [bB_0 (by omega)]
    exact ⟨fun z => (by cases z), fun ⟨a, x, _⟩ => by omega⟩
  | k + 1, hn => by
    have i := arC_b (h := h) (d := d) (s := s) ht (n := k) (by omega)
    show bB (if zand (zshr s k) 1 = 1 then zor (arC h d s k) (h d k) else arC h d s k) t = true ↔ _
    by_cases c : bB s k = true
    · rw [if_pos ((bt_1 (by omega)).mpr c), bB_or, Bool.or_eq_true, i]
      constructor
      · rintro (⟨a, x, y⟩ | z)
        · exact ⟨a, by omega, y⟩
        · exact ⟨k, by omega, c, z⟩
      · rintro ⟨a, x, y, z⟩
        by_cases e : a = k
        · rw [e] at z; exact Or.inr z
        · exact Or.inl ⟨a, by omega, y, z⟩
    · rw [if_neg (fun z => c ((bt_1 (by omega)).mp z)), i]
      constructor
      · rintro ⟨a, x, y⟩; exact ⟨a, by omega, y⟩
      · rintro ⟨a, x, y, z⟩
        by_cases e : a = k
        · rw [e] at y; exact absurd y c
        · exact ⟨a, by omega, y, z⟩
/-- the edge behind k steps, what was seen -/
noncomputable def esC (h : PH) (r d : Nat) (a : Int) : Nat → Int × Int
  | 0 => (zshl 1 a, zshl 1 a)
  | k + 1 => (zand (zand (arC h d (esC h r d a k).1 (h r 0).toNat) (zxor (esC h r d a k).2 (-1))) (zxor (h r 1) (-1)), zor (esC h r d a k).2 (zand (zand (arC h d (esC h r d a k).1 (h r 0).toNat) (zxor (esC h r d a k).2 (-1))) (zxor (h r 1) (-1))))
theorem esC_c {h h' : PH} {r d : Nat} {a : Int} (e0 : h' r 0 = h r 0) (e1 : h' r 1 = h r 1) (hn : h r 0 ≤ 7) (ed : ∀ k : Nat, k < 7 → h' d k = h d k) : ∀ k : Nat, esC h' r d a k = esC h r d a k
  | 0 => rfl
  | k + 1 => by
    show (_, _) = (_, _)
    rw [esC_c e0 e1 hn ed k, e0, e1, arC_c (fun i hi => ed i (by omega))]
/-- the lengths below k -/
noncomputable def leC (h : PH) (r d : Nat) (a : Int) (t : Nat) : Nat → Int
  | 0 => -1
  | k + 1 => if zand (zshr (esC h r d a k).1 t) 1 = 1 then (k : Int) else leC h r d a t k
theorem leC_c {h h' : PH} {r d : Nat} {a : Int} {t : Nat} (e0 : h' r 0 = h r 0) (e1 : h' r 1 = h r 1) (hn : h r 0 ≤ 7) (ed : ∀ k : Nat, k < 7 → h' d k = h d k) : ∀ k : Nat, leC h' r d a t k = leC h r d a t k
  | 0 => rfl
  | k + 1 => by
    show (if _ then (k : Int) else leC h' r d a t k) = _
    rw [leC_c e0 e1 hn ed k, esC_c e0 e1 hn ed k]
    rfl
theorem leC_b {h : PH} {r d : Nat} {a : Int} {t : Nat} : ∀ k : Nat, -1 ≤ leC h r d a t k ∧ leC h r d a t k ≤ k
  | 0 => by
    show (-1 : Int) ≤ -1 ∧ (-1 : Int) ≤ _
    omega
  | k + 1 => by
    have i := leC_b (h := h) (r := r) (d := d) (a := a) (t := t) k
    show -1 ≤ (if _ then (k : Int) else leC h r d a t k) ∧ (if _ then (k : Int) else leC h r d a t k) ≤ _
    split <;> omega
/-- the HOUSE next on a shortest WAY, out of those below k; q: where the lengths lie -/
noncomputable def lnC (h : PH) (r d q f t : Nat) : Nat → Int
  | 0 => -1
  | k + 1 => if lnC h r d q f t k = -1 ∧ 0 < h q (7 * f + t) ∧ zand (zshr (zand (h d f) (zxor (h r 1) (-1))) k) 1 = 1 ∧ h q (7 * k + t) = h q (7 * f + t) - 1 then (k : Int) else lnC h r d q f t k
noncomputable def nxC (h : PH) (r d q f t : Nat) : Int := if lnC h r d q f t (h r 0).toNat = -1 then (f : Int) else lnC h r d q f t (h r 0).toNat
theorem lnC_c {h h' : PH} {r d q f t : Nat} (e1 : h' r 1 = h r 1) (ed : h' d f = h d f) (el : ∀ k : Nat, h' q k = h q k) : ∀ k : Nat, lnC h' r d q f t k = lnC h r d q f t k
  | 0 => rfl
  | k + 1 => by
    show (if _ then (k : Int) else lnC h' r d q f t k) = _
    rw [lnC_c e1 ed el k, e1, ed, el, el]
    rfl
theorem ix7 {a : Int} {k : Nat} (h0 : 0 ≤ a) (h1 : a ≤ 7) (hk : k ≤ 8) : (w32 ((w32 (a * 7)) + (k : Int))).toNat = 7 * a.toNat + k := by
  rw [w32_id (z := a * 7) (by omega) (by omega), w32_id (by omega) (by omega)]
  omega
set_option maxRecDepth 10000 in
theorem v_X11_hasB {sl : Nat} {si : Nat → Int} {K : Nat → PH → ZL → List ZV → Prop} {Q : PH → List ZV → Prop} {h : PH} {a b : Int} (H : ((zand (zshr a b) 1) ≠ 1 → Q h [(0, 0)]) ∧ (¬ ((zand (zshr a b) 1) ≠ 1) → Q h [(0, 1)])) : vc (zz sl si (7, 0)) (fun _ => false) K Q mX11_has 12 0 mX11_has.2.2.2.2.2.2 h [(0, (0, a)), (1, (0, b))] [] := H
set_option maxHeartbeats 600000 in
theorem c_X11_hasB {sl : Nat} {si : Nat → Int} {h h' : PH} {a b : Int} {v : Int} (hc : CP (zz sl si (7, 0)) mX11_has h [(0, a), (0, b)] h' [(0, v)]) : h' = h ∧ (v = 1 ↔ zand (zshr a b) 1 = 1) := by
  have q : (fun (xh : PH) (r : List ZV) => ∀ v : Int, r = [(0, v)] → (xh = h ∧ (v = 1 ↔ zand (zshr a b) 1 = 1))) h' [(0, v)] := by
    refine cp_vc (cut := (fun _ => false)) (K := fun p hx lv st => False) (Q := fun (xh : PH) (r : List ZV) => ∀ v : Int, r = [(0, v)] → (xh = h ∧ (v = 1 ↔ zand (zshr a b) 1 = 1))) (v_X11_hasB ?_) (fun pc hx lv st hcut hK => ?_) hc
    · exact ⟨fun c1 => (by intro v e; cases e; exact ⟨rfl, ⟨fun z => by omega, fun z => absurd z c1⟩⟩), fun c1 => (by intro v e; cases e; exact ⟨rfl, ⟨fun _ => Classical.not_not.mp c1, fun _ => rfl⟩⟩)⟩
    · exact hK.elim
  exact q v rfl
set_option maxRecDepth 10000 in
theorem v_X5_around5 {sl : Nat} {si : Nat → Int} {K : Nat → PH → ZL → List ZV → Prop} {Q : PH → List ZV → Prop} {h : PH} {s : Int} (H : K 4 h [(3, (0, 0)), (2, (0, 0)), (0, (2, 6)), (1, (0, s))] []) : vc (zz sl si (7, 0)) (fun p => Nat.beq p 4) K Q mX5_around 6 0 mX5_around.2.2.2.2.2.2 h [(0, (2, 6)), (1, (0, s))] [] := H
set_option maxRecDepth 10000 in
theorem v_X5_around5_4 {sl : Nat} {si : Nat → Int} {K : Nat → PH → ZL → List ZV → Prop} {Q : PH → List ZV → Prop} {h : PH} {s : Int} {v k : Int} (H : R32 (h 6 0) → ((h 6 0) ≤ k → Q h [(0, v)]) ∧ (¬ ((h 6 0) ≤ k) → ((zand (zshr s k) 1) ≠ 1 → K 4 h [(3, (0, w32 (k + 1))), (0, (2, 6)), (1, (0, s)), (2, (0, v))] []) ∧ (¬ ((zand (zshr s k) 1) ≠ 1) → 0 ≤ k ∧ k < (7 : Nat) → R32 (h 7 k.toNat) → K 4 h [(3, (0, w32 (k + 1))), (2, (0, zor v (h 7 k.toNat))), (0, (2, 6)), (1, (0, s))] []))) : vc (zz sl si (7, 0)) (fun p => Nat.beq p 4) K Q mX5_around 22 4 (ax_jmp mX5_around.2.2.2.2.2.2 4) h [(0, (2, 6)), (1, (0, s)), (2, (0, v)), (3, (0, k))] [] := H
set_option maxHeartbeats 600000 in
theorem c_X5_around5 {sl : Nat} {si : Nat → Int} {h h' : PH} {s : Int} {v : Int} (hn : 0 ≤ h 6 0 ∧ h 6 0 ≤ 7) (hc : CP (zz sl si (7, 0)) mX5_around h [(2, 6), (0, s)] h' [(0, v)]) : h' = h ∧ v = arC h 7 s (h 6 0).toNat := by
  have q : (fun (xh : PH) (r : List ZV) => ∀ v : Int, r = [(0, v)] → (xh = h ∧ v = arC h 7 s (h 6 0).toNat)) h' [(0, v)] := by
    refine cp_vc (cut := (fun p => Nat.beq p 4)) (K := fun p hx lv st => (p = 4 ∧ lK (fun u : Nat => [(0, (2, 6)), (1, (0, s)), (2, (0, arC h 7 s u)), (3, (0, (u : Int)))]) (fun u hx => (u : Int) ≤ h 6 0 ∧ hx = h) p hx lv st)) (Q := fun (xh : PH) (r : List ZV) => ∀ v : Int, r = [(0, v)] → (xh = h ∧ v = arC h 7 s (h 6 0).toNat)) (v_X5_around5 ?_) (fun pc hx lv st hcut hK => ?_) hc
    · exact (by exact ⟨rfl, rfl, 0, ⟨by omega, rfl⟩, rfl, rfl, rfl, rfl, trivial⟩)
    · rcases hK with ⟨rfl, rfl, u, hJ, hs⟩
      · obtain ⟨j1, j2⟩ := hJ
        subst j2
        exact ⟨_, _, hs, v_X5_around5_4 (fun r1 => ⟨fun c2 => (by intro v e; cases e; have eu : (hx 6 0).toNat = u := (by omega); exact ⟨rfl, by rw [eu]⟩), fun c2 => ⟨fun c3 => (by have e : arC hx 7 s (u + 1) = arC hx 7 s u := if_neg c3; exact ⟨rfl, rfl, u + 1, ⟨by omega, rfl⟩, rfl, rfl, (by rw [e]; rfl), wv (by omega) (by omega) (by omega), trivial⟩), fun c3 => (fun b4 r5 => (by have e : arC hx 7 s (u + 1) = zor (arC hx 7 s u) (hx 7 u) := if_pos (Classical.not_not.mp c3); rw [Int.toNat_natCast]; exact ⟨rfl, rfl, u + 1, ⟨by omega, rfl⟩, rfl, rfl, (by rw [e]; rfl), wv (by omega) (by omega) (by omega), trivial⟩))⟩⟩)⟩
  exact q v rfl
set_option maxRecDepth 10000 in
theorem v_X5_measureL5 {sl : Nat} {si : Nat → Int} {K : Nat → PH → ZL → List ZV → Prop} {Q : PH → List ZV → Prop} {h : PH} {a : Int} (H : K 9 h [(4, (0, 0)), (3, (0, zshl 1 a)), (2, (0, zshl 1 a)), (0, (2, 6)), (1, (0, a))] []) : vc (zz sl si (7, 0)) (fun p => Nat.beq p 9 || Nat.beq p 40 || Nat.beq p 52) K Q mX5_measureFrom 10 0 mX5_measureFrom.2.2.2.2.2.2 h [(0, (2, 6)), (1, (0, a))] [] := H
set_option maxRecDepth 10000 in
theorem v_X5_measureL5_9 {sl : Nat} {si : Nat → Int} {K : Nat → PH → ZL → List ZV → Prop} {Q : PH → List ZV → Prop} {h : PH} {a : Int} {e s k : Int} (H : R32 (h 6 0) → ((h 6 0) ≤ k → K 40 h [(4, (0, 0)), (0, (2, 6)), (1, (0, a)), (2, (0, e)), (3, (0, s))] []) ∧ (¬ ((h 6 0) ≤ k) → 0 ≤ w32 ((w32 (a * 7)) + k) ∧ w32 ((w32 (a * 7)) + k) < (49 : Nat) → K 9 (uph h 8 (w32 ((w32 (a * 7)) + k)).toNat (-1)) [(4, (0, w32 (k + 1))), (0, (2, 6)), (1, (0, a)), (2, (0, e)), (3, (0, s))] [])) : vc (zz sl si (7, 0)) (fun p => Nat.beq p 9 || Nat.beq p 40 || Nat.beq p 52) K Q mX5_measureFrom 17 9 (ax_jmp mX5_measureFrom.2.2.2.2.2.2 9) h [(0, (2, 6)), (1, (0, a)), (2, (0, e)), (3, (0, s)), (4, (0, k))] [] := H
set_option maxRecDepth 10000 in
theorem v_X5_measureL5_40 {sl : Nat} {si : Nat → Int} {K : Nat → PH → ZL → List ZV → Prop} {Q : PH → List ZV → Prop} {h : PH} {a : Int} {e s k : Int} (H : R32 (h 6 0) → ((h 6 0) ≤ k → Q h []) ∧ (¬ ((h 6 0) ≤ k) → K 52 h [(5, (0, 0)), (0, (2, 6)), (1, (0, a)), (2, (0, e)), (3, (0, s)), (4, (0, k))] [])) : vc (zz sl si (7, 0)) (fun p => Nat.beq p 9 || Nat.beq p 40 || Nat.beq p 52) K Q mX5_measureFrom 8 40 (ax_jmp mX5_measureFrom.2.2.2.2.2.2 40) h [(0, (2, 6)), (1, (0, a)), (2, (0, e)), (3, (0, s)), (4, (0, k))] [] := H
set_option maxRecDepth 10000 in
theorem v_X5_measureL5_52 {sl : Nat} {si : Nat → Int} {K : Nat → PH → ZL → List ZV → Prop} {Q : PH → List ZV → Prop} {h : PH} {a : Int} {e s k m : Int} (H : R32 (h 6 0) → ((h 6 0) ≤ m → ∀ h1 v1, CP (zz sl si (7, 0)) mX5_around h [(2, 6), (0, e)] h1 [(0, v1)] → R32 v1 → R32 (h1 6 1) → K 40 h1 [(4, (0, w32 (k + 1))), (3, (0, zor s (zand (zand v1 (zxor s (-1))) (zxor (h1 6 1) (-1))))), (2, (0, zand (zand v1 (zxor s (-1))) (zxor (h1 6 1) (-1)))), (0, (2, 6)), (1, (0, a)), (5, (0, m))] []) ∧ (¬ ((h 6 0) ≤ m) → ∀ h2 v2, CP (zz sl si (7, 0)) mX11_has h [(0, e), (0, m)] h2 [(0, v2)] → v2 = 0 ∨ v2 = 1 → (v2 = 0 → K 52 h2 [(5, (0, w32 (m + 1))), (0, (2, 6)), (1, (0, a)), (2, (0, e)), (3, (0, s)), (4, (0, k))] []) ∧ (¬ (v2 = 0) → 0 ≤ w32 ((w32 (a * 7)) + m) ∧ w32 ((w32 (a * 7)) + m) < (49 : Nat) → K 52 (uph h2 8 (w32 ((w32 (a * 7)) + m)).toNat k) [(5, (0, w32 (m + 1))), (0, (2, 6)), (1, (0, a)), (2, (0, e)), (3, (0, s)), (4, (0, k))] []))) : vc (zz sl si (7, 0)) (fun p => Nat.beq p 9 || Nat.beq p 40 || Nat.beq p 52) K Q mX5_measureFrom 25 52 (ax_jmp mX5_measureFrom.2.2.2.2.2.2 52) h [(0, (2, 6)), (1, (0, a)), (2, (0, e)), (3, (0, s)), (4, (0, k)), (5, (0, m))] [] := H
set_option maxHeartbeats 600000 in
theorem c_X5_measureL5 {sl : Nat} {si : Nat → Int} {h h' : PH} {a : Int} (hn : 0 ≤ h 6 0 ∧ h 6 0 ≤ 7) (ha : 0 ≤ a ∧ a < h 6 0) (hc : CP (zz sl si (7, 0)) mX5_measureFrom h [(2, 6), (0, a)] h' []) : (∀ t : Nat, (t : Int) < h 6 0 → h' 8 (7 * a.toNat + t) = leC h 6 7 a t (h 6 0).toNat) ∧ (∀ c k : Nat, ¬ (c = 8 ∧ 7 * a.toNat ≤ k ∧ k < 7 * a.toNat + 7) → h' c k = h c k) := by
  have q : (fun (xh : PH) (r : List ZV) => (∀ t : Nat, (t : Int) < h 6 0 → xh 8 (7 * a.toNat + t) = leC h 6 7 a t (h 6 0).toNat) ∧ (∀ c k : Nat, ¬ (c = 8 ∧ 7 * a.toNat ≤ k ∧ k < 7 * a.toNat + 7) → xh c k = h c k)) h' [] := by
    refine cp_vc (cut := (fun p => Nat.beq p 9 || Nat.beq p 40 || Nat.beq p 52)) (K := fun p hx lv st => (p = 9 ∧ lK (fun u : Nat => [(0, (2, 6)), (1, (0, a)), (2, (0, (esC h 6 7 a 0).1)), (3, (0, (esC h 6 7 a 0).2)), (4, (0, (u : Int)))]) (fun u hx => (u : Int) ≤ h 6 0 ∧ (∀ t : Nat, t < u → hx 8 (7 * a.toNat + t) = -1) ∧ (∀ c k : Nat, ¬ (c = 8 ∧ 7 * a.toNat ≤ k ∧ k < 7 * a.toNat + 7) → hx c k = h c k)) p hx lv st) ∨ (p = 40 ∧ lK (fun u : Nat => [(0, (2, 6)), (1, (0, a)), (2, (0, (esC h 6 7 a u).1)), (3, (0, (esC h 6 7 a u).2)), (4, (0, (u : Int)))]) (fun u hx => (u : Int) ≤ h 6 0 ∧ (∀ t : Nat, (t : Int) < h 6 0 → hx 8 (7 * a.toNat + t) = leC h 6 7 a t u) ∧ (∀ c k : Nat, ¬ (c = 8 ∧ 7 * a.toNat ≤ k ∧ k < 7 * a.toNat + 7) → hx c k = h c k)) p hx lv st) ∨ (p = 52 ∧ lN2 (fun u1 u2 : Nat => [(0, (2, 6)), (1, (0, a)), (2, (0, (esC h 6 7 a u1).1)), (3, (0, (esC h 6 7 a u1).2)), (4, (0, (u1 : Int))), (5, (0, (u2 : Int)))]) (fun u1 u2 hx => (u1 : Int) < h 6 0 ∧ (u2 : Int) ≤ h 6 0 ∧ (∀ t : Nat, (t : Int) < h 6 0 → hx 8 (7 * a.toNat + t) = if t < u2 then leC h 6 7 a t (u1 + 1) else leC h 6 7 a t u1) ∧ (∀ c k : Nat, ¬ (c = 8 ∧ 7 * a.toNat ≤ k ∧ k < 7 * a.toNat + 7) → hx c k = h c k)) p hx lv st)) (Q := fun (xh : PH) (r : List ZV) => (∀ t : Nat, (t : Int) < h 6 0 → xh 8 (7 * a.toNat + t) = leC h 6 7 a t (h 6 0).toNat) ∧ (∀ c k : Nat, ¬ (c = 8 ∧ 7 * a.toNat ≤ k ∧ k < 7 * a.toNat + 7) → xh c k = h c k)) (v_X5_measureL5 ?_) (fun pc hx lv st hcut hK => ?_) hc
    · exact (by exact Or.inl ⟨rfl, rfl, 0, ⟨by omega, fun t z => by omega, fun c k z => rfl⟩, rfl, rfl, rfl, rfl, rfl, trivial⟩)
    · rcases hK with ⟨rfl, rfl, u, hJ, hs⟩ | ⟨rfl, rfl, u, hJ, hs⟩ | ⟨rfl, rfl, u1, u2, hJ, hs⟩
      · obtain ⟨j1, j2, j3⟩ := hJ
        have r0 : hx 6 0 = h 6 0 := j3 6 0 (by omega)
        exact ⟨_, _, hs, v_X5_measureL5_9 (fun r1 => ⟨fun c2 => (by rw [r0] at c2; exact Or.inr (Or.inl ⟨rfl, rfl, 0, ⟨by omega, fun t z => j2 t (by omega), j3⟩, rfl, rfl, rfl, rfl, rfl, trivial⟩)), fun c2 => (fun b3 => (by rw [r0] at c2; have ix := ix7 (a := a) (k := u) (by omega) (by omega) (by omega); rw [ix]; exact Or.inl ⟨rfl, rfl, u + 1, ⟨by omega, fun t z => (by (by_cases y : t = u; (rw [y, up_sm]); (rw [up_ne (by omega)]; exact j2 t (by omega)))), fun c k z => by rw [up_ne (by omega)]; exact j3 c k z⟩, rfl, rfl, rfl, rfl, wv (by omega) (by omega) (by omega), trivial⟩))⟩)⟩
      · obtain ⟨j1, j2, j3⟩ := hJ
        have r0 : hx 6 0 = h 6 0 := j3 6 0 (by omega)
        exact ⟨_, _, hs, v_X5_measureL5_40 (fun r1 => ⟨fun c2 => (by rw [r0] at c2; have eu : (h 6 0).toNat = u := (by omega); exact ⟨fun t z => by rw [eu]; exact j2 t z, j3⟩), fun c2 => (by rw [r0] at c2; exact Or.inr (Or.inr ⟨rfl, rfl, u, 0, ⟨by omega, by omega, fun t z => by rw [if_neg (by omega)]; exact j2 t z, j3⟩, rfl, rfl, rfl, rfl, rfl, rfl, trivial⟩))⟩)⟩
      · obtain ⟨j1, j2, j3, j4⟩ := hJ
        have r0 : hx 6 0 = h 6 0 := j4 6 0 (by omega)
        have rr1 : hx 6 1 = h 6 1 := j4 6 1 (by omega)
        exact ⟨_, _, hs, v_X5_measureL5_52 (fun r1 => ⟨fun c2 => (fun h1 v1 p1 q1 => (fun r3 => (by rw [r0] at c2; obtain ⟨t1, w1⟩ := c_X5_around5 (by rw [r0]; exact hn) p1; have t1 := t1.symm; subst t1; rw [r0, arC_c (fun k z => j4 7 k (by omega))] at w1; rw [w1, rr1]; exact Or.inr (Or.inl ⟨rfl, rfl, u1 + 1, ⟨by omega, fun t z => (by (have y := j3 t z; rw [if_pos (by omega)] at y; exact y)), j4⟩, rfl, rfl, rfl, rfl, wv (by omega) (by omega) (by omega), trivial⟩)))), fun c2 => (fun h2 v2 p2 q2 => by obtain ⟨t2, e2⟩ := c_X11_hasB p2; have t2 := t2.symm; subst t2; exact ⟨fun c4 => (by rw [r0] at c2; have nb : ¬ zand (zshr (esC h 6 7 a u1).1 u2) 1 = 1 := (fun z => by have := e2.mpr z; omega); exact Or.inr (Or.inr ⟨rfl, rfl, u1, u2 + 1, ⟨by omega, by omega, fun t z => (by (have y := j3 t z; by_cases e : t = u2; (rw [if_neg (by omega)] at y; rw [if_pos (by omega), y, e]; exact (if_neg nb).symm); (by_cases e3 : t < u2; (rw [if_pos e3] at y; rw [if_pos (by omega)]; exact y); (rw [if_neg e3] at y; rw [if_neg (by omega)]; exact y)))), j4⟩, rfl, rfl, rfl, rfl, rfl, wv (by omega) (by omega) (by omega), trivial⟩)), fun c4 => (fun b5 => (by rw [r0] at c2; have nb : zand (zshr (esC h 6 7 a u1).1 u2) 1 = 1 := e2.mp (by omega); have ix := ix7 (a := a) (k := u2) (by omega) (by omega) (by omega); rw [ix]; exact Or.inr (Or.inr ⟨rfl, rfl, u1, u2 + 1, ⟨by omega, by omega, fun t z => (by (by_cases e : t = u2; (rw [if_pos (by omega), e, up_sm]; exact (if_pos nb).symm); (rw [up_ne (by omega)]; have y := j3 t z; by_cases e3 : t < u2; (rw [if_pos e3] at y; rw [if_pos (by omega)]; exact y); (rw [if_neg e3] at y; rw [if_neg (by omega)]; exact y)))), fun c k z => by rw [up_ne (by omega)]; exact j4 c k z⟩, rfl, rfl, rfl, rfl, rfl, wv (by omega) (by omega) (by omega), trivial⟩)))⟩)⟩)⟩
  exact q
set_option maxRecDepth 10000 in
theorem v_X5_distance5 {sl : Nat} {si : Nat → Int} {K : Nat → PH → ZL → List ZV → Prop} {Q : PH → List ZV → Prop} {h : PH} {a b : Int} (H : 0 ≤ w32 ((w32 (a * 7)) + b) ∧ w32 ((w32 (a * 7)) + b) < (49 : Nat) → R32 (h 8 (w32 ((w32 (a * 7)) + b)).toNat) → Q h [(0, (h 8 (w32 ((w32 (a * 7)) + b)).toNat))]) : vc (zz sl si (7, 0)) (fun _ => false) K Q mX5_distance 11 0 mX5_distance.2.2.2.2.2.2 h [(0, (2, 6)), (1, (0, a)), (2, (0, b))] [] := H
set_option maxHeartbeats 600000 in
theorem c_X5_distance5 {sl : Nat} {si : Nat → Int} {h h' : PH} {a b : Int} {v : Int} (ha : 0 ≤ a ∧ a ≤ 6) (hb : 0 ≤ b ∧ b ≤ 6) (hc : CP (zz sl si (7, 0)) mX5_distance h [(2, 6), (0, a), (0, b)] h' [(0, v)]) : h' = h ∧ v = h 8 (7 * a.toNat + b.toNat) := by
  have q : (fun (xh : PH) (r : List ZV) => ∀ v : Int, r = [(0, v)] → (xh = h ∧ v = h 8 (7 * a.toNat + b.toNat))) h' [(0, v)] := by
    refine cp_vc (cut := (fun _ => false)) (K := fun p hx lv st => False) (Q := fun (xh : PH) (r : List ZV) => ∀ v : Int, r = [(0, v)] → (xh = h ∧ v = h 8 (7 * a.toNat + b.toNat))) (v_X5_distance5 ?_) (fun pc hx lv st hcut hK => ?_) hc
    · exact (fun b1 r2 => (by intro v e; cases e; have ix := ix7 (a := a) (k := b.toNat) (by omega) (by omega) (by omega); rw [show ((b.toNat : Nat) : Int) = b by omega] at ix; rw [ix]; exact ⟨rfl, rfl⟩))
    · exact hK.elim
  exact q v rfl
set_option maxRecDepth 10000 in
theorem v_X5_nextHouse5 {sl : Nat} {si : Nat → Int} {K : Nat → PH → ZL → List ZV → Prop} {Q : PH → List ZV → Prop} {h : PH} {a b : Int} (H : 0 ≤ w32 ((w32 (a * 7)) + b) ∧ w32 ((w32 (a * 7)) + b) < (49 : Nat) → R32 (h 9 (w32 ((w32 (a * 7)) + b)).toNat) → Q h [(0, (h 9 (w32 ((w32 (a * 7)) + b)).toNat))]) : vc (zz sl si (7, 0)) (fun _ => false) K Q mX5_nextHouse 11 0 mX5_nextHouse.2.2.2.2.2.2 h [(0, (2, 6)), (1, (0, a)), (2, (0, b))] [] := H
set_option maxHeartbeats 600000 in
theorem c_X5_nextHouse5 {sl : Nat} {si : Nat → Int} {h h' : PH} {a b : Int} {v : Int} (ha : 0 ≤ a ∧ a ≤ 6) (hb : 0 ≤ b ∧ b ≤ 6) (hc : CP (zz sl si (7, 0)) mX5_nextHouse h [(2, 6), (0, a), (0, b)] h' [(0, v)]) : h' = h ∧ v = h 9 (7 * a.toNat + b.toNat) := by
  have q : (fun (xh : PH) (r : List ZV) => ∀ v : Int, r = [(0, v)] → (xh = h ∧ v = h 9 (7 * a.toNat + b.toNat))) h' [(0, v)] := by
    refine cp_vc (cut := (fun _ => false)) (K := fun p hx lv st => False) (Q := fun (xh : PH) (r : List ZV) => ∀ v : Int, r = [(0, v)] → (xh = h ∧ v = h 9 (7 * a.toNat + b.toNat))) (v_X5_nextHouse5 ?_) (fun pc hx lv st hcut hK => ?_) hc
    · exact (fun b1 r2 => (by intro v e; cases e; have ix := ix7 (a := a) (k := b.toNat) (by omega) (by omega) (by omega); rw [show ((b.toNat : Nat) : Int) = b by omega] at ix; rw [ix]; exact ⟨rfl, rfl⟩))
    · exact hK.elim
  exact q v rfl
set_option maxRecDepth 10000 in
theorem v_X5_leastNext5 {sl : Nat} {si : Nat → Int} {K : Nat → PH → ZL → List ZV → Prop} {Q : PH → List ZV → Prop} {h : PH} {a b : Int} (H : ∀ h1 v1, CP (zz sl si (7, 0)) mX5_distance h [(2, 6), (0, a), (0, b)] h1 [(0, v1)] → R32 v1 → K 10 h1 [(4, (0, 0)), (3, (0, v1)), (0, (2, 6)), (1, (0, a)), (2, (0, b))] []) : vc (zz sl si (7, 0)) (fun p => Nat.beq p 10) K Q mX5_leastNext 9 0 mX5_leastNext.2.2.2.2.2.2 h [(0, (2, 6)), (1, (0, a)), (2, (0, b))] [] := H
set_option maxRecDepth 10000 in
theorem v_X5_leastNext5_10 {sl : Nat} {si : Nat → Int} {K : Nat → PH → ZL → List ZV → Prop} {Q : PH → List ZV → Prop} {h : PH} {a b : Int} {w k : Int} (H : R32 (h 6 0) → ((h 6 0) ≤ k → Q h [(0, a)]) ∧ (¬ ((h 6 0) ≤ k) → (w ≤ 0 → Q h [(0, a)]) ∧ (¬ (w ≤ 0) → 0 ≤ a ∧ a < (7 : Nat) → R32 (h 7 a.toNat) → R32 (h 6 1) → ∀ h1 v1, CP (zz sl si (7, 0)) mX11_has h [(0, zand (h 7 a.toNat) (zxor (h 6 1) (-1))), (0, k)] h1 [(0, v1)] → v1 = 0 ∨ v1 = 1 → (v1 = 0 → K 10 h1 [(4, (0, w32 (k + 1))), (0, (2, 6)), (1, (0, a)), (2, (0, b)), (3, (0, w))] []) ∧ (¬ (v1 = 0) → ∀ h2 v2, CP (zz sl si (7, 0)) mX5_distance h1 [(2, 6), (0, k), (0, b)] h2 [(0, v2)] → R32 v2 → (v2 ≠ (w32 (w - 1)) → K 10 h2 [(4, (0, w32 (k + 1))), (0, (2, 6)), (1, (0, a)), (2, (0, b)), (3, (0, w))] []) ∧ (¬ (v2 ≠ (w32 (w - 1))) → Q h2 [(0, k)]))))) : vc (zz sl si (7, 0)) (fun p => Nat.beq p 10) K Q mX5_leastNext 30 10 (ax_jmp mX5_leastNext.2.2.2.2.2.2 10) h [(0, (2, 6)), (1, (0, a)), (2, (0, b)), (3, (0, w)), (4, (0, k))] [] := H
set_option maxHeartbeats 600000 in
theorem c_X5_leastNext5 {sl : Nat} {si : Nat → Int} {h h' : PH} {a b : Int} {v : Int} (hn : 0 ≤ h 6 0 ∧ h 6 0 ≤ 7) (ha : 0 ≤ a ∧ a ≤ 6) (hb : 0 ≤ b ∧ b ≤ 6) (hl : -1 ≤ h 8 (7 * a.toNat + b.toNat) ∧ h 8 (7 * a.toNat + b.toNat) ≤ 7) (hc : CP (zz sl si (7, 0)) mX5_leastNext h [(2, 6), (0, a), (0, b)] h' [(0, v)]) : h' = h ∧ v = nxC h 6 7 8 a.toNat b.toNat := by
  have q : (fun (xh : PH) (r : List ZV) => ∀ v : Int, r = [(0, v)] → (xh = h ∧ v = nxC h 6 7 8 a.toNat b.toNat)) h' [(0, v)] := by
    refine cp_vc (cut := (fun p => Nat.beq p 10)) (K := fun p hx lv st => (p = 10 ∧ lK (fun u : Nat => [(0, (2, 6)), (1, (0, a)), (2, (0, b)), (3, (0, h 8 (7 * a.toNat + b.toNat))), (4, (0, (u : Int)))]) (fun u hx => (u : Int) ≤ h 6 0 ∧ hx = h ∧ lnC h 6 7 8 a.toNat b.toNat u = -1) p hx lv st)) (Q := fun (xh : PH) (r : List ZV) => ∀ v : Int, r = [(0, v)] → (xh = h ∧ v = nxC h 6 7 8 a.toNat b.toNat)) (v_X5_leastNext5 ?_) (fun pc hx lv st hcut hK => ?_) hc
    · exact (fun h1 v1 p1 q1 => (by obtain ⟨t1, w1⟩ := c_X5_distance5 ha hb p1; have t1 := t1.symm; subst t1; exact ⟨rfl, rfl, 0, ⟨by omega, rfl, rfl⟩, rfl, rfl, rfl, (by rw [w1]; rfl), rfl, trivial⟩))
    · rcases hK with ⟨rfl, rfl, u, hJ, hs⟩
      · obtain ⟨j1, j2, j3⟩ := hJ
        subst j2
        have lb := hl
        exact ⟨_, _, hs, v_X5_leastNext5_10 (fun r1 => ⟨fun c2 => (by intro v e; cases e; have eu : (hx 6 0).toNat = u := (by omega); exact ⟨rfl, by unfold nxC; rw [eu, if_pos j3]; omega⟩), fun c2 => ⟨fun c3 => (by intro v e; cases e; have no : ∀ k : Nat, lnC hx 6 7 8 a.toNat b.toNat k = -1 := (fun k => by induction k with | zero => rfl | succ k i => exact (if_neg (fun z => by have := z.2.1; omega)).trans i); exact ⟨rfl, by unfold nxC; rw [if_pos (no _)]; omega⟩), fun c3 => (fun b4 r5 => (fun r6 => (fun h1 v1 p1 q1 => by obtain ⟨t1, e1⟩ := c_X11_hasB p1; have t1 := t1.symm; subst t1; exact ⟨fun c7 => (by have e : lnC hx 6 7 8 a.toNat b.toNat (u + 1) = -1 := (if_neg (fun z => by have := e1.mpr z.2.2.1; omega)).trans j3; exact ⟨rfl, rfl, u + 1, ⟨by omega, rfl, e⟩, rfl, rfl, rfl, rfl, wv (by omega) (by omega) (by omega), trivial⟩), fun c7 => (fun h2 v2 p2 q2 => ⟨fun c8 => (by obtain ⟨t2, w2⟩ := c_X5_distance5 (by omega) hb p2; have t2 := t2.symm; subst t2; rw [w32_id (by omega) (by omega), w2, Int.toNat_natCast] at c8; have e : lnC hx 6 7 8 a.toNat b.toNat (u + 1) = -1 := (if_neg (fun z => c8 z.2.2.2)).trans j3; exact ⟨rfl, rfl, u + 1, ⟨by omega, rfl, e⟩, rfl, rfl, rfl, rfl, wv (by omega) (by omega) (by omega), trivial⟩), fun c8 => (by obtain ⟨t2, w2⟩ := c_X5_distance5 (by omega) hb p2; have t2 := t2.symm; subst t2; rw [w32_id (by omega) (by omega), w2, Int.toNat_natCast] at c8; have y : lnC hx 6 7 8 a.toNat b.toNat (u + 1) = (u : Int) := if_pos ⟨j3, by omega, e1.mp (by omega), Classical.not_not.mp c8⟩; have st : ∀ m : Nat, lnC hx 6 7 8 a.toNat b.toNat (u + 1 + m) = (u : Int) := (fun m => by induction m with | zero => exact y | succ m i => exact (if_neg (fun z => by have := i.symm.trans z.1; omega)).trans i); intro v e; cases e; have em := st ((hx 6 0).toNat - (u + 1)); rw [show u + 1 + ((hx 6 0).toNat - (u + 1)) = (hx 6 0).toNat by omega] at em; exact ⟨rfl, by unfold nxC; rw [em, if_neg (by omega)]⟩)⟩)⟩)))⟩⟩)⟩
  exact q v rfl
end
section
/-! 45z.7b.level -/
/-! LEVELS of the search by lengths -/
section LVS
variable {n f : Nat} {dr : Nat → Nat → Prop} {cl : Nat → Prop}
theorem lvS_le : ∀ k t : Nat, lvS n dr cl f k t ≤ k ∨ lvS n dr cl f k t = 1000000
  | 0, t => by
    show (if t = f then (0 : Int) else 1000000) ≤ ((0 : Nat) : Int) ∨ (if t = f then (0 : Int) else 1000000) = 1000000
    by_cases c : t = f
    · rw [if_pos c]; omega
    · rw [if_neg c]; omega
  | k + 1, t => by
    have i := lvS_le k t
    by_cases c : lvS n dr cl f k t = 1000000 ∧ t < n ∧ ¬ cl t ∧ ∃ a, a < n ∧ lvS n dr cl f k a = (k : Int) ∧ dr a t
    · have e : lvS n dr cl f (k + 1) t = ((k + 1 : Nat) : Int) := cif_p c
      rw [e]; omega
    · have e : lvS n dr cl f (k + 1) t = lvS n dr cl f k t := cif_n c
      rw [e]; omega
theorem lvS_0 : ∀ k t : Nat, 0 ≤ lvS n dr cl f k t
  | 0, t => by
    show 0 ≤ (if t = f then (0 : Int) else 1000000)
    split <;> omega
  | k + 1, t => by
    have i := lvS_0 k t
    by_cases c : lvS n dr cl f k t = 1000000 ∧ t < n ∧ ¬ cl t ∧ ∃ a, a < n ∧ lvS n dr cl f k a = (k : Int) ∧ dr a t
    · have e : lvS n dr cl f (k + 1) t = ((k + 1 : Nat) : Int) := cif_p c
      rw [e]; omega
    · have e : lvS n dr cl f (k + 1) t = lvS n dr cl f k t := cif_n c
      rw [e]; exact i
/-- a level found stays -/
theorem lvS_st {k t : Nat} (h : lvS n dr cl f k t ≠ 1000000) : ∀ j : Nat, lvS n dr cl f (k + j) t = lvS n dr cl f k t
  | 0 => rfl
  | j + 1 => by
    have i := lvS_st h j
    have e : lvS n dr cl f (k + j + 1) t = lvS n dr cl f (k + j) t := cif_n (fun z => h (i.symm.trans z.1))
    exact e.trans i
/-- how many are found -/
noncomputable def ctS (n : Nat) (g : Nat → Int) : Nat → Nat
  | 0 => 0
  | m + 1 => ctS n g m + (if g m ≠ 1000000 then 1 else 0)
theorem ctS_le {g : Nat → Int} : ∀ m : Nat, ctS n g m ≤ m
  | 0 => Nat.le_refl _
  | m + 1 => by
    have i := ctS_le (g := g) m
    show ctS n g m + (if g m ≠ 1000000 then 1 else 0) ≤ m + 1
    split <;> omega
theorem ctS_mo {g g' : Nat → Int} (e : ∀ t : Nat, g t ≠ 1000000 → g' t ≠ 1000000) : ∀ m : Nat, ctS n g m ≤ ctS n g' m
  | 0 => Nat.le_refl _
  | m + 1 => by
    have i := ctS_mo e m
    show ctS n g m + (if g m ≠ 1000000 then 1 else 0) ≤ ctS n g' m + (if g' m ≠ 1000000 then 1 else 0)
    by_cases c : g m ≠ 1000000
    · rw [if_pos c, if_pos (e m c)]; omega
    · rw [if_neg c]; omega
theorem ctS_lt {g g' : Nat → Int} {t : Nat} (e : ∀ t : Nat, g t ≠ 1000000 → g' t ≠ 1000000) (h1 : g t = 1000000) (h2 : g' t ≠ 1000000) : ∀ m : Nat, t < m → ctS n g m + 1 ≤ ctS n g' m
  | 0, ht => by omega
  | m + 1, ht => by
    show ctS n g m + (if g m ≠ 1000000 then 1 else 0) + 1 ≤ ctS n g' m + (if g' m ≠ 1000000 then 1 else 0)
    by_cases z : t = m
    · rw [z] at h1 h2
      rw [if_neg (fun q => q h1), if_pos h2]
      have := ctS_mo (n := n) e m
      omega
    · have i := ctS_lt e h1 h2 m (by omega)
      by_cases c : g m ≠ 1000000
      · rw [if_pos c, if_pos (e m c)]; omega
      · rw [if_neg c]; omega
/-- a level that is there needs so many -/
theorem lvS_ct (hf : f < n) : ∀ k : Nat, k < 999999 → (∃ t, t < n ∧ lvS n dr cl f k t = (k : Int)) → k + 1 ≤ ctS n (fun t => lvS n dr cl f k t) n
  | 0, _, _ => by
    have z : ∀ m : Nat, f < m → 1 ≤ ctS n (fun t => lvS n dr cl f 0 t) m := fun m => by
      induction m with
      | zero => intro q; omega
      | succ m i =>
        intro q
        show 1 ≤ ctS n _ m + (if lvS n dr cl f 0 m ≠ 1000000 then 1 else 0)
        by_cases c : f = m
        · rw [if_pos (by rw [← c]; show (if f = f then (0 : Int) else 1000000) ≠ 1000000; rw [if_pos rfl]; omega)]; omega
        · have := i (by omega); omega
    exact z n hf
  | k + 1, hk, ⟨t, ht, e⟩ => by
    have C : lvS n dr cl f k t = 1000000 ∧ t < n ∧ ¬ cl t ∧ ∃ a, a < n ∧ lvS n dr cl f k a = (k : Int) ∧ dr a t := Classical.byContradiction (fun c => by
      have e2 : lvS n dr cl f (k + 1) t = lvS n dr cl f k t := cif_n c
      have := lvS_le (n := n) (dr := dr) (cl := cl) (f := f) k t
      by_cases q : lvS n dr cl f k t = 1000000
      · rw [e2, q] at e
        omega
      · omega)
    obtain ⟨c1, -, -, a, ha, c2, -⟩ := C
    have i := lvS_ct hf k (by omega) ⟨a, ha, c2⟩
    have l := ctS_lt (n := n) (g := fun t => lvS n dr cl f k t) (g' := fun t => lvS n dr cl f (k + 1) t) (t := t) (fun x hx => by have s := lvS_st hx 1; show lvS n dr cl f (k + 1) x ≠ 1000000; rw [s]; exact hx) c1 (by show lvS n dr cl f (k + 1) t ≠ 1000000; rw [e]; have i2 := lvS_le (n := n) (dr := dr) (cl := cl) (f := f) k t; omega) n ht
    omega
end LVS
/-! what the search of the class finds -/
section LV
variable {h : PH} {r d f : Nat}
/-- the edge and what was seen are those of the search by lengths -/
theorem es_lv (hn : 0 ≤ h r 0 ∧ h r 0 ≤ 7) (hf : (f : Int) < h r 0) : ∀ k : Nat, k ≤ 8 → ∀ t : Nat, (t : Int) < h r 0 → (bB (esC h r d (f : Int) k).1 t = true ↔ lvS (h r 0).toNat (fun i j => bB (h d i) j = true) (fun j => bB (h r 1) j = true) f k t = (k : Int)) ∧ (bB (esC h r d (f : Int) k).2 t = true ↔ lvS (h r 0).toNat (fun i j => bB (h d i) j = true) (fun j => bB (h r 1) j = true) f k t ≠ 1000000)
  | 0, _, t, ht => by
    have e : bB (zshl 1 (f : Int)) t = decide (t = f) := bB_one (by omega) (by omega)
    show (bB (zshl 1 (f : Int)) t = true ↔ (if t = f then (0 : Int) else 1000000) = ((0 : Nat) : Int)) ∧ (bB (zshl 1 (f : Int)) t = true ↔ (if t = f then (0 : Int) else 1000000) ≠ 1000000)
    rw [e]
    by_cases c : t = f
    · rw [if_pos c]; simp [c]
    · rw [if_neg c]; simp [c]
  | k + 1, hk, t, ht => by
    have I := es_lv hn hf k (by omega)
    obtain ⟨i1, i2⟩ := I t ht
    have A : bB (zand (zand (arC h d (esC h r d (f : Int) k).1 (h r 0).toNat) (zxor (esC h r d (f : Int) k).2 (-1))) (zxor (h r 1) (-1))) t = true ↔ (lvS (h r 0).toNat (fun i j => bB (h d i) j = true) (fun j => bB (h r 1) j = true) f k t = 1000000 ∧ t < (h r 0).toNat ∧ ¬ bB (h r 1) t = true ∧ ∃ a, a < (h r 0).toNat ∧ lvS (h r 0).toNat (fun i j => bB (h d i) j = true) (fun j => bB (h r 1) j = true) f k a = (k : Int) ∧ bB (h d a) t = true) := by
      rw [bB_and, bB_and, bB_not (by omega), bB_not (by omega), Bool.and_eq_true, Bool.and_eq_true, arC_b (by omega) (by omega)]
      constructor
      · rintro ⟨⟨⟨a, x, y, z⟩, u⟩, w⟩
        refine ⟨Classical.byContradiction (fun q => ?_), by omega, fun q => ?_, a, x, (I a (by omega)).1.mp y, z⟩
        · rw [i2.mpr q] at u; cases u
        · rw [q] at w; cases w
      · rintro ⟨u, -, w, a, x, y, z⟩
        refine ⟨⟨⟨a, x, (I a (by omega)).1.mpr y, z⟩, ?_⟩, ?_⟩
        · cases q : bB (esC h r d (f : Int) k).2 t with
          | false => rfl
          | true => exact absurd u (i2.mp q)
        · cases q : bB (h r 1) t with
          | false => rfl
          | true => exact absurd q w
    have lt : lvS (h r 0).toNat (fun i j => bB (h d i) j = true) (fun j => bB (h r 1) j = true) f k t ≤ k ∨ lvS (h r 0).toNat (fun i j => bB (h d i) j = true) (fun j => bB (h r 1) j = true) f k t = 1000000 := lvS_le k t
    refine ⟨A.trans ?_, ?_⟩
    · constructor
      · intro q; exact cif_p q
      · intro q
        by_cases c : (lvS (h r 0).toNat (fun i j => bB (h d i) j = true) (fun j => bB (h r 1) j = true) f k t = 1000000 ∧ t < (h r 0).toNat ∧ ¬ bB (h r 1) t = true ∧ ∃ a, a < (h r 0).toNat ∧ lvS (h r 0).toNat (fun i j => bB (h d i) j = true) (fun j => bB (h r 1) j = true) f k a = (k : Int) ∧ bB (h d a) t = true)
        · exact c
        · have e := (cif_n (y := lvS (h r 0).toNat (fun i j => bB (h d i) j = true) (fun j => bB (h r 1) j = true) f k t) (x := ((k + 1 : Nat) : Int)) c).symm.trans q
          omega
    · show bB (zor (esC h r d (f : Int) k).2 _) t = true ↔ _
      rw [bB_or, Bool.or_eq_true, i2, A]
      by_cases c : (lvS (h r 0).toNat (fun i j => bB (h d i) j = true) (fun j => bB (h r 1) j = true) f k t = 1000000 ∧ t < (h r 0).toNat ∧ ¬ bB (h r 1) t = true ∧ ∃ a, a < (h r 0).toNat ∧ lvS (h r 0).toNat (fun i j => bB (h d i) j = true) (fun j => bB (h r 1) j = true) f k a = (k : Int) ∧ bB (h d a) t = true)
      · have e : lvS (h r 0).toNat (fun i j => bB (h d i) j = true) (fun j => bB (h r 1) j = true) f (k + 1) t = ((k + 1 : Nat) : Int) := cif_p c
        rw [e]
        exact ⟨fun _ => by omega, fun _ => Or.inr c⟩
      · have e : lvS (h r 0).toNat (fun i j => bB (h d i) j = true) (fun j => bB (h r 1) j = true) f (k + 1) t = lvS (h r 0).toNat (fun i j => bB (h d i) j = true) (fun j => bB (h r 1) j = true) f k t := cif_n c
        rw [e]
        exact ⟨fun z => z.elim (fun q => q) (fun q => absurd q c), fun q => Or.inl q⟩
end LV
end
