section
/-! 45z.9a.run -/
/-! live(): a life in the class, all -/
def DIM (M L : PH) : Prop := M 1 0 = L 1 0 ∧ M 0 4 = L 0 4 ∧ (∀ k, M 9 k = L 9 k) ∧ ∀ k, M 10 k = L 10 k
theorem DIM.rf (L : PH) : DIM L L := ⟨rfl, rfl, fun _ => rfl, fun _ => rfl⟩
theorem DIM.tr {N M L : PH} (b : DIM N M) (a : DIM M L) : DIM N L := ⟨b.1.trans a.1, b.2.1.trans a.2.1, fun k => (b.2.2.1 k).trans (a.2.2.1 k), fun k => (b.2.2.2 k).trans (a.2.2.2 k)⟩
theorem okw.c {L L' : PH} {K a b n : Int} (w : okw L K a b n) (e0 : L' 1 0 = L 1 0) (e4 : L' 0 4 = L 0 4) : okw L' K a b n := by
  unfold okw hL0 pL0 at *; rw [e0, e4]; exact w
theorem WYc.c {L L' Y : PH} (w : WYc L Y) (e0 : L' 1 0 = L 1 0) (e4 : L' 0 4 = L 0 4) : WYc L' Y := ⟨w.1, fun k hk => (w.2.1 k hk).c e0 e4, w.2.2⟩
theorem lstp_m {L M M' Y : PH} {k k' x x' d d' m m' : Int} {T T' : Nat → Int} (w : WYc L Y) (wM : W10 M) (t : lstp Y (k, M, x, T, d, m) (k', M', x', T', d', m')) : DIM M' M := by
  obtain ⟨h, -, -, t21, t22, tw, t23, tr⟩ := t
  dsimp only at h t21 t22 tw t23 tr
  have kk := (w.ok k.toNat (by omega)).1
  by_cases c21 : Y 44 k.toNat = 21
  · rw [show M' = M from (t21 c21).1.1]; exact DIM.rf M
  by_cases c22 : Y 44 k.toNat = 22
  · rw [show M' = M from (t22 c22).1.1]; exact DIM.rf M
  by_cases cw : Y 44 k.toNat = 18 ∨ Y 44 k.toNat = 19 ∨ Y 44 k.toNat = 20
  · rw [show M' = M from (tw cw).1.1]; exact DIM.rf M
  by_cases c23 : Y 44 k.toNat = 23
  · rw [show M' = M from (t23 c23).1.1]; exact DIM.rf M
  obtain ⟨-, -, v, -, -, q, -⟩ := tr (by clear tr; omega)
  exact dnL_k q (by clear q tr; omega) wM
def RUN5 (h L Y : PH) (a p i : Int) (hx : PH) : Prop := ∃ n d M, trL Y n (0, L, a, h 90, 0, 0) (p, M, hx 89 7, hx 90, d, hx 89 2) ∧ (CL 5 hx M ∧ W10 M ∧ DIM M L) ∧ (0 ≤ hx 89 7 ∧ hx 89 7 ≤ 65535) ∧ hx 89 1 = d ∧ (0 ≤ hx 89 2 ∧ hx 89 2 ≤ d ∧ d ≤ 300) ∧ (0 ≤ p ∧ p ≤ Y 43 2) ∧ ENk Y (hx 90) p ∧ (0 ≤ i ∧ i + phi Y (hx 90) p ≤ 100 * d) ∧ (hx 89 0 = 1 ∧ hx 89 3 = w32 (-(L 0 12)) ∧ hx 89 4 = w32 (-(L 0 13)) ∧ hx 89 5 = w32 (-(bnS (L 0 7))) ∧ hx 89 6 = 0) ∧ ∀ c k : Nat, ¬ (5 ≤ c ∧ c ≤ 20) → c ≠ 89 → c ≠ 90 → hx c k = h c k
def LIVD (h xh L Y : PH) (a : Int) : Prop := ∃ n k M x T d m, trL Y n (0, L, a, h 90, 0, 0) (k, M, x, T, d, m) ∧ fin Y (k, M, x, T, d, m) ∧ (CL 5 xh M ∧ W10 M ∧ DIM M L) ∧ (xh 89 0 = 1 ∧ xh 89 1 = d ∧ xh 89 2 = m ∧ xh 89 3 = w32 (M 0 12 - L 0 12) ∧ xh 89 4 = w32 (M 0 13 - L 0 13) ∧ xh 89 5 = w32 (bnS (M 0 7) - bnS (L 0 7)) ∧ (xh 89 6 = 0 ∧ Y 43 2 ≤ k ∨ xh 89 6 = 1 ∧ k < Y 43 2)) ∧ ∀ c k : Nat, ¬ (5 ≤ c ∧ c ≤ 20) → c ≠ 89 → c ≠ 90 → xh c k = h c k
section RUN
variable {h hx g L Y : PH} {a p i v : Int}
theorem phi_0 {T : Nat → Int} : phi Y T 0 = 0 := by
  have z : ∀ o, phe Y T 0 o = 0 := fun o => phe_n (fun q => by have := q.1; omega)
  unfold phi
  have : ∀ n, phS (phe Y T 0) n = 0 := fun n => by
    induction n with
    | zero => rfl
    | succ n ih => show phS (phe Y T 0) n + phe Y T 0 n = 0; rw [ih, z]; rfl
  exact this 60
theorem RUN5.mi (r : RUN5 h L Y a p i hx) : i < 1000000 := by
  obtain ⟨n, d, M, -, -, -, -, b, -, e, c, -⟩ := r
  have := phi_nn e
  omega
theorem RUN5.st (r : RUN5 h L Y a p i hx) (w : WYc L Y) (h60 : Y 43 2 ≤ 60) (hs : CS 21 h Y) (hp : p < Y 43 2) {e : Int} (he : Y 44 p.toNat = 22 → e = 0) (he2 : Y 44 p.toNat ≠ 22 → e = 1 ∧ hx 89 1 < 300) {h3 : PH} {sl : Nat} {si : Nat → Int} (hc : CP (zz sl si (7, 0)) mX3_placeBehind (uph hx 89 1 (w32 (hx 89 1 + e))) [(2, 89), (2, 21), (2, 5), (0, p)] h3 [(0, v)]) : RUN5 h L Y a v (w32 (i + 1)) h3 := by
  have i6 := r.mi
  obtain ⟨n, d, M, tr, ⟨a1, a2, a3⟩, ax, ad, am, ap, ae, ai, a0, af⟩ := r
  have F : ∀ c k : Nat, ¬ (c = 89 ∧ k = 1) → uph hx 89 1 (w32 (hx 89 1 + e)) c k = hx c k := fun c k q => up_ne q
  have e01 : e = 0 ∨ e = 1 := by
    by_cases z : Y 44 p.toNat = 22
    · exact Or.inl (he z)
    · exact Or.inr (he2 z).1
  have hs2 : CS 21 (uph hx 89 1 (w32 (hx 89 1 + e))) Y := by
    have E : ∀ c k : Nat, 21 ≤ c → c ≤ 26 → uph hx 89 1 (w32 (hx 89 1 + e)) c k = h c k := fun c k k1 k2 => (F c k (by omega)).trans (af c k (by omega) (by omega) (by omega))
    obtain ⟨s1, s2, s3, s4⟩ := hs
    exact ⟨by rw [E _ _ (by omega) (by omega)]; exact s1, by rw [E _ _ (by omega) (by omega)]; exact s2, by rw [E _ _ (by omega) (by omega)]; exact s3, fun j k hj hk => by rw [E _ _ (by omega) (by omega)]; exact s4 j k hj hk⟩
  have w' := w.c a3.1 a3.2.1
  obtain ⟨N, d', q, b1, b2, bx, bf⟩ := c_X3_placeBehind5 (d := d) (a1.fr (fun c k k1 k2 => F c k (by omega))) a2 (by rw [F 89 7 (by omega)]; exact ax) hs2 w' h60 ⟨ap.1, hp⟩ (fun z => by have := (he2 z).2; omega) (by rw [F 89 2 (by omega)]; omega) hc
  rw [F 89 7 (by omega), F 89 2 (by omega), show (uph hx 89 1 (w32 (hx 89 1 + e))) 90 = hx 90 from funext (fun j => F 90 j (by omega))] at q
  have ed : d' = d + e := by
    by_cases z : Y 44 p.toNat = 22
    · have q2 : d' = d := q.2.2.1 z
      rw [he z]; omega
    · have q2 : d' = d + 1 := (q.2.1 z).2
      rw [(he2 z).1]; exact q2
  have md := lstp_d q (by dsimp only; omega) (w.ok p.toNat (by omega)).1
  dsimp only at md
  have f1 : h3 89 1 = d + e := by
    rw [bf 89 1 (by omega) (by omega) (by omega), up_sm, w32_id (by omega) (by omega), ad]
  have ph := lstp_phi w h60 q ae
  dsimp only at ph
  have rg := (lstp_o w q).1
  dsimp only at rg
  have en := lstp_en w q ae
  dsimp only at en
  refine ⟨n + 1, d', N, trL_r n tr q, ⟨b1, b2, (lstp_m w a2 q).tr a3⟩, bx, by omega, by omega, rg, en, ?_, ?_, fun c k k1 k2 k3 => ?_⟩
  · rw [w32_id (by omega) (by omega)]
    by_cases z : Y 44 p.toNat = 22
    · have := ph.2 z; have := he z; omega
    · have := ph.1 z; have := (he2 z).1; omega
  · obtain ⟨x0, x3, x4, x5, x6⟩ := a0
    have G : ∀ k : Nat, k = 0 ∨ k = 3 ∨ k = 4 ∨ k = 5 ∨ k = 6 → h3 89 k = hx 89 k := fun k hk => (bf 89 k (by omega) (by omega) (by omega)).trans (F 89 k (by omega))
    exact ⟨by rw [G 0 (by omega)]; exact x0, by rw [G 3 (by omega)]; exact x3, by rw [G 4 (by omega)]; exact x4, by rw [G 5 (by omega)]; exact x5, by rw [G 6 (by omega)]; exact x6⟩
  · rw [bf c k k1 (by omega) k3, F c k (by omega)]; exact af c k k1 k2 k3
theorem RUN5.fin (r : RUN5 h L Y a p i hx) (hG : ∀ c k : Nat, ¬ (c = 89 ∧ k = 6) → g c k = hx c k) (h6 : (g 89 6 = 0 ∧ Y 43 2 ≤ p) ∨ (g 89 6 = 1 ∧ p < Y 43 2 ∧ Y 44 p.toNat ≠ 22 ∧ 300 ≤ hx 89 1)) : LIVD h (uph (uph (uph g 89 3 (w32 (hx 89 3 + hx 5 12))) 89 4 (w32 (hx 89 4 + hx 5 13))) 89 5 (w32 (hx 89 5 + bnS (hx 5 7)))) L Y a := by
  obtain ⟨n, d, M, tr, ⟨a1, a2, a3⟩, ax, ad, am, ap, ae, ai, ⟨x0, x3, x4, x5, x6⟩, af⟩ := r
  have k12 : hx 5 12 = M 0 12 := a1 0 12 (Or.inl ⟨rfl, Or.inr (Or.inr (Or.inr (Or.inr (Or.inl rfl))))⟩)
  have k13 : hx 5 13 = M 0 13 := a1 0 13 (Or.inl ⟨rfl, Or.inr (Or.inr (Or.inr (Or.inr (Or.inr rfl))))⟩)
  have k7 : hx 5 7 = M 0 7 := a1 0 7 (Or.inl ⟨rfl, Or.inr (Or.inl rfl)⟩)
  refine ⟨n, p, M, hx 89 7, hx 90, d, hx 89 2, tr, ?_, ⟨a1.fr (fun c k k1 k2 => by rw [up_ne (by omega), up_ne (by omega), up_ne (by omega)]; exact hG c k (by omega)), a2, a3⟩, ⟨?_, ?_, ?_, ?_, ?_, ?_, ?_⟩, fun c k k1 k2 k3 => by rw [up_ne (by omega), up_ne (by omega), up_ne (by omega), hG c k (by omega)]; exact af c k k1 k2 k3⟩
  · rcases h6 with ⟨-, q⟩ | ⟨-, q1, q2, q3⟩
    · exact Or.inl (fun z => by have := z.2; dsimp only at this; omega)
    · exact Or.inr ⟨q2, by show 300 ≤ d; omega⟩
  · rw [up_ne (by omega), up_ne (by omega), up_ne (by omega), hG _ _ (by omega)]; exact x0
  · rw [up_ne (by omega), up_ne (by omega), up_ne (by omega), hG _ _ (by omega)]; exact ad
  · rw [up_ne (by omega), up_ne (by omega), up_ne (by omega), hG _ _ (by omega)]
  · rw [up_ne (by omega), up_ne (by omega), up_sm, x3, k12, w32_a]; congr 1; omega
  · rw [up_ne (by omega), up_sm, x4, k13, w32_a]; congr 1; omega
  · rw [up_sm, x5, k7, w32_a]; congr 1; omega
  · rw [up_ne (by omega), up_ne (by omega), up_ne (by omega)]
    rcases h6 with q | ⟨q1, q2, -⟩
    · exact Or.inl q
    · exact Or.inr ⟨q1, q2⟩
theorem RUN5.bt (r : RUN5 h L Y a p i hx) : 0 ≤ hx 5 7 ∧ hx 5 7 < 256 := by
  obtain ⟨n, d, M, tr, ⟨a1, a2, a3⟩, -⟩ := r
  have k7 : hx 5 7 = M 0 7 := a1 0 7 (Or.inl ⟨rfl, Or.inr (Or.inl rfl)⟩)
  have ws := a2.1.1.2.2.2.2.2.2.1
  rw [k7]; exact ⟨ws.1, ws.2.1⟩
theorem RUN5.h2 (r : RUN5 h L Y a p i hx) (hs : CS 21 h Y) : hx 21 2 = Y 43 2 ∧ 0 ≤ p ∧ ∀ k : Nat, k < 60 → hx 22 k = Y 44 k := by
  obtain ⟨n, d, M, -, -, -, -, -, ap, -, -, -, af⟩ := r
  exact ⟨(af 21 2 (by omega) (by omega) (by omega)).trans hs.2.2.1, ap.1, fun k hk => (af 22 k (by omega) (by omega) (by omega)).trans (hs.2.2.2 0 k (by omega) hk)⟩
end RUN
set_option maxRecDepth 10000 in
theorem v_X3_run5 {sl : Nat} {si : Nat → Int} {K : Nat → PH → ZL → List ZV → Prop} {Q : PH → List ZV → Prop} {h : PH}  {a : Int} (H : ∀ h1, CP (zz sl si (7, 0)) mX3_begin h [(2, 89), (2, 5), (0, a)] h1 [] → K 12 h1 [(5, (0, 0)), (4, (0, 0)), (0, (2, 89)), (1, (2, 21)), (2, (2, 5)), (3, (0, a))] []) : vc (zz sl si (7, 0)) (fun p => Nat.beq p 12) K Q mX3_run 10 0 mX3_run.2.2.2.2.2.2 h [(0, (2, 89)), (1, (2, 21)), (2, (2, 5)), (3, (0, a))] [] := H
set_option maxRecDepth 10000 in
theorem v_X3_run5_12 {sl : Nat} {si : Nat → Int} {K : Nat → PH → ZL → List ZV → Prop} {Q : PH → List ZV → Prop} {h : PH}  {a : Int} {p i : Int} (H : ((1000000 : Int) ≤ i → R32 (h 89 3) → R32 (h 5 12) → R32 (h 89 4) → R32 (h 5 13) → R32 (h 89 5) → R32 (h 5 7) → ∀ h1 v1, CP (zz sl si (7, 0)) mJ6_bitCount_0f7a4 (uph (uph h 89 3 (w32 ((h 89 3) + (h 5 12)))) 89 4 (w32 ((h 89 4) + (h 5 13)))) [(0, (h 5 7))] h1 [(0, v1)] → R32 v1 → Q (uph h1 89 5 (w32 ((h 89 5) + v1))) []) ∧ (¬ ((1000000 : Int) ≤ i) → R32 (h 21 2) → ((h 21 2) ≤ p → R32 (h 89 3) → R32 (h 5 12) → R32 (h 89 4) → R32 (h 5 13) → R32 (h 89 5) → R32 (h 5 7) → ∀ h2 v2, CP (zz sl si (7, 0)) mJ6_bitCount_0f7a4 (uph (uph h 89 3 (w32 ((h 89 3) + (h 5 12)))) 89 4 (w32 ((h 89 4) + (h 5 13)))) [(0, (h 5 7))] h2 [(0, v2)] → R32 v2 → Q (uph h2 89 5 (w32 ((h 89 5) + v2))) []) ∧ (¬ ((h 21 2) ≤ p) → 0 ≤ p ∧ p < (60 : Nat) → R32 (h 22 p.toNat) → ((h 22 p.toNat) = 22 → ((0 : Int) = 0 → R32 (h 89 1) → ((0 : Int) = 0 → ∀ h3 v3, CP (zz sl si (7, 0)) mX3_placeBehind (uph h 89 1 (w32 ((h 89 1) + 0))) [(2, 89), (2, 21), (2, 5), (0, p)] h3 [(0, v3)] → R32 v3 → K 12 h3 [(5, (0, w32 (i + 1))), (4, (0, v3)), (6, (0, 0)), (0, (2, 89)), (1, (2, 21)), (2, (2, 5)), (3, (0, a))] []) ∧ (¬ ((0 : Int) = 0) → ∀ h4 v4, CP (zz sl si (7, 0)) mX3_placeBehind (uph h 89 1 (w32 ((h 89 1) + 1))) [(2, 89), (2, 21), (2, 5), (0, p)] h4 [(0, v4)] → R32 v4 → K 12 h4 [(5, (0, w32 (i + 1))), (4, (0, v4)), (6, (0, 0)), (0, (2, 89)), (1, (2, 21)), (2, (2, 5)), (3, (0, a))] [])) ∧ (¬ ((0 : Int) = 0) → R32 (h 89 1) → ((h 89 1) < 300 → R32 (h 89 1) → ((0 : Int) = 0 → ∀ h5 v5, CP (zz sl si (7, 0)) mX3_placeBehind (uph h 89 1 (w32 ((h 89 1) + 0))) [(2, 89), (2, 21), (2, 5), (0, p)] h5 [(0, v5)] → R32 v5 → K 12 h5 [(5, (0, w32 (i + 1))), (4, (0, v5)), (6, (0, 0)), (0, (2, 89)), (1, (2, 21)), (2, (2, 5)), (3, (0, a))] []) ∧ (¬ ((0 : Int) = 0) → ∀ h6 v6, CP (zz sl si (7, 0)) mX3_placeBehind (uph h 89 1 (w32 ((h 89 1) + 1))) [(2, 89), (2, 21), (2, 5), (0, p)] h6 [(0, v6)] → R32 v6 → K 12 h6 [(5, (0, w32 (i + 1))), (4, (0, v6)), (6, (0, 0)), (0, (2, 89)), (1, (2, 21)), (2, (2, 5)), (3, (0, a))] [])) ∧ (¬ ((h 89 1) < 300) → R32 (h 89 3) → R32 (h 5 12) → R32 (h 89 4) → R32 (h 5 13) → R32 (h 89 5) → R32 (h 5 7) → ∀ h7 v7, CP (zz sl si (7, 0)) mJ6_bitCount_0f7a4 (uph (uph (uph h 89 6 1) 89 3 (w32 ((h 89 3) + (h 5 12)))) 89 4 (w32 ((h 89 4) + (h 5 13)))) [(0, (h 5 7))] h7 [(0, v7)] → R32 v7 → Q (uph h7 89 5 (w32 ((h 89 5) + v7))) []))) ∧ (¬ ((h 22 p.toNat) = 22) → ((1 : Int) = 0 → R32 (h 89 1) → ((1 : Int) = 0 → ∀ h8 v8, CP (zz sl si (7, 0)) mX3_placeBehind (uph h 89 1 (w32 ((h 89 1) + 0))) [(2, 89), (2, 21), (2, 5), (0, p)] h8 [(0, v8)] → R32 v8 → K 12 h8 [(5, (0, w32 (i + 1))), (4, (0, v8)), (6, (0, 1)), (0, (2, 89)), (1, (2, 21)), (2, (2, 5)), (3, (0, a))] []) ∧ (¬ ((1 : Int) = 0) → ∀ h9 v9, CP (zz sl si (7, 0)) mX3_placeBehind (uph h 89 1 (w32 ((h 89 1) + 1))) [(2, 89), (2, 21), (2, 5), (0, p)] h9 [(0, v9)] → R32 v9 → K 12 h9 [(5, (0, w32 (i + 1))), (4, (0, v9)), (6, (0, 1)), (0, (2, 89)), (1, (2, 21)), (2, (2, 5)), (3, (0, a))] [])) ∧ (¬ ((1 : Int) = 0) → R32 (h 89 1) → ((h 89 1) < 300 → R32 (h 89 1) → ((1 : Int) = 0 → ∀ h10 v10, CP (zz sl si (7, 0)) mX3_placeBehind (uph h 89 1 (w32 ((h 89 1) + 0))) [(2, 89), (2, 21), (2, 5), (0, p)] h10 [(0, v10)] → R32 v10 → K 12 h10 [(5, (0, w32 (i + 1))), (4, (0, v10)), (6, (0, 1)), (0, (2, 89)), (1, (2, 21)), (2, (2, 5)), (3, (0, a))] []) ∧ (¬ ((1 : Int) = 0) → ∀ h11 v11, CP (zz sl si (7, 0)) mX3_placeBehind (uph h 89 1 (w32 ((h 89 1) + 1))) [(2, 89), (2, 21), (2, 5), (0, p)] h11 [(0, v11)] → R32 v11 → K 12 h11 [(5, (0, w32 (i + 1))), (4, (0, v11)), (6, (0, 1)), (0, (2, 89)), (1, (2, 21)), (2, (2, 5)), (3, (0, a))] [])) ∧ (¬ ((h 89 1) < 300) → R32 (h 89 3) → R32 (h 5 12) → R32 (h 89 4) → R32 (h 5 13) → R32 (h 89 5) → R32 (h 5 7) → ∀ h12 v12, CP (zz sl si (7, 0)) mJ6_bitCount_0f7a4 (uph (uph (uph h 89 6 1) 89 3 (w32 ((h 89 3) + (h 5 12)))) 89 4 (w32 ((h 89 4) + (h 5 13)))) [(0, (h 5 7))] h12 [(0, v12)] → R32 v12 → Q (uph h12 89 5 (w32 ((h 89 5) + v12))) [])))))) : vc (zz sl si (7, 0)) (fun p => Nat.beq p 12) K Q mX3_run 51 12 (ax_jmp mX3_run.2.2.2.2.2.2 12) h [(0, (2, 89)), (1, (2, 21)), (2, (2, 5)), (3, (0, a)), (4, (0, p)), (5, (0, i))] [] := H
set_option maxHeartbeats 600000 in
theorem c_X3_run5 {sl : Nat} {si : Nat → Int} {h h' : PH} {L Y : PH} {a : Int} (hL : CL 5 h L) (hw : W10 L) (ha : 0 ≤ a ∧ a ≤ 65535) (hcs : CS 21 h Y) (w : WYc L Y) (h60 : Y 43 2 ≤ 60) (hc : CP (zz sl si (7, 0)) mX3_run h [(2, 89), (2, 21), (2, 5), (0, a)] h' []) : LIVD h h' L Y a := by
  have q : (fun (xh : PH) (r : List ZV) => LIVD h xh L Y a) h' [] := by
    refine cp_vc (cut := (fun p => Nat.beq p 12)) (K := fun p hx lv st => (p = 12 ∧ lK2 (fun u1 u2 : Int => [(0, (2, 89)), (1, (2, 21)), (2, (2, 5)), (3, (0, a)), (4, (0, u1)), (5, (0, u2))]) (fun u1 u2 hx => RUN5 h L Y a u1 u2 hx) p hx lv st)) (Q := fun (xh : PH) (r : List ZV) => LIVD h xh L Y a) (v_X3_run5 ?_) (fun pc hx lv st hcut hK => ?_) hc
    · exact (fun h1 p1 => (by obtain ⟨⟨b0, b1, b2, b3, b4, b5, b6, b7⟩, bf⟩ := c_X3_begin5 hL hw p1; have f90 : h1 90 = h 90 := funext (fun j => bf 90 j (by omega)); exact ⟨rfl, rfl, 0, 0, ⟨0, 0, L, (by rw [b7, f90, b2]; rfl), ⟨hL.fr (fun c k k1 k2 => bf c k (by omega)), hw, DIM.rf L⟩, (by rw [b7]; exact ha), b1, (by rw [b2]; omega), ⟨by omega, w.n0⟩, (fun o ho => absurd ho.1 (by omega)), (by rw [phi_0]; omega), ⟨b0, b3, b4, b5, b6⟩, fun c k k1 k2 k3 => bf c k k2⟩, rfl, rfl, rfl, rfl, rfl, rfl, trivial⟩))
    · rcases hK with ⟨rfl, rfl, u1, u2, hJ, hs⟩
      · have i6 := hJ.mi
        obtain ⟨s2, p0, r2⟩ := hJ.h2 hcs
        exact ⟨_, _, hs, v_X3_run5_12 ⟨fun c1 => (fun r2 => (fun r3 => (fun r4 => (fun r5 => (fun r6 => (fun r7 => (fun h1 v1 p1 q1 => (by omega)))))))), fun c1 => (fun r8 => ⟨fun c9 => (fun r10 => (fun r11 => (fun r12 => (fun r13 => (fun r14 => (fun r15 => (fun h2 v2 p2 q2 => (by rw [s2] at c9; obtain ⟨t1, w1⟩ := c_J6_bitCountS hJ.bt.1 hJ.bt.2 p2; rw [t1, w1]; refine hJ.fin (g := hx) (fun _ _ _ => rfl) (Or.inl ⟨?_, c9⟩); (obtain ⟨n, d, M, -, -, -, -, -, -, -, -, x, -⟩ := hJ; exact x.2.2.2.2))))))))), fun c9 => (fun b16 r17 => ⟨fun c18 => ⟨fun c19 => (fun r20 => ⟨fun c21 => (fun h3 v3 p3 q3 => (by rw [s2] at c9; rw [r2 u1.toNat (by omega)] at *; exact ⟨rfl, rfl, v3, w32 (u2 + 1), hJ.st w h60 hcs (by omega) (e := 0) (by omega) (by omega) p3, rfl, rfl, rfl, rfl, rfl, rfl, trivial⟩)), fun c21 => (fun h4 v4 p4 q4 => (by exact absurd rfl c21))⟩), fun c19 => (fun r22 => ⟨fun c23 => (fun r24 => ⟨fun c25 => (fun h5 v5 p5 q5 => (by exact absurd rfl c19)), fun c25 => (fun h6 v6 p6 q6 => (by exact absurd rfl c19))⟩), fun c23 => (fun r26 => (fun r27 => (fun r28 => (fun r29 => (fun r30 => (fun r31 => (fun h7 v7 p7 q7 => (by exact absurd rfl c19))))))))⟩)⟩, fun c18 => ⟨fun c32 => (fun r33 => ⟨fun c34 => (fun h8 v8 p8 q8 => (by omega)), fun c34 => (fun h9 v9 p9 q9 => (by omega))⟩), fun c32 => (fun r35 => ⟨fun c36 => (fun r37 => ⟨fun c38 => (fun h10 v10 p10 q10 => (by omega)), fun c38 => (fun h11 v11 p11 q11 => (by rw [s2] at c9; rw [r2 u1.toNat (by omega)] at *; exact ⟨rfl, rfl, v11, w32 (u2 + 1), hJ.st w h60 hcs (by omega) (e := 1) (by omega) (by omega) p11, rfl, rfl, rfl, rfl, rfl, rfl, trivial⟩))⟩), fun c36 => (fun r39 => (fun r40 => (fun r41 => (fun r42 => (fun r43 => (fun r44 => (fun h12 v12 p12 q12 => (by rw [s2] at c9; rw [r2 u1.toNat (by omega)] at *; obtain ⟨t1, w1⟩ := c_J6_bitCountS hJ.bt.1 hJ.bt.2 p12; rw [t1, w1]; exact hJ.fin (g := uph hx 89 6 1) (fun c k q => up_ne q) (Or.inr ⟨up_sm, by omega, c18, by omega⟩)))))))))⟩)⟩⟩)⟩)⟩⟩
  exact q
end
section
/-! 45z.9b.be -/
/-! live(): a life in the reference -/
def RFS (Y h : PH) (T : Nat → Int) (k : Int) : Prop := ∀ o : Nat, opk Y k o → Y 44 o = 21 → h 182 o = T o - 1
theorem RFS.st {L Y h g M M' : PH} {k k' x x' d d' m m' : Int} {T T' : Nat → Int} (w : WYc L Y) (t : lstp Y (k, M, x, T, d, m) (k', M', x', T', d', m')) (e : ENk Y T k) (r : RFS Y h T k) (h1 : ∀ o : Nat, (o : Int) < k → (Y 44 k.toNat = 22 → (o : Int) ≠ Y 48 k.toNat) → g 182 o = h 182 o) (h2 : Y 44 k.toNat = 21 → g 182 k.toNat = Y 47 k.toNat - 1) (h3 : Y 44 k.toNat = 22 → Y 44 (Y 48 k.toNat).toNat = 21 → 0 < w32 (T (Y 48 k.toNat).toNat - 1) → g 182 (Y 48 k.toNat).toNat = h 182 (Y 48 k.toNat).toNat - 1) : RFS Y g T' k' := fun o ho h21 => by
  have ks := t.1
  dsimp only at ks
  rcases (lstp_o w t).2 o ho with ⟨a, b, c⟩ | ⟨a, b, c⟩ | ⟨a, b, c, d, f, q⟩
  · dsimp only at a b c
    rw [h1 o a.1 c, b]; exact r o a h21
  · dsimp only at a b c
    have eo : o = k.toNat := by omega
    subst eo
    rw [h2 h21, c h21]
  · dsimp only at a b c d f q
    have eo : o = (Y 48 k.toNat).toNat := by omega
    have en := e o q c
    have ro := r o q c
    subst eo
    rw [h3 a c f, d, ro, w32_id (by omega) (by omega)]
def rwX (Y h : PH) : Prop := ∀ k : Nat, (k : Int) < Y 43 2 → (h 170 (164 + 6 * k) = kcd (Y 44 k)) ∧ (isP (Y 44 k) → h 170 (168 + 6 * k) = Y 48 k)
theorem RTl.x {h Y : PH} (t : RTl 0 h Y) : rwX Y h := fun k hk => ⟨by have := t.2.1 k hk 0 (by omega) (by omega); rw [show 528 * 0 + 164 + 6 * k + 0 = 164 + 6 * k by omega] at this; exact this, fun p => by have := t.2.2 k hk p; rw [show 528 * 0 + 168 + 6 * k = 168 + 6 * k by omega] at this; exact this⟩
theorem RTl.fr {h h' Y : PH} (t : RTl 0 h Y) (h60 : Y 43 2 ≤ 60) (e : ∀ k : Nat, k = 4 ∨ (164 ≤ k ∧ k < 528) → h' 170 k = h 170 k) : RTl 0 h' Y := ⟨(e _ (by omega)).trans t.1, fun k hk i hi h4 => (e _ (by omega)).trans (t.2.1 k hk i hi h4), fun k hk p => (e _ (by omega)).trans (t.2.2 k hk p)⟩
theorem kcd_19 {L : PH} {K a b n : Int} (o : okw L K a b n) : (kcd K = 19 ↔ K = 22) ∧ (kcd K = 18 ↔ K = 21) ∧ (kcd K = 20 ↔ K = 23) ∧ (1700 ≤ kcd K ↔ 18 ≤ K ∧ K ≤ 20) := by
  have kk := o.1
  unfold kcd
  by_cases q : K = 1
  · rw [if_pos q]; omega
  rw [if_neg q]
  by_cases q : K = 16
  · rw [if_pos q]; omega
  rw [if_neg q]
  by_cases q : K = 21
  · rw [if_pos q]; omega
  rw [if_neg q]
  by_cases q : K = 22
  · rw [if_pos q]; omega
  rw [if_neg q]
  by_cases q : K = 23
  · rw [if_pos q]; omega
  rw [if_neg q]
  by_cases q : K = 18
  · rw [if_pos q]; omega
  rw [if_neg q]
  by_cases q : K = 19
  · rw [if_pos q]; omega
  rw [if_neg q]
  by_cases q : K = 20
  · rw [if_pos q]; omega
  rw [if_neg q]
  omega
theorem ixw {k : Int} (h0 : 0 ≤ k) (h1 : k < 60) : w32 (164 + w32 (6 * k)) = 164 + 6 * k := by
  rw [w32_id (z := 6 * k) (by omega) (by omega), w32_id (by omega) (by omega)]
/-- between a place and the next, over the ENDs -/
def BE (Y M : PH) (x d m : Int) (f : (Int × PH × Int × (Nat → Int) × Int × Int)) (u : Int) (hx : PH) : Prop := ∃ n T, trL Y n (u, M, x, T, d, m) f ∧ (0 ≤ u ∧ u ≤ Y 43 2) ∧ ENk Y T u ∧ RFS Y hx T u
theorem BE.go {L Y M g hx : PH} {x d m u v : Int} {f : (Int × PH × Int × (Nat → Int) × Int × Int)} (b : BE Y M x d m f u hx) (w : WYc L Y) (ff : fin Y f) (hu : u < Y 43 2) (h22 : Y 44 u.toNat = 22) (h1 : ∀ o : Nat, (o : Int) ≠ Y 48 u.toNat → g 182 o = hx 182 o) (h2 : (Y 44 (Y 48 u.toNat).toNat = 21 ∧ 0 < hx 182 (Y 48 u.toNat).toNat ∧ v = Y 48 u.toNat + 1 ∧ g 182 (Y 48 u.toNat).toNat = hx 182 (Y 48 u.toNat).toNat - 1) ∨ (¬ (Y 44 (Y 48 u.toNat).toNat = 21 ∧ 0 < hx 182 (Y 48 u.toNat).toNat) ∧ v = u + 1)) : BE Y M x d m f v g := by
  obtain ⟨n, T, tr, ru, en, rs⟩ := b
  obtain ⟨n', ⟨k', M', x', T', d', m'⟩, -, t, tr'⟩ := trL_1 tr ff (fun q => q.elim (fun z => z ⟨ru.1, hu⟩) (fun z => z.1 h22))
  obtain ⟨o1, o2, o3⟩ := w.cl u.toNat (by omega) h22
  have t22 := t.2.2.2.2.1 h22
  have td : d' = d := t.2.2.1 h22
  obtain ⟨⟨e1, e2, e3⟩, e4, e5, e6⟩ := t22
  dsimp only at e1 e2 e3 e4 e5 e6
  have op : opk Y u (Y 48 u.toNat).toNat := ⟨by omega, by omega, o2⟩
  have eq : Y 44 (Y 48 u.toNat).toNat = 21 → (0 < w32 (T (Y 48 u.toNat).toNat - 1) ↔ 0 < hx 182 (Y 48 u.toNat).toNat) := fun h21 => by
    have := en _ op h21
    rw [rs _ op h21, w32_id (by omega) (by omega)]
  have ev : k' = v := by
    rcases h2 with ⟨q1, q2, q3, -⟩ | ⟨q1, q2⟩
    · rw [e5 ⟨q1, (eq q1).mpr q2⟩, q3]
    · rw [e6 (fun z => q1 ⟨z.1, (eq z.1).mp z.2⟩), q2]
  have rg := (lstp_o w t).1
  have en2 := lstp_en w t en
  dsimp only at rg en2
  have r2 := rs.st (g := g) w t en (fun o ho hn => h1 o (hn h22)) (fun q => by omega) (fun _ h21 hp => by
    rcases h2 with ⟨-, -, -, q⟩ | ⟨q, -⟩
    · exact q
    · exact absurd ⟨h21, (eq h21).mp hp⟩ q)
  subst ev e1 e2 e3 td
  exact ⟨n', T', tr', rg, en2, r2⟩
set_option maxRecDepth 10000 in
theorem v_X12_behindEndsL {sl : Nat} {si : Nat → Int} {K : Nat → PH → ZL → List ZV → Prop} {Q : PH → List ZV → Prop} {h : PH}   {a : Int} (H : K 2 h [(2, (0, a)), (0, (2, 169)), (1, (0, a))] []) : vc (zz sl si (7, 0)) (fun p => Nat.beq p 2) K Q mX12_behindEnds 4 0 mX12_behindEnds.2.2.2.2.2.2 h [(0, (2, 169)), (1, (0, a))] [] := H
set_option maxRecDepth 10000 in
theorem v_X12_behindEndsL_2 {sl : Nat} {si : Nat → Int} {K : Nat → PH → ZL → List ZV → Prop} {Q : PH → List ZV → Prop} {h : PH}   {a : Int} {k : Int} (H : 0 ≤ (4 : Int) ∧ (4 : Int) < (3696 : Nat) → R32 (h 170 4) → ((h 170 4) ≤ k → Q h [(0, k)]) ∧ (¬ ((h 170 4) ≤ k) → 0 ≤ w32 (164 + (w32 (6 * k))) ∧ w32 (164 + (w32 (6 * k))) < (3696 : Nat) → R32 (h 170 (w32 (164 + (w32 (6 * k)))).toNat) → ((h 170 (w32 (164 + (w32 (6 * k)))).toNat) ≠ 19 → Q h [(0, k)]) ∧ (¬ ((h 170 (w32 (164 + (w32 (6 * k)))).toNat) ≠ 19) → 0 ≤ w32 ((w32 (164 + (w32 (6 * k)))) + 4) ∧ w32 ((w32 (164 + (w32 (6 * k)))) + 4) < (3696 : Nat) → R32 (h 170 (w32 ((w32 (164 + (w32 (6 * k)))) + 4)).toNat) → 0 ≤ w32 (164 + (w32 (6 * (h 170 (w32 ((w32 (164 + (w32 (6 * k)))) + 4)).toNat)))) ∧ w32 (164 + (w32 (6 * (h 170 (w32 ((w32 (164 + (w32 (6 * k)))) + 4)).toNat)))) < (3696 : Nat) → R32 (h 170 (w32 (164 + (w32 (6 * (h 170 (w32 ((w32 (164 + (w32 (6 * k)))) + 4)).toNat))))).toNat) → ((h 170 (w32 (164 + (w32 (6 * (h 170 (w32 ((w32 (164 + (w32 (6 * k)))) + 4)).toNat))))).toNat) ≠ 18 → 0 ≤ (h 170 (w32 ((w32 (164 + (w32 (6 * k)))) + 4)).toNat) ∧ (h 170 (w32 ((w32 (164 + (w32 (6 * k)))) + 4)).toNat) < (80 : Nat) → R32 (h 182 (h 170 (w32 ((w32 (164 + (w32 (6 * k)))) + 4)).toNat).toNat) → ((0 : Int) = 0 → 0 ≤ (h 170 (w32 ((w32 (164 + (w32 (6 * k)))) + 4)).toNat) ∧ (h 170 (w32 ((w32 (164 + (w32 (6 * k)))) + 4)).toNat) < (80 : Nat) → ((0 : Int) = 0 → K 2 (uph h 182 (h 170 (w32 ((w32 (164 + (w32 (6 * k)))) + 4)).toNat).toNat (w32 ((h 182 (h 170 (w32 ((w32 (164 + (w32 (6 * k)))) + 4)).toNat).toNat) - 0))) [(2, (0, w32 (k + 1))), (4, (0, 0)), (3, (0, (h 170 (w32 ((w32 (164 + (w32 (6 * k)))) + 4)).toNat))), (0, (2, 169)), (1, (0, a))] []) ∧ (¬ ((0 : Int) = 0) → K 2 (uph h 182 (h 170 (w32 ((w32 (164 + (w32 (6 * k)))) + 4)).toNat).toNat (w32 ((h 182 (h 170 (w32 ((w32 (164 + (w32 (6 * k)))) + 4)).toNat).toNat) - 0))) [(2, (0, w32 ((h 170 (w32 ((w32 (164 + (w32 (6 * k)))) + 4)).toNat) + 1))), (4, (0, 0)), (3, (0, (h 170 (w32 ((w32 (164 + (w32 (6 * k)))) + 4)).toNat))), (0, (2, 169)), (1, (0, a))] [])) ∧ (¬ ((0 : Int) = 0) → 0 ≤ (h 170 (w32 ((w32 (164 + (w32 (6 * k)))) + 4)).toNat) ∧ (h 170 (w32 ((w32 (164 + (w32 (6 * k)))) + 4)).toNat) < (80 : Nat) → ((0 : Int) = 0 → K 2 (uph h 182 (h 170 (w32 ((w32 (164 + (w32 (6 * k)))) + 4)).toNat).toNat (w32 ((h 182 (h 170 (w32 ((w32 (164 + (w32 (6 * k)))) + 4)).toNat).toNat) - 1))) [(2, (0, w32 (k + 1))), (4, (0, 0)), (3, (0, (h 170 (w32 ((w32 (164 + (w32 (6 * k)))) + 4)).toNat))), (0, (2, 169)), (1, (0, a))] []) ∧ (¬ ((0 : Int) = 0) → K 2 (uph h 182 (h 170 (w32 ((w32 (164 + (w32 (6 * k)))) + 4)).toNat).toNat (w32 ((h 182 (h 170 (w32 ((w32 (164 + (w32 (6 * k)))) + 4)).toNat).toNat) - 1))) [(2, (0, w32 ((h 170 (w32 ((w32 (164 + (w32 (6 * k)))) + 4)).toNat) + 1))), (4, (0, 0)), (3, (0, (h 170 (w32 ((w32 (164 + (w32 (6 * k)))) + 4)).toNat))), (0, (2, 169)), (1, (0, a))] []))) ∧ (¬ ((h 170 (w32 (164 + (w32 (6 * (h 170 (w32 ((w32 (164 + (w32 (6 * k)))) + 4)).toNat))))).toNat) ≠ 18) → 0 ≤ (h 170 (w32 ((w32 (164 + (w32 (6 * k)))) + 4)).toNat) ∧ (h 170 (w32 ((w32 (164 + (w32 (6 * k)))) + 4)).toNat) < (80 : Nat) → R32 (h 182 (h 170 (w32 ((w32 (164 + (w32 (6 * k)))) + 4)).toNat).toNat) → ((h 182 (h 170 (w32 ((w32 (164 + (w32 (6 * k)))) + 4)).toNat).toNat) ≤ 0 → 0 ≤ (h 170 (w32 ((w32 (164 + (w32 (6 * k)))) + 4)).toNat) ∧ (h 170 (w32 ((w32 (164 + (w32 (6 * k)))) + 4)).toNat) < (80 : Nat) → R32 (h 182 (h 170 (w32 ((w32 (164 + (w32 (6 * k)))) + 4)).toNat).toNat) → ((0 : Int) = 0 → 0 ≤ (h 170 (w32 ((w32 (164 + (w32 (6 * k)))) + 4)).toNat) ∧ (h 170 (w32 ((w32 (164 + (w32 (6 * k)))) + 4)).toNat) < (80 : Nat) → ((0 : Int) = 0 → K 2 (uph h 182 (h 170 (w32 ((w32 (164 + (w32 (6 * k)))) + 4)).toNat).toNat (w32 ((h 182 (h 170 (w32 ((w32 (164 + (w32 (6 * k)))) + 4)).toNat).toNat) - 0))) [(2, (0, w32 (k + 1))), (4, (0, 0)), (3, (0, (h 170 (w32 ((w32 (164 + (w32 (6 * k)))) + 4)).toNat))), (0, (2, 169)), (1, (0, a))] []) ∧ (¬ ((0 : Int) = 0) → K 2 (uph h 182 (h 170 (w32 ((w32 (164 + (w32 (6 * k)))) + 4)).toNat).toNat (w32 ((h 182 (h 170 (w32 ((w32 (164 + (w32 (6 * k)))) + 4)).toNat).toNat) - 0))) [(2, (0, w32 ((h 170 (w32 ((w32 (164 + (w32 (6 * k)))) + 4)).toNat) + 1))), (4, (0, 0)), (3, (0, (h 170 (w32 ((w32 (164 + (w32 (6 * k)))) + 4)).toNat))), (0, (2, 169)), (1, (0, a))] [])) ∧ (¬ ((0 : Int) = 0) → 0 ≤ (h 170 (w32 ((w32 (164 + (w32 (6 * k)))) + 4)).toNat) ∧ (h 170 (w32 ((w32 (164 + (w32 (6 * k)))) + 4)).toNat) < (80 : Nat) → ((0 : Int) = 0 → K 2 (uph h 182 (h 170 (w32 ((w32 (164 + (w32 (6 * k)))) + 4)).toNat).toNat (w32 ((h 182 (h 170 (w32 ((w32 (164 + (w32 (6 * k)))) + 4)).toNat).toNat) - 1))) [(2, (0, w32 (k + 1))), (4, (0, 0)), (3, (0, (h 170 (w32 ((w32 (164 + (w32 (6 * k)))) + 4)).toNat))), (0, (2, 169)), (1, (0, a))] []) ∧ (¬ ((0 : Int) = 0) → K 2 (uph h 182 (h 170 (w32 ((w32 (164 + (w32 (6 * k)))) + 4)).toNat).toNat (w32 ((h 182 (h 170 (w32 ((w32 (164 + (w32 (6 * k)))) + 4)).toNat).toNat) - 1))) [(2, (0, w32 ((h 170 (w32 ((w32 (164 + (w32 (6 * k)))) + 4)).toNat) + 1))), (4, (0, 0)), (3, (0, (h 170 (w32 ((w32 (164 + (w32 (6 * k)))) + 4)).toNat))), (0, (2, 169)), (1, (0, a))] []))) ∧ (¬ ((h 182 (h 170 (w32 ((w32 (164 + (w32 (6 * k)))) + 4)).toNat).toNat) ≤ 0) → 0 ≤ (h 170 (w32 ((w32 (164 + (w32 (6 * k)))) + 4)).toNat) ∧ (h 170 (w32 ((w32 (164 + (w32 (6 * k)))) + 4)).toNat) < (80 : Nat) → R32 (h 182 (h 170 (w32 ((w32 (164 + (w32 (6 * k)))) + 4)).toNat).toNat) → ((1 : Int) = 0 → 0 ≤ (h 170 (w32 ((w32 (164 + (w32 (6 * k)))) + 4)).toNat) ∧ (h 170 (w32 ((w32 (164 + (w32 (6 * k)))) + 4)).toNat) < (80 : Nat) → ((1 : Int) = 0 → K 2 (uph h 182 (h 170 (w32 ((w32 (164 + (w32 (6 * k)))) + 4)).toNat).toNat (w32 ((h 182 (h 170 (w32 ((w32 (164 + (w32 (6 * k)))) + 4)).toNat).toNat) - 0))) [(2, (0, w32 (k + 1))), (4, (0, 1)), (3, (0, (h 170 (w32 ((w32 (164 + (w32 (6 * k)))) + 4)).toNat))), (0, (2, 169)), (1, (0, a))] []) ∧ (¬ ((1 : Int) = 0) → K 2 (uph h 182 (h 170 (w32 ((w32 (164 + (w32 (6 * k)))) + 4)).toNat).toNat (w32 ((h 182 (h 170 (w32 ((w32 (164 + (w32 (6 * k)))) + 4)).toNat).toNat) - 0))) [(2, (0, w32 ((h 170 (w32 ((w32 (164 + (w32 (6 * k)))) + 4)).toNat) + 1))), (4, (0, 1)), (3, (0, (h 170 (w32 ((w32 (164 + (w32 (6 * k)))) + 4)).toNat))), (0, (2, 169)), (1, (0, a))] [])) ∧ (¬ ((1 : Int) = 0) → 0 ≤ (h 170 (w32 ((w32 (164 + (w32 (6 * k)))) + 4)).toNat) ∧ (h 170 (w32 ((w32 (164 + (w32 (6 * k)))) + 4)).toNat) < (80 : Nat) → ((1 : Int) = 0 → K 2 (uph h 182 (h 170 (w32 ((w32 (164 + (w32 (6 * k)))) + 4)).toNat).toNat (w32 ((h 182 (h 170 (w32 ((w32 (164 + (w32 (6 * k)))) + 4)).toNat).toNat) - 1))) [(2, (0, w32 (k + 1))), (4, (0, 1)), (3, (0, (h 170 (w32 ((w32 (164 + (w32 (6 * k)))) + 4)).toNat))), (0, (2, 169)), (1, (0, a))] []) ∧ (¬ ((1 : Int) = 0) → K 2 (uph h 182 (h 170 (w32 ((w32 (164 + (w32 (6 * k)))) + 4)).toNat).toNat (w32 ((h 182 (h 170 (w32 ((w32 (164 + (w32 (6 * k)))) + 4)).toNat).toNat) - 1))) [(2, (0, w32 ((h 170 (w32 ((w32 (164 + (w32 (6 * k)))) + 4)).toNat) + 1))), (4, (0, 1)), (3, (0, (h 170 (w32 ((w32 (164 + (w32 (6 * k)))) + 4)).toNat))), (0, (2, 169)), (1, (0, a))] []))))))) : vc (zz sl si (7, 0)) (fun p => Nat.beq p 2) K Q mX12_behindEnds 66 2 (ax_jmp mX12_behindEnds.2.2.2.2.2.2 2) h [(0, (2, 169)), (1, (0, a)), (2, (0, k))] [] := H
set_option maxHeartbeats 600000 in
theorem c_X12_behindEndsL {sl : Nat} {si : Nat → Int} {h h' : PH} {L Y M : PH} {f : (Int × PH × Int × (Nat → Int) × Int × Int)} {x d m a : Int} {v : Int} (ht : RTl 0 h Y) (w : WYc L Y) (h60 : Y 43 2 ≤ 60) (ff : fin Y f) (b0 : BE Y M x d m f a h) (hc : CP (zz sl si (7, 0)) mX12_behindEnds h [(2, 169), (0, a)] h' [(0, v)]) : (BE Y M x d m f v h' ∧ (v < Y 43 2 → Y 44 v.toNat ≠ 22)) ∧ ∀ c k : Nat, c ≠ 182 → h' c k = h c k := by
  have q : (fun (xh : PH) (r : List ZV) => ∀ v : Int, r = [(0, v)] → ((BE Y M x d m f v xh ∧ (v < Y 43 2 → Y 44 v.toNat ≠ 22)) ∧ ∀ c k : Nat, c ≠ 182 → xh c k = h c k)) h' [(0, v)] := by
    refine cp_vc (cut := (fun p => Nat.beq p 2)) (K := fun p hx lv st => (p = 2 ∧ lK (fun u : Int => [(0, (2, 169)), (1, (0, a)), (2, (0, u))]) (fun u hx => BE Y M x d m f u hx ∧ ∀ c k : Nat, c ≠ 182 → hx c k = h c k) p hx lv st)) (Q := fun (xh : PH) (r : List ZV) => ∀ v : Int, r = [(0, v)] → ((BE Y M x d m f v xh ∧ (v < Y 43 2 → Y 44 v.toNat ≠ 22)) ∧ ∀ c k : Nat, c ≠ 182 → xh c k = h c k)) (v_X12_behindEndsL ?_) (fun pc hx lv st hcut hK => ?_) hc
    · exact (by exact ⟨rfl, rfl, a, ⟨b0, fun _ _ _ => rfl⟩, rfl, rfl, rfl, trivial⟩)
    · rcases hK with ⟨rfl, rfl, u, hJ, hs⟩
      · obtain ⟨jb, jf⟩ := hJ
        have s4 : hx 170 4 = Y 43 2 := (jf 170 4 (by omega)).trans ht.1
        have rx := (ht.fr (h' := hx) h60 (fun k _ => jf 170 k (by omega))).x
        obtain ⟨-, -, -, u0, -⟩ := id jb
        exact ⟨_, _, hs, v_X12_behindEndsL_2 (fun b1 r2 => ⟨fun c3 => (by intro v e; cases e; exact ⟨⟨jb, fun z => by omega⟩, jf⟩), fun c3 => (fun b4 r5 => ⟨fun c6 => (by rw [s4] at c3; rw [ixw u0.1 (by omega)] at *; rw [show (164 + 6 * u).toNat = 164 + 6 * u.toNat by omega, (rx u.toNat (by omega)).1] at *; have k9 := kcd_19 (w.ok u.toNat (by omega)); intro v e; cases e; exact ⟨⟨jb, fun _ => by omega⟩, jf⟩), fun c6 => (fun b7 r8 => (fun b9 r10 => ⟨fun c11 => (fun b12 r13 => ⟨fun c14 => (fun b15 => ⟨fun c16 => (by rw [s4] at c3; rw [ixw u0.1 (by omega)] at *; rw [show (164 + 6 * u).toNat = 164 + 6 * u.toNat by omega, (rx u.toNat (by omega)).1] at *; have k9 := kcd_19 (w.ok u.toNat (by omega)); have h22 : Y 44 u.toNat = 22 := (by omega); have o := w.cl u.toNat (by omega) h22; rw [show (w32 (164 + 6 * u + 4)).toNat = 168 + 6 * u.toNat by (rw [w32_id (by omega) (by omega)]; omega), (rx u.toNat (by omega)).2 (by unfold isP; omega)] at *; rw [ixw o.1.1 (by omega)] at *; rw [show (164 + 6 * Y 48 u.toNat).toNat = 164 + 6 * (Y 48 u.toNat).toNat by omega, (rx (Y 48 u.toNat).toNat (by omega)).1] at *; have k8 := kcd_19 (w.ok (Y 48 u.toNat).toNat (by omega)); exact ⟨rfl, rfl, _, ⟨jb.go w ff (by omega) h22 (fun o ho => up_ne (by omega)) (Or.inr ⟨fun z => by omega, rfl⟩), fun c k q => (up_ne (by omega)).trans (jf c k q)⟩, rfl, rfl, wv (by omega) (by omega) rfl, trivial⟩), fun c16 => (by exact absurd rfl c16)⟩), fun c14 => (fun b17 => ⟨fun c18 => (by exact absurd rfl c14), fun c18 => (by exact absurd rfl c14)⟩)⟩), fun c11 => (fun b19 r20 => ⟨fun c21 => (fun b22 r23 => ⟨fun c24 => (fun b25 => ⟨fun c26 => (by rw [s4] at c3; rw [ixw u0.1 (by omega)] at *; rw [show (164 + 6 * u).toNat = 164 + 6 * u.toNat by omega, (rx u.toNat (by omega)).1] at *; have k9 := kcd_19 (w.ok u.toNat (by omega)); have h22 : Y 44 u.toNat = 22 := (by omega); have o := w.cl u.toNat (by omega) h22; rw [show (w32 (164 + 6 * u + 4)).toNat = 168 + 6 * u.toNat by (rw [w32_id (by omega) (by omega)]; omega), (rx u.toNat (by omega)).2 (by unfold isP; omega)] at *; rw [ixw o.1.1 (by omega)] at *; rw [show (164 + 6 * Y 48 u.toNat).toNat = 164 + 6 * (Y 48 u.toNat).toNat by omega, (rx (Y 48 u.toNat).toNat (by omega)).1] at *; have k8 := kcd_19 (w.ok (Y 48 u.toNat).toNat (by omega)); exact ⟨rfl, rfl, _, ⟨jb.go w ff (by omega) h22 (fun o ho => up_ne (by omega)) (Or.inr ⟨fun z => by omega, rfl⟩), fun c k q => (up_ne (by omega)).trans (jf c k q)⟩, rfl, rfl, wv (by omega) (by omega) rfl, trivial⟩), fun c26 => (by exact absurd rfl c26)⟩), fun c24 => (fun b27 => ⟨fun c28 => (by exact absurd rfl c24), fun c28 => (by exact absurd rfl c24)⟩)⟩), fun c21 => (fun b29 r30 => ⟨fun c31 => (fun b32 => ⟨fun c33 => (by omega), fun c33 => (by omega)⟩), fun c31 => (fun b34 => ⟨fun c35 => (by omega), fun c35 => (by rw [s4] at c3; rw [ixw u0.1 (by omega)] at *; rw [show (164 + 6 * u).toNat = 164 + 6 * u.toNat by omega, (rx u.toNat (by omega)).1] at *; have k9 := kcd_19 (w.ok u.toNat (by omega)); have h22 : Y 44 u.toNat = 22 := (by omega); have o := w.cl u.toNat (by omega) h22; rw [show (w32 (164 + 6 * u + 4)).toNat = 168 + 6 * u.toNat by (rw [w32_id (by omega) (by omega)]; omega), (rx u.toNat (by omega)).2 (by unfold isP; omega)] at *; rw [ixw o.1.1 (by omega)] at *; rw [show (164 + 6 * Y 48 u.toNat).toNat = 164 + 6 * (Y 48 u.toNat).toNat by omega, (rx (Y 48 u.toNat).toNat (by omega)).1] at *; have k8 := kcd_19 (w.ok (Y 48 u.toNat).toNat (by omega)); exact ⟨rfl, rfl, _, ⟨jb.go w ff (by omega) h22 (fun o ho => up_ne (by omega)) (Or.inl ⟨by omega, by omega, rfl, by rw [up_sm]; exact w32_id (by have := r30.1; omega) (by have := r30.2; omega)⟩), fun c k q => (up_ne (by omega)).trans (jf c k q)⟩, rfl, rfl, wv (by omega) (by omega) rfl, trivial⟩)⟩)⟩)⟩)⟩))⟩)⟩)⟩
  exact q v rfl
end
section
/-! 45z.9c.lives -/
theorem dnL_x {L M : PH} {x K a b n v y : Int} (d : dnL L x K a b n v M y) (kk : K = 1 ∨ (10 ≤ K ∧ K ≤ 14) ∨ K = 16) (hx : 0 ≤ x ∧ x ≤ 65535) : 0 ≤ y ∧ y ≤ 65535 := by
  obtain ⟨d1, d13, d10, d11, d12, d14, d16⟩ := d
  by_cases c1 : K = 1
  · rw [(d1 c1).1]; exact hx
  by_cases c13 : K = 13
  · rw [(d13 c13).1]; exact hx
  by_cases c10 : K = 10
  · rw [(d10 c10).1]; exact hx
  by_cases c11 : K = 11
  · rw [(d11 c11).1]; exact hx
  by_cases c12 : K = 12
  · rw [(d12 c12).1]; exact hx
  by_cases c14 : K = 14
  · rw [(d14 c14).1]; exact hx
  obtain ⟨q1, q2⟩ := d16 (by clear d1 d13 d10 d11 d12 d14 d16; omega)
  by_cases z : clv L (L 0 4).toNat < 1
  · rw [(q1 z).1]; exact hx
  · obtain ⟨p, -, -, -, e, -⟩ := q2 (by omega)
    rw [e]; exact dwN_b hx.1 hx.2
/-! live(): a life in the reference, all -/
def LVF (h hx : PH) : Prop := ∀ c k : Nat, ¬ (c = 169 ∧ (k = 27 ∨ k = 28)) → ¬ (c = 170 ∧ k < 131 ∧ k ≠ 4) → ¬ (c = 178 ∧ k < 7) → c ≠ 182 → c ≠ 183 → hx c k = h c k
theorem lv_hd {L Y M M' : PH} {k k' x x' d d' m m' : Int} {T T' : Nat → Int} (w : WYc L Y) (wM : W10 M) (t : lstp Y (k, M, x, T, d, m) (k', M', x', T', d', m')) (c22 : Y 44 k.toNat ≠ 22) (c23 : Y 44 k.toNat ≠ 23) : ∃ v : Int, (((Y 44 k.toNat = 1 ∨ (10 ≤ Y 44 k.toNat ∧ Y 44 k.toNat ≤ 14) ∨ Y 44 k.toNat = 16) ∧ W10 M' ∧ dnL M x (Y 44 k.toNat) (Y 45 k.toNat) (Y 46 k.toNat) (Y 47 k.toNat) v M' x') ∨ ((18 ≤ Y 44 k.toNat ∧ Y 44 k.toNat ≤ 21) ∧ v = 1 ∧ M' = M ∧ x' = x)) ∧ (v = 0 ∨ v = 1) ∧ m' = m + (1 - v) ∧ W10 M' ∧ (Y 44 k.toNat = 21 → k' = k + 1) ∧ (Y 44 k.toNat = 1 ∨ (10 ≤ Y 44 k.toNat ∧ Y 44 k.toNat ≤ 14) ∨ Y 44 k.toNat = 16 → k' = k + 1) ∧ (18 ≤ Y 44 k.toNat ∧ Y 44 k.toNat ≤ 20 → (hdS M (Y 44 k.toNat) (Y 45 k.toNat) (Y 46 k.toNat) (Y 47 k.toNat) → k' = k + 1) ∧ (¬ hdS M (Y 44 k.toNat) (Y 45 k.toNat) (Y 46 k.toNat) (Y 47 k.toNat) → k' = Y 48 k.toNat + 1)) := by
  obtain ⟨h, -, -, t21, t22, tw, t23, tr⟩ := t
  dsimp only at h t21 t22 tw t23 tr
  have kk := (w.ok k.toNat (by omega)).1
  by_cases c21 : Y 44 k.toNat = 21
  · obtain ⟨⟨e1, e2, e3⟩, e4, -⟩ := t21 c21
    dsimp only at e1 e2 e3
    exact ⟨1, Or.inr ⟨by omega, rfl, e1, e2⟩, Or.inr rfl, by omega, by rw [e1]; exact wM, fun _ => e4, fun _ => e4, fun q => by omega⟩
  by_cases cw : Y 44 k.toNat = 18 ∨ Y 44 k.toNat = 19 ∨ Y 44 k.toNat = 20
  · obtain ⟨⟨e1, e2, e3⟩, -, e4, e5⟩ := tw cw
    dsimp only at e1 e2 e3
    exact ⟨1, Or.inr ⟨by clear tr; omega, rfl, e1, e2⟩, Or.inr rfl, by clear tr; omega, by rw [e1]; exact wM, fun q => by clear tr; omega, fun q => by clear tr; omega, fun _ => ⟨e4, e5⟩⟩
  · have cr : Y 44 k.toNat = 1 ∨ (10 ≤ Y 44 k.toNat ∧ Y 44 k.toNat ≤ 14) ∨ Y 44 k.toNat = 16 := by clear tr; omega
    obtain ⟨e4, -, v, e1, e2, e3, e5⟩ := tr cr
    exact ⟨v, Or.inl ⟨cr, e2, e3⟩, e1, e5, e2, fun _ => e4, fun _ => e4, fun q => by exfalso; clear e3; omega⟩
/-- a life at a place, with what is to come -/
def LVm (h L Y : PH) (f : (Int × PH × Int × (Nat → Int) × Int × Int)) (u : Int) (hx : PH) : Prop := ∃ M x d m, BE Y M x d m f u hx ∧ RLF hx M x (L 0 12) (L 0 13) (bnS (L 0 7)) ∧ (W10 M ∧ DIM M L) ∧ (0 ≤ m ∧ m ≤ d ∧ d ≤ 300) ∧ (0 ≤ x ∧ x ≤ 65535) ∧ (hx 169 28 = d ∧ hx 183 0 = m ∧ hx 183 4 = 0) ∧ LVF h hx
def LVD (h xh L Y : PH) (f : (Int × PH × Int × (Nat → Int) × Int × Int)) : Prop := RLF xh f.2.1 f.2.2.1 (L 0 12) (L 0 13) (bnS (L 0 7)) ∧ xh 169 28 = f.2.2.2.2.1 ∧ xh 183 0 = f.2.2.2.2.2 ∧ (xh 183 4 = 0 ∧ Y 43 2 ≤ f.1 ∨ xh 183 4 = 1 ∧ f.1 < Y 43 2) ∧ LVF h xh
section LVS
variable {h hx g L Y : PH} {a u v : Int} {f : (Int × PH × Int × (Nat → Int) × Int × Int)} {sl : Nat} {si : Nat → Int}
theorem RLF.fr {M : PH} {x c1 c2 c3 : Int} (r : RLF hx M x c1 c2 c3) (e : g 170 = hx 170) (e2 : g 169 27 = hx 169 27) (e3 : ∀ k : Nat, 1 ≤ k → k ≤ 3 → g 183 k = hx 183 k) : RLF g M x c1 c2 c3 := by
  obtain ⟨a, b, c, d⟩ := r
  have z := Bd_e e
  exact ⟨a.e e, ⟨z.1 b.1, z.2.1 b.2.1, z.2.2 b.2.2⟩, e2.trans c, by rw [CNT, e3 1 (by omega) (by omega), e3 2 (by omega) (by omega), e3 3 (by omega) (by omega)]; exact d⟩
theorem LVm.be (l : LVm h L Y f u hx) (ht : RTl 0 h Y) (w : WYc L Y) (h60 : Y 43 2 ≤ 60) (ff : fin Y f) (hc : CP (zz sl si (7, 0)) mX12_behindEnds hx [(2, 169), (0, u)] g [(0, v)]) : LVm h L Y f v g ∧ (v < Y 43 2 → Y 44 v.toNat ≠ 22) := by
  obtain ⟨M, x, d, m, b, r, wm, md, xb, ⟨q1, q2, q3⟩, fr⟩ := l
  obtain ⟨⟨b', n'⟩, fg⟩ := c_X12_behindEndsL (ht.fr (h' := hx) h60 (fun k hk => fr 170 k (by omega) (by omega) (by omega) (by omega) (by omega))) w h60 ff b hc
  exact ⟨⟨M, x, d, m, b', r.fr (funext (fun k => fg 170 k (by omega))) (fg _ _ (by omega)) (fun k _ _ => fg _ _ (by omega)), wm, md, xb, ⟨(fg _ _ (by omega)).trans q1, (fg _ _ (by omega)).trans q2, (fg _ _ (by omega)).trans q3⟩, fun c k k1 k2 k3 k4 k5 => (fg c k k4).trans (fr c k k1 k2 k3 k4 k5)⟩, n'⟩
/-- a step, up to behindEnds -/
theorem LVm.go (l : LVm h L Y f u hx) (ht : RTl 0 h Y) (w : WYc L Y) (h60 : Y 43 2 ≤ 60) (ff : fin Y f) (hu : u < Y 43 2) (c22 : Y 44 u.toNat ≠ 22) (c23 : Y 44 u.toNat ≠ 23) (h300 : hx 169 28 ≠ 300) {h1 : PH} {w1 : Int} (p1 : CP (zz sl si (7, 0)) mX12_does (uph hx 169 28 (w32 (hx 169 28 + 1))) [(2, 169), (0, 164 + 6 * u)] h1 [(0, w1)]) : (w1 = 0 → ¬ (18 ≤ Y 44 u.toNat ∧ Y 44 u.toNat ≤ 21)) ∧ (∀ k : Nat, 164 ≤ k → k < 528 → h1 170 k = h 170 k) ∧ h1 170 4 = h 170 4 ∧ ∃ M k', (∀ g : PH, (∀ c k : Nat, ¬ (c = 183 ∧ k = 0) → ¬ (c = 182 ∧ k = u.toNat) → g c k = h1 c k) → g 183 0 = hx 183 0 + (if w1 = 0 then 1 else 0) → (Y 44 u.toNat = 21 → g 182 u.toNat = Y 47 u.toNat - 1) → LVm h L Y f k' g) ∧ (∃ x, RLF h1 M x (L 0 12) (L 0 13) (bnS (L 0 7))) ∧ (W10 M ∧ DIM M L) ∧ (Y 44 u.toNat = 21 → k' = u + 1) ∧ (Y 44 u.toNat = 1 ∨ (10 ≤ Y 44 u.toNat ∧ Y 44 u.toNat ≤ 14) ∨ Y 44 u.toNat = 16 → k' = u + 1) ∧ (18 ≤ Y 44 u.toNat ∧ Y 44 u.toNat ≤ 20 → (hdS M (Y 44 u.toNat) (Y 45 u.toNat) (Y 46 u.toNat) (Y 47 u.toNat) → k' = u + 1) ∧ (¬ hdS M (Y 44 u.toNat) (Y 45 u.toNat) (Y 46 u.toNat) (Y 47 u.toNat) → k' = Y 48 u.toNat + 1)) ∧ (0 ≤ hx 183 0 ∧ hx 183 0 ≤ 300) := by
  obtain ⟨M, x, d, m, ⟨n, T, tr, ru, en, rs⟩, r, ⟨wm, wd⟩, md, xb, ⟨q1, q2, q3⟩, fr⟩ := l
  obtain ⟨n', ⟨k', M', x', T', d', m'⟩, -, t, tr'⟩ := trL_1 tr ff (fun q => q.elim (fun z => z ⟨ru.1, hu⟩) (fun z => by have := z.2; dsimp only at this; omega))
  have w' := w.c wd.1 wd.2.1
  have okw_ := w'.ok u.toNat (by omega)
  obtain ⟨v, hd, v01, em, wM', k21, kr, kw⟩ := lv_hd w wm t c22 c23
  have ed : d' = d + 1 := (t.2.1 c22).2
  have F : ∀ c k : Nat, ¬ (c = 169 ∧ k = 28) → uph hx 169 28 (w32 (hx 169 28 + 1)) c k = hx c k := fun c k q => up_ne q
  have f170 : (uph hx 169 28 (w32 (hx 169 28 + 1))) 170 = hx 170 := funext (fun k => F 170 k (by omega))
  have hr : RTl 0 (uph hx 169 28 (w32 (hx 169 28 + 1))) Y := ht.fr h60 (fun k hk => by rw [F 170 k (by omega)]; exact fr 170 k (by omega) (by omega) (by omega) (by omega) (by omega))
  have row : ∀ i : Nat, i < 4 → (uph hx 169 28 (w32 (hx 169 28 + 1))) 170 (164 + 6 * u.toNat + i) = erow (Y 44 u.toNat) (Y 45 u.toNat) (Y 46 u.toNat) (Y 47 u.toNat) i := fun i hi => by
    have := hr.2.1 u.toNat (by omega) i (by omega) (by omega)
    rw [show 528 * 0 + 164 + 6 * u.toNat + i = 164 + 6 * u.toNat + i by omega] at this
    exact this
  have ix : ∀ i : Int, 0 ≤ i → i ≤ 5 → (w32 (164 + 6 * u + i)).toNat = 164 + 6 * u.toNat + i.toNat := fun i h0 h5 => by rw [w32_id (by omega) (by omega)]; omega
  obtain ⟨ew, r1, lf⟩ := c_X12_doesL (M := M') (w := v) (y := x') wm (r.fr (g := uph hx 169 28 (w32 (hx 169 28 + 1))) f170 (F _ _ (by omega)) (fun k _ _ => F _ _ (by omega))) xb (by rw [show (164 + 6 * u).toNat = 164 + 6 * u.toNat + 0 by omega]; exact row 0 (by omega)) (by rw [ix 1 (by omega) (by omega)]; exact row 1 (by omega)) (by rw [ix 2 (by omega) (by omega)]; exact row 2 (by omega)) (by rw [ix 3 (by omega) (by omega)]; exact row 3 (by omega)) okw_ hd p1
  subst ew
  have rg := (lstp_o w t).1
  have en2 := lstp_en w t en
  have md2 := lstp_d t (by dsimp only; omega) okw_.1
  dsimp only at rg en2 md2
  have G : ∀ c k : Nat, ¬ (c = 169 ∧ k = 28) → ¬ (c = 169 ∧ k = 27) → ¬ (c = 170 ∧ k < 131 ∧ k ≠ 4) → ¬ (c = 178 ∧ k < 7) → ¬ (c = 183 ∧ 1 ≤ k ∧ k ≤ 3) → h1 c k = hx c k := fun c k k0 k1 k2 k3 k4 => (lf c k k1 k2 k3 k4).trans (F c k k0)
  have GF : ∀ k : Nat, k = 4 ∨ (131 ≤ k ∧ k < 528) → h1 170 k = h 170 k := fun k hk => (G 170 k (by omega) (by omega) (by omega) (by omega) (by omega)).trans (fr 170 k (by omega) (by omega) (by omega) (by omega) (by omega))
  refine ⟨fun z q => ?_, fun k k1 k2 => GF k (by omega), GF 4 (by omega), M', k', fun g gf g0 gl => ?_, ⟨x', r1⟩, ⟨wM', (lstp_m w wm t).tr wd⟩, k21, kr, fun q => ?_, by omega⟩
  · rcases hd with ⟨q1, -⟩ | ⟨-, q2, -⟩ <;> omega
  · have xb' : 0 ≤ x' ∧ x' ≤ 65535 := by
      rcases hd with ⟨q1, -, q2⟩ | ⟨-, -, -, q2⟩
      · exact dnL_x q2 q1 xb
      · omega
    refine ⟨M', x', d', m', ⟨n', T', tr', rg, en2, rs.st w t en (fun o ho hn => ?_) (fun q => gl q) (fun q => absurd q c22)⟩, r1.fr (funext (fun k => gf 170 k (by omega) (by omega))) (gf _ _ (by omega) (by omega)) (fun k _ _ => gf _ _ (by omega) (by omega)), ⟨wM', (lstp_m w wm t).tr wd⟩, md2, xb', ⟨?_, ?_, ?_⟩, fun c k k1 k2 k3 k4 k5 => ?_⟩
    · rw [gf _ _ (by omega) (by omega)]; exact G _ _ (by omega) (by omega) (by omega) (by omega) (by omega)
    · rw [gf _ _ (by omega) (by omega), lf _ _ (by omega) (by omega) (by omega) (by omega), up_sm, w32_id (by omega) (by omega)]; omega
    · rw [g0, em, q2]
      rcases v01 with z | z
      · rw [if_pos z]; omega
      · rw [if_neg (by omega)]; omega
    · rw [gf _ _ (by omega) (by omega)]; exact (G _ _ (by omega) (by omega) (by omega) (by omega) (by omega)).trans q3
    · rw [gf _ _ (by omega) (by omega)]; exact (G c k (by omega) (by omega) k2 k3 (by omega)).trans (fr c k k1 k2 k3 k4 k5)
  · have eM : M' = M := by
      rcases hd with ⟨q1, -⟩ | ⟨-, -, q2, -⟩
      · omega
      · exact q2
    rw [eM]; exact kw q
theorem LVm.end (l : LVm h L Y f u hx) (ff : fin Y f) (hG : ∀ c k : Nat, ¬ (c = 183 ∧ k = 4) → g c k = hx c k) (h6 : (g 183 4 = hx 183 4 ∧ Y 43 2 ≤ u) ∨ (g 183 4 = 1 ∧ u < Y 43 2 ∧ Y 44 u.toNat ≠ 22 ∧ 300 ≤ hx 169 28)) : LVD h g L Y f := by
  obtain ⟨M, x, d, m, ⟨n, T, tr, ru, en, rs⟩, r, ⟨wm, wd⟩, md, xb, ⟨q1, q2, q3⟩, fr⟩ := l
  have e := trL_0 tr (by
    rcases h6 with ⟨-, q⟩ | ⟨-, -, z1, z2⟩
    · exact Or.inl (fun z => by have := z.2; dsimp only at this; omega)
    · exact Or.inr ⟨z1, by show 300 ≤ d; omega⟩)
  subst e
  refine ⟨r.fr (funext (fun k => hG 170 k (by omega))) (hG _ _ (by omega)) (fun k _ _ => hG _ _ (by omega)), (hG _ _ (by omega)).trans q1, (hG _ _ (by omega)).trans q2, ?_, fun c k k1 k2 k3 k4 k5 => (hG c k (by omega)).trans (fr c k k1 k2 k3 k4 k5)⟩
  rcases h6 with ⟨z1, z2⟩ | ⟨z1, z2, -⟩
  · exact Or.inl ⟨z1.trans q3, z2⟩
  · exact Or.inr ⟨z1, z2⟩
theorem LVm.stop (l : LVm h L Y f u hx) (w : WYc L Y) (ff : fin Y f) (hu : u < Y 43 2) (c23 : Y 44 u.toNat = 23) (h300 : hx 169 28 ≠ 300) : LVD h (uph hx 169 28 (w32 (hx 169 28 + 1))) L Y f := by
  obtain ⟨M, x, d, m, ⟨n, T, tr, ru, en, rs⟩, r, ⟨wm, wd⟩, md, xb, ⟨q1, q2, q3⟩, fr⟩ := l
  obtain ⟨n', ⟨k', M', x', T', d', m'⟩, -, t, tr'⟩ := trL_1 tr ff (fun q => q.elim (fun z => z ⟨ru.1, hu⟩) (fun z => by have := z.2; dsimp only at this; omega))
  have ed : d' = d + 1 := (t.2.1 (by dsimp only; omega)).2
  obtain ⟨⟨e1, e2, e3⟩, e4, e5⟩ := t.2.2.2.2.2.2.1 c23
  dsimp only at e1 e2 e3 e4 e5
  have e := trL_0 tr' (Or.inl (fun z => by have := z.2; dsimp only at this; omega))
  have F : ∀ c k : Nat, ¬ (c = 169 ∧ k = 28) → uph hx 169 28 (w32 (hx 169 28 + 1)) c k = hx c k := fun c k q => up_ne q
  rw [← e]
  refine ⟨?_, ?_, ?_, Or.inl ⟨(F _ _ (by omega)).trans q3, by dsimp only; omega⟩, fun c k k1 k2 k3 k4 k5 => (F c k (by omega)).trans (fr c k k1 k2 k3 k4 k5)⟩
  · dsimp only
    rw [e1, e2]
    exact r.fr (funext (fun k => F 170 k (by omega))) (F _ _ (by omega)) (fun k _ _ => F _ _ (by omega))
  · dsimp only
    rw [up_sm, w32_id (by omega) (by omega)]; omega
  · dsimp only
    rw [F _ _ (by omega)]; omega
theorem LVm.r (l : LVm h L Y f u hx) (ht : RTl 0 h Y) : (0 ≤ u ∧ u ≤ Y 43 2) ∧ hx 170 4 = Y 43 2 ∧ (0 ≤ hx 169 28 ∧ hx 169 28 ≤ 300) ∧ ∀ k : Nat, 164 ≤ k → k < 528 → hx 170 k = h 170 k := by
  obtain ⟨M, x, d, m, ⟨n, T, tr, ru, en, rs⟩, r, ⟨wm, wd⟩, md, xb, ⟨q1, q2, q3⟩, fr⟩ := l
  exact ⟨ru, (fr 170 4 (by omega) (by omega) (by omega) (by omega) (by omega)).trans ht.1, by omega, fun k k1 k2 => fr 170 k (by omega) (by omega) (by omega) (by omega) (by omega)⟩
end LVS
set_option maxRecDepth 10000 in
theorem v_X12_livesL {sl : Nat} {si : Nat → Int} {K : Nat → PH → ZL → List ZV → Prop} {Q : PH → List ZV → Prop} {h : PH}     {a : Int} (H : K 12 (uph (uph h 169 27 a) 169 28 0) [(2, (0, 0)), (0, (2, 169)), (1, (0, a))] []) : vc (zz sl si (7, 0)) (fun p => Nat.beq p 12 || Nat.beq p 32) K Q mX12_lives 10 0 mX12_lives.2.2.2.2.2.2 h [(0, (2, 169)), (1, (0, a))] [] := H
set_option maxRecDepth 10000 in
theorem v_X12_livesL_12 {sl : Nat} {si : Nat → Int} {K : Nat → PH → ZL → List ZV → Prop} {Q : PH → List ZV → Prop} {h : PH}     {a : Int} {k : Int} (H : ((5 : Int) ≤ k → K 32 h [(2, (0, 0)), (0, (2, 169)), (1, (0, a))] []) ∧ (¬ ((5 : Int) ≤ k) → 0 ≤ k ∧ k < (5 : Nat) → K 12 (uph h 183 k.toNat 0) [(2, (0, w32 (k + 1))), (0, (2, 169)), (1, (0, a))] [])) : vc (zz sl si (7, 0)) (fun p => Nat.beq p 12 || Nat.beq p 32) K Q mX12_lives 12 12 (ax_jmp mX12_lives.2.2.2.2.2.2 12) h [(0, (2, 169)), (1, (0, a)), (2, (0, k))] [] := H
set_option maxRecDepth 10000 in
theorem v_X12_livesL_32 {sl : Nat} {si : Nat → Int} {K : Nat → PH → ZL → List ZV → Prop} {Q : PH → List ZV → Prop} {h : PH}     {a : Int} {k : Int} (H : 0 ≤ (4 : Int) ∧ (4 : Int) < (3696 : Nat) → R32 (h 170 4) → ((h 170 4) ≤ k → Q h []) ∧ (¬ ((h 170 4) ≤ k) → R32 (h 169 28) → ((h 169 28) ≠ 300 → R32 (h 169 28) → 0 ≤ w32 (164 + (w32 (6 * k))) ∧ w32 (164 + (w32 (6 * k))) < (3696 : Nat) → R32 (h 170 (w32 (164 + (w32 (6 * k)))).toNat) → ((h 170 (w32 (164 + (w32 (6 * k)))).toNat) ≠ 20 → 0 ≤ (0 : Int) ∧ (0 : Int) < (5 : Nat) → R32 (h 183 0) → ∀ h1 v1, CP (zz sl si (7, 0)) mX12_does (uph h 169 28 (w32 ((h 169 28) + 1))) [(2, 169), (0, w32 (164 + (w32 (6 * k))))] h1 [(0, v1)] → v1 = 0 ∨ v1 = 1 → (v1 = 0 → 0 ≤ (0 : Int) ∧ (0 : Int) < (5 : Nat) → 0 ≤ w32 (164 + (w32 (6 * k))) ∧ w32 (164 + (w32 (6 * k))) < (3696 : Nat) → R32 (h1 170 (w32 (164 + (w32 (6 * k)))).toNat) → ((h1 170 (w32 (164 + (w32 (6 * k)))).toNat) ≠ 18 → 0 ≤ w32 (164 + (w32 (6 * k))) ∧ w32 (164 + (w32 (6 * k))) < (3696 : Nat) → R32 (h1 170 (w32 (164 + (w32 (6 * k)))).toNat) → ((h1 170 (w32 (164 + (w32 (6 * k)))).toNat) < 1700 → ∀ h2 v2, CP (zz sl si (7, 0)) mX12_behindEnds (uph h1 183 0 (w32 ((h 183 0) + 1))) [(2, 169), (0, w32 (k + 1))] h2 [(0, v2)] → R32 v2 → K 32 h2 [(2, (0, v2)), (3, (0, w32 (164 + (w32 (6 * k))))), (0, (2, 169)), (1, (0, a))] []) ∧ (¬ ((h1 170 (w32 (164 + (w32 (6 * k)))).toNat) < 1700) → ∀ h3 v3, CP (zz sl si (7, 0)) mX12_holds (uph h1 183 0 (w32 ((h 183 0) + 1))) [(2, 169), (0, w32 (164 + (w32 (6 * k))))] h3 [(0, v3)] → v3 = 0 ∨ v3 = 1 → (v3 ≠ 0 → ∀ h4 v4, CP (zz sl si (7, 0)) mX12_behindEnds h3 [(2, 169), (0, w32 (k + 1))] h4 [(0, v4)] → R32 v4 → K 32 h4 [(2, (0, v4)), (3, (0, w32 (164 + (w32 (6 * k))))), (0, (2, 169)), (1, (0, a))] []) ∧ (¬ (v3 ≠ 0) → 0 ≤ w32 ((w32 (164 + (w32 (6 * k)))) + 4) ∧ w32 ((w32 (164 + (w32 (6 * k)))) + 4) < (3696 : Nat) → R32 (h3 170 (w32 ((w32 (164 + (w32 (6 * k)))) + 4)).toNat) → ∀ h5 v5, CP (zz sl si (7, 0)) mX12_behindEnds h3 [(2, 169), (0, w32 ((h3 170 (w32 ((w32 (164 + (w32 (6 * k)))) + 4)).toNat) + 1))] h5 [(0, v5)] → R32 v5 → K 32 h5 [(2, (0, v5)), (3, (0, w32 (164 + (w32 (6 * k))))), (0, (2, 169)), (1, (0, a))] []))) ∧ (¬ ((h1 170 (w32 (164 + (w32 (6 * k)))).toNat) ≠ 18) → 0 ≤ w32 ((w32 (164 + (w32 (6 * k)))) + 1) ∧ w32 ((w32 (164 + (w32 (6 * k)))) + 1) < (3696 : Nat) → R32 (h1 170 (w32 ((w32 (164 + (w32 (6 * k)))) + 1)).toNat) → 0 ≤ k ∧ k < (80 : Nat) → 0 ≤ w32 (164 + (w32 (6 * k))) ∧ w32 (164 + (w32 (6 * k))) < (3696 : Nat) → R32 (h1 170 (w32 (164 + (w32 (6 * k)))).toNat) → ((h1 170 (w32 (164 + (w32 (6 * k)))).toNat) < 1700 → ∀ h6 v6, CP (zz sl si (7, 0)) mX12_behindEnds (uph (uph h1 183 0 (w32 ((h 183 0) + 1))) 182 k.toNat (w32 ((h1 170 (w32 ((w32 (164 + (w32 (6 * k)))) + 1)).toNat) - 1))) [(2, 169), (0, w32 (k + 1))] h6 [(0, v6)] → R32 v6 → K 32 h6 [(2, (0, v6)), (3, (0, w32 (164 + (w32 (6 * k))))), (0, (2, 169)), (1, (0, a))] []) ∧ (¬ ((h1 170 (w32 (164 + (w32 (6 * k)))).toNat) < 1700) → ∀ h7 v7, CP (zz sl si (7, 0)) mX12_holds (uph (uph h1 183 0 (w32 ((h 183 0) + 1))) 182 k.toNat (w32 ((h1 170 (w32 ((w32 (164 + (w32 (6 * k)))) + 1)).toNat) - 1))) [(2, 169), (0, w32 (164 + (w32 (6 * k))))] h7 [(0, v7)] → v7 = 0 ∨ v7 = 1 → (v7 ≠ 0 → ∀ h8 v8, CP (zz sl si (7, 0)) mX12_behindEnds h7 [(2, 169), (0, w32 (k + 1))] h8 [(0, v8)] → R32 v8 → K 32 h8 [(2, (0, v8)), (3, (0, w32 (164 + (w32 (6 * k))))), (0, (2, 169)), (1, (0, a))] []) ∧ (¬ (v7 ≠ 0) → 0 ≤ w32 ((w32 (164 + (w32 (6 * k)))) + 4) ∧ w32 ((w32 (164 + (w32 (6 * k)))) + 4) < (3696 : Nat) → R32 (h7 170 (w32 ((w32 (164 + (w32 (6 * k)))) + 4)).toNat) → ∀ h9 v9, CP (zz sl si (7, 0)) mX12_behindEnds h7 [(2, 169), (0, w32 ((h7 170 (w32 ((w32 (164 + (w32 (6 * k)))) + 4)).toNat) + 1))] h9 [(0, v9)] → R32 v9 → K 32 h9 [(2, (0, v9)), (3, (0, w32 (164 + (w32 (6 * k))))), (0, (2, 169)), (1, (0, a))] [])))) ∧ (¬ (v1 = 0) → 0 ≤ (0 : Int) ∧ (0 : Int) < (5 : Nat) → 0 ≤ w32 (164 + (w32 (6 * k))) ∧ w32 (164 + (w32 (6 * k))) < (3696 : Nat) → R32 (h1 170 (w32 (164 + (w32 (6 * k)))).toNat) → ((h1 170 (w32 (164 + (w32 (6 * k)))).toNat) ≠ 18 → 0 ≤ w32 (164 + (w32 (6 * k))) ∧ w32 (164 + (w32 (6 * k))) < (3696 : Nat) → R32 (h1 170 (w32 (164 + (w32 (6 * k)))).toNat) → ((h1 170 (w32 (164 + (w32 (6 * k)))).toNat) < 1700 → ∀ h10 v10, CP (zz sl si (7, 0)) mX12_behindEnds (uph h1 183 0 (w32 ((h 183 0) + 0))) [(2, 169), (0, w32 (k + 1))] h10 [(0, v10)] → R32 v10 → K 32 h10 [(2, (0, v10)), (3, (0, w32 (164 + (w32 (6 * k))))), (0, (2, 169)), (1, (0, a))] []) ∧ (¬ ((h1 170 (w32 (164 + (w32 (6 * k)))).toNat) < 1700) → ∀ h11 v11, CP (zz sl si (7, 0)) mX12_holds (uph h1 183 0 (w32 ((h 183 0) + 0))) [(2, 169), (0, w32 (164 + (w32 (6 * k))))] h11 [(0, v11)] → v11 = 0 ∨ v11 = 1 → (v11 ≠ 0 → ∀ h12 v12, CP (zz sl si (7, 0)) mX12_behindEnds h11 [(2, 169), (0, w32 (k + 1))] h12 [(0, v12)] → R32 v12 → K 32 h12 [(2, (0, v12)), (3, (0, w32 (164 + (w32 (6 * k))))), (0, (2, 169)), (1, (0, a))] []) ∧ (¬ (v11 ≠ 0) → 0 ≤ w32 ((w32 (164 + (w32 (6 * k)))) + 4) ∧ w32 ((w32 (164 + (w32 (6 * k)))) + 4) < (3696 : Nat) → R32 (h11 170 (w32 ((w32 (164 + (w32 (6 * k)))) + 4)).toNat) → ∀ h13 v13, CP (zz sl si (7, 0)) mX12_behindEnds h11 [(2, 169), (0, w32 ((h11 170 (w32 ((w32 (164 + (w32 (6 * k)))) + 4)).toNat) + 1))] h13 [(0, v13)] → R32 v13 → K 32 h13 [(2, (0, v13)), (3, (0, w32 (164 + (w32 (6 * k))))), (0, (2, 169)), (1, (0, a))] []))) ∧ (¬ ((h1 170 (w32 (164 + (w32 (6 * k)))).toNat) ≠ 18) → 0 ≤ w32 ((w32 (164 + (w32 (6 * k)))) + 1) ∧ w32 ((w32 (164 + (w32 (6 * k)))) + 1) < (3696 : Nat) → R32 (h1 170 (w32 ((w32 (164 + (w32 (6 * k)))) + 1)).toNat) → 0 ≤ k ∧ k < (80 : Nat) → 0 ≤ w32 (164 + (w32 (6 * k))) ∧ w32 (164 + (w32 (6 * k))) < (3696 : Nat) → R32 (h1 170 (w32 (164 + (w32 (6 * k)))).toNat) → ((h1 170 (w32 (164 + (w32 (6 * k)))).toNat) < 1700 → ∀ h14 v14, CP (zz sl si (7, 0)) mX12_behindEnds (uph (uph h1 183 0 (w32 ((h 183 0) + 0))) 182 k.toNat (w32 ((h1 170 (w32 ((w32 (164 + (w32 (6 * k)))) + 1)).toNat) - 1))) [(2, 169), (0, w32 (k + 1))] h14 [(0, v14)] → R32 v14 → K 32 h14 [(2, (0, v14)), (3, (0, w32 (164 + (w32 (6 * k))))), (0, (2, 169)), (1, (0, a))] []) ∧ (¬ ((h1 170 (w32 (164 + (w32 (6 * k)))).toNat) < 1700) → ∀ h15 v15, CP (zz sl si (7, 0)) mX12_holds (uph (uph h1 183 0 (w32 ((h 183 0) + 0))) 182 k.toNat (w32 ((h1 170 (w32 ((w32 (164 + (w32 (6 * k)))) + 1)).toNat) - 1))) [(2, 169), (0, w32 (164 + (w32 (6 * k))))] h15 [(0, v15)] → v15 = 0 ∨ v15 = 1 → (v15 ≠ 0 → ∀ h16 v16, CP (zz sl si (7, 0)) mX12_behindEnds h15 [(2, 169), (0, w32 (k + 1))] h16 [(0, v16)] → R32 v16 → K 32 h16 [(2, (0, v16)), (3, (0, w32 (164 + (w32 (6 * k))))), (0, (2, 169)), (1, (0, a))] []) ∧ (¬ (v15 ≠ 0) → 0 ≤ w32 ((w32 (164 + (w32 (6 * k)))) + 4) ∧ w32 ((w32 (164 + (w32 (6 * k)))) + 4) < (3696 : Nat) → R32 (h15 170 (w32 ((w32 (164 + (w32 (6 * k)))) + 4)).toNat) → ∀ h17 v17, CP (zz sl si (7, 0)) mX12_behindEnds h15 [(2, 169), (0, w32 ((h15 170 (w32 ((w32 (164 + (w32 (6 * k)))) + 4)).toNat) + 1))] h17 [(0, v17)] → R32 v17 → K 32 h17 [(2, (0, v17)), (3, (0, w32 (164 + (w32 (6 * k))))), (0, (2, 169)), (1, (0, a))] []))))) ∧ (¬ ((h 170 (w32 (164 + (w32 (6 * k)))).toNat) ≠ 20) → Q (uph h 169 28 (w32 ((h 169 28) + 1))) [])) ∧ (¬ ((h 169 28) ≠ 300) → 0 ≤ (4 : Int) ∧ (4 : Int) < (5 : Nat) → Q (uph h 183 4 1) []))) : vc (zz sl si (7, 0)) (fun p => Nat.beq p 12 || Nat.beq p 32) K Q mX12_lives 84 32 (ax_jmp mX12_lives.2.2.2.2.2.2 32) h [(0, (2, 169)), (1, (0, a)), (2, (0, k))] [] := H
set_option maxHeartbeats 600000 in
theorem c_X12_livesL {sl : Nat} {si : Nat → Int} {h h' : PH} {L Y : PH} {f : (Int × PH × Int × (Nat → Int) × Int × Int)} {n : Nat} {T : Nat → Int} {a : Int} (r9 : RN9 h L) (hw : W10 L) (hB : BdR h) (hD : BdD h) (hH : BdH h) (ha : 0 ≤ a ∧ a ≤ 65535) (ht : RTl 0 h Y) (w : WYc L Y) (h60 : Y 43 2 ≤ 60) (ff : fin Y f) (tr : trL Y n (0, L, a, T, 0, 0) f) (hc : CP (zz sl si (7, 0)) mX12_lives h [(2, 169), (0, a)] h' []) : LVD h h' L Y f := by
  have q : (fun (xh : PH) (r : List ZV) => LVD h xh L Y f) h' [] := by
    refine cp_vc (cut := (fun p => Nat.beq p 12 || Nat.beq p 32)) (K := fun p hx lv st => (p = 12 ∧ lK (fun u : Int => [(0, (2, 169)), (1, (0, a)), (2, (0, u))]) (fun u hx => (0 ≤ u ∧ u ≤ 5) ∧ hx 169 27 = a ∧ hx 169 28 = 0 ∧ (∀ j : Nat, (j : Int) < u → hx 183 j = 0) ∧ ∀ c k : Nat, ¬ (c = 169 ∧ (k = 27 ∨ k = 28)) → c ≠ 183 → hx c k = h c k) p hx lv st) ∨ (p = 32 ∧ lK (fun u : Int => [(0, (2, 169)), (1, (0, a)), (2, (0, u))]) (fun u hx => LVm h L Y f u hx ∧ (u < Y 43 2 → Y 44 u.toNat ≠ 22)) p hx lv st)) (Q := fun (xh : PH) (r : List ZV) => LVD h xh L Y f) (v_X12_livesL ?_) (fun pc hx lv st hcut hK => ?_) hc
    · exact (by exact Or.inl ⟨rfl, rfl, 0, ⟨by omega, by rw [up_ne (by omega), up_sm], up_sm, fun j hj => by omega, fun c k k1 k2 => by rw [up_ne (by omega), up_ne (by omega)]⟩, rfl, rfl, rfl, trivial⟩)
    · rcases hK with ⟨rfl, rfl, u, hJ, hs⟩ | ⟨rfl, rfl, u, hJ, hs⟩
      · obtain ⟨j1, j2, j3, j4, j5⟩ := hJ
        exact ⟨_, _, hs, v_X12_livesL_12 ⟨fun c1 => (by have g3 : ∀ k : Nat, k < 5 → hx 183 k = 0 := (fun k hk => j4 k (by omega)); have z := Bd_e (show hx 170 = h 170 from funext (fun k => j5 170 k (by omega) (by omega))); have cz : ∀ x : Int, (0 : Int) = w32 (x - x) := (fun x => by rw [Int.sub_self]; decide +kernel); exact Or.inr ⟨rfl, rfl, 0, ⟨⟨L, a, 0, 0, ⟨n, T, tr, ⟨by omega, w.n0⟩, fun o ho => absurd ho.1 (by omega), fun o ho => absurd ho.1 (by omega)⟩, ⟨r9.e (funext (fun k => j5 170 k (by omega) (by omega))), ⟨z.1 hB, z.2.1 hD, z.2.2 hH⟩, j2, (by rw [g3 1 (by omega)]; exact cz _), (by rw [g3 2 (by omega)]; exact cz _), (by rw [g3 3 (by omega)]; exact cz _)⟩, ⟨hw, DIM.rf L⟩, by omega, ha, ⟨j3, g3 0 (by omega), g3 4 (by omega)⟩, fun c k k1 k2 k3 k4 k5 => j5 c k k1 k5⟩, fun hz h22 => by have := w.cl 0 (by omega) h22; omega⟩, rfl, rfl, rfl, trivial⟩), fun c1 => (fun b2 => (by exact Or.inl ⟨rfl, rfl, u + 1, ⟨by omega, by rw [up_ne (by omega)]; exact j2, by rw [up_ne (by omega)]; exact j3, fun j hj => (by (by_cases e : j = u.toNat; (rw [e]; exact up_sm); (rw [up_ne (by omega)]; exact j4 j (by omega)))), fun c k k1 k2 => by rw [up_ne (by omega)]; exact j5 c k k1 k2⟩, rfl, rfl, wv (by omega) (by omega) rfl, trivial⟩))⟩⟩
      · obtain ⟨l, nE⟩ := hJ
        obtain ⟨u0, s4, d0, rx⟩ := l.r ht
        have rw0 := ht.x
        exact ⟨_, _, hs, v_X12_livesL_32 (fun b1 r2 => ⟨fun c3 => (by rw [s4] at c3; exact l.end ff (g := hx) (fun _ _ _ => rfl) (Or.inl ⟨rfl, c3⟩)), fun c3 => (fun r4 => ⟨fun c5 => (fun r6 => (fun b7 r8 => ⟨fun c9 => (fun b10 r11 => (fun h1 v1 p1 q1 => ⟨fun c12 => (fun b13 => (fun b14 r15 => ⟨fun c16 => (fun b17 r18 => ⟨fun c19 => (fun h2 v2 p2 q2 => (by rw [s4] at c3; rw [ixw u0.1 (by omega)] at *; rw [show (164 + 6 * u).toNat = 164 + 6 * u.toNat by omega] at *; rw [rx (164 + 6 * u.toNat) (by omega) (by omega), (rw0 u.toNat (by omega)).1] at c9; have ok := w.ok u.toNat (by omega); have kk := ok.1; have k9 := kcd_19 ok; have n22 := nE (by omega); obtain ⟨g1, g2, g3, M, k', g4, ⟨x1, g5⟩, g6, g7, g8, g9, g10⟩ := l.go ht w h60 ff (by omega) n22 (by omega) (by omega) p1; rw [g2 (164 + 6 * u.toNat) (by omega) (by omega), (rw0 u.toNat (by omega)).1] at *; have lm := g4 (uph h1 183 0 (w32 (hx 183 0 + 1))) (fun c k k1 k2 => up_ne k1) (by rw [up_sm, if_pos (by assumption)]; exact w32_id (by omega) (by omega)) (fun q => by omega); rw [g8 (by omega), ← w32_id (z := u + 1) (by omega) (by omega)] at lm; have bb := lm.be ht w h60 ff p2; exact Or.inr ⟨rfl, rfl, v2, bb, rfl, rfl, rfl, trivial⟩)), fun c19 => (fun h3 v3 p3 q3 => ⟨fun c20 => (fun h4 v4 p4 q4 => (by rw [s4] at c3; rw [ixw u0.1 (by omega)] at *; rw [show (164 + 6 * u).toNat = 164 + 6 * u.toNat by omega] at *; rw [rx (164 + 6 * u.toNat) (by omega) (by omega), (rw0 u.toNat (by omega)).1] at c9; have ok := w.ok u.toNat (by omega); have kk := ok.1; have k9 := kcd_19 ok; have n22 := nE (by omega); obtain ⟨g1, g2, g3, M, k', g4, ⟨x1, g5⟩, g6, g7, g8, g9, g10⟩ := l.go ht w h60 ff (by omega) n22 (by omega) (by omega) p1; rw [g2 (164 + 6 * u.toNat) (by omega) (by omega), (rw0 u.toNat (by omega)).1] at *; exfalso; have := g1 (by assumption); omega)), fun c20 => (fun b21 r22 => (fun h5 v5 p5 q5 => (by rw [s4] at c3; rw [ixw u0.1 (by omega)] at *; rw [show (164 + 6 * u).toNat = 164 + 6 * u.toNat by omega] at *; rw [rx (164 + 6 * u.toNat) (by omega) (by omega), (rw0 u.toNat (by omega)).1] at c9; have ok := w.ok u.toNat (by omega); have kk := ok.1; have k9 := kcd_19 ok; have n22 := nE (by omega); obtain ⟨g1, g2, g3, M, k', g4, ⟨x1, g5⟩, g6, g7, g8, g9, g10⟩ := l.go ht w h60 ff (by omega) n22 (by omega) (by omega) p1; rw [g2 (164 + 6 * u.toNat) (by omega) (by omega), (rw0 u.toNat (by omega)).1] at *; exfalso; have := g1 (by assumption); omega)))⟩)⟩), fun c16 => (fun b23 r24 => (fun b25 => (fun b26 r27 => ⟨fun c28 => (fun h6 v6 p6 q6 => (by rw [s4] at c3; rw [ixw u0.1 (by omega)] at *; rw [show (164 + 6 * u).toNat = 164 + 6 * u.toNat by omega] at *; rw [rx (164 + 6 * u.toNat) (by omega) (by omega), (rw0 u.toNat (by omega)).1] at c9; have ok := w.ok u.toNat (by omega); have kk := ok.1; have k9 := kcd_19 ok; have n22 := nE (by omega); obtain ⟨g1, g2, g3, M, k', g4, ⟨x1, g5⟩, g6, g7, g8, g9, g10⟩ := l.go ht w h60 ff (by omega) n22 (by omega) (by omega) p1; rw [g2 (164 + 6 * u.toNat) (by omega) (by omega), (rw0 u.toNat (by omega)).1] at *; exfalso; have := g1 (by assumption); omega)), fun c28 => (fun h7 v7 p7 q7 => ⟨fun c29 => (fun h8 v8 p8 q8 => (by rw [s4] at c3; rw [ixw u0.1 (by omega)] at *; rw [show (164 + 6 * u).toNat = 164 + 6 * u.toNat by omega] at *; rw [rx (164 + 6 * u.toNat) (by omega) (by omega), (rw0 u.toNat (by omega)).1] at c9; have ok := w.ok u.toNat (by omega); have kk := ok.1; have k9 := kcd_19 ok; have n22 := nE (by omega); obtain ⟨g1, g2, g3, M, k', g4, ⟨x1, g5⟩, g6, g7, g8, g9, g10⟩ := l.go ht w h60 ff (by omega) n22 (by omega) (by omega) p1; rw [g2 (164 + 6 * u.toNat) (by omega) (by omega), (rw0 u.toNat (by omega)).1] at *; exfalso; have := g1 (by assumption); omega)), fun c29 => (fun b30 r31 => (fun h9 v9 p9 q9 => (by rw [s4] at c3; rw [ixw u0.1 (by omega)] at *; rw [show (164 + 6 * u).toNat = 164 + 6 * u.toNat by omega] at *; rw [rx (164 + 6 * u.toNat) (by omega) (by omega), (rw0 u.toNat (by omega)).1] at c9; have ok := w.ok u.toNat (by omega); have kk := ok.1; have k9 := kcd_19 ok; have n22 := nE (by omega); obtain ⟨g1, g2, g3, M, k', g4, ⟨x1, g5⟩, g6, g7, g8, g9, g10⟩ := l.go ht w h60 ff (by omega) n22 (by omega) (by omega) p1; rw [g2 (164 + 6 * u.toNat) (by omega) (by omega), (rw0 u.toNat (by omega)).1] at *; exfalso; have := g1 (by assumption); omega)))⟩)⟩)))⟩)), fun c12 => (fun b32 => (fun b33 r34 => ⟨fun c35 => (fun b36 r37 => ⟨fun c38 => (fun h10 v10 p10 q10 => (by rw [s4] at c3; rw [ixw u0.1 (by omega)] at *; rw [show (164 + 6 * u).toNat = 164 + 6 * u.toNat by omega] at *; rw [rx (164 + 6 * u.toNat) (by omega) (by omega), (rw0 u.toNat (by omega)).1] at c9; have ok := w.ok u.toNat (by omega); have kk := ok.1; have k9 := kcd_19 ok; have n22 := nE (by omega); obtain ⟨g1, g2, g3, M, k', g4, ⟨x1, g5⟩, g6, g7, g8, g9, g10⟩ := l.go ht w h60 ff (by omega) n22 (by omega) (by omega) p1; rw [g2 (164 + 6 * u.toNat) (by omega) (by omega), (rw0 u.toNat (by omega)).1] at *; have lm := g4 (uph h1 183 0 (w32 (hx 183 0 + 0))) (fun c k k1 k2 => up_ne k1) (by rw [up_sm, if_neg (by assumption)]; exact w32_id (by omega) (by omega)) (fun q => by omega); rw [g8 (by omega), ← w32_id (z := u + 1) (by omega) (by omega)] at lm; have bb := lm.be ht w h60 ff p10; exact Or.inr ⟨rfl, rfl, v10, bb, rfl, rfl, rfl, trivial⟩)), fun c38 => (fun h11 v11 p11 q11 => ⟨fun c39 => (fun h12 v12 p12 q12 => (by rw [s4] at c3; rw [ixw u0.1 (by omega)] at *; rw [show (164 + 6 * u).toNat = 164 + 6 * u.toNat by omega] at *; rw [rx (164 + 6 * u.toNat) (by omega) (by omega), (rw0 u.toNat (by omega)).1] at c9; have ok := w.ok u.toNat (by omega); have kk := ok.1; have k9 := kcd_19 ok; have n22 := nE (by omega); obtain ⟨g1, g2, g3, M, k', g4, ⟨x1, g5⟩, g6, g7, g8, g9, g10⟩ := l.go ht w h60 ff (by omega) n22 (by omega) (by omega) p1; rw [g2 (164 + 6 * u.toNat) (by omega) (by omega), (rw0 u.toNat (by omega)).1] at *; have lm := g4 (uph h1 183 0 (w32 (hx 183 0 + 0))) (fun c k k1 k2 => up_ne k1) (by rw [up_sm, if_neg (by assumption)]; exact w32_id (by omega) (by omega)) (fun q => by omega); have hr : RTl 0 (uph h1 183 0 (w32 (hx 183 0 + 0))) Y := ht.fr h60 (fun k hk => (by (rw [up_ne (by omega)]; rcases hk with e | e; (rw [e]; exact g3); (exact g2 k e.1 e.2)))); have row : ∀ i : Nat, i < 6 → i ≠ 4 → (uph h1 183 0 (w32 (hx 183 0 + 0))) 170 (164 + 6 * u.toNat + i) = erow (Y 44 u.toNat) (Y 45 u.toNat) (Y 46 u.toNat) (Y 47 u.toNat) i := (fun i hi h4 => by have := hr.2.1 u.toNat (by omega) i hi h4; rw [show 528 * 0 + 164 + 6 * u.toNat + i = 164 + 6 * u.toNat + i by omega] at this; exact this); have ix : ∀ i : Int, 0 ≤ i → i ≤ 5 → (w32 (164 + 6 * u + i)).toNat = 164 + 6 * u.toNat + i.toNat := (fun i h0 h5 => by rw [w32_id (by omega) (by omega)]; omega); obtain ⟨t1, t2⟩ := c_X12_holdsL g6.1 (g5.fr (g := uph h1 183 0 (w32 (hx 183 0 + 0))) (funext (fun k => up_ne (by omega))) (up_ne (by omega)) (fun k _ _ => up_ne (by omega))) (by rw [show (164 + 6 * u).toNat = 164 + 6 * u.toNat + 0 by omega]; exact row 0 (by omega) (by omega)) (by rw [ix 1 (by omega) (by omega)]; exact row 1 (by omega) (by omega)) (by rw [ix 2 (by omega) (by omega)]; exact row 2 (by omega) (by omega)) (by rw [ix 5 (by omega) (by omega)]; exact row 5 (by omega) (by omega)) (ok.c g6.2.1 g6.2.2.1) (by omega) p11; rw [(g9 (by omega)).1 (t2.mp (by omega)), ← w32_id (z := u + 1) (by omega) (by omega)] at lm; rw [t1] at p12; have bb := lm.be ht w h60 ff p12; exact Or.inr ⟨rfl, rfl, v12, bb, rfl, rfl, rfl, trivial⟩)), fun c39 => (fun b40 r41 => (fun h13 v13 p13 q13 => (by rw [s4] at c3; rw [ixw u0.1 (by omega)] at *; rw [show (164 + 6 * u).toNat = 164 + 6 * u.toNat by omega] at *; rw [rx (164 + 6 * u.toNat) (by omega) (by omega), (rw0 u.toNat (by omega)).1] at c9; have ok := w.ok u.toNat (by omega); have kk := ok.1; have k9 := kcd_19 ok; have n22 := nE (by omega); obtain ⟨g1, g2, g3, M, k', g4, ⟨x1, g5⟩, g6, g7, g8, g9, g10⟩ := l.go ht w h60 ff (by omega) n22 (by omega) (by omega) p1; rw [g2 (164 + 6 * u.toNat) (by omega) (by omega), (rw0 u.toNat (by omega)).1] at *; have lm := g4 (uph h1 183 0 (w32 (hx 183 0 + 0))) (fun c k k1 k2 => up_ne k1) (by rw [up_sm, if_neg (by assumption)]; exact w32_id (by omega) (by omega)) (fun q => by omega); have hr : RTl 0 (uph h1 183 0 (w32 (hx 183 0 + 0))) Y := ht.fr h60 (fun k hk => (by (rw [up_ne (by omega)]; rcases hk with e | e; (rw [e]; exact g3); (exact g2 k e.1 e.2)))); have row : ∀ i : Nat, i < 6 → i ≠ 4 → (uph h1 183 0 (w32 (hx 183 0 + 0))) 170 (164 + 6 * u.toNat + i) = erow (Y 44 u.toNat) (Y 45 u.toNat) (Y 46 u.toNat) (Y 47 u.toNat) i := (fun i hi h4 => by have := hr.2.1 u.toNat (by omega) i hi h4; rw [show 528 * 0 + 164 + 6 * u.toNat + i = 164 + 6 * u.toNat + i by omega] at this; exact this); have ix : ∀ i : Int, 0 ≤ i → i ≤ 5 → (w32 (164 + 6 * u + i)).toNat = 164 + 6 * u.toNat + i.toNat := (fun i h0 h5 => by rw [w32_id (by omega) (by omega)]; omega); obtain ⟨t1, t2⟩ := c_X12_holdsL g6.1 (g5.fr (g := uph h1 183 0 (w32 (hx 183 0 + 0))) (funext (fun k => up_ne (by omega))) (up_ne (by omega)) (fun k _ _ => up_ne (by omega))) (by rw [show (164 + 6 * u).toNat = 164 + 6 * u.toNat + 0 by omega]; exact row 0 (by omega) (by omega)) (by rw [ix 1 (by omega) (by omega)]; exact row 1 (by omega) (by omega)) (by rw [ix 2 (by omega) (by omega)]; exact row 2 (by omega) (by omega)) (by rw [ix 5 (by omega) (by omega)]; exact row 5 (by omega) (by omega)) (ok.c g6.2.1 g6.2.2.1) (by omega) p11; have o := w.op u.toNat (by omega) (by unfold isO; omega); have e4 : h11 170 (w32 (164 + 6 * u + 4)).toNat = Y 48 u.toNat := (by rw [t1, ix 4 (by omega) (by omega), show 164 + 6 * u.toNat + (4 : Int).toNat = 168 + 6 * u.toNat by (show 164 + 6 * u.toNat + 4 = _; omega)]; exact (hr.x u.toNat (by omega)).2 (by unfold isP; omega)); rw [e4] at p13; rw [(g9 (by omega)).2 (fun z => by have := t2.mpr z; omega), ← w32_id (z := Y 48 u.toNat + 1) (by omega) (by omega)] at lm; rw [t1] at p13; have bb := lm.be ht w h60 ff p13; exact Or.inr ⟨rfl, rfl, v13, bb, rfl, rfl, rfl, trivial⟩)))⟩)⟩), fun c35 => (fun b42 r43 => (fun b44 => (fun b45 r46 => ⟨fun c47 => (fun h14 v14 p14 q14 => (by rw [s4] at c3; rw [ixw u0.1 (by omega)] at *; rw [show (164 + 6 * u).toNat = 164 + 6 * u.toNat by omega] at *; rw [rx (164 + 6 * u.toNat) (by omega) (by omega), (rw0 u.toNat (by omega)).1] at c9; have ok := w.ok u.toNat (by omega); have kk := ok.1; have k9 := kcd_19 ok; have n22 := nE (by omega); obtain ⟨g1, g2, g3, M, k', g4, ⟨x1, g5⟩, g6, g7, g8, g9, g10⟩ := l.go ht w h60 ff (by omega) n22 (by omega) (by omega) p1; rw [g2 (164 + 6 * u.toNat) (by omega) (by omega), (rw0 u.toNat (by omega)).1] at *; have e1 : h1 170 (w32 (164 + 6 * u + 1)).toNat = Y 47 u.toNat := (by rw [show (w32 (164 + 6 * u + 1)).toNat = 164 + 6 * u.toNat + 1 by (rw [w32_id (by omega) (by omega)]; omega), g2 _ (by omega) (by omega)]; have := ht.2.1 u.toNat (by omega) 1 (by omega) (by omega); rw [show 528 * 0 + 164 + 6 * u.toNat + 1 = 164 + 6 * u.toNat + 1 by omega] at this; rw [this, show Y 44 u.toNat = 21 by omega]; rfl); rw [e1] at p14; have nn := ok.2.2.2.2.2.2.1 (by omega); have lm := g4 (uph (uph h1 183 0 (w32 (hx 183 0 + 0))) 182 u.toNat (w32 (Y 47 u.toNat - 1))) (fun c k k1 k2 => by rw [up_ne k2, up_ne k1]) (by rw [up_ne (by omega), up_sm, if_neg (by assumption)]; exact w32_id (by omega) (by omega)) (fun q => by rw [up_sm]; exact w32_id (by omega) (by omega)); rw [g7 (by omega), ← w32_id (z := u + 1) (by omega) (by omega)] at lm; have bb := lm.be ht w h60 ff p14; exact Or.inr ⟨rfl, rfl, v14, bb, rfl, rfl, rfl, trivial⟩)), fun c47 => (fun h15 v15 p15 q15 => ⟨fun c48 => (fun h16 v16 p16 q16 => (by rw [s4] at c3; rw [ixw u0.1 (by omega)] at *; rw [show (164 + 6 * u).toNat = 164 + 6 * u.toNat by omega] at *; rw [rx (164 + 6 * u.toNat) (by omega) (by omega), (rw0 u.toNat (by omega)).1] at c9; have ok := w.ok u.toNat (by omega); have kk := ok.1; have k9 := kcd_19 ok; have n22 := nE (by omega); obtain ⟨g1, g2, g3, M, k', g4, ⟨x1, g5⟩, g6, g7, g8, g9, g10⟩ := l.go ht w h60 ff (by omega) n22 (by omega) (by omega) p1; rw [g2 (164 + 6 * u.toNat) (by omega) (by omega), (rw0 u.toNat (by omega)).1] at *; exfalso; omega)), fun c48 => (fun b49 r50 => (fun h17 v17 p17 q17 => (by rw [s4] at c3; rw [ixw u0.1 (by omega)] at *; rw [show (164 + 6 * u).toNat = 164 + 6 * u.toNat by omega] at *; rw [rx (164 + 6 * u.toNat) (by omega) (by omega), (rw0 u.toNat (by omega)).1] at c9; have ok := w.ok u.toNat (by omega); have kk := ok.1; have k9 := kcd_19 ok; have n22 := nE (by omega); obtain ⟨g1, g2, g3, M, k', g4, ⟨x1, g5⟩, g6, g7, g8, g9, g10⟩ := l.go ht w h60 ff (by omega) n22 (by omega) (by omega) p1; rw [g2 (164 + 6 * u.toNat) (by omega) (by omega), (rw0 u.toNat (by omega)).1] at *; exfalso; omega)))⟩)⟩)))⟩))⟩)), fun c9 => (by rw [s4] at c3; rw [ixw u0.1 (by omega)] at *; rw [show (164 + 6 * u).toNat = 164 + 6 * u.toNat by omega] at *; rw [rx (164 + 6 * u.toNat) (by omega) (by omega), (rw0 u.toNat (by omega)).1] at c9; have ok := w.ok u.toNat (by omega); have kk := ok.1; have k9 := kcd_19 ok; have n22 := nE (by omega); exact l.stop w ff (by omega) (by omega) (by omega))⟩)), fun c5 => (fun b51 => (by rw [s4] at c3; exact l.end ff (g := uph hx 183 4 1) (fun c k q => up_ne q) (Or.inr ⟨up_sm, by omega, nE (by omega), by omega⟩)))⟩)⟩)⟩
  exact q
end
section
/-! 45z.9d.live -/
/-! live() and lived() of both; what holds between calls -/
set_option maxRecDepth 10000 in
theorem v_X11_liveL {sl : Nat} {si : Nat → Int} {K : Nat → PH → ZL → List ZV → Prop} {Q : PH → List ZV → Prop} {h : PH}  {a : Int} (H : ∀ h1 v1, CP (zz sl si (7, 0)) mX11_isWithin h [(0, a), (0, 9999)] h1 [(0, v1)] → v1 = 0 ∨ v1 = 1 → (v1 ≠ 0 → R32 (h1 21 0) → ((h1 21 0) ≠ 0 → ∀ h2, CP (zz sl si (7, 0)) mX3_run h1 [(2, 89), (2, 21), (2, 5), (0, a)] h2 [] → R32 (h2 89 1) → ∀ h3 v3, CP (zz sl si (7, 0)) mX11_answer h2 [(2, 0), (0, (h2 89 1))] h3 [(0, v3)] → R32 v3 → Q h3 [(0, v3)]) ∧ (¬ ((h1 21 0) ≠ 0) → ∀ h4 v4, CP (zz sl si (7, 0)) mX11_refuse h1 [(2, 0), (0, 6)] h4 [(0, v4)] → R32 v4 → Q h4 [(0, v4)])) ∧ (¬ (v1 ≠ 0) → ∀ h5 v5, CP (zz sl si (7, 0)) mX11_refuse h1 [(2, 0), (0, 1)] h5 [(0, v5)] → R32 v5 → Q h5 [(0, v5)])) : vc (zz sl si (7, 0)) (fun _ => false) K Q mX11_live 24 0 mX11_live.2.2.2.2.2.2 h [(0, (2, 0)), (1, (0, a))] [] := H
set_option maxHeartbeats 600000 in
theorem c_X11_liveL {sl : Nat} {si : Nat → Int} {h h' : PH} {L Y : PH} {a : Int} {v : Int} (hL : CL 5 h L) (hw : W10 L) (hs : h 21 0 ≠ 0 → CS 21 h Y ∧ WYc L Y ∧ Y 43 2 ≤ 60) (hc : CP (zz sl si (7, 0)) mX11_live h [(2, 0), (0, a)] h' [(0, v)]) : (¬ (0 ≤ a ∧ a ≤ 9999) → v = -1 ∧ h' = uph h 0 0 1) ∧ ((0 ≤ a ∧ a ≤ 9999) → (h 21 0 = 0 → v = -1 ∧ h' = uph h 0 0 6) ∧ (h 21 0 ≠ 0 → ∃ g, LIVD h g L Y a ∧ v = g 89 1 ∧ h' = uph g 0 0 0)) := by
  have q : (fun (xh : PH) (r : List ZV) => ∀ v : Int, r = [(0, v)] → ((¬ (0 ≤ a ∧ a ≤ 9999) → v = -1 ∧ xh = uph h 0 0 1) ∧ ((0 ≤ a ∧ a ≤ 9999) → (h 21 0 = 0 → v = -1 ∧ xh = uph h 0 0 6) ∧ (h 21 0 ≠ 0 → ∃ g, LIVD h g L Y a ∧ v = g 89 1 ∧ xh = uph g 0 0 0)))) h' [(0, v)] := by
    refine cp_vc (cut := (fun _ => false)) (K := fun p hx lv st => False) (Q := fun (xh : PH) (r : List ZV) => ∀ v : Int, r = [(0, v)] → ((¬ (0 ≤ a ∧ a ≤ 9999) → v = -1 ∧ xh = uph h 0 0 1) ∧ ((0 ≤ a ∧ a ≤ 9999) → (h 21 0 = 0 → v = -1 ∧ xh = uph h 0 0 6) ∧ (h 21 0 ≠ 0 → ∃ g, LIVD h g L Y a ∧ v = g 89 1 ∧ xh = uph g 0 0 0)))) (v_X11_liveL ?_) (fun pc hx lv st hcut hK => ?_) hc
    · exact (fun h1 v1 p1 q1 => by obtain ⟨t1, e1⟩ := c_X11_isWithin p1; have t1 := t1.symm; subst t1; exact ⟨fun c1 => (fun r2 => ⟨fun c3 => (fun h2 p2 => (fun r4 => (fun h3 v3 p3 q3 => by obtain ⟨t3, e3⟩ := c_X11_answer p3; have t3 := t3.symm; subst t3; exact (by obtain ⟨s1, s2, s3⟩ := hs c3; have li := c_X3_run5 hL hw (by omega) s1 s2 s3 p2; intro v e; cases e; exact ⟨fun q => absurd q (by omega), fun _ => ⟨fun q => absurd q c3, fun _ => ⟨h2, li, by omega, rfl⟩⟩⟩)))), fun c3 => (fun h4 v4 p4 q4 => by obtain ⟨t4, e4⟩ := c_X11_refuse p4; have t4 := t4.symm; subst t4; exact (by intro v e; cases e; exact ⟨fun q => absurd q (by omega), fun _ => ⟨fun _ => ⟨by omega, rfl⟩, fun q => absurd q c3⟩⟩))⟩), fun c1 => (fun h5 v5 p5 q5 => by obtain ⟨t5, e5⟩ := c_X11_refuse p5; have t5 := t5.symm; subst t5; exact (by intro v e; cases e; exact ⟨fun _ => ⟨by omega, rfl⟩, fun q => absurd q (by omega)⟩))⟩)
    · exact hK.elim
  exact q v rfl
set_option maxRecDepth 10000 in
theorem v_X12_liveL {sl : Nat} {si : Nat → Int} {K : Nat → PH → ZL → List ZV → Prop} {Q : PH → List ZV → Prop} {h : PH}     {a : Int} (H : ∀ h1 v1, CP (zz sl si (7, 0)) mX12_isFrom h [(1, a), (1, 0), (1, 9999)] h1 [(0, v1)] → v1 = 0 ∨ v1 = 1 → (v1 ≠ 0 → 0 ≤ (4 : Int) ∧ (4 : Int) < (3696 : Nat) → R32 (h1 170 4) → ((h1 170 4) ≠ (-1) → ∀ h2, CP (zz sl si (7, 0)) mX12_lives h1 [(2, 169), (0, a)] h2 [] → K 42 h2 [(2, (0, 0)), (0, (2, 169)), (1, (0, a))] []) ∧ (¬ ((h1 170 4) ≠ (-1)) → ∀ h3 v3, CP (zz sl si (7, 0)) mX12_refuse h1 [(2, 169), (0, 6)] h3 [(0, v3)] → R32 v3 → Q h3 [(0, v3)])) ∧ (¬ (v1 ≠ 0) → ∀ h4 v4, CP (zz sl si (7, 0)) mX12_refuse h1 [(2, 169), (0, 1)] h4 [(0, v4)] → R32 v4 → Q h4 [(0, v4)])) : vc (zz sl si (7, 0)) (fun p => Nat.beq p 42) K Q mX12_live 19 0 mX12_live.2.2.2.2.2.2 h [(0, (2, 169)), (1, (0, a))] [] := H
set_option maxRecDepth 10000 in
theorem v_X12_liveL_42 {sl : Nat} {si : Nat → Int} {K : Nat → PH → ZL → List ZV → Prop} {Q : PH → List ZV → Prop} {h : PH}     {a : Int} {k : Int} (H : ((5 : Int) ≤ k → R32 (h 169 28) → ∀ h1 v1, CP (zz sl si (7, 0)) mX12_gives (uph h 169 32 1) [(2, 169), (0, (h 169 28))] h1 [(0, v1)] → R32 v1 → Q h1 [(0, v1)]) ∧ (¬ ((5 : Int) ≤ k) → 0 ≤ k ∧ k < (5 : Nat) → R32 (h 183 k.toNat) → 0 ≤ k ∧ k < (5 : Nat) → K 42 (uph h 184 k.toNat (h 183 k.toNat)) [(2, (0, w32 (k + 1))), (0, (2, 169)), (1, (0, a))] [])) : vc (zz sl si (7, 0)) (fun p => Nat.beq p 42) K Q mX12_live 15 42 (ax_jmp mX12_live.2.2.2.2.2.2 42) h [(0, (2, 169)), (1, (0, a)), (2, (0, k))] [] := H
set_option maxHeartbeats 600000 in
theorem c_X12_liveL {sl : Nat} {si : Nat → Int} {h h' : PH} {L Y : PH} {f : (Int × PH × Int × (Nat → Int) × Int × Int)} {n : Nat} {T : Nat → Int} {a : Int} {v : Int} (r9 : RN9 h L) (hw : W10 L) (hB : BdR h) (hD : BdD h) (hH : BdH h) (w : h 170 4 ≠ -1 → 0 ≤ a ∧ a ≤ 9999 → RTl 0 h Y ∧ WYc L Y ∧ Y 43 2 ≤ 60 ∧ fin Y f ∧ trL Y n (0, L, a, T, 0, 0) f) (hc : CP (zz sl si (7, 0)) mX12_live h [(2, 169), (0, a)] h' [(0, v)]) : (¬ (0 ≤ a ∧ a ≤ 9999) → v = -1 ∧ h' = uph h 169 2 1) ∧ ((0 ≤ a ∧ a ≤ 9999) → (h 170 4 = -1 → v = -1 ∧ h' = uph h 169 2 6) ∧ (h 170 4 ≠ -1 → ∃ g, LVD h g L Y f ∧ v = g 169 28 ∧ h' 169 32 = 1 ∧ (∀ j : Nat, j < 5 → h' 184 j = g 183 j) ∧ ∀ c k : Nat, ¬ (c = 169 ∧ (k = 2 ∨ k = 32)) → c ≠ 184 → h' c k = g c k)) := by
  have q : (fun (xh : PH) (r : List ZV) => ∀ v : Int, r = [(0, v)] → ((¬ (0 ≤ a ∧ a ≤ 9999) → v = -1 ∧ xh = uph h 169 2 1) ∧ ((0 ≤ a ∧ a ≤ 9999) → (h 170 4 = -1 → v = -1 ∧ xh = uph h 169 2 6) ∧ (h 170 4 ≠ -1 → ∃ g, LVD h g L Y f ∧ v = g 169 28 ∧ xh 169 32 = 1 ∧ (∀ j : Nat, j < 5 → xh 184 j = g 183 j) ∧ ∀ c k : Nat, ¬ (c = 169 ∧ (k = 2 ∨ k = 32)) → c ≠ 184 → xh c k = g c k)))) h' [(0, v)] := by
    refine cp_vc (cut := (fun p => Nat.beq p 42)) (K := fun p hx lv st => (p = 42 ∧ lK (fun u : Int => [(0, (2, 169)), (1, (0, a)), (2, (0, u))]) (fun u hx => (0 ≤ a ∧ a ≤ 9999) ∧ h 170 4 ≠ -1 ∧ ∃ g, LVD h g L Y f ∧ (0 ≤ u ∧ u ≤ 5) ∧ (∀ j : Nat, (j : Int) < u → hx 184 j = g 183 j) ∧ ∀ c k : Nat, c ≠ 184 → hx c k = g c k) p hx lv st)) (Q := fun (xh : PH) (r : List ZV) => ∀ v : Int, r = [(0, v)] → ((¬ (0 ≤ a ∧ a ≤ 9999) → v = -1 ∧ xh = uph h 169 2 1) ∧ ((0 ≤ a ∧ a ≤ 9999) → (h 170 4 = -1 → v = -1 ∧ xh = uph h 169 2 6) ∧ (h 170 4 ≠ -1 → ∃ g, LVD h g L Y f ∧ v = g 169 28 ∧ xh 169 32 = 1 ∧ (∀ j : Nat, j < 5 → xh 184 j = g 183 j) ∧ ∀ c k : Nat, ¬ (c = 169 ∧ (k = 2 ∨ k = 32)) → c ≠ 184 → xh c k = g c k)))) (v_X12_liveL ?_) (fun pc hx lv st hcut hK => ?_) hc
    · exact (fun h1 v1 p1 q1 => by obtain ⟨t1, e1⟩ := c_X12_isFrom p1; have t1 := t1.symm; subst t1; exact ⟨fun c1 => (fun b2 r3 => ⟨fun c4 => (fun h2 p2 => (by obtain ⟨w1, w2, w3, w4, w5⟩ := w c4 (by omega); exact ⟨rfl, rfl, 0, ⟨by omega, c4, h2, c_X12_livesL r9 hw hB hD hH (by omega) w1 w2 w3 w4 w5 p2, by omega, fun j hj => by omega, fun _ _ _ => rfl⟩, rfl, rfl, rfl, trivial⟩)), fun c4 => (fun h3 v3 p3 q3 => by obtain ⟨t3, e3⟩ := c_X12_refuse p3; have t3 := t3.symm; subst t3; exact (by intro v e; cases e; exact ⟨fun q => absurd q (by omega), fun _ => ⟨fun _ => ⟨by omega, rfl⟩, fun q => absurd q c4⟩⟩))⟩), fun c1 => (fun h4 v4 p4 q4 => by obtain ⟨t4, e4⟩ := c_X12_refuse p4; have t4 := t4.symm; subst t4; exact (by intro v e; cases e; exact ⟨fun _ => ⟨by omega, rfl⟩, fun q => absurd q (by omega)⟩))⟩)
    · rcases hK with ⟨rfl, rfl, u, hJ, hs⟩
      · obtain ⟨ja, j4, g, jl, ju, jt, jf⟩ := hJ
        exact ⟨_, _, hs, v_X12_liveL_42 ⟨fun c1 => (fun r2 => (fun h1 v1 p1 q1 => by obtain ⟨t1, e1⟩ := c_X12_gives p1; have t1 := t1.symm; subst t1; exact (by intro v e; cases e; exact ⟨fun q => absurd ja q, fun _ => ⟨fun q => absurd q j4, fun _ => ⟨g, jl, (by have := jf 169 28 (by omega); omega), by rw [up_ne (by omega), up_sm], fun j hj => by rw [up_ne (by omega), up_ne (by omega)]; exact jt j (by omega), fun c k k1 k2 => by rw [up_ne (by omega), up_ne (by omega)]; exact jf c k k2⟩⟩⟩))), fun c1 => (fun b3 r4 => (fun b5 => (by exact ⟨rfl, rfl, u + 1, ⟨ja, j4, g, jl, by omega, fun j hj => (by (by_cases e : j = u.toNat; (rw [e, up_sm]; exact jf _ _ (by omega)); (rw [up_ne (by omega)]; exact jt j (by omega)))), fun c k k1 => by rw [up_ne (by omega)]; exact jf c k k1⟩, rfl, rfl, wv (by omega) (by omega) rfl, trivial⟩)))⟩⟩
  exact q v rfl
set_option maxRecDepth 10000 in
theorem v_X11_livedL {sl : Nat} {si : Nat → Int} {K : Nat → PH → ZL → List ZV → Prop} {Q : PH → List ZV → Prop} {h : PH} {a : Int} (H : ∀ h1 v1, CP (zz sl si (7, 0)) mX11_isWithin h [(0, a), (0, 4)] h1 [(0, v1)] → v1 = 0 ∨ v1 = 1 → (v1 ≠ 0 → R32 (h1 89 0) → ((h1 89 0) ≠ 0 → (a < 0 ∨ 3 < a → R32 (h1 89 6) → ∀ h7 v7, CP (zz sl si (7, 0)) mX11_answer h1 [(2, 0), (0, (h1 89 6))] h7 [(0, v7)] → R32 v7 → Q h7 [(0, v7)]) ∧ (¬ (a < 0 ∨ 3 < a) → (a = 0 → R32 (h1 89 2) → ∀ h6 v6, CP (zz sl si (7, 0)) mX11_answer h1 [(2, 0), (0, (h1 89 2))] h6 [(0, v6)] → R32 v6 → Q h6 [(0, v6)]) ∧ (¬ a = 0 → (a = 1 → R32 (h1 89 3) → ∀ h5 v5, CP (zz sl si (7, 0)) mX11_answer h1 [(2, 0), (0, (h1 89 3))] h5 [(0, v5)] → R32 v5 → Q h5 [(0, v5)]) ∧ (¬ a = 1 → (a = 2 → R32 (h1 89 4) → ∀ h4 v4, CP (zz sl si (7, 0)) mX11_answer h1 [(2, 0), (0, (h1 89 4))] h4 [(0, v4)] → R32 v4 → Q h4 [(0, v4)]) ∧ (¬ a = 2 → (a = 3 → R32 (h1 89 5) → ∀ h3 v3, CP (zz sl si (7, 0)) mX11_answer h1 [(2, 0), (0, (h1 89 5))] h3 [(0, v3)] → R32 v3 → Q h3 [(0, v3)]) ∧ (¬ a = 3 → R32 (h1 89 6) → ∀ h2 v2, CP (zz sl si (7, 0)) mX11_answer h1 [(2, 0), (0, (h1 89 6))] h2 [(0, v2)] → R32 v2 → Q h2 [(0, v2)])))))) ∧ (¬ ((h1 89 0) ≠ 0) → ∀ h8 v8, CP (zz sl si (7, 0)) mX11_refuse h1 [(2, 0), (0, 6)] h8 [(0, v8)] → R32 v8 → Q h8 [(0, v8)])) ∧ (¬ (v1 ≠ 0) → ∀ h9 v9, CP (zz sl si (7, 0)) mX11_refuse h1 [(2, 0), (0, 1)] h9 [(0, v9)] → R32 v9 → Q h9 [(0, v9)])) : vc (zz sl si (7, 0)) (fun _ => false) K Q mX11_lived 18 0 mX11_lived.2.2.2.2.2.2 h [(0, (2, 0)), (1, (0, a))] [] := H
set_option maxHeartbeats 600000 in
theorem c_X11_livedL {sl : Nat} {si : Nat → Int} {h h' : PH} {a : Int} {v : Int} (hc : CP (zz sl si (7, 0)) mX11_lived h [(2, 0), (0, a)] h' [(0, v)]) : (∃ z, h' = uph h 0 0 z) ∧ (¬ (0 ≤ a ∧ a ≤ 4) → v = -1) ∧ ((0 ≤ a ∧ a ≤ 4) → (h 89 0 = 0 → v = -1) ∧ (h 89 0 ≠ 0 → v = h 89 (a.toNat + 2))) := by
  have q : (fun (xh : PH) (r : List ZV) => ∀ v : Int, r = [(0, v)] → ((∃ z, xh = uph h 0 0 z) ∧ (¬ (0 ≤ a ∧ a ≤ 4) → v = -1) ∧ ((0 ≤ a ∧ a ≤ 4) → (h 89 0 = 0 → v = -1) ∧ (h 89 0 ≠ 0 → v = h 89 (a.toNat + 2))))) h' [(0, v)] := by
    refine cp_vc (cut := (fun _ => false)) (K := fun p hx lv st => False) (Q := fun (xh : PH) (r : List ZV) => ∀ v : Int, r = [(0, v)] → ((∃ z, xh = uph h 0 0 z) ∧ (¬ (0 ≤ a ∧ a ≤ 4) → v = -1) ∧ ((0 ≤ a ∧ a ≤ 4) → (h 89 0 = 0 → v = -1) ∧ (h 89 0 ≠ 0 → v = h 89 (a.toNat + 2))))) (v_X11_livedL ?_) (fun pc hx lv st hcut hK => ?_) hc
    · exact (fun h1 v1 p1 q1 => by obtain ⟨t1, e1⟩ := c_X11_isWithin p1; have t1 := t1.symm; subst t1; exact ⟨fun c1 => (fun r2 => ⟨fun c3 => ⟨fun c13 => (fun r14 => (fun h7 v7 p7 q7 => by obtain ⟨t7, e7⟩ := c_X11_answer p7; have t7 := t7.symm; subst t7; exact (by intro v e; cases e; exact ⟨⟨_, rfl⟩, fun q => absurd q (by omega), fun _ => ⟨fun q => absurd q c3, fun _ => by first | omega | (rw [show a.toNat + 2 = 6 by omega]; omega)⟩⟩))), fun c13 => ⟨fun c11 => (fun r12 => (fun h6 v6 p6 q6 => by obtain ⟨t6, e6⟩ := c_X11_answer p6; have t6 := t6.symm; subst t6; exact (by intro v e; cases e; exact ⟨⟨_, rfl⟩, fun q => absurd q (by omega), fun _ => ⟨fun q => absurd q c3, fun _ => by first | omega | (rw [show a.toNat + 2 = 2 by omega]; omega)⟩⟩))), fun c11 => ⟨fun c9 => (fun r10 => (fun h5 v5 p5 q5 => by obtain ⟨t5, e5⟩ := c_X11_answer p5; have t5 := t5.symm; subst t5; exact (by intro v e; cases e; exact ⟨⟨_, rfl⟩, fun q => absurd q (by omega), fun _ => ⟨fun q => absurd q c3, fun _ => by first | omega | (rw [show a.toNat + 2 = 3 by omega]; omega)⟩⟩))), fun c9 => ⟨fun c7 => (fun r8 => (fun h4 v4 p4 q4 => by obtain ⟨t4, e4⟩ := c_X11_answer p4; have t4 := t4.symm; subst t4; exact (by intro v e; cases e; exact ⟨⟨_, rfl⟩, fun q => absurd q (by omega), fun _ => ⟨fun q => absurd q c3, fun _ => by first | omega | (rw [show a.toNat + 2 = 4 by omega]; omega)⟩⟩))), fun c7 => ⟨fun c5 => (fun r6 => (fun h3 v3 p3 q3 => by obtain ⟨t3, e3⟩ := c_X11_answer p3; have t3 := t3.symm; subst t3; exact (by intro v e; cases e; exact ⟨⟨_, rfl⟩, fun q => absurd q (by omega), fun _ => ⟨fun q => absurd q c3, fun _ => by first | omega | (rw [show a.toNat + 2 = 5 by omega]; omega)⟩⟩))), fun c5 => (fun r4 => (fun h2 v2 p2 q2 => by obtain ⟨t2, e2⟩ := c_X11_answer p2; have t2 := t2.symm; subst t2; exact (by intro v e; cases e; exact ⟨⟨_, rfl⟩, fun q => absurd q (by omega), fun _ => ⟨fun q => absurd q c3, fun _ => by first | omega | (rw [show a.toNat + 2 = 6 by omega]; omega)⟩⟩)))⟩⟩⟩⟩⟩, fun c3 => (fun h8 v8 p8 q8 => by obtain ⟨t8, e8⟩ := c_X11_refuse p8; have t8 := t8.symm; subst t8; exact (by intro v e; cases e; exact ⟨⟨_, rfl⟩, fun q => absurd q (by omega), fun _ => ⟨fun _ => by omega, fun q => absurd q c3⟩⟩))⟩), fun c1 => (fun h9 v9 p9 q9 => by obtain ⟨t9, e9⟩ := c_X11_refuse p9; have t9 := t9.symm; subst t9; exact (by intro v e; cases e; exact ⟨⟨_, rfl⟩, fun _ => by omega, fun q => absurd q (by omega)⟩))⟩)
    · exact hK.elim
  exact q v rfl
set_option maxRecDepth 10000 in
theorem v_X12_livedL {sl : Nat} {si : Nat → Int} {K : Nat → PH → ZL → List ZV → Prop} {Q : PH → List ZV → Prop} {h : PH} {a : Int} (H : (a < 0 → ∀ h1 v1, CP (zz sl si (7, 0)) mX12_refuse h [(2, 169), (0, 1)] h1 [(0, v1)] → R32 v1 → Q h1 [(0, v1)]) ∧ (¬ (a < 0) → (a ≤ 4 → R32 (h 169 32) → ((h 169 32) = 0 → ∀ h2 v2, CP (zz sl si (7, 0)) mX12_refuse h [(2, 169), (0, 6)] h2 [(0, v2)] → R32 v2 → Q h2 [(0, v2)]) ∧ (¬ ((h 169 32) = 0) → 0 ≤ a ∧ a < (5 : Nat) → R32 (h 184 a.toNat) → ∀ h3 v3, CP (zz sl si (7, 0)) mX12_gives h [(2, 169), (0, (h 184 a.toNat))] h3 [(0, v3)] → R32 v3 → Q h3 [(0, v3)])) ∧ (¬ (a ≤ 4) → ∀ h4 v4, CP (zz sl si (7, 0)) mX12_refuse h [(2, 169), (0, 1)] h4 [(0, v4)] → R32 v4 → Q h4 [(0, v4)]))) : vc (zz sl si (7, 0)) (fun _ => false) K Q mX12_lived 18 0 mX12_lived.2.2.2.2.2.2 h [(0, (2, 169)), (1, (0, a))] [] := H
set_option maxHeartbeats 600000 in
theorem c_X12_livedL {sl : Nat} {si : Nat → Int} {h h' : PH} {a : Int} {v : Int} (hc : CP (zz sl si (7, 0)) mX12_lived h [(2, 169), (0, a)] h' [(0, v)]) : (∃ z, h' = uph h 169 2 z) ∧ (¬ (0 ≤ a ∧ a ≤ 4) → v = -1) ∧ ((0 ≤ a ∧ a ≤ 4) → (h 169 32 = 0 → v = -1) ∧ (h 169 32 ≠ 0 → v = h 184 a.toNat)) := by
  have q : (fun (xh : PH) (r : List ZV) => ∀ v : Int, r = [(0, v)] → ((∃ z, xh = uph h 169 2 z) ∧ (¬ (0 ≤ a ∧ a ≤ 4) → v = -1) ∧ ((0 ≤ a ∧ a ≤ 4) → (h 169 32 = 0 → v = -1) ∧ (h 169 32 ≠ 0 → v = h 184 a.toNat)))) h' [(0, v)] := by
    refine cp_vc (cut := (fun _ => false)) (K := fun p hx lv st => False) (Q := fun (xh : PH) (r : List ZV) => ∀ v : Int, r = [(0, v)] → ((∃ z, xh = uph h 169 2 z) ∧ (¬ (0 ≤ a ∧ a ≤ 4) → v = -1) ∧ ((0 ≤ a ∧ a ≤ 4) → (h 169 32 = 0 → v = -1) ∧ (h 169 32 ≠ 0 → v = h 184 a.toNat)))) (v_X12_livedL ?_) (fun pc hx lv st hcut hK => ?_) hc
    · exact ⟨fun c1 => (fun h1 v1 p1 q1 => by obtain ⟨t1, e1⟩ := c_X12_refuse p1; have t1 := t1.symm; subst t1; exact (by intro v e; cases e; exact ⟨⟨_, rfl⟩, fun _ => by omega, fun q => absurd q (by omega)⟩)), fun c1 => ⟨fun c2 => (fun r3 => ⟨fun c4 => (fun h2 v2 p2 q2 => by obtain ⟨t2, e2⟩ := c_X12_refuse p2; have t2 := t2.symm; subst t2; exact (by intro v e; cases e; exact ⟨⟨_, rfl⟩, fun q => absurd q (by omega), fun _ => ⟨fun _ => by omega, fun q => absurd c4 q⟩⟩)), fun c4 => (fun b5 r6 => (fun h3 v3 p3 q3 => by obtain ⟨t3, e3⟩ := c_X12_gives p3; have t3 := t3.symm; subst t3; exact (by intro v e; cases e; exact ⟨⟨_, rfl⟩, fun q => absurd q (by omega), fun _ => ⟨fun q => absurd q c4, fun _ => by omega⟩⟩)))⟩), fun c2 => (fun h4 v4 p4 q4 => by obtain ⟨t4, e4⟩ := c_X12_refuse p4; have t4 := t4.symm; subst t4; exact (by intro v e; cases e; exact ⟨⟨_, rfl⟩, fun _ => by omega, fun q => absurd q (by omega)⟩))⟩⟩
    · exact hK.elim
  exact q v rfl
def LIV (h : PH) : Prop := (h 89 0 = 0 ∧ h 169 32 = 0) ∨ (h 89 0 = 1 ∧ h 169 32 = 1 ∧ ∀ j : Nat, j < 5 → h 184 j = h 89 (j + 2))
def J9 (h : PH) : Prop := J8 h ∧ LIV h
theorem LIV.e {h h' : PH} (l : LIV h) (e : ∀ c k : Nat, (c = 89 ∧ k < 7) ∨ (c = 169 ∧ k = 32) ∨ (c = 184 ∧ k < 5) → h' c k = h c k) : LIV h' := by
  rcases l with ⟨a, b⟩ | ⟨a, b, c⟩
  · exact Or.inl ⟨by rw [e _ _ (by omega)]; exact a, by rw [e _ _ (by omega)]; exact b⟩
  · exact Or.inr ⟨by rw [e _ _ (by omega)]; exact a, by rw [e _ _ (by omega)]; exact b, fun j hj => by rw [e _ _ (by omega), e _ _ (by omega)]; exact c j hj⟩
section PR9
variable {sl : Nat} {si : Nat → Int} {h h1 h2 : PH} {a b c d e v w : Int}
theorem op9 {L L' : PH} (hJ : J8 h) (l : LTS 5 0 h L) (g : ∀ c k : Nat, ¬ (c = 0 ∧ k = 0) → ¬ (5 ≤ c ∧ c ≤ 20) → c ≠ 89 → c ≠ 90 → h1 c k = h c k) (g' : ∀ c k : Nat, ¬ (c = 169 ∧ (k = 2 ∨ k = 27 ∨ k = 28 ∨ k = 32)) → ¬ (c = 170 ∧ k < 131 ∧ k ≠ 4) → ¬ (c = 178 ∧ k < 7) → ¬ (182 ≤ c ∧ c ≤ 184) → h2 c k = h1 c k) (c5 : CL 5 h1 L') (w : W10 L') (r : RN9 h2 L') (e0 : L' 1 0 = L 1 0) (e4 : L' 0 4 = L 0 4) (e9 : ∀ k, L' 9 k = L 9 k) (e10 : ∀ k, L' 10 k = L 10 k) : J8 h2 := by
  obtain ⟨j, ⟨b1, b2, b3⟩, -, cm⟩ := hJ
  have F : ∀ c k : Nat, ¬ (c = 0 ∧ k = 0) → ¬ (5 ≤ c ∧ c ≤ 20) → c ≠ 89 → c ≠ 90 → ¬ (c = 169 ∧ (k = 2 ∨ k = 27 ∨ k = 28 ∨ k = 32)) → ¬ (c = 170 ∧ k < 131 ∧ k ≠ 4) → ¬ (c = 178 ∧ k < 7) → ¬ (182 ≤ c ∧ c ≤ 184) → h2 c k = h c k := fun c k q1 q2 q3 q4 q5 q6 q7 q8 => (g' c k q5 q6 q7 q8).trans (g c k q1 q2 q3 q4)
  have F' : ∀ c k : Nat, (c = 0 ∧ k = 17) ∨ (1 ≤ c ∧ c ≤ 4) ∨ (21 ≤ c ∧ c ≤ 26) ∨ (103 ≤ c ∧ c ≤ 168) ∨ (c = 169 ∧ (k = 10 ∨ k = 33)) ∨ (c = 170 ∧ (k = 4 ∨ 131 ≤ k)) ∨ (171 ≤ c ∧ c ≤ 177) → h2 c k = h c k := fun c k q => F c k (by omega) (by omega) (by omega) (by omega) (by omega) (by omega) (by omega) (by omega)
  have x0 : h2 0 17 = h 0 17 := F' 0 17 (by omega)
  have x1 : h2 169 33 = h 169 33 := F' 169 33 (by omega)
  obtain ⟨-, -, -, -, -, n1, n2⟩ := l.2.2.1
  refine ⟨J10_eq j (fun c k q => F' c k (by omega)), ⟨by rw [x0, x1]; exact b1, by rw [x0]; exact b2, by rw [x0]; exact b3⟩, ⟨L', c5.fr (fun c k q1 q2 => g' c k (by omega) (by omega) (by omega) (by omega)), w, r.ld (fun i hi => ?_) (fun p hp => ?_), l.2.2.2.kp e0 e4 (fun c k q1 q2 => F' c k (by omega)) (fun k hk => F' _ _ (by omega))⟩, mk8 cm b3 (fun c k q => F' c k (by omega)) x0⟩
  · rw [e0] at hi
    rw [e9, F' _ _ (by omega)]; exact n1 i hi
  · rw [e4] at hp
    rw [e10, F' _ _ (by omega)]; exact n2 p hp
theorem J9_st (hJ : J9 h) {x y : Int} (e1 : h1 = uph h 0 0 x) (e2 : h2 = uph h1 169 2 y) : J9 h2 := by
  subst e1
  obtain ⟨L, l⟩ := hJ.1.2.2.1
  have g : GL h (uph h 0 0 x) := (GL.rf h).s0
  have g' : GR (uph h 0 0 x) h2 := by rw [e2]; exact (GR.rf _).s0
  have E : ∀ c k : Nat, ¬ (c = 0 ∧ k = 0) → ¬ (c = 169 ∧ k = 2) → h2 c k = h c k := fun c k q1 q2 => by rw [e2, up_ne q2, up_ne q1]
  exact ⟨op8 hJ.1 l g g' (l.1.fr (fun c k q1 q2 => up_ne (by omega))) l.2.1 ((RLd.n9 l.2.2.1).e (funext (fun k => E 170 k (by omega) (by omega)))) rfl rfl (fun _ => rfl) (fun _ => rfl), hJ.2.e (fun c k q => E c k (by omega) (by omega))⟩
theorem pr_live9 (hJ : J9 h) (hB : BdR h1) (hD : BdD h1) (hH : BdH h1) (p1 : CP (zz sl si (7, 0)) mX11_live h [(2, 0), (0, a)] h1 [(0, v)]) (p2 : CP (zz sl si (7, 0)) mX12_live h1 [(2, 169), (0, a)] h2 [(0, w)]) : J9 h2 ∧ v = w := by
  have hJ8 := hJ.1
  obtain ⟨L, l⟩ := hJ8.2.2.1
  rcases l.2.2.2 with ⟨t1, t2⟩ | ⟨Y, cs, rt, wy, wt, y0⟩
  · have t1 : h 21 0 = 0 := t1
    have t2 : h 170 4 = -1 := t2
    obtain ⟨n1, y1⟩ := c_X11_liveL (Y := h) l.1 l.2.1 (fun q => absurd t1 q) p1
    by_cases r : (0 ≤ a ∧ a ≤ 9999)
    · obtain ⟨z1, z2⟩ := (y1 r).1 t1
      have f1 : h1 170 = h 170 := by rw [z2]; exact funext (fun k => up_ne (by omega))
      have t2' : h1 170 4 = -1 := by rw [f1]; exact t2
      obtain ⟨-, y2⟩ := c_X12_liveL (L := L) (Y := h) (f := (0, L, 0, fun _ => 0, 0, 0)) (n := 0) (T := fun _ => 0) ((RLd.n9 l.2.2.1).e f1) l.2.1 hB hD hH (fun q => absurd t2' q) p2
      obtain ⟨z3, z4⟩ := (y2 r).1 t2'
      exact ⟨J9_st hJ z2 z4, by omega⟩
    · obtain ⟨z1, z2⟩ := n1 r
      have f1 : h1 170 = h 170 := by rw [z2]; exact funext (fun k => up_ne (by omega))
      have t2' : h1 170 4 = -1 := by rw [f1]; exact t2
      obtain ⟨n2, -⟩ := c_X12_liveL (L := L) (Y := h) (f := (0, L, 0, fun _ => 0, 0, 0)) (n := 0) (T := fun _ => 0) ((RLd.n9 l.2.2.1).e f1) l.2.1 hB hD hH (fun q => absurd t2' q) p2
      obtain ⟨z3, z4⟩ := n2 r
      exact ⟨J9_st hJ z2 z4, by omega⟩
  · have w9 := wy.c y0
    have h60 : Y 43 2 ≤ 60 := by obtain ⟨x1, x2, x3, x4, x5⟩ := wt; omega
    have c0 : h 21 0 = 1 := cs.1
    have t4 : h 170 4 = Y 43 2 := rt.1
    have n0 := w9.n0
    obtain ⟨n1, y1⟩ := c_X11_liveL l.1 l.2.1 (fun _ => ⟨cs, w9, h60⟩) p1
    by_cases r : (0 ≤ a ∧ a ≤ 9999)
    · obtain ⟨g, ⟨n, k, M, x, T, d, m, tr, ff, ⟨cM, wM, dM⟩, ⟨z0, z1, z2, z3, z4, z5, z6⟩, fr⟩, ev, e1⟩ := (y1 r).2 (by omega)
      have f0 : ∀ c k : Nat, ¬ (c = 0 ∧ k = 0) → ¬ (5 ≤ c ∧ c ≤ 20) → c ≠ 89 → c ≠ 90 → h1 c k = h c k := fun c k q1 q2 q3 q4 => by rw [e1, up_ne q1]; exact fr c k q2 q3 q4
      have f1 : h1 170 = h 170 := funext (fun k => f0 170 k (by omega) (by omega) (by omega) (by omega))
      obtain ⟨-, y2⟩ := c_X12_liveL (L := L) (Y := Y) (f := (k, M, x, T, d, m)) (n := n) (T := h 90) ((RLd.n9 l.2.2.1).e f1) l.2.1 hB hD hH (fun _ _ => ⟨rt.fr h60 (fun k _ => by rw [f1]), w9, h60, ff, tr⟩) p2
      obtain ⟨g2, ⟨d1, d2, d3, d4, d5⟩, ew, e32, e184, fr2⟩ := (y2 r).2 (by rw [f1]; omega)
      dsimp only at d1 d2 d3 d4
      obtain ⟨r1, -, -, ⟨s1, s2, s3⟩⟩ := d1
      have G2 : ∀ c k : Nat, ¬ (c = 169 ∧ (k = 2 ∨ k = 27 ∨ k = 28 ∨ k = 32)) → ¬ (c = 170 ∧ k < 131 ∧ k ≠ 4) → ¬ (c = 178 ∧ k < 7) → ¬ (182 ≤ c ∧ c ≤ 184) → h2 c k = h1 c k := fun c k q1 q2 q3 q4 => (fr2 c k (by omega) (by omega)).trans (d5 c k (by omega) q2 q3 (by omega) (by omega))
      have E89 : ∀ k : Nat, h2 89 k = g 89 k := fun k => by rw [G2 89 k (by omega) (by omega) (by omega) (by omega), e1, up_ne (by omega)]
      refine ⟨⟨op9 hJ8 l f0 G2 (cM.fr (fun c k q1 q2 => by rw [e1, up_ne (by omega)])) wM (r1.e (funext (fun k => fr2 170 k (by omega) (by omega)))) dM.1 dM.2.1 dM.2.2.1 dM.2.2.2, Or.inr ⟨(E89 0).trans z0, e32, fun j hj => ?_⟩⟩, by omega⟩
      rw [e184 j hj, E89]
      rcases (show j = 0 ∨ j = 1 ∨ j = 2 ∨ j = 3 ∨ j = 4 by omega) with q | q | q | q | q <;> subst q
      · exact d3.trans z2.symm
      · exact s1.trans z3.symm
      · exact s2.trans z4.symm
      · exact s3.trans z5.symm
      · show g2 183 4 = g 89 6
        clear y1 y2
        omega
    · obtain ⟨z1, z2⟩ := n1 r
      have f1 : h1 170 = h 170 := by rw [z2]; exact funext (fun k => up_ne (by omega))
      obtain ⟨n2, -⟩ := c_X12_liveL (L := L) (Y := h) (f := (0, L, 0, fun _ => 0, 0, 0)) (n := 0) (T := fun _ => 0) ((RLd.n9 l.2.2.1).e f1) l.2.1 hB hD hH (fun _ q => absurd q r) p2
      obtain ⟨z3, z4⟩ := n2 r
      exact ⟨J9_st hJ z2 z4, by omega⟩
theorem pr_lived9 (hJ : J9 h) (p1 : CP (zz sl si (7, 0)) mX11_lived h [(2, 0), (0, a)] h1 [(0, v)]) (p2 : CP (zz sl si (7, 0)) mX12_lived h1 [(2, 169), (0, a)] h2 [(0, w)]) : J9 h2 ∧ v = w := by
  obtain ⟨⟨x, e1⟩, n1, y1⟩ := c_X11_livedL p1
  obtain ⟨⟨y, e2⟩, n2, y2⟩ := c_X12_livedL p2
  refine ⟨J9_st hJ e1 e2, ?_⟩
  by_cases r : (0 ≤ a ∧ a ≤ 4)
  · obtain ⟨a1, a2⟩ := y1 r
    obtain ⟨b1, b2⟩ := y2 r
    have q32 : h1 169 32 = h 169 32 := by rw [e1, up_ne (by omega)]
    have q184 : h1 184 a.toNat = h 184 a.toNat := by rw [e1, up_ne (by omega)]
    rw [q32] at b1 b2
    rw [q184] at b2
    rcases hJ.2 with ⟨q1, q2⟩ | ⟨q1, q2, q3⟩
    · rw [a1 q1, b1 q2]
    · rw [a2 (by omega), b2 (by omega), q3 _ (by omega)]
  · rw [n1 r, n2 r]
end PR9
end
