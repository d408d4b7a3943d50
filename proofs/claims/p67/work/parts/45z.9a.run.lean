/-! live(): a life in the class, all -/
def DIM (M L : PH) : Prop := M 1 0 = L 1 0 ∧ M 0 4 = L 0 4 ∧ (∀ k, M 9 k = L 9 k) ∧ ∀ k, M 10 k = L 10 k
theorem DIM.rf (L : PH) : DIM L L := ⟨rfl, rfl, fun _ => rfl, fun _ => rfl⟩
theorem DIM.tr {N M L : PH} (b : DIM N M) (a : DIM M L) : DIM N L := ⟨b.1.trans a.1, b.2.1.trans a.2.1, fun k => (b.2.2.1 k).trans (a.2.2.1 k), fun k => (b.2.2.2 k).trans (a.2.2.2 k)⟩
theorem okw.c {L L' : PH} {K a b n : Int} (w : okw L K a b n) (e0 : L' 1 0 = L 1 0) (e4 : L' 0 4 = L 0 4) : okw L' K a b n := by
  unfold okw hL0 pL0 at *; rw [e0, e4]; exact w
theorem WYc.c {L L' Y : PH} (w : WYc L Y) (e0 : L' 1 0 = L 1 0) (e4 : L' 0 4 = L 0 4) : WYc L' Y := ⟨w.1, fun k hk => (w.2.1 k hk).c e0 e4, w.2.2⟩
theorem lstp_m {L M M' Y : PH} {k k' x x' d d' m m' : Int} {T T' : Nat → Int} (w : WYc L Y) (wM : W10 M) (t : lstp Y (k, M, x, T, d, m) (k', M', x', T', d', m')) : DIM M' M := by
  obtain ⟨h, -, -, t21, t22, tw, t23, tr⟩ := t
  dsimp only at h t21 t22 tw t23 tr
  have kk := (w.ok k.toNat (by omega)).1
  by_cases c21 : Y 44 k.toNat = 21
  · rw [show M' = M from (t21 c21).1.1]; exact DIM.rf M
  by_cases c22 : Y 44 k.toNat = 22
  · rw [show M' = M from (t22 c22).1.1]; exact DIM.rf M
  by_cases cw : Y 44 k.toNat = 18 ∨ Y 44 k.toNat = 19 ∨ Y 44 k.toNat = 20
  · rw [show M' = M from (tw cw).1.1]; exact DIM.rf M
  by_cases c23 : Y 44 k.toNat = 23
  · rw [show M' = M from (t23 c23).1.1]; exact DIM.rf M
  obtain ⟨-, -, v, -, -, q, -⟩ := tr (by clear tr; omega)
  exact dnL_k q (by clear q tr; omega) wM
def RUN5 (h L Y : PH) (a p i : Int) (hx : PH) : Prop := ∃ n d M, trL Y n (0, L, a, h 90, 0, 0) (p, M, hx 89 7, hx 90, d, hx 89 2) ∧ (CL 5 hx M ∧ W10 M ∧ DIM M L) ∧ (0 ≤ hx 89 7 ∧ hx 89 7 ≤ 65535) ∧ hx 89 1 = d ∧ (0 ≤ hx 89 2 ∧ hx 89 2 ≤ d ∧ d ≤ 300) ∧ (0 ≤ p ∧ p ≤ Y 43 2) ∧ ENk Y (hx 90) p ∧ (0 ≤ i ∧ i + phi Y (hx 90) p ≤ 100 * d) ∧ (hx 89 0 = 1 ∧ hx 89 3 = w32 (-(L 0 12)) ∧ hx 89 4 = w32 (-(L 0 13)) ∧ hx 89 5 = w32 (-(bnS (L 0 7))) ∧ hx 89 6 = 0) ∧ ∀ c k : Nat, ¬ (5 ≤ c ∧ c ≤ 20) → c ≠ 89 → c ≠ 90 → hx c k = h c k
def LIVD (h xh L Y : PH) (a : Int) : Prop := ∃ n k M x T d m, trL Y n (0, L, a, h 90, 0, 0) (k, M, x, T, d, m) ∧ fin Y (k, M, x, T, d, m) ∧ (CL 5 xh M ∧ W10 M ∧ DIM M L) ∧ (xh 89 0 = 1 ∧ xh 89 1 = d ∧ xh 89 2 = m ∧ xh 89 3 = w32 (M 0 12 - L 0 12) ∧ xh 89 4 = w32 (M 0 13 - L 0 13) ∧ xh 89 5 = w32 (bnS (M 0 7) - bnS (L 0 7)) ∧ (xh 89 6 = 0 ∧ Y 43 2 ≤ k ∨ xh 89 6 = 1 ∧ k < Y 43 2)) ∧ ∀ c k : Nat, ¬ (5 ≤ c ∧ c ≤ 20) → c ≠ 89 → c ≠ 90 → xh c k = h c k
section RUN
variable {h hx g L Y : PH} {a p i v : Int}
theorem phi_0 {T : Nat → Int} : phi Y T 0 = 0 := by
  have z : ∀ o, phe Y T 0 o = 0 := fun o => phe_n (fun q => by have := q.1; omega)
  unfold phi
  have : ∀ n, phS (phe Y T 0) n = 0 := fun n => by
    induction n with
    | zero => rfl
    | succ n ih => show phS (phe Y T 0) n + phe Y T 0 n = 0; rw [ih, z]; rfl
  exact this 60
theorem RUN5.mi (r : RUN5 h L Y a p i hx) : i < 1000000 := by
  obtain ⟨n, d, M, -, -, -, -, b, -, e, c, -⟩ := r
  have := phi_nn e
  omega
theorem RUN5.st (r : RUN5 h L Y a p i hx) (w : WYc L Y) (h60 : Y 43 2 ≤ 60) (hs : CS 21 h Y) (hp : p < Y 43 2) {e : Int} (he : Y 44 p.toNat = 22 → e = 0) (he2 : Y 44 p.toNat ≠ 22 → e = 1 ∧ hx 89 1 < 300) {h3 : PH} {sl : Nat} {si : Nat → Int} (hc : CP (zz sl si (7, 0)) mX3_placeBehind (uph hx 89 1 (w32 (hx 89 1 + e))) [(2, 89), (2, 21), (2, 5), (0, p)] h3 [(0, v)]) : RUN5 h L Y a v (w32 (i + 1)) h3 := by
  have i6 := r.mi
  obtain ⟨n, d, M, tr, ⟨a1, a2, a3⟩, ax, ad, am, ap, ae, ai, a0, af⟩ := r
  have F : ∀ c k : Nat, ¬ (c = 89 ∧ k = 1) → uph hx 89 1 (w32 (hx 89 1 + e)) c k = hx c k := fun c k q => up_ne q
  have e01 : e = 0 ∨ e = 1 := by
    by_cases z : Y 44 p.toNat = 22
    · exact Or.inl (he z)
    · exact Or.inr (he2 z).1
  have hs2 : CS 21 (uph hx 89 1 (w32 (hx 89 1 + e))) Y := by
    have E : ∀ c k : Nat, 21 ≤ c → c ≤ 26 → uph hx 89 1 (w32 (hx 89 1 + e)) c k = h c k := fun c k k1 k2 => (F c k (by omega)).trans (af c k (by omega) (by omega) (by omega))
    obtain ⟨s1, s2, s3, s4⟩ := hs
    exact ⟨by rw [E _ _ (by omega) (by omega)]; exact s1, by rw [E _ _ (by omega) (by omega)]; exact s2, by rw [E _ _ (by omega) (by omega)]; exact s3, fun j k hj hk => by rw [E _ _ (by omega) (by omega)]; exact s4 j k hj hk⟩
  have w' := w.c a3.1 a3.2.1
  obtain ⟨N, d', q, b1, b2, bx, bf⟩ := c_X3_placeBehind5 (d := d) (a1.fr (fun c k k1 k2 => F c k (by omega))) a2 (by rw [F 89 7 (by omega)]; exact ax) hs2 w' h60 ⟨ap.1, hp⟩ (fun z => by have := (he2 z).2; omega) (by rw [F 89 2 (by omega)]; omega) hc
  rw [F 89 7 (by omega), F 89 2 (by omega), show (uph hx 89 1 (w32 (hx 89 1 + e))) 90 = hx 90 from funext (fun j => F 90 j (by omega))] at q
  have ed : d' = d + e := by
    by_cases z : Y 44 p.toNat = 22
    · have q2 : d' = d := q.2.2.1 z
      rw [he z]; omega
    · have q2 : d' = d + 1 := (q.2.1 z).2
      rw [(he2 z).1]; exact q2
  have md := lstp_d q (by dsimp only; omega) (w.ok p.toNat (by omega)).1
  dsimp only at md
  have f1 : h3 89 1 = d + e := by
    rw [bf 89 1 (by omega) (by omega) (by omega), up_sm, w32_id (by omega) (by omega), ad]
  have ph := lstp_phi w h60 q ae
  dsimp only at ph
  have rg := (lstp_o w q).1
  dsimp only at rg
  have en := lstp_en w q ae
  dsimp only at en
  refine ⟨n + 1, d', N, trL_r n tr q, ⟨b1, b2, (lstp_m w a2 q).tr a3⟩, bx, by omega, by omega, rg, en, ?_, ?_, fun c k k1 k2 k3 => ?_⟩
  · rw [w32_id (by omega) (by omega)]
    by_cases z : Y 44 p.toNat = 22
    · have := ph.2 z; have := he z; omega
    · have := ph.1 z; have := (he2 z).1; omega
  · obtain ⟨x0, x3, x4, x5, x6⟩ := a0
    have G : ∀ k : Nat, k = 0 ∨ k = 3 ∨ k = 4 ∨ k = 5 ∨ k = 6 → h3 89 k = hx 89 k := fun k hk => (bf 89 k (by omega) (by omega) (by omega)).trans (F 89 k (by omega))
    exact ⟨by rw [G 0 (by omega)]; exact x0, by rw [G 3 (by omega)]; exact x3, by rw [G 4 (by omega)]; exact x4, by rw [G 5 (by omega)]; exact x5, by rw [G 6 (by omega)]; exact x6⟩
  · rw [bf c k k1 (by omega) k3, F c k (by omega)]; exact af c k k1 k2 k3
theorem RUN5.fin (r : RUN5 h L Y a p i hx) (hG : ∀ c k : Nat, ¬ (c = 89 ∧ k = 6) → g c k = hx c k) (h6 : (g 89 6 = 0 ∧ Y 43 2 ≤ p) ∨ (g 89 6 = 1 ∧ p < Y 43 2 ∧ Y 44 p.toNat ≠ 22 ∧ 300 ≤ hx 89 1)) : LIVD h (uph (uph (uph g 89 3 (w32 (hx 89 3 + hx 5 12))) 89 4 (w32 (hx 89 4 + hx 5 13))) 89 5 (w32 (hx 89 5 + bnS (hx 5 7)))) L Y a := by
  obtain ⟨n, d, M, tr, ⟨a1, a2, a3⟩, ax, ad, am, ap, ae, ai, ⟨x0, x3, x4, x5, x6⟩, af⟩ := r
  have k12 : hx 5 12 = M 0 12 := a1 0 12 (by unfold inL; omega)
  have k13 : hx 5 13 = M 0 13 := a1 0 13 (by unfold inL; omega)
  have k7 : hx 5 7 = M 0 7 := a1 0 7 (by unfold inL; omega)
  refine ⟨n, p, M, hx 89 7, hx 90, d, hx 89 2, tr, ?_, ⟨a1.fr (fun c k k1 k2 => by rw [up_ne (by omega), up_ne (by omega), up_ne (by omega)]; exact hG c k (by omega)), a2, a3⟩, ⟨?_, ?_, ?_, ?_, ?_, ?_, ?_⟩, fun c k k1 k2 k3 => by rw [up_ne (by omega), up_ne (by omega), up_ne (by omega), hG c k (by omega)]; exact af c k k1 k2 k3⟩
  · rcases h6 with ⟨-, q⟩ | ⟨-, q1, q2, q3⟩
    · exact Or.inl (fun z => by have := z.2; dsimp only at this; omega)
    · exact Or.inr ⟨q2, by show 300 ≤ d; omega⟩
  · rw [up_ne (by omega), up_ne (by omega), up_ne (by omega), hG _ _ (by omega)]; exact x0
  · rw [up_ne (by omega), up_ne (by omega), up_ne (by omega), hG _ _ (by omega)]; exact ad
  · rw [up_ne (by omega), up_ne (by omega), up_ne (by omega), hG _ _ (by omega)]
  · rw [up_ne (by omega), up_ne (by omega), up_sm, x3, k12, w32_a]; congr 1; omega
  · rw [up_ne (by omega), up_sm, x4, k13, w32_a]; congr 1; omega
  · rw [up_sm, x5, k7, w32_a]; congr 1; omega
  · rw [up_ne (by omega), up_ne (by omega), up_ne (by omega)]
    rcases h6 with q | ⟨q1, q2, -⟩
    · exact Or.inl q
    · exact Or.inr ⟨q1, q2⟩
theorem RUN5.bt (r : RUN5 h L Y a p i hx) : 0 ≤ hx 5 7 ∧ hx 5 7 < 256 := by
  obtain ⟨n, d, M, tr, ⟨a1, a2, a3⟩, -⟩ := r
  have k7 : hx 5 7 = M 0 7 := a1 0 7 (by unfold inL; omega)
  have ws := a2.1.1.2.2.2.2.2.2.1
  rw [k7]; exact ⟨ws.1, ws.2.1⟩
theorem RUN5.h2 (r : RUN5 h L Y a p i hx) (hs : CS 21 h Y) : hx 21 2 = Y 43 2 ∧ 0 ≤ p ∧ ∀ k : Nat, k < 60 → hx 22 k = Y 44 k := by
  obtain ⟨n, d, M, -, -, -, -, -, ap, -, -, -, af⟩ := r
  exact ⟨(af 21 2 (by omega) (by omega) (by omega)).trans hs.2.2.1, ap.1, fun k hk => (af 22 k (by omega) (by omega) (by omega)).trans (hs.2.2.2 0 k (by omega) hk)⟩
end RUN
set_option maxRecDepth 10000 in
theorem v_X3_run5 {sl : Nat} {si : Nat → Int} {K : Nat → PH → ZL → List ZV → Prop} {Q : PH → List ZV → Prop} {h : PH}  {a : Int} (H : ∀ h1, CP (zz sl si (7, 0)) mX3_begin h [(2, 89), (2, 5), (0, a)] h1 [] → K 12 h1 [(5, (0, 0)), (4, (0, 0)), (0, (2, 89)), (1, (2, 21)), (2, (2, 5)), (3, (0, a))] []) : vc (zz sl si (7, 0)) (fun p => Nat.beq p 12) K Q mX3_run 10 0 mX3_run.2.2.2.2.2.2 h [(0, (2, 89)), (1, (2, 21)), (2, (2, 5)), (3, (0, a))] [] := H
set_option maxRecDepth 10000 in
theorem v_X3_run5_12 {sl : Nat} {si : Nat → Int} {K : Nat → PH → ZL → List ZV → Prop} {Q : PH → List ZV → Prop} {h : PH}  {a : Int} {p i : Int} (H : ((1000000 : Int) ≤ i → R32 (h 89 3) → R32 (h 5 12) → R32 (h 89 4) → R32 (h 5 13) → R32 (h 89 5) → R32 (h 5 7) → ∀ h1 v1, CP (zz sl si (7, 0)) mJ6_bitCount_0f7a4 (uph (uph h 89 3 (w32 ((h 89 3) + (h 5 12)))) 89 4 (w32 ((h 89 4) + (h 5 13)))) [(0, (h 5 7))] h1 [(0, v1)] → R32 v1 → Q (uph h1 89 5 (w32 ((h 89 5) + v1))) []) ∧ (¬ ((1000000 : Int) ≤ i) → R32 (h 21 2) → ((h 21 2) ≤ p → R32 (h 89 3) → R32 (h 5 12) → R32 (h 89 4) → R32 (h 5 13) → R32 (h 89 5) → R32 (h 5 7) → ∀ h2 v2, CP (zz sl si (7, 0)) mJ6_bitCount_0f7a4 (uph (uph h 89 3 (w32 ((h 89 3) + (h 5 12)))) 89 4 (w32 ((h 89 4) + (h 5 13)))) [(0, (h 5 7))] h2 [(0, v2)] → R32 v2 → Q (uph h2 89 5 (w32 ((h 89 5) + v2))) []) ∧ (¬ ((h 21 2) ≤ p) → 0 ≤ p ∧ p < (60 : Nat) → R32 (h 22 p.toNat) → ((h 22 p.toNat) = 22 → ((0 : Int) = 0 → R32 (h 89 1) → ((0 : Int) = 0 → ∀ h3 v3, CP (zz sl si (7, 0)) mX3_placeBehind (uph h 89 1 (w32 ((h 89 1) + 0))) [(2, 89), (2, 21), (2, 5), (0, p)] h3 [(0, v3)] → R32 v3 → K 12 h3 [(5, (0, w32 (i + 1))), (4, (0, v3)), (6, (0, 0)), (0, (2, 89)), (1, (2, 21)), (2, (2, 5)), (3, (0, a))] []) ∧ (¬ ((0 : Int) = 0) → ∀ h4 v4, CP (zz sl si (7, 0)) mX3_placeBehind (uph h 89 1 (w32 ((h 89 1) + 1))) [(2, 89), (2, 21), (2, 5), (0, p)] h4 [(0, v4)] → R32 v4 → K 12 h4 [(5, (0, w32 (i + 1))), (4, (0, v4)), (6, (0, 0)), (0, (2, 89)), (1, (2, 21)), (2, (2, 5)), (3, (0, a))] [])) ∧ (¬ ((0 : Int) = 0) → R32 (h 89 1) → ((h 89 1) < 300 → R32 (h 89 1) → ((0 : Int) = 0 → ∀ h5 v5, CP (zz sl si (7, 0)) mX3_placeBehind (uph h 89 1 (w32 ((h 89 1) + 0))) [(2, 89), (2, 21), (2, 5), (0, p)] h5 [(0, v5)] → R32 v5 → K 12 h5 [(5, (0, w32 (i + 1))), (4, (0, v5)), (6, (0, 0)), (0, (2, 89)), (1, (2, 21)), (2, (2, 5)), (3, (0, a))] []) ∧ (¬ ((0 : Int) = 0) → ∀ h6 v6, CP (zz sl si (7, 0)) mX3_placeBehind (uph h 89 1 (w32 ((h 89 1) + 1))) [(2, 89), (2, 21), (2, 5), (0, p)] h6 [(0, v6)] → R32 v6 → K 12 h6 [(5, (0, w32 (i + 1))), (4, (0, v6)), (6, (0, 0)), (0, (2, 89)), (1, (2, 21)), (2, (2, 5)), (3, (0, a))] [])) ∧ (¬ ((h 89 1) < 300) → R32 (h 89 3) → R32 (h 5 12) → R32 (h 89 4) → R32 (h 5 13) → R32 (h 89 5) → R32 (h 5 7) → ∀ h7 v7, CP (zz sl si (7, 0)) mJ6_bitCount_0f7a4 (uph (uph (uph h 89 6 1) 89 3 (w32 ((h 89 3) + (h 5 12)))) 89 4 (w32 ((h 89 4) + (h 5 13)))) [(0, (h 5 7))] h7 [(0, v7)] → R32 v7 → Q (uph h7 89 5 (w32 ((h 89 5) + v7))) []))) ∧ (¬ ((h 22 p.toNat) = 22) → ((1 : Int) = 0 → R32 (h 89 1) → ((1 : Int) = 0 → ∀ h8 v8, CP (zz sl si (7, 0)) mX3_placeBehind (uph h 89 1 (w32 ((h 89 1) + 0))) [(2, 89), (2, 21), (2, 5), (0, p)] h8 [(0, v8)] → R32 v8 → K 12 h8 [(5, (0, w32 (i + 1))), (4, (0, v8)), (6, (0, 1)), (0, (2, 89)), (1, (2, 21)), (2, (2, 5)), (3, (0, a))] []) ∧ (¬ ((1 : Int) = 0) → ∀ h9 v9, CP (zz sl si (7, 0)) mX3_placeBehind (uph h 89 1 (w32 ((h 89 1) + 1))) [(2, 89), (2, 21), (2, 5), (0, p)] h9 [(0, v9)] → R32 v9 → K 12 h9 [(5, (0, w32 (i + 1))), (4, (0, v9)), (6, (0, 1)), (0, (2, 89)), (1, (2, 21)), (2, (2, 5)), (3, (0, a))] [])) ∧ (¬ ((1 : Int) = 0) → R32 (h 89 1) → ((h 89 1) < 300 → R32 (h 89 1) → ((1 : Int) = 0 → ∀ h10 v10, CP (zz sl si (7, 0)) mX3_placeBehind (uph h 89 1 (w32 ((h 89 1) + 0))) [(2, 89), (2, 21), (2, 5), (0, p)] h10 [(0, v10)] → R32 v10 → K 12 h10 [(5, (0, w32 (i + 1))), (4, (0, v10)), (6, (0, 1)), (0, (2, 89)), (1, (2, 21)), (2, (2, 5)), (3, (0, a))] []) ∧ (¬ ((1 : Int) = 0) → ∀ h11 v11, CP (zz sl si (7, 0)) mX3_placeBehind (uph h 89 1 (w32 ((h 89 1) + 1))) [(2, 89), (2, 21), (2, 5), (0, p)] h11 [(0, v11)] → R32 v11 → K 12 h11 [(5, (0, w32 (i + 1))), (4, (0, v11)), (6, (0, 1)), (0, (2, 89)), (1, (2, 21)), (2, (2, 5)), (3, (0, a))] [])) ∧ (¬ ((h 89 1) < 300) → R32 (h 89 3) → R32 (h 5 12) → R32 (h 89 4) → R32 (h 5 13) → R32 (h 89 5) → R32 (h 5 7) → ∀ h12 v12, CP (zz sl si (7, 0)) mJ6_bitCount_0f7a4 (uph (uph (uph h 89 6 1) 89 3 (w32 ((h 89 3) + (h 5 12)))) 89 4 (w32 ((h 89 4) + (h 5 13)))) [(0, (h 5 7))] h12 [(0, v12)] → R32 v12 → Q (uph h12 89 5 (w32 ((h 89 5) + v12))) [])))))) : vc (zz sl si (7, 0)) (fun p => Nat.beq p 12) K Q mX3_run 51 12 (ax_jmp mX3_run.2.2.2.2.2.2 12) h [(0, (2, 89)), (1, (2, 21)), (2, (2, 5)), (3, (0, a)), (4, (0, p)), (5, (0, i))] [] := H
set_option maxHeartbeats 600000 in
theorem c_X3_run5 {sl : Nat} {si : Nat → Int} {h h' : PH} {L Y : PH} {a : Int} (hL : CL 5 h L) (hw : W10 L) (ha : 0 ≤ a ∧ a ≤ 65535) (hcs : CS 21 h Y) (w : WYc L Y) (h60 : Y 43 2 ≤ 60) (hc : CP (zz sl si (7, 0)) mX3_run h [(2, 89), (2, 21), (2, 5), (0, a)] h' []) : LIVD h h' L Y a := by
  have q : (fun (xh : PH) (r : List ZV) => LIVD h xh L Y a) h' [] := by
    refine cp_vc (cut := (fun p => Nat.beq p 12)) (K := fun p hx lv st => (p = 12 ∧ lK2 (fun u1 u2 : Int => [(0, (2, 89)), (1, (2, 21)), (2, (2, 5)), (3, (0, a)), (4, (0, u1)), (5, (0, u2))]) (fun u1 u2 hx => RUN5 h L Y a u1 u2 hx) p hx lv st)) (Q := fun (xh : PH) (r : List ZV) => LIVD h xh L Y a) (v_X3_run5 ?_) (fun pc hx lv st hcut hK => ?_) hc
    · exact (fun h1 p1 => (by obtain ⟨⟨b0, b1, b2, b3, b4, b5, b6, b7⟩, bf⟩ := c_X3_begin5 hL hw p1; have f90 : h1 90 = h 90 := funext (fun j => bf 90 j (by omega)); exact ⟨rfl, rfl, 0, 0, ⟨0, 0, L, (by rw [b7, f90, b2]; rfl), ⟨hL.fr (fun c k k1 k2 => bf c k (by omega)), hw, DIM.rf L⟩, (by rw [b7]; exact ha), b1, (by rw [b2]; omega), ⟨by omega, w.n0⟩, (fun o ho => absurd ho.1 (by omega)), (by rw [phi_0]; omega), ⟨b0, b3, b4, b5, b6⟩, fun c k k1 k2 k3 => bf c k k2⟩, rfl, rfl, rfl, rfl, rfl, rfl, trivial⟩))
    · rcases hK with ⟨rfl, rfl, u1, u2, hJ, hs⟩
      · have i6 := hJ.mi
        obtain ⟨s2, p0, r2⟩ := hJ.h2 hcs
        exact ⟨_, _, hs, v_X3_run5_12 ⟨fun c1 => (fun r2 => (fun r3 => (fun r4 => (fun r5 => (fun r6 => (fun r7 => (fun h1 v1 p1 q1 => (by omega)))))))), fun c1 => (fun r8 => ⟨fun c9 => (fun r10 => (fun r11 => (fun r12 => (fun r13 => (fun r14 => (fun r15 => (fun h2 v2 p2 q2 => (by rw [s2] at c9; obtain ⟨t1, w1⟩ := c_J6_bitCountS hJ.bt.1 hJ.bt.2 p2; rw [t1, w1]; refine hJ.fin (g := hx) (fun _ _ _ => rfl) (Or.inl ⟨?_, c9⟩); (obtain ⟨n, d, M, -, -, -, -, -, -, -, -, x, -⟩ := hJ; exact x.2.2.2.2))))))))), fun c9 => (fun b16 r17 => ⟨fun c18 => ⟨fun c19 => (fun r20 => ⟨fun c21 => (fun h3 v3 p3 q3 => (by rw [s2] at c9; rw [r2 u1.toNat (by omega)] at *; exact ⟨rfl, rfl, v3, w32 (u2 + 1), hJ.st w h60 hcs (by omega) (e := 0) (by omega) (by omega) p3, rfl, rfl, rfl, rfl, rfl, rfl, trivial⟩)), fun c21 => (fun h4 v4 p4 q4 => (by exact absurd rfl c21))⟩), fun c19 => (fun r22 => ⟨fun c23 => (fun r24 => ⟨fun c25 => (fun h5 v5 p5 q5 => (by exact absurd rfl c19)), fun c25 => (fun h6 v6 p6 q6 => (by exact absurd rfl c19))⟩), fun c23 => (fun r26 => (fun r27 => (fun r28 => (fun r29 => (fun r30 => (fun r31 => (fun h7 v7 p7 q7 => (by exact absurd rfl c19))))))))⟩)⟩, fun c18 => ⟨fun c32 => (fun r33 => ⟨fun c34 => (fun h8 v8 p8 q8 => (by omega)), fun c34 => (fun h9 v9 p9 q9 => (by omega))⟩), fun c32 => (fun r35 => ⟨fun c36 => (fun r37 => ⟨fun c38 => (fun h10 v10 p10 q10 => (by omega)), fun c38 => (fun h11 v11 p11 q11 => (by rw [s2] at c9; rw [r2 u1.toNat (by omega)] at *; exact ⟨rfl, rfl, v11, w32 (u2 + 1), hJ.st w h60 hcs (by omega) (e := 1) (by omega) (by omega) p11, rfl, rfl, rfl, rfl, rfl, rfl, trivial⟩))⟩), fun c36 => (fun r39 => (fun r40 => (fun r41 => (fun r42 => (fun r43 => (fun r44 => (fun h12 v12 p12 q12 => (by rw [s2] at c9; rw [r2 u1.toNat (by omega)] at *; obtain ⟨t1, w1⟩ := c_J6_bitCountS hJ.bt.1 hJ.bt.2 p12; rw [t1, w1]; exact hJ.fin (g := uph hx 89 6 1) (fun c k q => up_ne q) (Or.inr ⟨up_sm, by omega, c18, by omega⟩)))))))))⟩)⟩⟩)⟩)⟩⟩
  exact q
