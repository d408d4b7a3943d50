/-! what holds of a LAND, all of it -/
def W10 (L : PH) : Prop := W9 L ∧ DsL L ∧ (∀ p : Nat, p < 8 → L 7 (8 * p + p) = 0) ∧ (∀ i : Nat, i < 7 → SB (L 2 i) (L 1 0)) ∧ (∀ i j : Nat, i < 7 → j < 7 → bB (L 2 i) j = bB (L 2 j) i) ∧ ∀ p b : Nat, p < 8 → b < 8 → L 0 4 ≤ (p : Int) → L 7 (8 * p + b) = 0
theorem zx_d : ∀ s : Fin 256, ∀ n : Fin 8, (0 ≤ zxor (s.val : Int) (zshl 1 (n.val : Int)) ∧ zxor (s.val : Int) (zshl 1 (n.val : Int)) < 256) ∧ (bt (s.val : Int) n.val = 0 → zor (s.val : Int) (zshl 1 (n.val : Int)) = zxor (s.val : Int) (zshl 1 (n.val : Int))) ∧ (bt (s.val : Int) n.val = 1 → zand (s.val : Int) (zxor (zshl 1 (n.val : Int)) (-1)) = zxor (s.val : Int) (zshl 1 (n.val : Int))) := by decide +kernel
theorem zx_c {v n : Int} {m : Int} (h : SB v m) (h0 : 0 ≤ n) (h8 : n < 8) : (0 ≤ zxor v (zshl 1 n) ∧ zxor v (zshl 1 n) < 256) ∧ (¬ bB v n.toNat = true → zor v (zshl 1 n) = zxor v (zshl 1 n)) ∧ (bB v n.toNat = true → zand v (zxor (zshl 1 n) (-1)) = zxor v (zshl 1 n)) := by
  have z := zx_d ⟨v.toNat, by have := h.1; have := h.2.1; omega⟩ ⟨n.toNat, by omega⟩
  have e1 : ((v.toNat : Nat) : Int) = v := Int.toNat_of_nonneg h.1
  have e2 : ((n.toNat : Nat) : Int) = n := by omega
  dsimp only at z
  rw [e1, e2] at z
  have q : bt v n.toNat = if bB v n.toNat then 1 else 0 := bt_bB v (i := n.toNat) (by omega)
  exact ⟨z.1, fun y => z.2.1 (by rw [q, if_neg y]), fun y => z.2.2 (by rw [q, if_pos y])⟩
theorem zx_b {v n : Int} {j : Nat} (h0 : 0 ≤ n) (h8 : n < 8) (hj : j < 8) : bB (zxor v (zshl 1 n)) j = (bB v j ^^ decide (j = n.toNat)) := by
  have e : bB (zshl 1 n) j = decide (j = n.toNat) := by
    have := bB_one (a := n.toNat) (i := j) (by omega) hj
    rw [show ((n.toNat : Nat) : Int) = n by omega] at this
    exact this
  rw [bB_xor, e]
theorem bt_e {v : Int} {j : Nat} (hj : j < 8) : bt v j = if bB v j = true then 1 else 0 := bt_bB v hj
theorem zx_t {v n : Int} {j : Nat} (h0 : 0 ≤ n) (h8 : n < 8) (hj : j < 8) : bt (zxor v (zshl 1 n)) j = if j = n.toNat then 1 - bt v j else bt v j := by
  rw [bt_e hj, bt_e hj, zx_b h0 h8 hj]
  by_cases y : j = n.toNat
  · rw [if_pos y, decide_eq_true y]
    cases bB v j <;> rfl
  · rw [if_neg y, decide_eq_false y]
    cases bB v j <;> rfl
theorem SB.fl {v m n : Int} (h : SB v m) (h0 : 0 ≤ n) (hm : n < m) (h8 : n < 8) : SB (zxor v (zshl 1 n)) m := by
  obtain ⟨z, -, -⟩ := zx_c h h0 h8
  refine ⟨z.1, z.2, fun i hi hn => ?_⟩
  rw [zx_t h0 h8 hi, if_neg (by omega)]
  exact h.2.2 i hi hn
/-- a place of which one bit is turned -/
def flL (L : PH) (j k : Nat) (n : Int) : PH := uph L j k (zxor (L j k) (zshl 1 n))
theorem fl_o {L : PH} {j k j' k' : Nat} {n : Int} (e : ¬ (j' = j ∧ k' = k)) : flL L j k n j' k' = L j' k' := by
  unfold flL
  rw [up_rd, if_neg e]
theorem fl_s {L : PH} {j k : Nat} {n : Int} : flL L j k n j k = zxor (L j k) (zshl 1 n) := by
  unfold flL
  rw [up_rd, if_pos ⟨rfl, rfl⟩]
theorem W9.rd {L M : PH} (w : W9 L) (hW : WL M) (e0 : M 0 4 = L 0 4) (e1 : M 1 0 = L 1 0) (hT : TBL M) (e : ∀ j k : Nat, 5 ≤ j → M j k = L j k) : W9 M := by
  obtain ⟨w1, w2, w3, w4, w5, w6⟩ := w
  refine ⟨hW, fun p b hp hb h => ?_, fun p hp => ?_, hT, fun p k hp hk h => ?_, fun i hi => by rw [e 15 i (by omega)]; exact w6 i hi⟩
  · rw [e0] at h
    rw [e 7 _ (by omega)]; exact w2 p b hp hb h
  · rw [e0] at hp
    rw [e 11 p (by omega), e 12 p (by omega), e1]; exact w3 p hp
  · rw [e 14 p (by omega)] at h
    rw [e 13 _ (by omega), e0]; exact w5 p k hp hk h
theorem W10.kp {L M : PH} (w : W10 L) (w9 : W9 M) (e1 : M 1 0 = L 1 0) (e2 : ∀ k, M 2 k = L 2 k) (e0 : M 0 4 = L 0 4) (e7 : ∀ p b : Nat, p < 8 → b < 8 → p = b ∨ L 0 4 ≤ (p : Int) → M 7 (8 * p + b) = L 7 (8 * p + b)) (e13 : ∀ k, M 13 k = L 13 k) (e14 : ∀ k, M 14 k = L 14 k) : W10 M := by
  obtain ⟨-, w2, w3, w4, w5, w6⟩ := w
  exact ⟨w9, w2.cg e13 e14, fun p hp => by rw [e7 p p hp hp (Or.inl rfl)]; exact w3 p hp, fun i hi => by rw [e2, e1]; exact w4 i hi, fun i j hi hj => by rw [e2, e2]; exact w5 i j hi hj, fun p b hp hb q => by rw [e0] at q; rw [e7 p b hp hb (Or.inr q)]; exact w6 p b hp hb q⟩
/-- keep -/
theorem W10.fk {L : PH} (w : W10 L) {p : Int} (h0 : 0 ≤ p) (hp : p < L 0 4) : W10 (flL L 0 9 p) := by
  have h8 := w.1.1.2.1
  have s := w.1.1.s
  refine w.kp (w.1.kp (w.1.1.kp (fun j k q => fl_o (by omega)) (by rw [fl_o (by omega)]; exact w.1.1.1) (by rw [fl_o (by omega)]; exact h8) ?_) (fl_o (by omega)) (fun j k q => fl_o (by omega)) (fun p b _ _ _ => fl_o (by omega)) (fun p q => by rw [fl_o (by omega), fl_o (by omega)]; exact w.1.2.2.1 p q) (fun k => fl_o (by omega)) (fun k => fl_o (by omega)) (fun i hi => by rw [fl_o (by omega)]; exact w.1.2.2.2.2.2 i hi)) (fl_o (by omega)) (fun k => fl_o (by omega)) (fl_o (by omega)) (fun p b hp hb _ => fl_o (by omega)) (fun k => fl_o (by omega)) (fun k => fl_o (by omega))
  exact WS.of (a := L 1 1) (n := L 1 0) (d := L 0 7) (f := L 0 8) (k := zxor (L 0 9) (zshl 1 p)) (p := L 0 4) (fl_o (by omega)) (fl_o (by omega)) (fl_o (by omega)) (fl_o (by omega)) fl_s (fl_o (by omega)) ⟨s.1, s.2.1, s.2.2.1, s.2.2.2.fl h0 hp (by omega)⟩
/-- move -/
def mvL (L : PH) (p i : Int) : PH := uph (uph L 11 p.toNat i) 12 p.toNat i
theorem mv_o {L : PH} {p i : Int} {j k : Nat} (e : j ≠ 11 ∧ j ≠ 12) : mvL L p i j k = L j k := by
  unfold mvL
  rw [up_ne (by omega), up_ne (by omega)]
theorem W10.mv {L : PH} (w : W10 L) {p i : Int} (hi : 0 ≤ i ∧ i < L 1 0) : W10 (mvL L p i) := by
  have h8 := w.1.1.2.1
  refine w.kp (w.1.kp (w.1.1.kp (fun j k q => mv_o (by omega)) (by rw [mv_o (by omega)]; exact w.1.1.1) (by rw [mv_o (by omega)]; exact h8) (w.1.1.s.kp (fun j k q => mv_o (by omega)))) (mv_o (by omega)) (fun j k q => mv_o (by omega)) (fun p b _ _ _ => mv_o (by omega)) (fun q hq => ?_) (fun k => mv_o (by omega)) (fun k => mv_o (by omega)) (fun i hi => by rw [mv_o (by omega)]; exact w.1.2.2.2.2.2 i hi)) (mv_o (by omega)) (fun k => mv_o (by omega)) (mv_o (by omega)) (fun p b hp hb _ => mv_o (by omega)) (fun k => mv_o (by omega)) (fun k => mv_o (by omega))
  unfold mvL
  rw [up_ne (by omega), up_rd, up_rd]
  have z := w.1.2.2.1 q hq
  by_cases y : q = p.toNat
  · rw [if_pos ⟨rfl, y⟩, if_pos ⟨rfl, y⟩]; exact ⟨hi, hi⟩
  · rw [if_neg (by omega), if_neg (by omega), up_ne (by omega)]; exact z
/-- salt -/
theorem W10.sa {L M : PH} (w : W10 L) {i : Int} (hi : 0 ≤ i ∧ i < L 1 0) (hT : TBL M) (e : ∀ j k : Nat, j ≠ 3 → j ≠ 4 → M j k = flL L 1 1 i j k) : W10 M := by
  have h7 := w.1.1.1
  have s := w.1.1.s
  have e' : ∀ j k : Nat, ¬ (j = 1 ∧ k = 1) → j ≠ 3 → j ≠ 4 → M j k = L j k := fun j k q q3 q4 => (e j k q3 q4).trans (fl_o q)
  have e11 : M 1 1 = zxor (L 1 1) (zshl 1 i) := (e 1 1 (by omega) (by omega)).trans fl_s
  refine w.kp (w.1.rd (w.1.1.kp (fun j k q => e' j k (by omega) (by omega) (by omega)) (by rw [e' 1 0 (by omega) (by omega) (by omega)]; exact h7) (by rw [e' 0 4 (by omega) (by omega) (by omega)]; exact w.1.1.2.1) ?_) (e' 0 4 (by omega) (by omega) (by omega)) (e' 1 0 (by omega) (by omega) (by omega)) hT (fun j k q => e' j k (by omega) (by omega) (by omega))) (e' 1 0 (by omega) (by omega) (by omega)) (fun k => e' 2 k (by omega) (by omega) (by omega)) (e' 0 4 (by omega) (by omega) (by omega)) (fun p b _ _ _ => e' 7 _ (by omega) (by omega) (by omega)) (fun k => e' 13 k (by omega) (by omega) (by omega)) (fun k => e' 14 k (by omega) (by omega) (by omega))
  exact WS.of (a := zxor (L 1 1) (zshl 1 i)) (n := L 1 0) (d := L 0 7) (f := L 0 8) (k := L 0 9) (p := L 0 4) e11 (e' 1 0 (by omega) (by omega) (by omega)) (e' 0 7 (by omega) (by omega) (by omega)) (e' 0 8 (by omega) (by omega) (by omega)) (e' 0 9 (by omega) (by omega) (by omega)) (e' 0 4 (by omega) (by omega) (by omega)) ⟨s.1.fl hi.1 hi.2 (by omega), s.2.1, s.2.2.1, s.2.2.2⟩
/-- wall -/
def waL (L : PH) (a b : Int) : PH := flL (flL L 2 a.toNat b) 2 b.toNat a
theorem wa_o {L : PH} {a b : Int} {j k : Nat} (e : j ≠ 2) : waL L a b j k = L j k := by
  unfold waL
  rw [fl_o (by omega), fl_o (by omega)]
theorem wa_2 {L : PH} {a b : Int} (h : 0 ≤ a ∧ 0 ≤ b ∧ a ≠ b) {k : Nat} : waL L a b 2 k = if k = a.toNat then zxor (L 2 k) (zshl 1 b) else if k = b.toNat then zxor (L 2 k) (zshl 1 a) else L 2 k := by
  unfold waL
  by_cases x : k = a.toNat
  · rw [if_pos x, fl_o (by omega), x, fl_s]
  · rw [if_neg x]
    by_cases y : k = b.toNat
    · rw [if_pos y, y, fl_s, fl_o (by omega)]
    · rw [if_neg y, fl_o (by omega), fl_o (by omega)]
theorem W10.wa {L M : PH} (w : W10 L) {a b : Int} (ha : 0 ≤ a ∧ a < L 1 0) (hb : 0 ≤ b ∧ b < L 1 0) (hab : a ≠ b) (hT : TBL M) (e : ∀ j k : Nat, j ≠ 3 → j ≠ 4 → M j k = waL L a b j k) : W10 M := by
  have h7 := w.1.1.1
  have s := w.1.1.s
  have e' : ∀ j k : Nat, j ≠ 2 → j ≠ 3 → j ≠ 4 → M j k = L j k := fun j k q q3 q4 => (e j k q3 q4).trans (wa_o q)
  have e2 : ∀ k : Nat, M 2 k = if k = a.toNat then zxor (L 2 k) (zshl 1 b) else if k = b.toNat then zxor (L 2 k) (zshl 1 a) else L 2 k := fun k => (e 2 k (by omega) (by omega)).trans (wa_2 ⟨ha.1, hb.1, hab⟩)
  have w9 : W9 M := w.1.rd (w.1.1.kp (fun j k q => e' j k (by omega) (by omega) (by omega)) (by rw [e' 1 0 (by omega) (by omega) (by omega)]; exact h7) (by rw [e' 0 4 (by omega) (by omega) (by omega)]; exact w.1.1.2.1) (s.kp (fun j k q => e' j k (by omega) (by omega) (by omega)))) (e' 0 4 (by omega) (by omega) (by omega)) (e' 1 0 (by omega) (by omega) (by omega)) hT (fun j k q => e' j k (by omega) (by omega) (by omega))
  obtain ⟨-, w2, w3, w4, w5, w6⟩ := w
  refine ⟨w9, w2.cg (fun k => e' 13 k (by omega) (by omega) (by omega)) (fun k => e' 14 k (by omega) (by omega) (by omega)), fun p hp => by rw [e' 7 _ (by omega) (by omega) (by omega)]; exact w3 p hp, fun i hi => ?_, fun i j hi hj => ?_, fun p b hp hb q => by rw [e' 0 4 (by omega) (by omega) (by omega)] at q; rw [e' 7 _ (by omega) (by omega) (by omega)]; exact w6 p b hp hb q⟩
  · rw [e' 1 0 (by omega) (by omega) (by omega), e2]
    have z := w4 i hi
    by_cases x : i = a.toNat
    · rw [if_pos x]; exact z.fl hb.1 hb.2 (by omega)
    · rw [if_neg x]
      by_cases y : i = b.toNat
      · rw [if_pos y]; exact z.fl ha.1 ha.2 (by omega)
      · rw [if_neg y]; exact z
  · have Q : ∀ i j : Nat, i < 7 → j < 7 → bB (M 2 i) j = (bB (L 2 i) j ^^ decide ((i = a.toNat ∧ j = b.toNat) ∨ (i = b.toNat ∧ j = a.toNat))) := fun i j hi hj => by
      rw [e2]
      by_cases x : i = a.toNat
      · rw [if_pos x, zx_b hb.1 (by omega) (by omega), show decide (j = b.toNat) = decide ((i = a.toNat ∧ j = b.toNat) ∨ (i = b.toNat ∧ j = a.toNat)) from decide_eq_decide.mpr ⟨fun q => Or.inl ⟨x, q⟩, fun q => by omega⟩]
      · rw [if_neg x]
        by_cases y : i = b.toNat
        · rw [if_pos y, zx_b ha.1 (by omega) (by omega), show decide (j = a.toNat) = decide ((i = a.toNat ∧ j = b.toNat) ∨ (i = b.toNat ∧ j = a.toNat)) from decide_eq_decide.mpr ⟨fun q => Or.inr ⟨y, q⟩, fun q => by omega⟩]
        · rw [if_neg y, decide_eq_false (by omega), Bool.xor_false]
    rw [Q i j hi hj, Q j i hj hi, w5 i j hi hj, show decide ((i = a.toNat ∧ j = b.toNat) ∨ (i = b.toNat ∧ j = a.toNat)) = decide ((j = a.toNat ∧ i = b.toNat) ∨ (j = b.toNat ∧ i = a.toNat)) from decide_eq_decide.mpr ⟨fun q => by omega, fun q => by omega⟩]
theorem surv5 {sl : Nat} {si : Nat → Int} {h h' L : PH} (hL : CL 5 h L) (hn : 0 ≤ L 1 0 ∧ L 1 0 ≤ 7) (hc : CP (zz sl si (7, 0)) mX5_survey h [(2, 6)] h' []) : (∃ M : PH, CL 5 h' M ∧ TBL M ∧ ∀ j k : Nat, j ≠ 3 → j ≠ 4 → M j k = L j k) ∧ ∀ c k : Nat, c ≠ 8 → c ≠ 9 → h' c k = h c k := by
  have e0 : h 6 0 = L 1 0 := hL 1 0 (by unfold inL; omega)
  have hn' : 0 ≤ h 6 0 ∧ h 6 0 ≤ 7 := by rw [e0]; exact hn
  obtain ⟨s1, s2, s3⟩ := c_X5_survey5F hn' hc
  have F : ∀ c k : Nat, c ≠ 8 → c ≠ 9 → h' c k = h c k := fun c k y1 y2 => s3 c k (by omega)
  have rd : RDS 6 7 h L := ⟨e0, hL 1 1 (by unfold inL; omega), fun i hi => hL 2 i (il2 hi)⟩
  have e0' : h' 6 0 = h 6 0 := F _ _ (by omega) (by omega)
  have rd' : RDS 6 7 h' L := ⟨e0'.trans rd.1, (F _ _ (by omega) (by omega)).trans rd.2.1, fun i hi => (F _ _ (by omega) (by omega)).trans (rd.2.2 i hi)⟩
  have l3 : ∀ f t : Nat, (f : Int) < L 1 0 → (t : Int) < L 1 0 → h' 8 (7 * f + t) = lenW (WLn L f t) := fun f t hf ht => by
    rw [s1 f t (by omega) (by omega), le_W hn' (by omega) (by omega), rd.W hn']
  let M : PH := fun j k => if j = 3 then h' 8 k else if j = 4 then h' 9 k else L j k
  have M3 : ∀ k, M 3 k = h' 8 k := fun k => if_pos rfl
  have M4 : ∀ k, M 4 k = h' 9 k := fun k => (if_neg (by omega)).trans (if_pos rfl)
  have MO : ∀ j k : Nat, j ≠ 3 → j ≠ 4 → M j k = L j k := fun j k q3 q4 => (if_neg q3).trans (if_neg q4)
  have WM : ∀ f t : Nat, WLn M f t = WLn L f t := fun f t => WLn_c (MO 1 0 (by omega) (by omega)) (MO 1 1 (by omega) (by omega)) (fun i => MO 2 i (by omega) (by omega))
  have NM : ∀ f t : Nat, nxT M f t = nxT L f t := fun f t => by
    unfold nxT
    rw [nxS_c (MO 1 0 (by omega) (by omega)) (MO 1 1 (by omega) (by omega)) (fun i => MO 2 i (by omega) (by omega)), MO 1 0 (by omega) (by omega)]
  refine ⟨⟨M, fun j k i => ?_, fun f t hf ht => ?_, MO⟩, F⟩
  · by_cases c3 : j = 3
    · subst c3; rw [M3]
    · by_cases c4 : j = 4
      · subst c4; rw [M4]
      · rw [MO j k c3 c4, F _ _ (by omega) (by omega)]; exact hL j k i
  · rw [MO 1 0 (by omega) (by omega)] at hf ht
    rw [M3, M4, WM, NM]
    refine ⟨l3 f t hf ht, fun y1 y2 => ?_⟩
    rw [s2 f t (by omega) (by omega)]
    exact ln_nx rd' (by rw [e0', e0]; exact hn) (by omega) (by omega) (fun i hi => l3 i t (by omega) ht) y1 y2
set_option maxRecDepth 10000 in
theorem v_X5_strew5 {sl : Nat} {si : Nat → Int} {K : Nat → PH → ZL → List ZV → Prop} {Q : PH → List ZV → Prop} {h : PH}  {a b : Int} (H : R32 (h 6 1) → ∀ h1 v1, CP (zz sl si (7, 0)) mX11_has h [(0, (h 6 1)), (0, a)] h1 [(0, v1)] → v1 = 0 ∨ v1 = 1 → (v1 ≠ b → R32 (h1 6 1) → ∀ h2, CP (zz sl si (7, 0)) mX5_survey (uph h1 6 1 (zxor (h1 6 1) (zshl 1 a))) [(2, 6)] h2 [] → Q h2 [(0, 1)]) ∧ (¬ (v1 ≠ b) → Q h1 [(0, 0)])) : vc (zz sl si (7, 0)) (fun _ => false) K Q mX5_strew 20 0 mX5_strew.2.2.2.2.2.2 h [(0, (2, 6)), (1, (0, a)), (2, (0, b))] [] := H
set_option maxHeartbeats 600000 in
theorem c_X5_strew5 {sl : Nat} {si : Nat → Int} {h h' : PH} {L : PH} {a b : Int} {v : Int} (hL : CL 5 h L) (hw : W10 L) (ha : 0 ≤ a ∧ a < L 1 0) (hb : b = 0 ∨ b = 1) (hc : CP (zz sl si (7, 0)) mX5_strew h [(2, 6), (0, a), (0, b)] h' [(0, v)]) : ((bB (L 1 1) a.toNat = true ↔ b = 1) → v = 0 ∧ h' = h) ∧ (¬ (bB (L 1 1) a.toNat = true ↔ b = 1) → v = 1 ∧ (∃ M : PH, CL 5 h' M ∧ TBL M ∧ ∀ j k : Nat, j ≠ 3 → j ≠ 4 → M j k = flL L 1 1 a j k) ∧ ∀ c k : Nat, c ≠ 6 → c ≠ 8 → c ≠ 9 → h' c k = h c k) := by
  have q : (fun (xh : PH) (r : List ZV) => ∀ v : Int, r = [(0, v)] → (((bB (L 1 1) a.toNat = true ↔ b = 1) → v = 0 ∧ xh = h) ∧ (¬ (bB (L 1 1) a.toNat = true ↔ b = 1) → v = 1 ∧ (∃ M : PH, CL 5 xh M ∧ TBL M ∧ ∀ j k : Nat, j ≠ 3 → j ≠ 4 → M j k = flL L 1 1 a j k) ∧ ∀ c k : Nat, c ≠ 6 → c ≠ 8 → c ≠ 9 → xh c k = h c k))) h' [(0, v)] := by
    refine cp_vc (cut := (fun _ => false)) (K := fun p hx lv st => False) (Q := fun (xh : PH) (r : List ZV) => ∀ v : Int, r = [(0, v)] → (((bB (L 1 1) a.toNat = true ↔ b = 1) → v = 0 ∧ xh = h) ∧ (¬ (bB (L 1 1) a.toNat = true ↔ b = 1) → v = 1 ∧ (∃ M : PH, CL 5 xh M ∧ TBL M ∧ ∀ j k : Nat, j ≠ 3 → j ≠ 4 → M j k = flL L 1 1 a j k) ∧ ∀ c k : Nat, c ≠ 6 → c ≠ 8 → c ≠ 9 → xh c k = h c k))) (v_X5_strew5 ?_) (fun pc hx lv st hcut hK => ?_) hc
    · exact (fun r1 => (fun h1 v1 p1 q1 => by obtain ⟨t1, e1⟩ := c_X11_hasB p1; have t1 := t1.symm; subst t1; exact ⟨fun c2 => (fun r3 => (fun h2 p2 => (by have h7 := hw.1.1.1; have k1 : h 6 1 = L 1 1 := hL 1 1 (by unfold inL; omega); rw [k1, bt_z (by omega) (by omega)] at e1; have u := hL.up 1 1 (zxor (L 1 1) (zshl 1 a)); rw [k1] at p2; obtain ⟨x1, x2⟩ := surv5 (L := flL L 1 1 a) u (by rw [fl_o (by omega)]; exact h7) p2; intro v e; cases e; refine ⟨fun z => absurd (by (rcases hb with y | y; (have : v1 ≠ 1 := (fun z1 => by have := z.mp (e1.mp z1); omega); omega); (have := e1.mpr (z.mpr y); omega)) : v1 = b) c2, fun _ => ⟨rfl, x1, fun c k y1 y2 y3 => by rw [x2 c k y2 y3, up_ne (by omega)]⟩⟩))), fun c2 => (by have h7 := hw.1.1.1; have k1 : h 6 1 = L 1 1 := hL 1 1 (by unfold inL; omega); rw [k1, bt_z (by omega) (by omega)] at e1; intro v e; cases e; refine ⟨fun _ => ⟨rfl, rfl⟩, fun z => absurd ⟨fun y => by have := e1.mpr y; omega, fun y => e1.mp (by omega)⟩ z⟩)⟩))
    · exact hK.elim
  exact q v rfl
set_option maxRecDepth 10000 in
theorem v_X5_hang5 {sl : Nat} {si : Nat → Int} {K : Nat → PH → ZL → List ZV → Prop} {Q : PH → List ZV → Prop} {h : PH}  {a b c : Int} (H : (c = 0 → 0 ≤ a ∧ a < (7 : Nat) → R32 (h 7 a.toNat) → 0 ≤ a ∧ a < (7 : Nat) → 0 ≤ b ∧ b < (7 : Nat) → R32 ((uph h 7 a.toNat (zand (h 7 a.toNat) (zxor (zshl 1 b) (-1)))) 7 b.toNat) → 0 ≤ b ∧ b < (7 : Nat) → Q (uph (uph h 7 a.toNat (zand (h 7 a.toNat) (zxor (zshl 1 b) (-1)))) 7 b.toNat (zand ((uph h 7 a.toNat (zand (h 7 a.toNat) (zxor (zshl 1 b) (-1)))) 7 b.toNat) (zxor (zshl 1 a) (-1)))) []) ∧ (¬ (c = 0) → 0 ≤ a ∧ a < (7 : Nat) → R32 (h 7 a.toNat) → 0 ≤ a ∧ a < (7 : Nat) → 0 ≤ b ∧ b < (7 : Nat) → R32 ((uph h 7 a.toNat (zor (h 7 a.toNat) (zshl 1 b))) 7 b.toNat) → 0 ≤ b ∧ b < (7 : Nat) → Q (uph (uph h 7 a.toNat (zor (h 7 a.toNat) (zshl 1 b))) 7 b.toNat (zor ((uph h 7 a.toNat (zor (h 7 a.toNat) (zshl 1 b))) 7 b.toNat) (zshl 1 a))) [])) : vc (zz sl si (7, 0)) (fun _ => false) K Q mX5_hang 29 0 mX5_hang.2.2.2.2.2.2 h [(0, (2, 6)), (1, (0, a)), (2, (0, b)), (3, (0, c))] [] := H
set_option maxHeartbeats 600000 in
theorem c_X5_hang5 {sl : Nat} {si : Nat → Int} {h h' : PH} {L : PH} {a b c : Int} (hL : CL 5 h L) (hw : W10 L) (ha : 0 ≤ a ∧ a < L 1 0) (hb : 0 ≤ b ∧ b < L 1 0) (hab : a ≠ b) (hcc : c = 0 ∨ c = 1) (hne : ¬ (bB (L 2 a.toNat) b.toNat = true ↔ c = 1)) (hc : CP (zz sl si (7, 0)) mX5_hang h [(2, 6), (0, a), (0, b), (0, c)] h' []) : CL 5 h' (waL L a b) ∧ ∀ c k : Nat, c ≠ 7 → h' c k = h c k := by
  have q : (fun (xh : PH) (r : List ZV) => CL 5 xh (waL L a b) ∧ ∀ c k : Nat, c ≠ 7 → xh c k = h c k) h' [] := by
    refine cp_vc (cut := (fun _ => false)) (K := fun p hx lv st => False) (Q := fun (xh : PH) (r : List ZV) => CL 5 xh (waL L a b) ∧ ∀ c k : Nat, c ≠ 7 → xh c k = h c k) (v_X5_hang5 ?_) (fun pc hx lv st hcut hK => ?_) hc
    · exact ⟨fun c1 => (fun b2 r3 => (fun b4 => (fun b5 r6 => (fun b7 => (by have h7 := hw.1.1.1; have k1 : h 7 a.toNat = L 2 a.toNat := hL 2 _ (il2 (by omega)); have k2 : h 7 b.toNat = L 2 b.toNat := hL 2 _ (il2 (by omega)); have d1 : bB (L 2 a.toNat) b.toNat = true := Classical.byContradiction (fun z => hne ⟨fun y => absurd y z, fun y => absurd y (by omega)⟩); have d2 : bB (L 2 b.toNat) a.toNat = true := (by rw [hw.2.2.2.2.1 b.toNat a.toNat (by omega) (by omega)]; exact d1); rw [up_ne (by omega), k1, k2, (zx_c (hw.2.2.2.1 a.toNat (by omega)) hb.1 (by omega)).2.2 d1, (zx_c (hw.2.2.2.1 b.toNat (by omega)) ha.1 (by omega)).2.2 d2]; have u := (hL.up 2 a.toNat (zxor (L 2 a.toNat) (zshl 1 b))).up 2 b.toNat (zxor (L 2 b.toNat) (zshl 1 a)); refine ⟨?_, fun c k y1 => by rw [up_ne (by omega), up_ne (by omega)]⟩; unfold waL; rw [show flL (flL L 2 a.toNat b) 2 b.toNat a = uph (uph L 2 a.toNat (zxor (L 2 a.toNat) (zshl 1 b))) 2 b.toNat (zxor (L 2 b.toNat) (zshl 1 a)) by (unfold flL; rw [up_ne (by omega)])]; exact u))))), fun c1 => (fun b8 r9 => (fun b10 => (fun b11 r12 => (fun b13 => (by have h7 := hw.1.1.1; have k1 : h 7 a.toNat = L 2 a.toNat := hL 2 _ (il2 (by omega)); have k2 : h 7 b.toNat = L 2 b.toNat := hL 2 _ (il2 (by omega)); have d1 : ¬ bB (L 2 a.toNat) b.toNat = true := (fun z => hne ⟨fun _ => by omega, fun _ => z⟩); have d2 : ¬ bB (L 2 b.toNat) a.toNat = true := (by rw [hw.2.2.2.2.1 b.toNat a.toNat (by omega) (by omega)]; exact d1); rw [up_ne (by omega), k1, k2, (zx_c (hw.2.2.2.1 a.toNat (by omega)) hb.1 (by omega)).2.1 d1, (zx_c (hw.2.2.2.1 b.toNat (by omega)) ha.1 (by omega)).2.1 d2]; have u := (hL.up 2 a.toNat (zxor (L 2 a.toNat) (zshl 1 b))).up 2 b.toNat (zxor (L 2 b.toNat) (zshl 1 a)); refine ⟨?_, fun c k y1 => by rw [up_ne (by omega), up_ne (by omega)]⟩; unfold waL; rw [show flL (flL L 2 a.toNat b) 2 b.toNat a = uph (uph L 2 a.toNat (zxor (L 2 a.toNat) (zshl 1 b))) 2 b.toNat (zxor (L 2 b.toNat) (zshl 1 a)) by (unfold flL; rw [up_ne (by omega)])]; exact u)))))⟩
    · exact hK.elim
  exact q
