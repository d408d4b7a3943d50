noncomputable def cif3 (p : Prop) (a b : PH) : PH := @ite _ p (Classical.propDecidable p) a b
noncomputable def cif4 (p : Prop) (a b : PR) : PR := @ite _ p (Classical.propDecidable p) a b
theorem cif3_p {p : Prop} {a b : PH} (h : p) : cif3 p a b = a := @if_pos _ (Classical.propDecidable p) h _ _ _
theorem cif3_n {p : Prop} {a b : PH} (h : ¬ p) : cif3 p a b = b := @if_neg _ (Classical.propDecidable p) h _ _ _
theorem cif4_p {p : Prop} {a b : PR} (h : p) : cif4 p a b = a := @if_pos _ (Classical.propDecidable p) h _ _ _
theorem cif4_n {p : Prop} {a b : PR} (h : ¬ p) : cif4 p a b = b := @if_neg _ (Classical.propDecidable p) h _ _ _
/-! TALES: what their text does -/
def WN (L : PH) : Prop := (0 ≤ L 1 0 ∧ L 1 0 ≤ 7) ∧ (0 ≤ L 0 4 ∧ L 0 4 ≤ 8)
def inY (c k : Nat) : Prop := (c = 43 ∧ (k = 1 ∨ k = 2)) ∨ (44 ≤ c ∧ c ≤ 48 ∧ k < 60) ∨ (c = 50 ∧ k = 4) ∨ (c = 51 ∧ k < 3)
def CTa (h Y : PH) : Prop := ∀ c k : Nat, inY c k → h c k = Y c k
def WT (Y : PH) : Prop := 0 ≤ Y 43 2 ∧ Y 43 2 + Y 50 4 ≤ 2 * Y 43 1 ∧ (0 ≤ Y 43 1 ∧ Y 43 1 ≤ 30) ∧ (0 ≤ Y 50 4 ∧ Y 50 4 ≤ 3) ∧ ∀ i : Nat, (i : Int) < Y 50 4 → 0 ≤ Y 51 i ∧ Y 51 i < Y 43 2
def adY (Y : PH) (a b c d : Int) : PH := uph (uph (uph (uph (uph (uph Y 44 (Y 43 2).toNat a) 45 (Y 43 2).toNat b) 46 (Y 43 2).toNat c) 47 (Y 43 2).toNat d) 48 (Y 43 2).toNat (Y 43 2)) 43 2 (Y 43 2 + 1)
def stp (Y : PH) : PH := uph Y 43 1 (Y 43 1 + 1)
def opn (Y : PH) : PH := uph (uph Y 51 (Y 50 4).toNat (Y 43 2 - 1)) 50 4 (Y 50 4 + 1)
def cls (Y : PH) : PH := uph (uph (adY (uph Y 50 4 (Y 50 4 - 1)) 22 0 0 0) 48 (Y 51 (Y 50 4 - 1).toNat).toNat (Y 43 2)) 48 (Y 43 2).toNat (Y 51 (Y 50 4 - 1).toNat)
noncomputable def qNum (T : TX) (t : Nat) (lo hi : Int) (f : Int → PH) : PR := if kd T t = 3 then (if lo ≤ vl T t ∧ vl T t ≤ hi then .inr (nt T t, f (vl T t)) else bad T 4 t) else bad T 2 t
noncomputable def qPers (T : TX) (L : PH) (t : Nat) (k : Int) (Y : PH) : PR := if pe T L t = -1 then noN T t else .inr (nt T t, adY Y k (pe T L t) 0 0)
noncomputable def qHous (T : TX) (L : PH) (t : Nat) (k : Int) (Y : PH) : PR := if ho T L t = -1 then noN T t else .inr (nt T t, adY Y k (ho T L t) 0 0)
noncomputable def qFgv (T : TX) (L : PH) (t : Nat) (Y : PH) : PR := if pe T L t = -1 then noN T t else if pe T L (nt T t) = -1 then noN T (nt T t) else .inr (nt T (nt T t), adY Y 12 (pe T L t) (pe T L (nt T t)) 0)
noncomputable def qFrg (T : TX) (L : PH) (t : Nat) (Y : PH) : PR := if pe T L t = -1 then noN T t else if isW T (nt T t) 15 then (if pe T L (nt T (nt T t)) = -1 then noN T (nt T (nt T t)) else qNum T (nt T (nt T (nt T t))) 1 99 (fun v => adY Y 14 (pe T L t) (pe T L (nt T (nt T t))) v)) else bad T 2 (nt T t)
noncomputable def qLab (T : TX) (L : PH) (t : Nat) (Y : PH) : PR := if ho T L t = -1 then noN T t else if kd T (nt T t) = 4 ∧ vl T (nt T t) ≠ 59 then qNum T (nt T (nt T t)) 0 9999 (fun v => adY Y 18 (ho T L t) (vl T (nt T t)) v) else bad T 2 (nt T t)
noncomputable def qAt (T : TX) (L : PH) (t : Nat) (Y : PH) : PR := if pe T L t = -1 then noN T t else if isW T (nt T t) 4 then (if ho T L (nt T (nt T t)) = -1 then noN T (nt T (nt T t)) else .inr (nt T (nt T (nt T t)), adY Y 20 (pe T L t) (ho T L (nt T (nt T t))) 0)) else bad T 2 (nt T t)
noncomputable def qTest (T : TX) (L : PH) (t : Nat) (Y : PH) : PR := if isW T t 18 then qLab T L (nt T t) Y else if isW T t 19 then qPers T L (nt T t) 19 Y else if isW T t 20 then qAt T L (nt T t) Y else bad T 2 t
noncomputable def qRest (T : TX) (L : PH) (t : Nat) (K : Int) (Y : PH) : PR := if K = 10 then qNum T t 1 9 (fun v => adY Y 10 0 0 v) else if K = 21 then qNum T t 1 99 (fun v => adY Y 21 0 0 v) else if K = 11 then qPers T L t 11 Y else if K = 1 then qHous T L t 1 Y else if K = 13 then qHous T L t 13 Y else if K = 12 then qFgv T L t Y else if K = 14 then qFrg T L t Y else .inr (t, adY Y K 0 0 0)
def isSt (K : Int) : Prop := K = 1 ∨ K = 10 ∨ K = 11 ∨ K = 12 ∨ K = 13 ∨ K = 14 ∨ K = 16 ∨ K = 17 ∨ K = 21 ∨ K = 23
noncomputable def qStep (T : TX) (L : PH) (s : Nat) (K : Int) (Y : PH) : PR := sq (if K = 17 then qTest T L (nt T s) (stp Y) else qRest T L (nt T s) K (stp Y)) (fun t Z => semi T t (cif3 (K = 17 ∨ K = 21) (opn Z) Z))
noncomputable def pTale (T : TX) (L : PH) (s : Nat) (Y : PH) : PR := cif4 (isW T s 22) (if 1 ≤ Y 50 4 then semi T (nt T s) (cls Y) else bad T 2 s) (cif4 (¬ (kd T s = 2 ∧ isSt (kw T s))) (bad T 2 s) (if 30 ≤ Y 43 1 then bad T 6 s else cif4 ((kw T s = 17 ∨ kw T s = 21) ∧ 3 ≤ Y 50 4) (bad T 7 s) (qStep T L s (kw T s) Y)))
noncomputable def tEnd (T : TX) (s : Nat) (Y : PH) : PR := if 0 < Y 50 4 then bad T 2 s else .inr (s, Y)
noncomputable def ptl (T : TX) (L : PH) : Nat → Nat → PH → PR
  | 0, s, Y => tEnd T s Y
  | k + 1, s, Y => if kd T s = 0 then tEnd T s Y else sq (pTale T L s Y) (ptl T L k)
theorem CTa.up {h Y : PH} (hY : CTa h Y) {c k : Nat} {v : Int} : CTa (uph h c k v) (uph Y c k v) := fun c' k' i => by rw [up_rd, up_rd, hY c' k' i]
theorem CTa.F {h h' Y : PH} (hY : CTa h Y) (f : FT h h') : CTa h' Y := fun c k i => by rw [f c k (by unfold inY at i; omega)]; exact hY c k i
theorem CTa.n {h Y : PH} (hY : CTa h Y) : h 43 2 = Y 43 2 ∧ h 43 1 = Y 43 1 ∧ h 50 4 = Y 50 4 ∧ ∀ i : Nat, i < 3 → h 51 i = Y 51 i := ⟨hY 43 2 (by unfold inY; omega), hY 43 1 (by unfold inY; omega), hY 50 4 (by unfold inY; omega), fun i hi => hY 51 i (by unfold inY; omega)⟩
theorem CTa.ad {h Y : PH} (hY : CTa h Y) {a b c d : Int} : CTa (adY h a b c d) (adY Y a b c d) := by
  unfold adY
  rw [hY.n.1]
  exact hY.up.up.up.up.up.up
theorem ad_2 {Y : PH} {a b c d : Int} {c0 k : Nat} (hc : ¬ (44 ≤ c0 ∧ c0 ≤ 48)) (h2 : ¬ (c0 = 43 ∧ k = 2)) : adY Y a b c d c0 k = Y c0 k := by
  unfold adY
  rw [up_ne (by omega), up_ne (by omega), up_ne (by omega), up_ne (by omega), up_ne (by omega), up_ne (by omega)]
/-- what one more step leaves -/
def A1 (Y Z : PH) : Prop := Z 43 2 = Y 43 2 + 1 ∧ ∀ c k : Nat, (c = 43 ∧ k = 1) ∨ c = 50 ∨ c = 51 → Z c k = Y c k
theorem A1.ad {Y : PH} {a b c d : Int} : A1 Y (adY Y a b c d) := ⟨up_sm, fun c k q => ad_2 (by omega) (by omega)⟩
def FQ (h h' : PH) : Prop := ∀ c k : Nat, ¬ (c = 2 ∧ 4 ≤ k ∧ k ≤ 11) → ¬ (c = 43 ∧ (k = 1 ∨ k = 2)) → ¬ (44 ≤ c ∧ c ≤ 48) → ¬ (c = 50 ∧ k = 4) → c ≠ 51 → h' c k = h c k
theorem FQ.rf (h : PH) : FQ h h := fun _ _ _ _ _ _ _ => rfl
theorem FQ.tr {h h1 h2 : PH} (a : FQ h h1) (b : FQ h1 h2) : FQ h h2 := fun c k q1 q2 q3 q4 q5 => (b c k q1 q2 q3 q4 q5).trans (a c k q1 q2 q3 q4 q5)
theorem FT.Q {h h' : PH} (a : FT h h') : FQ h h' := fun c k q _ _ _ _ => a c k q
theorem FQ.ad {h h' : PH} (f : FQ h h') {a b c d : Int} : FQ h (adY h' a b c d) := fun c k q1 q2 q3 q4 q5 => (ad_2 (by omega) (by omega)).trans (f c k q1 q2 q3 q4 q5)
theorem FQ.up {h h' : PH} (f : FQ h h') {c0 k0 : Nat} {v : Int} (q : (c0 = 43 ∧ (k0 = 1 ∨ k0 = 2)) ∨ (44 ≤ c0 ∧ c0 ≤ 48) ∨ (c0 = 50 ∧ k0 = 4) ∨ c0 = 51) : FQ h (uph h' c0 k0 v) := fun c k q1 q2 q3 q4 q5 => (up_ne (by omega)).trans (f c k q1 q2 q3 q4 q5)
theorem FQ.L {b : Nat} {h h' L : PH} (f : FQ h h') (hL : CL b h L) (hb : 3 ≤ b ∧ b ≤ 27) : CL b h' L := hL.fr (fun c k _ _ => f c k (by omega) (by omega) (by omega) (by omega) (by omega))
theorem CN.ad {T : TX} {h : PH} {s : Nat} (hN : CN T h s) {a b c d : Int} : CN T (adY h a b c d) s := hN.kp (fun c k q => ad_2 (by omega) (by omega))
theorem CF.kp {h h' : PH} {a : Int} {s : Nat} (hF : CF h a s) (e : ∀ k : Nat, h' 2 k = h 2 k) : CF h' a s := ⟨by rw [e]; exact hF.1, by rw [e]; exact hF.2.1, hF.2.2⟩
theorem CF.ad {h : PH} {x : Int} {s : Nat} (hF : CF h x s) {a b c d : Int} : CF (adY h a b c d) x s := hF.kp (fun k => ad_2 (by omega) (by omega))
/-- a step's rest is read: a FAULT, or a token and TALES -/
def T2 (T : TX) (s : Nat) (Y : PH) (v : Int) (h : PH) (r : PR) : Prop := match r with
  | .inl q => v = 0 ∧ CF h q.1 q.2
  | .inr q => v = 1 ∧ CN T h q.1 ∧ CTa h q.2 ∧ A1 Y q.2 ∧ s ≤ q.1
theorem T2.l {T : TX} {s : Nat} {Y : PH} {v : Int} {h : PH} {r : PR} {f : Int × Nat} (e : r = .inl f) (h0 : v = 0) (h1 : CF h f.1 f.2) : T2 T s Y v h r := by rw [e]; exact ⟨h0, h1⟩
theorem T2.r {T : TX} {s : Nat} {Y : PH} {v : Int} {h : PH} {r : PR} {t : Nat} {Z : PH} (e : r = .inr (t, Z)) (h0 : v = 1) (h1 : CN T h t) (h2 : CTa h Z) (h3 : A1 Y Z) (h4 : s ≤ t) : T2 T s Y v h r := by rw [e]; exact ⟨h0, h1, h2, h3, h4⟩
theorem CN.le {T : TX} {h : PH} {s : Nat} (hN : CN T h s) : s ≤ T.2 := hN.1.2.1
section
variable {sl : Nat} {si : Nat → Int} {fm : ZV} {h h' : PH} {T : TX} {s : Nat} {v : Int}
theorem q_num {a b : Int} (hN : CN T h s) (hab : 0 ≤ a) (f : Int → PH) (hc : CP (zz sl si fm) mX9_takeNumber h [(2, 2), (0, a), (0, b)] h' [(0, v)]) : ((v ≠ -1 ∧ qNum T s a b f = .inr (nt T s, f v) ∧ CN T h' (nt T s)) ∨ (v = -1 ∧ ∃ z, qNum T s a b f = .inl z ∧ CF h' z.1 z.2)) ∧ FT h h' := by
  obtain ⟨d1, d2, d3⟩ := c_X9_takeNumber hN hab hc
  refine ⟨?_, d3⟩
  by_cases z : v = -1
  · refine Or.inr ⟨z, ?_⟩
    rcases d2 z with ⟨k, q⟩ | ⟨k, n, q⟩
    · exact ⟨_, if_neg k, q⟩
    · exact ⟨_, by unfold qNum; rw [if_pos k, if_neg n]; rfl, q⟩
  · obtain ⟨k, l1, l2, e, n⟩ := d1 z
    exact Or.inl ⟨z, by unfold qNum; rw [if_pos k, if_pos ⟨l1, l2⟩, e], n⟩
end
set_option maxRecDepth 10000 in
theorem v_X1_houseNamed5 {sl : Nat} {si : Nat → Int} {fm : ZV} {K : Nat → PH → ZL → List ZV → Prop} {Q : PH → List ZV → Prop} {h : PH} {x : Int} (H : K 2 h [(3, (0, 0)), (0, (2, 5)), (1, (1, x))] []) : vc (zz sl si fm) (fun p => Nat.beq p 2) K Q mX1_houseNamed 4 0 mX1_houseNamed.2.2.2.2.2.2 h [(0, (2, 5)), (1, (1, x))] [] := H
set_option maxRecDepth 10000 in
theorem v_X1_houseNamed5_2 {sl : Nat} {si : Nat → Int} {fm : ZV} {K : Nat → PH → ZL → List ZV → Prop} {Q : PH → List ZV → Prop} {h : PH} {x : Int} {k : Int} (H : R32 (h 6 0) → ((h 6 0) ≤ k → Q h [(0, (-1))]) ∧ (¬ ((h 6 0) ≤ k) → 0 ≤ k ∧ k < (7 : Nat) → R64 (h 14 k.toNat) → ((zcmp (h 14 k.toNat) x) ≠ 0 → K 2 h [(3, (0, w32 (k + 1))), (0, (2, 5)), (1, (1, x))] []) ∧ (¬ ((zcmp (h 14 k.toNat) x) ≠ 0) → Q h [(0, k)]))) : vc (zz sl si fm) (fun p => Nat.beq p 2) K Q mX1_houseNamed 16 2 (ax_jmp mX1_houseNamed.2.2.2.2.2.2 2) h [(0, (2, 5)), (1, (1, x)), (3, (0, k))] [] := H
set_option maxHeartbeats 600000 in
theorem c_X1_houseNamed5 {sl : Nat} {si : Nat → Int} {fm : ZV} {h h' : PH} {x : Int} {v : Int} (hc : CP (zz sl si fm) mX1_houseNamed h [(2, 5), (1, x)] h' [(0, v)]) : h' = h ∧ v = fd (h 14) x (h 6 0).toNat := by
  have q : (fun (xh : PH) (r : List ZV) => ∀ v : Int, r = [(0, v)] → (xh = h ∧ v = fd (h 14) x (h 6 0).toNat)) h' [(0, v)] := by
    refine cp_vc (cut := (fun p => Nat.beq p 2)) (K := fun p hx lv st => (p = 2 ∧ lK (fun u : Nat => [(0, (2, 5)), (1, (1, x)), (3, (0, (u : Int)))]) (fun u hx => hx = h ∧ ∀ i : Nat, i < u → h 14 i ≠ x) p hx lv st)) (Q := fun (xh : PH) (r : List ZV) => ∀ v : Int, r = [(0, v)] → (xh = h ∧ v = fd (h 14) x (h 6 0).toNat)) (v_X1_houseNamed5 ?_) (fun pc hx lv st hcut hK => ?_) hc
    · exact (by exact ⟨rfl, rfl, 0, ⟨rfl, fun i q => by omega⟩, rfl, rfl, rfl, trivial⟩)
    · rcases hK with ⟨rfl, rfl, u, hJ, hs⟩
      · obtain ⟨rfl, j2⟩ := hJ
        exact ⟨_, _, hs, v_X1_houseNamed5_2 (fun r1 => ⟨fun c2 => (by intro v e; cases e; exact ⟨rfl, (fd_no _ (fun i hi => j2 i (by omega))).symm⟩), fun c2 => (fun b3 r4 => ⟨fun c5 => (by refine ⟨rfl, rfl, u + 1, ⟨rfl, fun i hi => ?_⟩, rfl, rfl, wv (by omega) (by omega) (by omega), trivial⟩; by_cases e : i = u; (rw [e]; rw [Int.toNat_natCast] at c5; exact fun z => c5 (zcmp_0.mpr z)); exact j2 i (by omega)), fun c5 => (by intro v e; cases e; rw [Int.toNat_natCast] at c5; exact ⟨rfl, (fd_at _ u (by omega) j2 (zcmp_0.mp (Classical.not_not.mp c5))).symm⟩)⟩)⟩)⟩
  exact q v rfl
set_option maxRecDepth 10000 in
theorem v_X9_houseHere5 {sl : Nat} {si : Nat → Int} {fm : ZV} {K : Nat → PH → ZL → List ZV → Prop} {Q : PH → List ZV → Prop} {h : PH}    (H : ∀ h1 v1, CP (zz sl si fm) mX9_isName h [(2, 2)] h1 [(0, v1)] → v1 = 0 ∨ v1 = 1 → (v1 = 0 → (((-1) : Int) ≠ (-1) → Q h1 [(0, (-1))]) ∧ (¬ (((-1) : Int) ≠ (-1)) → ∀ h2 v2, CP (zz sl si fm) mX9_isName h1 [(2, 2)] h2 [(0, v2)] → v2 = 0 ∨ v2 = 1 → (v2 = 0 → ∀ h3 v3, CP (zz sl si fm) mX9_fail h2 [(2, 2), (0, 2)] h3 [(0, v3)] → v3 = 0 ∨ v3 = 1 → Q h3 [(0, (-1))]) ∧ (¬ (v2 = 0) → ∀ h4 v4, CP (zz sl si fm) mX9_fail h2 [(2, 2), (0, 3)] h4 [(0, v4)] → v4 = 0 ∨ v4 = 1 → Q h4 [(0, (-1))]))) ∧ (¬ (v1 = 0) → R64 (h1 2 7) → ∀ h5 v5, CP (zz sl si fm) mX1_houseNamed h1 [(2, 5), (1, (h1 2 7))] h5 [(0, v5)] → R32 v5 → (v5 ≠ (-1) → Q h5 [(0, v5)]) ∧ (¬ (v5 ≠ (-1)) → ∀ h6 v6, CP (zz sl si fm) mX9_isName h5 [(2, 2)] h6 [(0, v6)] → v6 = 0 ∨ v6 = 1 → (v6 = 0 → ∀ h7 v7, CP (zz sl si fm) mX9_fail h6 [(2, 2), (0, 2)] h7 [(0, v7)] → v7 = 0 ∨ v7 = 1 → Q h7 [(0, v5)]) ∧ (¬ (v6 = 0) → ∀ h8 v8, CP (zz sl si fm) mX9_fail h6 [(2, 2), (0, 3)] h8 [(0, v8)] → v8 = 0 ∨ v8 = 1 → Q h8 [(0, v5)])))) : vc (zz sl si fm) (fun _ => false) K Q mX9_houseHere 24 0 mX9_houseHere.2.2.2.2.2.2 h [(0, (2, 2)), (1, (2, 5))] [] := H
set_option maxHeartbeats 600000 in
theorem c_X9_houseHere5 {sl : Nat} {si : Nat → Int} {fm : ZV} {h h' : PH} {T : TX} {s : Nat} {L : PH} {v : Int} (hN : CN T h s) (hL : CL 5 h L) (hW : WN L) (hc : CP (zz sl si fm) mX9_houseHere h [(2, 2), (2, 5)] h' [(0, v)]) : v = ho T L s ∧ (v ≠ -1 → h' = h) ∧ (v = -1 → CF h' (fltk T (if isN T s then 3 else 2) s) s) ∧ FT h h' := by
  have q : (fun (xh : PH) (r : List ZV) => ∀ v : Int, r = [(0, v)] → (v = ho T L s ∧ (v ≠ -1 → xh = h) ∧ (v = -1 → CF xh (fltk T (if isN T s then 3 else 2) s) s) ∧ FT h xh)) h' [(0, v)] := by
    refine cp_vc (cut := (fun _ => false)) (K := fun p hx lv st => False) (Q := fun (xh : PH) (r : List ZV) => ∀ v : Int, r = [(0, v)] → (v = ho T L s ∧ (v ≠ -1 → xh = h) ∧ (v = -1 → CF xh (fltk T (if isN T s then 3 else 2) s) s) ∧ FT h xh)) (v_X9_houseHere5 ?_) (fun pc hx lv st hcut hK => ?_) hc
    · exact (fun h1 v1 p1 q1 => by obtain ⟨t1, e1⟩ := c_X9_isName p1; have t1 := t1.symm; subst t1; exact ⟨fun c1 => ⟨fun c2 => (by exact absurd rfl c2), fun c2 => (fun h2 v2 p2 q2 => by obtain ⟨t2, e2⟩ := c_X9_isName p2; have t2 := t2.symm; subst t2; exact ⟨fun c3 => (fun h3 v3 p3 q3 => (by intro v e; cases e; have w1 : ¬ isN T s := fun z => (by have := e1.mpr ((nm_iff hN).mpr z); omega); have w4 : ho T L s = -1 := if_neg w1; obtain ⟨a1, a2, a3⟩ := c_fl hN (by omega) p3; exact ⟨w4.symm, fun z => absurd rfl z, fun _ => by rw [if_neg w1]; exact a2, a3⟩)), fun c3 => (fun h4 v4 p4 q4 => (by exfalso; omega))⟩)⟩, fun c1 => (fun r4 => (fun h5 v5 p5 q5 => by obtain ⟨t5, e5⟩ := c_X1_houseNamed5 p5; have t5 := t5.symm; subst t5; exact ⟨fun c5 => (by have w1 := (nm_iff hN).mp (e1.mp (by omega)); have w2 : h 6 0 = L 1 0 := hL 1 0 (by unfold inL; omega); have w3 : fd (h 14) (h 2 7) (h 6 0).toNat = nmH T L s := (by (rw [hN.en w1.1, w2]; unfold nmH; exact fd_cg _ (fun i hi => hL 9 i (il9 (by have := hW.1; have := hW.2; omega))))); have w4 : ho T L s = nmH T L s := if_pos w1; intro v e; cases e; exact ⟨by rw [w4, ← w3]; exact e5, fun _ => rfl, fun z => absurd z c5, FT.rf _⟩), fun c5 => (fun h6 v6 p6 q6 => by obtain ⟨t6, e6⟩ := c_X9_isName p6; have t6 := t6.symm; subst t6; exact ⟨fun c6 => (fun h7 v7 p7 q7 => (by exfalso; omega)), fun c6 => (fun h8 v8 p8 q8 => (by have w1 := (nm_iff hN).mp (e1.mp (by omega)); have w2 : h 6 0 = L 1 0 := hL 1 0 (by unfold inL; omega); have w3 : fd (h 14) (h 2 7) (h 6 0).toNat = nmH T L s := (by (rw [hN.en w1.1, w2]; unfold nmH; exact fd_cg _ (fun i hi => hL 9 i (il9 (by have := hW.1; have := hW.2; omega))))); have w4 : ho T L s = nmH T L s := if_pos w1; intro v e; cases e; obtain ⟨a1, a2, a3⟩ := c_fl hN (by omega) p8; exact ⟨by rw [w4, ← w3]; exact e5, fun z => absurd z c5, fun _ => by rw [if_pos w1]; exact a2, a3⟩))⟩)⟩))⟩)
    · exact hK.elim
  exact q v rfl
set_option maxRecDepth 10000 in
theorem v_X9_takeHouse5 {sl : Nat} {si : Nat → Int} {fm : ZV} {K : Nat → PH → ZL → List ZV → Prop} {Q : PH → List ZV → Prop} {h : PH}    (H : ∀ h1 v1, CP (zz sl si fm) mX9_houseHere h [(2, 2), (2, 5)] h1 [(0, v1)] → R32 v1 → (v1 = (-1) → Q h1 [(0, v1)]) ∧ (¬ (v1 = (-1)) → ∀ h2, CP (zz sl si fm) mX9_advance h1 [(2, 2)] h2 [] → Q h2 [(0, v1)])) : vc (zz sl si fm) (fun _ => false) K Q mX9_takeHouse 13 0 mX9_takeHouse.2.2.2.2.2.2 h [(0, (2, 2)), (1, (2, 5))] [] := H
set_option maxHeartbeats 600000 in
theorem c_X9_takeHouse5 {sl : Nat} {si : Nat → Int} {fm : ZV} {h h' : PH} {T : TX} {s : Nat} {L : PH} {v : Int} (hN : CN T h s) (hL : CL 5 h L) (hW : WN L) (hc : CP (zz sl si fm) mX9_takeHouse h [(2, 2), (2, 5)] h' [(0, v)]) : v = ho T L s ∧ (v ≠ -1 → CN T h' (nt T s)) ∧ (v = -1 → CF h' (fltk T (if isN T s then 3 else 2) s) s) ∧ FT h h' := by
  have q : (fun (xh : PH) (r : List ZV) => ∀ v : Int, r = [(0, v)] → (v = ho T L s ∧ (v ≠ -1 → CN T xh (nt T s)) ∧ (v = -1 → CF xh (fltk T (if isN T s then 3 else 2) s) s) ∧ FT h xh)) h' [(0, v)] := by
    refine cp_vc (cut := (fun _ => false)) (K := fun p hx lv st => False) (Q := fun (xh : PH) (r : List ZV) => ∀ v : Int, r = [(0, v)] → (v = ho T L s ∧ (v ≠ -1 → CN T xh (nt T s)) ∧ (v = -1 → CF xh (fltk T (if isN T s then 3 else 2) s) s) ∧ FT h xh)) (v_X9_takeHouse5 ?_) (fun pc hx lv st hcut hK => ?_) hc
    · exact (fun h1 v1 p1 q1 => ⟨fun c1 => (by intro v e; cases e; obtain ⟨d1, d2, d3, d4⟩ := c_X9_houseHere5 hN hL hW p1; exact ⟨d1, fun z => absurd c1 z, d3, d4⟩), fun c1 => (fun h2 p2 => (by intro v e; cases e; obtain ⟨d1, d2, d3, d4⟩ := c_X9_houseHere5 hN hL hW p1; have d5 := d2 c1; subst d5; obtain ⟨a1, a2⟩ := c_adv hN p2; exact ⟨d1, fun _ => a1, fun z => absurd z c1, a2⟩))⟩)
    · exact hK.elim
  exact q v rfl
set_option maxRecDepth 10000 in
theorem v_X1_personNamed5 {sl : Nat} {si : Nat → Int} {fm : ZV} {K : Nat → PH → ZL → List ZV → Prop} {Q : PH → List ZV → Prop} {h : PH} {x : Int} (H : K 2 h [(3, (0, 0)), (0, (2, 5)), (1, (1, x))] []) : vc (zz sl si fm) (fun p => Nat.beq p 2) K Q mX1_personNamed 4 0 mX1_personNamed.2.2.2.2.2.2 h [(0, (2, 5)), (1, (1, x))] [] := H
set_option maxRecDepth 10000 in
theorem v_X1_personNamed5_2 {sl : Nat} {si : Nat → Int} {fm : ZV} {K : Nat → PH → ZL → List ZV → Prop} {Q : PH → List ZV → Prop} {h : PH} {x : Int} {k : Int} (H : R32 (h 5 4) → ((h 5 4) ≤ k → Q h [(0, (-1))]) ∧ (¬ ((h 5 4) ≤ k) → 0 ≤ k ∧ k < (8 : Nat) → R64 (h 15 k.toNat) → ((zcmp (h 15 k.toNat) x) ≠ 0 → K 2 h [(3, (0, w32 (k + 1))), (0, (2, 5)), (1, (1, x))] []) ∧ (¬ ((zcmp (h 15 k.toNat) x) ≠ 0) → Q h [(0, k)]))) : vc (zz sl si fm) (fun p => Nat.beq p 2) K Q mX1_personNamed 15 2 (ax_jmp mX1_personNamed.2.2.2.2.2.2 2) h [(0, (2, 5)), (1, (1, x)), (3, (0, k))] [] := H
set_option maxHeartbeats 600000 in
theorem c_X1_personNamed5 {sl : Nat} {si : Nat → Int} {fm : ZV} {h h' : PH} {x : Int} {v : Int} (hc : CP (zz sl si fm) mX1_personNamed h [(2, 5), (1, x)] h' [(0, v)]) : h' = h ∧ v = fd (h 15) x (h 5 4).toNat := by
  have q : (fun (xh : PH) (r : List ZV) => ∀ v : Int, r = [(0, v)] → (xh = h ∧ v = fd (h 15) x (h 5 4).toNat)) h' [(0, v)] := by
    refine cp_vc (cut := (fun p => Nat.beq p 2)) (K := fun p hx lv st => (p = 2 ∧ lK (fun u : Nat => [(0, (2, 5)), (1, (1, x)), (3, (0, (u : Int)))]) (fun u hx => hx = h ∧ ∀ i : Nat, i < u → h 15 i ≠ x) p hx lv st)) (Q := fun (xh : PH) (r : List ZV) => ∀ v : Int, r = [(0, v)] → (xh = h ∧ v = fd (h 15) x (h 5 4).toNat)) (v_X1_personNamed5 ?_) (fun pc hx lv st hcut hK => ?_) hc
    · exact (by exact ⟨rfl, rfl, 0, ⟨rfl, fun i q => by omega⟩, rfl, rfl, rfl, trivial⟩)
    · rcases hK with ⟨rfl, rfl, u, hJ, hs⟩
      · obtain ⟨rfl, j2⟩ := hJ
        exact ⟨_, _, hs, v_X1_personNamed5_2 (fun r1 => ⟨fun c2 => (by intro v e; cases e; exact ⟨rfl, (fd_no _ (fun i hi => j2 i (by omega))).symm⟩), fun c2 => (fun b3 r4 => ⟨fun c5 => (by refine ⟨rfl, rfl, u + 1, ⟨rfl, fun i hi => ?_⟩, rfl, rfl, wv (by omega) (by omega) (by omega), trivial⟩; by_cases e : i = u; (rw [e]; rw [Int.toNat_natCast] at c5; exact fun z => c5 (zcmp_0.mpr z)); exact j2 i (by omega)), fun c5 => (by intro v e; cases e; rw [Int.toNat_natCast] at c5; exact ⟨rfl, (fd_at _ u (by omega) j2 (zcmp_0.mp (Classical.not_not.mp c5))).symm⟩)⟩)⟩)⟩
  exact q v rfl
set_option maxRecDepth 10000 in
theorem v_X9_personHere5 {sl : Nat} {si : Nat → Int} {fm : ZV} {K : Nat → PH → ZL → List ZV → Prop} {Q : PH → List ZV → Prop} {h : PH}    (H : ∀ h1 v1, CP (zz sl si fm) mX9_isName h [(2, 2)] h1 [(0, v1)] → v1 = 0 ∨ v1 = 1 → (v1 = 0 → (((-1) : Int) ≠ (-1) → Q h1 [(0, (-1))]) ∧ (¬ (((-1) : Int) ≠ (-1)) → ∀ h2 v2, CP (zz sl si fm) mX9_isName h1 [(2, 2)] h2 [(0, v2)] → v2 = 0 ∨ v2 = 1 → (v2 = 0 → ∀ h3 v3, CP (zz sl si fm) mX9_fail h2 [(2, 2), (0, 2)] h3 [(0, v3)] → v3 = 0 ∨ v3 = 1 → Q h3 [(0, (-1))]) ∧ (¬ (v2 = 0) → ∀ h4 v4, CP (zz sl si fm) mX9_fail h2 [(2, 2), (0, 3)] h4 [(0, v4)] → v4 = 0 ∨ v4 = 1 → Q h4 [(0, (-1))]))) ∧ (¬ (v1 = 0) → R64 (h1 2 7) → ∀ h5 v5, CP (zz sl si fm) mX1_personNamed h1 [(2, 5), (1, (h1 2 7))] h5 [(0, v5)] → R32 v5 → (v5 ≠ (-1) → Q h5 [(0, v5)]) ∧ (¬ (v5 ≠ (-1)) → ∀ h6 v6, CP (zz sl si fm) mX9_isName h5 [(2, 2)] h6 [(0, v6)] → v6 = 0 ∨ v6 = 1 → (v6 = 0 → ∀ h7 v7, CP (zz sl si fm) mX9_fail h6 [(2, 2), (0, 2)] h7 [(0, v7)] → v7 = 0 ∨ v7 = 1 → Q h7 [(0, v5)]) ∧ (¬ (v6 = 0) → ∀ h8 v8, CP (zz sl si fm) mX9_fail h6 [(2, 2), (0, 3)] h8 [(0, v8)] → v8 = 0 ∨ v8 = 1 → Q h8 [(0, v5)])))) : vc (zz sl si fm) (fun _ => false) K Q mX9_personHere 24 0 mX9_personHere.2.2.2.2.2.2 h [(0, (2, 2)), (1, (2, 5))] [] := H
set_option maxHeartbeats 600000 in
theorem c_X9_personHere5 {sl : Nat} {si : Nat → Int} {fm : ZV} {h h' : PH} {T : TX} {s : Nat} {L : PH} {v : Int} (hN : CN T h s) (hL : CL 5 h L) (hW : WN L) (hc : CP (zz sl si fm) mX9_personHere h [(2, 2), (2, 5)] h' [(0, v)]) : v = pe T L s ∧ (v ≠ -1 → h' = h) ∧ (v = -1 → CF h' (fltk T (if isN T s then 3 else 2) s) s) ∧ FT h h' := by
  have q : (fun (xh : PH) (r : List ZV) => ∀ v : Int, r = [(0, v)] → (v = pe T L s ∧ (v ≠ -1 → xh = h) ∧ (v = -1 → CF xh (fltk T (if isN T s then 3 else 2) s) s) ∧ FT h xh)) h' [(0, v)] := by
    refine cp_vc (cut := (fun _ => false)) (K := fun p hx lv st => False) (Q := fun (xh : PH) (r : List ZV) => ∀ v : Int, r = [(0, v)] → (v = pe T L s ∧ (v ≠ -1 → xh = h) ∧ (v = -1 → CF xh (fltk T (if isN T s then 3 else 2) s) s) ∧ FT h xh)) (v_X9_personHere5 ?_) (fun pc hx lv st hcut hK => ?_) hc
    · exact (fun h1 v1 p1 q1 => by obtain ⟨t1, e1⟩ := c_X9_isName p1; have t1 := t1.symm; subst t1; exact ⟨fun c1 => ⟨fun c2 => (by exact absurd rfl c2), fun c2 => (fun h2 v2 p2 q2 => by obtain ⟨t2, e2⟩ := c_X9_isName p2; have t2 := t2.symm; subst t2; exact ⟨fun c3 => (fun h3 v3 p3 q3 => (by intro v e; cases e; have w1 : ¬ isN T s := fun z => (by have := e1.mpr ((nm_iff hN).mpr z); omega); have w4 : pe T L s = -1 := if_neg w1; obtain ⟨a1, a2, a3⟩ := c_fl hN (by omega) p3; exact ⟨w4.symm, fun z => absurd rfl z, fun _ => by rw [if_neg w1]; exact a2, a3⟩)), fun c3 => (fun h4 v4 p4 q4 => (by exfalso; omega))⟩)⟩, fun c1 => (fun r4 => (fun h5 v5 p5 q5 => by obtain ⟨t5, e5⟩ := c_X1_personNamed5 p5; have t5 := t5.symm; subst t5; exact ⟨fun c5 => (by have w1 := (nm_iff hN).mp (e1.mp (by omega)); have w2 : h 5 4 = L 0 4 := hL 0 4 (by unfold inL; omega); have w3 : fd (h 15) (h 2 7) (h 5 4).toNat = nmP T L s := (by (rw [hN.en w1.1, w2]; unfold nmP; exact fd_cg _ (fun i hi => hL 10 i (il10 (by have := hW.1; have := hW.2; omega))))); have w4 : pe T L s = nmP T L s := if_pos w1; intro v e; cases e; exact ⟨by rw [w4, ← w3]; exact e5, fun _ => rfl, fun z => absurd z c5, FT.rf _⟩), fun c5 => (fun h6 v6 p6 q6 => by obtain ⟨t6, e6⟩ := c_X9_isName p6; have t6 := t6.symm; subst t6; exact ⟨fun c6 => (fun h7 v7 p7 q7 => (by exfalso; omega)), fun c6 => (fun h8 v8 p8 q8 => (by have w1 := (nm_iff hN).mp (e1.mp (by omega)); have w2 : h 5 4 = L 0 4 := hL 0 4 (by unfold inL; omega); have w3 : fd (h 15) (h 2 7) (h 5 4).toNat = nmP T L s := (by (rw [hN.en w1.1, w2]; unfold nmP; exact fd_cg _ (fun i hi => hL 10 i (il10 (by have := hW.1; have := hW.2; omega))))); have w4 : pe T L s = nmP T L s := if_pos w1; intro v e; cases e; obtain ⟨a1, a2, a3⟩ := c_fl hN (by omega) p8; exact ⟨by rw [w4, ← w3]; exact e5, fun z => absurd z c5, fun _ => by rw [if_pos w1]; exact a2, a3⟩))⟩)⟩))⟩)
    · exact hK.elim
  exact q v rfl
set_option maxRecDepth 10000 in
theorem v_X9_takePerson5 {sl : Nat} {si : Nat → Int} {fm : ZV} {K : Nat → PH → ZL → List ZV → Prop} {Q : PH → List ZV → Prop} {h : PH}    (H : ∀ h1 v1, CP (zz sl si fm) mX9_personHere h [(2, 2), (2, 5)] h1 [(0, v1)] → R32 v1 → (v1 = (-1) → Q h1 [(0, v1)]) ∧ (¬ (v1 = (-1)) → ∀ h2, CP (zz sl si fm) mX9_advance h1 [(2, 2)] h2 [] → Q h2 [(0, v1)])) : vc (zz sl si fm) (fun _ => false) K Q mX9_takePerson 13 0 mX9_takePerson.2.2.2.2.2.2 h [(0, (2, 2)), (1, (2, 5))] [] := H
set_option maxHeartbeats 600000 in
theorem c_X9_takePerson5 {sl : Nat} {si : Nat → Int} {fm : ZV} {h h' : PH} {T : TX} {s : Nat} {L : PH} {v : Int} (hN : CN T h s) (hL : CL 5 h L) (hW : WN L) (hc : CP (zz sl si fm) mX9_takePerson h [(2, 2), (2, 5)] h' [(0, v)]) : v = pe T L s ∧ (v ≠ -1 → CN T h' (nt T s)) ∧ (v = -1 → CF h' (fltk T (if isN T s then 3 else 2) s) s) ∧ FT h h' := by
  have q : (fun (xh : PH) (r : List ZV) => ∀ v : Int, r = [(0, v)] → (v = pe T L s ∧ (v ≠ -1 → CN T xh (nt T s)) ∧ (v = -1 → CF xh (fltk T (if isN T s then 3 else 2) s) s) ∧ FT h xh)) h' [(0, v)] := by
    refine cp_vc (cut := (fun _ => false)) (K := fun p hx lv st => False) (Q := fun (xh : PH) (r : List ZV) => ∀ v : Int, r = [(0, v)] → (v = pe T L s ∧ (v ≠ -1 → CN T xh (nt T s)) ∧ (v = -1 → CF xh (fltk T (if isN T s then 3 else 2) s) s) ∧ FT h xh)) (v_X9_takePerson5 ?_) (fun pc hx lv st hcut hK => ?_) hc
    · exact (fun h1 v1 p1 q1 => ⟨fun c1 => (by intro v e; cases e; obtain ⟨d1, d2, d3, d4⟩ := c_X9_personHere5 hN hL hW p1; exact ⟨d1, fun z => absurd c1 z, d3, d4⟩), fun c1 => (fun h2 p2 => (by intro v e; cases e; obtain ⟨d1, d2, d3, d4⟩ := c_X9_personHere5 hN hL hW p1; have d5 := d2 c1; subst d5; obtain ⟨a1, a2⟩ := c_adv hN p2; exact ⟨d1, fun _ => a1, fun z => absurd z c1, a2⟩))⟩)
    · exact hK.elim
  exact q v rfl
theorem q_house {sl : Nat} {si : Nat → Int} {fm : ZV} {h h' : PH} {T : TX} {s : Nat} {L : PH} {v : Int} (hN : CN T h s) (hL : CL 5 h L) (hW : WN L) (hc : CP (zz sl si fm) mX9_takeHouse h [(2, 2), (2, 5)] h' [(0, v)]) : ((v ≠ -1 ∧ v = ho T L s ∧ CN T h' (nt T s)) ∨ (v = -1 ∧ ho T L s = -1 ∧ ∃ z, noN T s = .inl z ∧ CF h' z.1 z.2)) ∧ FT h h' := by
  obtain ⟨d1, d2, d3, d4⟩ := c_X9_takeHouse5 hN hL hW hc
  refine ⟨?_, d4⟩
  by_cases z : v = -1
  · exact Or.inr ⟨z, by rw [← d1]; exact z, _, rfl, d3 z⟩
  · exact Or.inl ⟨z, d1, d2 z⟩
theorem q_person {sl : Nat} {si : Nat → Int} {fm : ZV} {h h' : PH} {T : TX} {s : Nat} {L : PH} {v : Int} (hN : CN T h s) (hL : CL 5 h L) (hW : WN L) (hc : CP (zz sl si fm) mX9_takePerson h [(2, 2), (2, 5)] h' [(0, v)]) : ((v ≠ -1 ∧ v = pe T L s ∧ CN T h' (nt T s)) ∨ (v = -1 ∧ pe T L s = -1 ∧ ∃ z, noN T s = .inl z ∧ CF h' z.1 z.2)) ∧ FT h h' := by
  obtain ⟨d1, d2, d3, d4⟩ := c_X9_takePerson5 hN hL hW hc
  refine ⟨?_, d4⟩
  by_cases z : v = -1
  · exact Or.inr ⟨z, by rw [← d1]; exact z, _, rfl, d3 z⟩
  · exact Or.inl ⟨z, d1, d2 z⟩
set_option maxRecDepth 10000 in
theorem v_X9_takeCompare {sl : Nat} {si : Nat → Int} {fm : ZV} {K : Nat → PH → ZL → List ZV → Prop} {Q : PH → List ZV → Prop} {h : PH}   (H : R32 (h 2 5) → ((h 2 5) ≠ 4 → ∀ h1 v1, CP (zz sl si fm) mX9_fail h [(2, 2), (0, 2)] h1 [(0, v1)] → v1 = 0 ∨ v1 = 1 → Q h1 [(0, (-1))]) ∧ (¬ ((h 2 5) ≠ 4) → R32 (h 2 9) → ((h 2 9) ≠ 59 → R32 (h 2 9) → ∀ h2, CP (zz sl si fm) mX9_advance h [(2, 2)] h2 [] → Q h2 [(0, (h 2 9))]) ∧ (¬ ((h 2 9) ≠ 59) → ∀ h3 v3, CP (zz sl si fm) mX9_fail h [(2, 2), (0, 2)] h3 [(0, v3)] → v3 = 0 ∨ v3 = 1 → Q h3 [(0, (-1))]))) : vc (zz sl si fm) (fun _ => false) K Q mX9_takeCompare 17 0 mX9_takeCompare.2.2.2.2.2.2 h [(0, (2, 2))] [] := H
set_option maxHeartbeats 600000 in
theorem c_X9_takeCompare {sl : Nat} {si : Nat → Int} {fm : ZV} {h h' : PH} {T : TX} {s : Nat} {v : Int} (hN : CN T h s) (hc : CP (zz sl si fm) mX9_takeCompare h [(2, 2)] h' [(0, v)]) : ((kd T s = 4 ∧ vl T s ≠ 59 ∧ v = vl T s ∧ CN T h' (nt T s)) ∨ (v = -1 ∧ ¬ (kd T s = 4 ∧ vl T s ≠ 59) ∧ CF h' (fltk T 2 s) s)) ∧ FT h h' := by
  have q : (fun (xh : PH) (r : List ZV) => ∀ v : Int, r = [(0, v)] → (((kd T s = 4 ∧ vl T s ≠ 59 ∧ v = vl T s ∧ CN T xh (nt T s)) ∨ (v = -1 ∧ ¬ (kd T s = 4 ∧ vl T s ≠ 59) ∧ CF xh (fltk T 2 s) s)) ∧ FT h xh)) h' [(0, v)] := by
    refine cp_vc (cut := (fun _ => false)) (K := fun p hx lv st => False) (Q := fun (xh : PH) (r : List ZV) => ∀ v : Int, r = [(0, v)] → (((kd T s = 4 ∧ vl T s ≠ 59 ∧ v = vl T s ∧ CN T xh (nt T s)) ∨ (v = -1 ∧ ¬ (kd T s = 4 ∧ vl T s ≠ 59) ∧ CF xh (fltk T 2 s) s)) ∧ FT h xh)) (v_X9_takeCompare ?_) (fun pc hx lv st hcut hK => ?_) hc
    · exact (fun r1 => ⟨fun c2 => (fun h1 v1 p1 q1 => (by intro v e; cases e; rw [hN.ek] at c2; obtain ⟨a1, a2, a3⟩ := c_fl hN (by omega) p1; exact ⟨Or.inr ⟨rfl, fun z => c2 z.1, a2⟩, a3⟩)), fun c2 => (fun r3 => ⟨fun c4 => (fun r5 => (fun h2 p2 => (by intro v e; cases e; rw [hN.ek] at c2; have k4 := Classical.not_not.mp c2; rw [hN.ev (Or.inr k4)] at c4; obtain ⟨a1, a2⟩ := c_adv hN p2; exact ⟨Or.inl ⟨k4, c4, hN.ev (Or.inr k4), a1⟩, a2⟩))), fun c4 => (fun h3 v3 p3 q3 => (by intro v e; cases e; rw [hN.ek] at c2; have k4 := Classical.not_not.mp c2; rw [hN.ev (Or.inr k4)] at c4; obtain ⟨a1, a2, a3⟩ := c_fl hN (by omega) p3; exact ⟨Or.inr ⟨rfl, fun z => c4 z.2, a2⟩, a3⟩))⟩)⟩)
    · exact hK.elim
  exact q v rfl
theorem vl_sg {T : TX} {s : Nat} (h : kd T s = 4) : sgn (T.1 s) ∧ vl T s = T.1 s := by
  unfold kd at h
  by_cases c1 : T.2 ≤ s
  · rw [if_pos c1] at h; omega
  · rw [if_neg c1] at h
    by_cases c2 : ltr (T.1 s)
    · rw [if_pos c2] at h; omega
    · rw [if_neg c2] at h
      by_cases c3 : dgt (T.1 s)
      · rw [if_pos c3] at h
        by_cases c4 : 4 < nx T s - s
        · rw [if_pos c4] at h; omega
        · rw [if_neg c4] at h; omega
      · rw [if_neg c3] at h
        by_cases c4 : sgn (T.1 s)
        · refine ⟨c4, ?_⟩
          unfold vl
          exact if_neg c3
        · rw [if_neg c4] at h; omega
set_option maxRecDepth 10000 in
theorem v_X7_add {sl : Nat} {si : Nat → Int} {fm : ZV} {K : Nat → PH → ZL → List ZV → Prop} {Q : PH → List ZV → Prop} {h : PH} {a b c d : Int} (H : R32 (h 43 2) → ((60 : Int) ≤ (h 43 2) → Q h []) ∧ (¬ ((60 : Int) ≤ (h 43 2)) → R32 (h 43 2) → 0 ≤ (h 43 2) ∧ (h 43 2) < (60 : Nat) → R32 (h 43 2) → 0 ≤ (h 43 2) ∧ (h 43 2) < (60 : Nat) → R32 (h 43 2) → 0 ≤ (h 43 2) ∧ (h 43 2) < (60 : Nat) → R32 (h 43 2) → 0 ≤ (h 43 2) ∧ (h 43 2) < (60 : Nat) → R32 (h 43 2) → R32 (h 43 2) → 0 ≤ (h 43 2) ∧ (h 43 2) < (60 : Nat) → R32 (h 43 2) → Q (uph (uph (uph (uph (uph (uph h 44 (h 43 2).toNat a) 45 (h 43 2).toNat b) 46 (h 43 2).toNat c) 47 (h 43 2).toNat d) 48 (h 43 2).toNat (h 43 2)) 43 2 (w32 ((h 43 2) + 1))) [])) : vc (zz sl si fm) (fun _ => false) K Q mX7_add 46 0 mX7_add.2.2.2.2.2.2 h [(0, (2, 43)), (1, (0, a)), (2, (0, b)), (3, (0, c)), (4, (0, d))] [] := H
set_option maxHeartbeats 600000 in
theorem c_X7_add {sl : Nat} {si : Nat → Int} {fm : ZV} {h h' : PH} {a b c d : Int} (h0 : 0 ≤ h 43 2 ∧ h 43 2 < 60) (hc : CP (zz sl si fm) mX7_add h [(2, 43), (0, a), (0, b), (0, c), (0, d)] h' []) : h' = adY h a b c d := by
  have q : (fun (xh : PH) (r : List ZV) => xh = adY h a b c d) h' [] := by
    refine cp_vc (cut := (fun _ => false)) (K := fun p hx lv st => False) (Q := fun (xh : PH) (r : List ZV) => xh = adY h a b c d) (v_X7_add ?_) (fun pc hx lv st hcut hK => ?_) hc
    · exact (fun r1 => ⟨fun c2 => (by exact absurd c2 (by omega)), fun c2 => (fun r3 => (fun b4 => (fun r5 => (fun b6 => (fun r7 => (fun b8 => (fun r9 => (fun b10 => (fun r11 => (fun r12 => (fun b13 => (fun r14 => (by unfold adY; rw [w32_id (by omega) (by omega)])))))))))))))⟩)
    · exact hK.elim
  exact q
