/-! live() and lived() of both; what holds between calls -/
set_option maxRecDepth 10000 in
theorem v_X11_liveL {sl : Nat} {si : Nat → Int} {K : Nat → PH → ZL → List ZV → Prop} {Q : PH → List ZV → Prop} {h : PH}  {a : Int} (H : ∀ h1 v1, CP (zz sl si (7, 0)) mX11_isWithin h [(0, a), (0, 9999)] h1 [(0, v1)] → v1 = 0 ∨ v1 = 1 → (v1 ≠ 0 → R32 (h1 21 0) → ((h1 21 0) ≠ 0 → ∀ h2, CP (zz sl si (7, 0)) mX3_run h1 [(2, 89), (2, 21), (2, 5), (0, a)] h2 [] → R32 (h2 89 1) → ∀ h3 v3, CP (zz sl si (7, 0)) mX11_answer h2 [(2, 0), (0, (h2 89 1))] h3 [(0, v3)] → R32 v3 → Q h3 [(0, v3)]) ∧ (¬ ((h1 21 0) ≠ 0) → ∀ h4 v4, CP (zz sl si (7, 0)) mX11_refuse h1 [(2, 0), (0, 6)] h4 [(0, v4)] → R32 v4 → Q h4 [(0, v4)])) ∧ (¬ (v1 ≠ 0) → ∀ h5 v5, CP (zz sl si (7, 0)) mX11_refuse h1 [(2, 0), (0, 1)] h5 [(0, v5)] → R32 v5 → Q h5 [(0, v5)])) : vc (zz sl si (7, 0)) (fun _ => false) K Q mX11_live 24 0 mX11_live.2.2.2.2.2.2 h [(0, (2, 0)), (1, (0, a))] [] := H
set_option maxHeartbeats 600000 in
theorem c_X11_liveL {sl : Nat} {si : Nat → Int} {h h' : PH} {L Y : PH} {a : Int} {v : Int} (hL : CL 5 h L) (hw : W10 L) (hs : h 21 0 ≠ 0 → CS 21 h Y ∧ WYc L Y ∧ Y 43 2 ≤ 60) (hc : CP (zz sl si (7, 0)) mX11_live h [(2, 0), (0, a)] h' [(0, v)]) : (¬ (0 ≤ a ∧ a ≤ 9999) → v = -1 ∧ h' = uph h 0 0 1) ∧ ((0 ≤ a ∧ a ≤ 9999) → (h 21 0 = 0 → v = -1 ∧ h' = uph h 0 0 6) ∧ (h 21 0 ≠ 0 → ∃ g, LIVD h g L Y a ∧ v = g 89 1 ∧ h' = uph g 0 0 0)) := by
  have q : (fun (xh : PH) (r : List ZV) => ∀ v : Int, r = [(0, v)] → ((¬ (0 ≤ a ∧ a ≤ 9999) → v = -1 ∧ xh = uph h 0 0 1) ∧ ((0 ≤ a ∧ a ≤ 9999) → (h 21 0 = 0 → v = -1 ∧ xh = uph h 0 0 6) ∧ (h 21 0 ≠ 0 → ∃ g, LIVD h g L Y a ∧ v = g 89 1 ∧ xh = uph g 0 0 0)))) h' [(0, v)] := by
    refine cp_vc (cut := (fun _ => false)) (K := fun p hx lv st => False) (Q := fun (xh : PH) (r : List ZV) => ∀ v : Int, r = [(0, v)] → ((¬ (0 ≤ a ∧ a ≤ 9999) → v = -1 ∧ xh = uph h 0 0 1) ∧ ((0 ≤ a ∧ a ≤ 9999) → (h 21 0 = 0 → v = -1 ∧ xh = uph h 0 0 6) ∧ (h 21 0 ≠ 0 → ∃ g, LIVD h g L Y a ∧ v = g 89 1 ∧ xh = uph g 0 0 0)))) (v_X11_liveL ?_) (fun pc hx lv st hcut hK => ?_) hc
    · exact (fun h1 v1 p1 q1 => by obtain ⟨t1, e1⟩ := c_X11_isWithin p1; have t1 := t1.symm; subst t1; exact ⟨fun c1 => (fun r2 => ⟨fun c3 => (fun h2 p2 => (fun r4 => (fun h3 v3 p3 q3 => by obtain ⟨t3, e3⟩ := c_X11_answer p3; have t3 := t3.symm; subst t3; exact (by obtain ⟨s1, s2, s3⟩ := hs c3; have li := c_X3_run5 hL hw (by omega) s1 s2 s3 p2; intro v e; cases e; exact ⟨fun q => absurd q (by omega), fun _ => ⟨fun q => absurd q c3, fun _ => ⟨h2, li, by omega, rfl⟩⟩⟩)))), fun c3 => (fun h4 v4 p4 q4 => by obtain ⟨t4, e4⟩ := c_X11_refuse p4; have t4 := t4.symm; subst t4; exact (by intro v e; cases e; exact ⟨fun q => absurd q (by omega), fun _ => ⟨fun _ => ⟨by omega, rfl⟩, fun q => absurd q c3⟩⟩))⟩), fun c1 => (fun h5 v5 p5 q5 => by obtain ⟨t5, e5⟩ := c_X11_refuse p5; have t5 := t5.symm; subst t5; exact (by intro v e; cases e; exact ⟨fun _ => ⟨by omega, rfl⟩, fun q => absurd q (by omega)⟩))⟩)
    · exact hK.elim
  exact q v rfl
set_option maxRecDepth 10000 in
theorem v_X12_liveL {sl : Nat} {si : Nat → Int} {K : Nat → PH → ZL → List ZV → Prop} {Q : PH → List ZV → Prop} {h : PH}     {a : Int} (H : ∀ h1 v1, CP (zz sl si (7, 0)) mX12_isFrom h [(1, a), (1, 0), (1, 9999)] h1 [(0, v1)] → v1 = 0 ∨ v1 = 1 → (v1 ≠ 0 → 0 ≤ (4 : Int) ∧ (4 : Int) < (3696 : Nat) → R32 (h1 170 4) → ((h1 170 4) ≠ (-1) → ∀ h2, CP (zz sl si (7, 0)) mX12_lives h1 [(2, 169), (0, a)] h2 [] → K 42 h2 [(2, (0, 0)), (0, (2, 169)), (1, (0, a))] []) ∧ (¬ ((h1 170 4) ≠ (-1)) → ∀ h3 v3, CP (zz sl si (7, 0)) mX12_refuse h1 [(2, 169), (0, 6)] h3 [(0, v3)] → R32 v3 → Q h3 [(0, v3)])) ∧ (¬ (v1 ≠ 0) → ∀ h4 v4, CP (zz sl si (7, 0)) mX12_refuse h1 [(2, 169), (0, 1)] h4 [(0, v4)] → R32 v4 → Q h4 [(0, v4)])) : vc (zz sl si (7, 0)) (fun p => Nat.beq p 42) K Q mX12_live 19 0 mX12_live.2.2.2.2.2.2 h [(0, (2, 169)), (1, (0, a))] [] := H
set_option maxRecDepth 10000 in
theorem v_X12_liveL_42 {sl : Nat} {si : Nat → Int} {K : Nat → PH → ZL → List ZV → Prop} {Q : PH → List ZV → Prop} {h : PH}     {a : Int} {k : Int} (H : ((5 : Int) ≤ k → R32 (h 169 28) → ∀ h1 v1, CP (zz sl si (7, 0)) mX12_gives (uph h 169 32 1) [(2, 169), (0, (h 169 28))] h1 [(0, v1)] → R32 v1 → Q h1 [(0, v1)]) ∧ (¬ ((5 : Int) ≤ k) → 0 ≤ k ∧ k < (5 : Nat) → R32 (h 183 k.toNat) → 0 ≤ k ∧ k < (5 : Nat) → K 42 (uph h 184 k.toNat (h 183 k.toNat)) [(2, (0, w32 (k + 1))), (0, (2, 169)), (1, (0, a))] [])) : vc (zz sl si (7, 0)) (fun p => Nat.beq p 42) K Q mX12_live 15 42 (ax_jmp mX12_live.2.2.2.2.2.2 42) h [(0, (2, 169)), (1, (0, a)), (2, (0, k))] [] := H
set_option maxHeartbeats 600000 in
theorem c_X12_liveL {sl : Nat} {si : Nat → Int} {h h' : PH} {L Y : PH} {f : (Int × PH × Int × (Nat → Int) × Int × Int)} {n : Nat} {T : Nat → Int} {a : Int} {v : Int} (r9 : RN9 h L) (hw : W10 L) (hB : BdR h) (hD : BdD h) (hH : BdH h) (w : h 170 4 ≠ -1 → 0 ≤ a ∧ a ≤ 9999 → RTl 0 h Y ∧ WYc L Y ∧ Y 43 2 ≤ 60 ∧ fin Y f ∧ trL Y n (0, L, a, T, 0, 0) f) (hc : CP (zz sl si (7, 0)) mX12_live h [(2, 169), (0, a)] h' [(0, v)]) : (¬ (0 ≤ a ∧ a ≤ 9999) → v = -1 ∧ h' = uph h 169 2 1) ∧ ((0 ≤ a ∧ a ≤ 9999) → (h 170 4 = -1 → v = -1 ∧ h' = uph h 169 2 6) ∧ (h 170 4 ≠ -1 → ∃ g, LVD h g L Y f ∧ v = g 169 28 ∧ h' 169 32 = 1 ∧ (∀ j : Nat, j < 5 → h' 184 j = g 183 j) ∧ ∀ c k : Nat, ¬ (c = 169 ∧ (k = 2 ∨ k = 32)) → c ≠ 184 → h' c k = g c k)) := by
  have q : (fun (xh : PH) (r : List ZV) => ∀ v : Int, r = [(0, v)] → ((¬ (0 ≤ a ∧ a ≤ 9999) → v = -1 ∧ xh = uph h 169 2 1) ∧ ((0 ≤ a ∧ a ≤ 9999) → (h 170 4 = -1 → v = -1 ∧ xh = uph h 169 2 6) ∧ (h 170 4 ≠ -1 → ∃ g, LVD h g L Y f ∧ v = g 169 28 ∧ xh 169 32 = 1 ∧ (∀ j : Nat, j < 5 → xh 184 j = g 183 j) ∧ ∀ c k : Nat, ¬ (c = 169 ∧ (k = 2 ∨ k = 32)) → c ≠ 184 → xh c k = g c k)))) h' [(0, v)] := by
    refine cp_vc (cut := (fun p => Nat.beq p 42)) (K := fun p hx lv st => (p = 42 ∧ lK (fun u : Int => [(0, (2, 169)), (1, (0, a)), (2, (0, u))]) (fun u hx => (0 ≤ a ∧ a ≤ 9999) ∧ h 170 4 ≠ -1 ∧ ∃ g, LVD h g L Y f ∧ (0 ≤ u ∧ u ≤ 5) ∧ (∀ j : Nat, (j : Int) < u → hx 184 j = g 183 j) ∧ ∀ c k : Nat, c ≠ 184 → hx c k = g c k) p hx lv st)) (Q := fun (xh : PH) (r : List ZV) => ∀ v : Int, r = [(0, v)] → ((¬ (0 ≤ a ∧ a ≤ 9999) → v = -1 ∧ xh = uph h 169 2 1) ∧ ((0 ≤ a ∧ a ≤ 9999) → (h 170 4 = -1 → v = -1 ∧ xh = uph h 169 2 6) ∧ (h 170 4 ≠ -1 → ∃ g, LVD h g L Y f ∧ v = g 169 28 ∧ xh 169 32 = 1 ∧ (∀ j : Nat, j < 5 → xh 184 j = g 183 j) ∧ ∀ c k : Nat, ¬ (c = 169 ∧ (k = 2 ∨ k = 32)) → c ≠ 184 → xh c k = g c k)))) (v_X12_liveL ?_) (fun pc hx lv st hcut hK => ?_) hc
    · exact (fun h1 v1 p1 q1 => by obtain ⟨t1, e1⟩ := c_X12_isFrom p1; have t1 := t1.symm; subst t1; exact ⟨fun c1 => (fun b2 r3 => ⟨fun c4 => (fun h2 p2 => (by obtain ⟨w1, w2, w3, w4, w5⟩ := w c4 (by omega); exact ⟨rfl, rfl, 0, ⟨by omega, c4, h2, c_X12_livesL r9 hw hB hD hH (by omega) w1 w2 w3 w4 w5 p2, by omega, fun j hj => by omega, fun _ _ _ => rfl⟩, rfl, rfl, rfl, trivial⟩)), fun c4 => (fun h3 v3 p3 q3 => by obtain ⟨t3, e3⟩ := c_X12_refuse p3; have t3 := t3.symm; subst t3; exact (by intro v e; cases e; exact ⟨fun q => absurd q (by omega), fun _ => ⟨fun _ => ⟨by omega, rfl⟩, fun q => absurd q c4⟩⟩))⟩), fun c1 => (fun h4 v4 p4 q4 => by obtain ⟨t4, e4⟩ := c_X12_refuse p4; have t4 := t4.symm; subst t4; exact (by intro v e; cases e; exact ⟨fun _ => ⟨by omega, rfl⟩, fun q => absurd q (by omega)⟩))⟩)
    · rcases hK with ⟨rfl, rfl, u, hJ, hs⟩
      · obtain ⟨ja, j4, g, jl, ju, jt, jf⟩ := hJ
        exact ⟨_, _, hs, v_X12_liveL_42 ⟨fun c1 => (fun r2 => (fun h1 v1 p1 q1 => by obtain ⟨t1, e1⟩ := c_X12_gives p1; have t1 := t1.symm; subst t1; exact (by intro v e; cases e; exact ⟨fun q => absurd ja q, fun _ => ⟨fun q => absurd q j4, fun _ => ⟨g, jl, (by have := jf 169 28 (by omega); omega), by rw [up_ne (by omega), up_sm], fun j hj => by rw [up_ne (by omega), up_ne (by omega)]; exact jt j (by omega), fun c k k1 k2 => by rw [up_ne (by omega), up_ne (by omega)]; exact jf c k k2⟩⟩⟩))), fun c1 => (fun b3 r4 => (fun b5 => (by exact ⟨rfl, rfl, u + 1, ⟨ja, j4, g, jl, by omega, fun j hj => (by (by_cases e : j = u.toNat; (rw [e, up_sm]; exact jf _ _ (by omega)); (rw [up_ne (by omega)]; exact jt j (by omega)))), fun c k k1 => by rw [up_ne (by omega)]; exact jf c k k1⟩, rfl, rfl, wv (by omega) (by omega) rfl, trivial⟩)))⟩⟩
  exact q v rfl
def LIV (h : PH) : Prop := (h 89 0 = 0 ∧ h 169 32 = 0) ∨ (h 89 0 = 1 ∧ h 169 32 = 1 ∧ ∀ j : Nat, j < 5 → h 184 j = h 89 (j + 2))
def J9 (h : PH) : Prop := J8 h ∧ LIV h
theorem LIV.e {h h' : PH} (l : LIV h) (e : ∀ c k : Nat, (c = 89 ∧ k < 7) ∨ (c = 169 ∧ k = 32) ∨ (c = 184 ∧ k < 5) → h' c k = h c k) : LIV h' := by
  rcases l with ⟨a, b⟩ | ⟨a, b, c⟩
  · exact Or.inl ⟨by rw [e _ _ (by omega)]; exact a, by rw [e _ _ (by omega)]; exact b⟩
  · exact Or.inr ⟨by rw [e _ _ (by omega)]; exact a, by rw [e _ _ (by omega)]; exact b, fun j hj => by rw [e _ _ (by omega), e _ _ (by omega)]; exact c j hj⟩
section PR9
variable {sl : Nat} {si : Nat → Int} {h h1 h2 : PH} {a b c d e v w : Int}
theorem op9 {L L' : PH} (hJ : J8 h) (l : LTS 5 0 h L) (g : ∀ c k : Nat, ¬ (c = 0 ∧ k = 0) → ¬ (5 ≤ c ∧ c ≤ 20) → c ≠ 89 → c ≠ 90 → h1 c k = h c k) (g' : ∀ c k : Nat, ¬ (c = 169 ∧ (k = 2 ∨ k = 27 ∨ k = 28 ∨ k = 32)) → ¬ (c = 170 ∧ k < 131 ∧ k ≠ 4) → ¬ (c = 178 ∧ k < 7) → ¬ (182 ≤ c ∧ c ≤ 184) → h2 c k = h1 c k) (c5 : CL 5 h1 L') (w : W10 L') (r : RN9 h2 L') (e0 : L' 1 0 = L 1 0) (e4 : L' 0 4 = L 0 4) (e9 : ∀ k, L' 9 k = L 9 k) (e10 : ∀ k, L' 10 k = L 10 k) : J8 h2 := by
  obtain ⟨j, ⟨b1, b2, b3⟩, -, cm⟩ := hJ
  have F : ∀ c k : Nat, ¬ (c = 0 ∧ k = 0) → ¬ (5 ≤ c ∧ c ≤ 20) → c ≠ 89 → c ≠ 90 → ¬ (c = 169 ∧ (k = 2 ∨ k = 27 ∨ k = 28 ∨ k = 32)) → ¬ (c = 170 ∧ k < 131 ∧ k ≠ 4) → ¬ (c = 178 ∧ k < 7) → ¬ (182 ≤ c ∧ c ≤ 184) → h2 c k = h c k := fun c k q1 q2 q3 q4 q5 q6 q7 q8 => (g' c k q5 q6 q7 q8).trans (g c k q1 q2 q3 q4)
  have F' : ∀ c k : Nat, (c = 0 ∧ k = 17) ∨ (1 ≤ c ∧ c ≤ 4) ∨ (21 ≤ c ∧ c ≤ 26) ∨ (103 ≤ c ∧ c ≤ 168) ∨ (c = 169 ∧ (k = 10 ∨ k = 33)) ∨ (c = 170 ∧ (k = 4 ∨ 131 ≤ k)) ∨ (171 ≤ c ∧ c ≤ 177) → h2 c k = h c k := fun c k q => F c k (by omega) (by omega) (by omega) (by omega) (by omega) (by omega) (by omega) (by omega)
  have x0 : h2 0 17 = h 0 17 := F' 0 17 (by omega)
  have x1 : h2 169 33 = h 169 33 := F' 169 33 (by omega)
  obtain ⟨-, -, -, -, -, n1, n2⟩ := l.2.2.1
  refine ⟨J10_eq j (fun c k q => F' c k (by omega)), ⟨by rw [x0, x1]; exact b1, by rw [x0]; exact b2, by rw [x0]; exact b3⟩, ⟨L', c5.fr (fun c k q1 q2 => g' c k (by omega) (by omega) (by omega) (by omega)), w, r.ld (fun i hi => ?_) (fun p hp => ?_), l.2.2.2.kp e0 e4 (fun c k q1 q2 => F' c k (by omega)) (fun k hk => F' _ _ (by omega))⟩, mk8 cm b3 (fun c k q => F' c k (by omega)) x0⟩
  · rw [e0] at hi
    rw [e9, F' _ _ (by omega)]; exact n1 i hi
  · rw [e4] at hp
    rw [e10, F' _ _ (by omega)]; exact n2 p hp
theorem J9_st (hJ : J9 h) {x y : Int} (e1 : h1 = uph h 0 0 x) (e2 : h2 = uph h1 169 2 y) : J9 h2 := by
  subst e1
  obtain ⟨L, l⟩ := hJ.1.2.2.1
  have g : GL h (uph h 0 0 x) := (GL.rf h).s0
  have g' : GR (uph h 0 0 x) h2 := by rw [e2]; exact (GR.rf _).s0
  have E : ∀ c k : Nat, ¬ (c = 0 ∧ k = 0) → ¬ (c = 169 ∧ k = 2) → h2 c k = h c k := fun c k q1 q2 => by rw [e2, up_ne q2, up_ne q1]
  exact ⟨op8 hJ.1 l g g' (l.1.fr (fun c k q1 q2 => up_ne (by omega))) l.2.1 ((RLd.n9 l.2.2.1).e (funext (fun k => E 170 k (by omega) (by omega)))) rfl rfl (fun _ => rfl) (fun _ => rfl), hJ.2.e (fun c k q => E c k (by omega) (by omega))⟩
theorem pr_live9 (hJ : J9 h) (hB : BdR h1) (hD : BdD h1) (hH : BdH h1) (p1 : CP (zz sl si (7, 0)) mX11_live h [(2, 0), (0, a)] h1 [(0, v)]) (p2 : CP (zz sl si (7, 0)) mX12_live h1 [(2, 169), (0, a)] h2 [(0, w)]) : J9 h2 ∧ v = w := by
  have hJ8 := hJ.1
  obtain ⟨L, l⟩ := hJ8.2.2.1
  rcases l.2.2.2 with ⟨t1, t2⟩ | ⟨Y, cs, rt, wy, wt, y0⟩
  · have t1 : h 21 0 = 0 := t1
    have t2 : h 170 4 = -1 := t2
    obtain ⟨n1, y1⟩ := c_X11_liveL (Y := h) l.1 l.2.1 (fun q => absurd t1 q) p1
    by_cases r : (0 ≤ a ∧ a ≤ 9999)
    · obtain ⟨z1, z2⟩ := (y1 r).1 t1
      have f1 : h1 170 = h 170 := by rw [z2]; exact funext (fun k => up_ne (by omega))
      have t2' : h1 170 4 = -1 := by rw [f1]; exact t2
      obtain ⟨-, y2⟩ := c_X12_liveL (L := L) (Y := h) (f := (0, L, 0, fun _ => 0, 0, 0)) (n := 0) (T := fun _ => 0) ((RLd.n9 l.2.2.1).e f1) l.2.1 hB hD hH (fun q => absurd t2' q) p2
      obtain ⟨z3, z4⟩ := (y2 r).1 t2'
      exact ⟨J9_st hJ z2 z4, by omega⟩
    · obtain ⟨z1, z2⟩ := n1 r
      have f1 : h1 170 = h 170 := by rw [z2]; exact funext (fun k => up_ne (by omega))
      have t2' : h1 170 4 = -1 := by rw [f1]; exact t2
      obtain ⟨n2, -⟩ := c_X12_liveL (L := L) (Y := h) (f := (0, L, 0, fun _ => 0, 0, 0)) (n := 0) (T := fun _ => 0) ((RLd.n9 l.2.2.1).e f1) l.2.1 hB hD hH (fun q => absurd t2' q) p2
      obtain ⟨z3, z4⟩ := n2 r
      exact ⟨J9_st hJ z2 z4, by omega⟩
  · have w9 := wy.c y0
    have h60 : Y 43 2 ≤ 60 := by obtain ⟨x1, x2, x3, x4, x5⟩ := wt; omega
    have c0 : h 21 0 = 1 := cs.1
    have t4 : h 170 4 = Y 43 2 := rt.1
    have n0 := w9.n0
    obtain ⟨n1, y1⟩ := c_X11_liveL l.1 l.2.1 (fun _ => ⟨cs, w9, h60⟩) p1
    by_cases r : (0 ≤ a ∧ a ≤ 9999)
    · obtain ⟨g, ⟨n, k, M, x, T, d, m, tr, ff, ⟨cM, wM, dM⟩, ⟨z0, z1, z2, z3, z4, z5, z6⟩, fr⟩, ev, e1⟩ := (y1 r).2 (by omega)
      have f0 : ∀ c k : Nat, ¬ (c = 0 ∧ k = 0) → ¬ (5 ≤ c ∧ c ≤ 20) → c ≠ 89 → c ≠ 90 → h1 c k = h c k := fun c k q1 q2 q3 q4 => by rw [e1, up_ne q1]; exact fr c k q2 q3 q4
      have f1 : h1 170 = h 170 := funext (fun k => f0 170 k (by omega) (by omega) (by omega) (by omega))
      obtain ⟨-, y2⟩ := c_X12_liveL (L := L) (Y := Y) (f := (k, M, x, T, d, m)) (n := n) (T := h 90) ((RLd.n9 l.2.2.1).e f1) l.2.1 hB hD hH (fun _ _ => ⟨rt.fr h60 (fun k _ => by rw [f1]), w9, h60, ff, tr⟩) p2
      obtain ⟨g2, ⟨d1, d2, d3, d4, d5⟩, ew, e32, e184, fr2⟩ := (y2 r).2 (by rw [f1]; omega)
      dsimp only at d1 d2 d3 d4
      obtain ⟨r1, -, -, ⟨s1, s2, s3⟩⟩ := d1
      have G2 : ∀ c k : Nat, ¬ (c = 169 ∧ (k = 2 ∨ k = 27 ∨ k = 28 ∨ k = 32)) → ¬ (c = 170 ∧ k < 131 ∧ k ≠ 4) → ¬ (c = 178 ∧ k < 7) → ¬ (182 ≤ c ∧ c ≤ 184) → h2 c k = h1 c k := fun c k q1 q2 q3 q4 => (fr2 c k (by omega) (by omega)).trans (d5 c k (by omega) q2 q3 (by omega) (by omega))
      have E89 : ∀ k : Nat, h2 89 k = g 89 k := fun k => by rw [G2 89 k (by omega) (by omega) (by omega) (by omega), e1, up_ne (by omega)]
      refine ⟨⟨op9 hJ8 l f0 G2 (cM.fr (fun c k q1 q2 => by rw [e1, up_ne (by omega)])) wM (r1.e (funext (fun k => fr2 170 k (by omega) (by omega)))) dM.1 dM.2.1 dM.2.2.1 dM.2.2.2, Or.inr ⟨(E89 0).trans z0, e32, fun j hj => ?_⟩⟩, by omega⟩
      rw [e184 j hj, E89]
      rcases (show j = 0 ∨ j = 1 ∨ j = 2 ∨ j = 3 ∨ j = 4 by omega) with q | q | q | q | q <;> subst q
      · exact d3.trans z2.symm
      · exact s1.trans z3.symm
      · exact s2.trans z4.symm
      · exact s3.trans z5.symm
      · show g2 183 4 = g 89 6
        clear y1 y2
        omega
    · obtain ⟨z1, z2⟩ := n1 r
      have f1 : h1 170 = h 170 := by rw [z2]; exact funext (fun k => up_ne (by omega))
      obtain ⟨n2, -⟩ := c_X12_liveL (L := L) (Y := h) (f := (0, L, 0, fun _ => 0, 0, 0)) (n := 0) (T := fun _ => 0) ((RLd.n9 l.2.2.1).e f1) l.2.1 hB hD hH (fun _ q => absurd q r) p2
      obtain ⟨z3, z4⟩ := n2 r
      exact ⟨J9_st hJ z2 z4, by omega⟩
end PR9
