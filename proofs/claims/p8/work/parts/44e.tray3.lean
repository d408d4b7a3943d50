set_option maxRecDepth 10000 in
theorem v_X12_wrongPlace {sl : Nat} {si : Nat → Int} {fm : ZV} {K : Nat → PH → ZL → List ZV → Prop} {Q : PH → List ZV → Prop} {h : PH} {a b : Int} (H : ∀ h1 v1, CP (zz sl si fm) mX12_isTray h [(0, a)] h1 [(0, v1)] → v1 = 0 ∨ v1 = 1 → (v1 ≠ 0 → 0 ≤ a ∧ a < (4 : Nat) → R32 (h1 173 a.toNat) → ((h1 173 a.toNat) ≠ (-1) → (b < 0 → Q h1 [(0, 3)]) ∧ (¬ (b < 0) → 0 ≤ a ∧ a < (4 : Nat) → R32 (h1 173 a.toNat) → (b < (h1 173 a.toNat) → Q h1 [(0, 0)]) ∧ (¬ (b < (h1 173 a.toNat)) → Q h1 [(0, 3)]))) ∧ (¬ ((h1 173 a.toNat) ≠ (-1)) → Q h1 [(0, 2)])) ∧ (¬ (v1 ≠ 0) → Q h1 [(0, 1)])) : vc (zz sl si fm) (fun _ => false) K Q mX12_wrongPlace 22 0 mX12_wrongPlace.2.2.2.2.2.2 h [(0, (2, 169)), (1, (0, a)), (2, (0, b))] [] := H
theorem c_X12_wrongPlace {sl : Nat} {si : Nat → Int} {fm : ZV} {h h' : PH} {a b : Int} {v : Int} (hc : CP (zz sl si fm) mX12_wrongPlace h [(2, 169), (0, a), (0, b)] h' [(0, v)]) : h' = h ∧ ((¬ (0 ≤ a ∧ a < 4) → v = 1) ∧ (0 ≤ a ∧ a < 4 → (h 173 a.toNat = -1 → v = 2) ∧ (h 173 a.toNat ≠ -1 → (0 ≤ b ∧ b < h 173 a.toNat → v = 0) ∧ (¬ (0 ≤ b ∧ b < h 173 a.toNat) → v = 3)))) := by
  have q := cp_vc (K := fun _ _ _ _ => True) (Q := fun xh r => xh = h ∧ ∀ v, r = [(0, v)] → ((¬ (0 ≤ a ∧ a < 4) → v = 1) ∧ (0 ≤ a ∧ a < 4 → (h 173 a.toNat = -1 → v = 2) ∧ (h 173 a.toNat ≠ -1 → (0 ≤ b ∧ b < h 173 a.toNat → v = 0) ∧ (¬ (0 ≤ b ∧ b < h 173 a.toNat) → v = 3))))) (v_X12_wrongPlace (fun h1 v1 p1 q1 => by obtain ⟨t1, e1⟩ := c_X12_isTray p1; have t1 := t1.symm; subst t1; exact ⟨fun c1 => (fun b2 r3 => ⟨fun c4 => ⟨fun c5 => (by exact ⟨rfl, fun v e => by cases e; omega⟩), fun c5 => (fun b6 r7 => ⟨fun c8 => (by exact ⟨rfl, fun v e => by cases e; omega⟩), fun c8 => (by exact ⟨rfl, fun v e => by cases e; omega⟩)⟩)⟩, fun c4 => (by exact ⟨rfl, fun v e => by cases e; omega⟩)⟩), fun c1 => (by exact ⟨rfl, fun v e => by cases e; omega⟩)⟩)) (fun _ _ _ _ z _ => Bool.noConfusion z) hc
  exact ⟨q.1, q.2 v rfl⟩
theorem ix60 {a b : Int} (h0 : 0 ≤ a) (h1 : a < 4) (h2 : 0 ≤ b) (h3 : b ≤ 60) : (w32 ((w32 (60 * a)) + b)).toNat = 60 * a.toNat + b.toNat := by
  rw [w32_id (z := 60 * a) (by omega) (by omega), w32_id (by omega) (by omega)]
  omega
set_option maxRecDepth 10000 in
theorem v_X12_read {sl : Nat} {si : Nat → Int} {fm : ZV} {K : Nat → PH → ZL → List ZV → Prop} {Q : PH → List ZV → Prop} {h : PH} {a b : Int} (H : ∀ h1 v1, CP (zz sl si fm) mX12_wrongPlace h [(2, 169), (0, a), (0, b)] h1 [(0, v1)] → R32 v1 → R32 ((uph h1 169 2 v1) 169 2) → (((uph h1 169 2 v1) 169 2) ≤ 0 → 0 ≤ w32 ((w32 (60 * a)) + b) ∧ w32 ((w32 (60 * a)) + b) < (240 : Nat) → R64 ((uph h1 169 2 v1) 174 (w32 ((w32 (60 * a)) + b)).toNat) → Q (uph h1 169 2 v1) [(1, ((uph h1 169 2 v1) 174 (w32 ((w32 (60 * a)) + b)).toNat))]) ∧ (¬ (((uph h1 169 2 v1) 169 2) ≤ 0) → Q (uph h1 169 2 v1) [(1, (-1))])) : vc (zz sl si fm) (fun _ => false) K Q mX12_read 20 0 mX12_read.2.2.2.2.2.2 h [(0, (2, 169)), (1, (0, a)), (2, (0, b))] [] := H
theorem c_X12_read {sl : Nat} {si : Nat → Int} {fm : ZV} {h h' : PH} {a b : Int} {v : Int} (hq : ∀ t, t < 4 → -1 ≤ h 173 t ∧ h 173 t ≤ 60) (hc : CP (zz sl si fm) mX12_read h [(2, 169), (0, a), (0, b)] h' [(1, v)]) : ∃ s, h' = uph h 169 2 s ∧ ((0 ≤ a ∧ a < 4) ∧ h 173 a.toNat ≠ -1 ∧ 0 ≤ b ∧ b < h 173 a.toNat → v = h 174 (60 * a.toNat + b.toNat)) ∧ (¬ ((0 ≤ a ∧ a < 4) ∧ h 173 a.toNat ≠ -1 ∧ 0 ≤ b ∧ b < h 173 a.toNat) → v = -1) := by
  have q := cp_vc (K := fun _ _ _ _ => True) (Q := fun xh r => ∀ v : Int, r = [(1, v)] → (∃ s, xh = uph h 169 2 s ∧ ((0 ≤ a ∧ a < 4) ∧ h 173 a.toNat ≠ -1 ∧ 0 ≤ b ∧ b < h 173 a.toNat → v = h 174 (60 * a.toNat + b.toNat)) ∧ (¬ ((0 ≤ a ∧ a < 4) ∧ h 173 a.toNat ≠ -1 ∧ 0 ≤ b ∧ b < h 173 a.toNat) → v = -1))) (v_X12_read (fun h1 v1 p1 q1 => by obtain ⟨t1, e1⟩ := c_X12_wrongPlace p1; have t1 := t1.symm; subst t1; exact (fun r1 => ⟨fun c2 => (fun b3 r4 => (by (intro v e; cases e; (have hqa := fun w => hq a.toNat w; (try simp only [up_sm] at *); refine ⟨_, rfl, fun z => ?_, fun z => ?_⟩ <;> first | rfl | trivial | (exfalso; omega) | (rw [up_ne (by omega), ix60 (by omega) (by omega) (by omega) (by omega)]))))), fun c2 => (by (intro v e; cases e; (have hqa := fun w => hq a.toNat w; (try simp only [up_sm] at *); refine ⟨_, rfl, fun z => ?_, fun z => ?_⟩ <;> first | rfl | trivial | (exfalso; omega) | (rw [up_ne (by omega), ix60 (by omega) (by omega) (by omega) (by omega)]))))⟩))) (fun _ _ _ _ z _ => Bool.noConfusion z) hc
  exact q v rfl
set_option maxRecDepth 10000 in
theorem v_X12_write {sl : Nat} {si : Nat → Int} {fm : ZV} {K : Nat → PH → ZL → List ZV → Prop} {Q : PH → List ZV → Prop} {h : PH} {a b x : Int} (H : ∀ h1 v1, CP (zz sl si fm) mX12_wrongPlace h [(2, 169), (0, a), (0, b)] h1 [(0, v1)] → R32 v1 → (v1 ≠ 0 → ∀ h2 v2, CP (zz sl si fm) mX12_is h1 [(2, 169), (0, v1)] h2 [(0, v2)] → v2 = 0 ∨ v2 = 1 → Q h2 [(0, v2)]) ∧ (¬ (v1 ≠ 0) → 0 ≤ a ∧ a < (4 : Nat) → R32 (h1 172 a.toNat) → ∀ h3 v3, CP (zz sl si fm) mX12_cut h1 [(1, x), (0, (h1 172 a.toNat))] h3 [(1, v3)] → R64 v3 → 0 ≤ w32 ((w32 (60 * a)) + b) ∧ w32 ((w32 (60 * a)) + b) < (240 : Nat) → ∀ h4 v4, CP (zz sl si fm) mX12_is (uph h3 174 (w32 ((w32 (60 * a)) + b)).toNat v3) [(2, 169), (0, v1)] h4 [(0, v4)] → v4 = 0 ∨ v4 = 1 → Q h4 [(0, v4)])) : vc (zz sl si fm) (fun _ => false) K Q mX12_write 27 0 mX12_write.2.2.2.2.2.2 h [(0, (2, 169)), (1, (0, a)), (2, (0, b)), (3, (1, x))] [] := H
theorem c_X12_write {sl : Nat} {si : Nat → Int} {fm : ZV} {h h' : PH} {a b x : Int} {v : Int} (hq : ∀ t, t < 4 → -1 ≤ h 173 t ∧ h 173 t ≤ 60) (hc : CP (zz sl si fm) mX12_write h [(2, 169), (0, a), (0, b), (1, x)] h' [(0, v)]) : ((0 ≤ a ∧ a < 4) ∧ h 173 a.toNat ≠ -1 ∧ 0 ≤ b ∧ b < h 173 a.toNat → ∃ s, h' = uph (uph h 174 (60 * a.toNat + b.toNat) (zcut (h 172 a.toNat) x)) 169 2 s) ∧ (¬ ((0 ≤ a ∧ a < 4) ∧ h 173 a.toNat ≠ -1 ∧ 0 ≤ b ∧ b < h 173 a.toNat) → ∃ s, h' = uph h 169 2 s) := by
  have q := cp_vc (K := fun _ _ _ _ => True) (Q := fun xh r => ∀ v : Int, r = [(0, v)] → (((0 ≤ a ∧ a < 4) ∧ h 173 a.toNat ≠ -1 ∧ 0 ≤ b ∧ b < h 173 a.toNat → ∃ s, xh = uph (uph h 174 (60 * a.toNat + b.toNat) (zcut (h 172 a.toNat) x)) 169 2 s) ∧ (¬ ((0 ≤ a ∧ a < 4) ∧ h 173 a.toNat ≠ -1 ∧ 0 ≤ b ∧ b < h 173 a.toNat) → ∃ s, xh = uph h 169 2 s))) (v_X12_write (fun h1 v1 p1 q1 => by obtain ⟨t1, e1⟩ := c_X12_wrongPlace p1; have t1 := t1.symm; subst t1; exact ⟨fun c1 => (fun h2 v2 p2 q2 => by obtain ⟨t2, e2⟩ := c_X12_is p2; have t2 := t2.symm; subst t2; exact (by (intro v e; cases e; (have hqa := fun w => hq a.toNat w; refine ⟨fun z => ?_, fun z => ?_⟩ <;> first | exact ⟨_, rfl⟩ | (exfalso; omega) | (rw [ix60 (by omega) (by omega) (by omega) (by omega)]; first | exact ⟨_, rfl⟩ | (rw [e3]; exact ⟨_, rfl⟩)))))), fun c1 => (fun b2 r3 => (fun h3 v3 p3 q3 => by obtain ⟨t3, e3⟩ := c_X12_cut p3; have t3 := t3.symm; subst t3; exact (fun b4 => (fun h4 v4 p4 q4 => by obtain ⟨t4, e4⟩ := c_X12_is p4; have t4 := t4.symm; subst t4; exact (by (intro v e; cases e; (have hqa := fun w => hq a.toNat w; refine ⟨fun z => ?_, fun z => ?_⟩ <;> first | exact ⟨_, rfl⟩ | (exfalso; omega) | (rw [ix60 (by omega) (by omega) (by omega) (by omega)]; first | exact ⟨_, rfl⟩ | (rw [e3]; exact ⟨_, rfl⟩)))))))))⟩)) (fun _ _ _ _ z _ => Bool.noConfusion z) hc
  exact q v rfl
set_option maxRecDepth 10000 in
theorem v_X12_tray {sl : Nat} {si : Nat → Int} {fm : ZV} {K : Nat → PH → ZL → List ZV → Prop} {Q : PH → List ZV → Prop} {h : PH} {a b c : Int} (H : ∀ h1 v1, CP (zz sl si fm) mX12_isTray h [(0, a)] h1 [(0, v1)] → v1 = 0 ∨ v1 = 1 → (v1 = 0 → ∀ h2 v2, CP (zz sl si fm) mX12_is h1 [(2, 169), (0, 1)] h2 [(0, v2)] → v2 = 0 ∨ v2 = 1 → Q h2 [(0, v2)]) ∧ (¬ (v1 = 0) → (b < 0 → ∀ h3 v3, CP (zz sl si fm) mX12_is h1 [(2, 169), (0, 1)] h3 [(0, v3)] → v3 = 0 ∨ v3 = 1 → Q h3 [(0, v3)]) ∧ (¬ (b < 0) → ((3 : Int) < b → ∀ h4 v4, CP (zz sl si fm) mX12_is h1 [(2, 169), (0, 1)] h4 [(0, v4)] → v4 = 0 ∨ v4 = 1 → Q h4 [(0, v4)]) ∧ (¬ ((3 : Int) < b) → (c < 0 → ∀ h5 v5, CP (zz sl si fm) mX12_is h1 [(2, 169), (0, 1)] h5 [(0, v5)] → v5 = 0 ∨ v5 = 1 → Q h5 [(0, v5)]) ∧ (¬ (c < 0) → (c ≤ 60 → 0 ≤ a ∧ a < (4 : Nat) → 0 ≤ a ∧ a < (4 : Nat) → K 49 (uph (uph h1 172 a.toNat b) 173 a.toNat c) [(4, (0, 0)), (0, (2, 169)), (1, (0, a)), (2, (0, b)), (3, (0, c))] []) ∧ (¬ (c ≤ 60) → ∀ h6 v6, CP (zz sl si fm) mX12_is h1 [(2, 169), (0, 1)] h6 [(0, v6)] → v6 = 0 ∨ v6 = 1 → Q h6 [(0, v6)])))))) : vc (zz sl si fm) (fun p => Nat.beq p 49) K Q mX12_tray 27 0 mX12_tray.2.2.2.2.2.2 h [(0, (2, 169)), (1, (0, a)), (2, (0, b)), (3, (0, c))] [] := H
set_option maxRecDepth 10000 in
theorem v_X12_tray_l {sl : Nat} {si : Nat → Int} {fm : ZV} {K : Nat → PH → ZL → List ZV → Prop} {Q : PH → List ZV → Prop} {h : PH} {a b c : Int} {k : Int} (H : (c ≤ k → ∀ h1 v1, CP (zz sl si fm) mX12_is h [(2, 169), (0, 0)] h1 [(0, v1)] → v1 = 0 ∨ v1 = 1 → Q h1 [(0, v1)]) ∧ (¬ (c ≤ k) → 0 ≤ w32 ((w32 (60 * a)) + k) ∧ w32 ((w32 (60 * a)) + k) < (240 : Nat) → K 49 (uph h 174 (w32 ((w32 (60 * a)) + k)).toNat 0) [(4, (0, w32 (k + 1))), (0, (2, 169)), (1, (0, a)), (2, (0, b)), (3, (0, c))] [])) : vc (zz sl si fm) (fun p => Nat.beq p 49) K Q mX12_tray 16 49 (ax_jmp mX12_tray.2.2.2.2.2.2 49) h [(0, (2, 169)), (1, (0, a)), (2, (0, b)), (3, (0, c)), (4, (0, k))] [] := H
theorem c_X12_tray {sl : Nat} {si : Nat → Int} {fm : ZV} {h h' : PH} {a b c : Int} {v : Int} (hc : CP (zz sl si fm) mX12_tray h [(2, 169), (0, a), (0, b), (0, c)] h' [(0, v)]) : ((0 ≤ a ∧ a < 4) ∧ 0 ≤ b ∧ b ≤ 3 ∧ 0 ≤ c ∧ c ≤ 60 → ∃ s, h' = uph (fir (uph (uph h 172 a.toNat b) 173 a.toNat c) 174 (60 * a.toNat) c.toNat 0) 169 2 s) ∧ (¬ ((0 ≤ a ∧ a < 4) ∧ 0 ≤ b ∧ b ≤ 3 ∧ 0 ≤ c ∧ c ≤ 60) → ∃ s, h' = uph h 169 2 s) := by
  have q := cp_loop (A := fun k : Nat => [(0, (2, 169)), (1, (0, a)), (2, (0, b)), (3, (0, c)), (4, (0, (k : Int)))]) (J := fun k hx => ((0 ≤ a ∧ a < 4) ∧ 0 ≤ b ∧ b ≤ 3 ∧ 0 ≤ c ∧ c ≤ 60) ∧ (k : Int) ≤ c ∧ hx = fir (uph (uph h 172 a.toNat b) 173 a.toNat c) 174 (60 * a.toNat) k 0) (Q := fun xh r => ∀ v : Int, r = [(0, v)] → (((0 ≤ a ∧ a < 4) ∧ 0 ≤ b ∧ b ≤ 3 ∧ 0 ≤ c ∧ c ≤ 60 → ∃ s, xh = uph (fir (uph (uph h 172 a.toNat b) 173 a.toNat c) 174 (60 * a.toNat) c.toNat 0) 169 2 s) ∧ (¬ ((0 ≤ a ∧ a < 4) ∧ 0 ≤ b ∧ b ≤ 3 ∧ 0 ≤ c ∧ c ≤ 60) → ∃ s, xh = uph h 169 2 s))) (v_X12_tray (fun h1 v1 p1 q1 => by obtain ⟨t1, e1⟩ := c_X12_isTray p1; have t1 := t1.symm; subst t1; exact ⟨fun c1 => (fun h2 v2 p2 q2 => by obtain ⟨t2, e2⟩ := c_X12_is p2; have t2 := t2.symm; subst t2; exact (by (intro v e; cases e; (refine ⟨fun z => ?_, fun z => ?_⟩ <;> first | exact ⟨_, rfl⟩ | (exfalso; omega))))), fun c1 => ⟨fun c2 => (fun h3 v3 p3 q3 => by obtain ⟨t3, e3⟩ := c_X12_is p3; have t3 := t3.symm; subst t3; exact (by (intro v e; cases e; (refine ⟨fun z => ?_, fun z => ?_⟩ <;> first | exact ⟨_, rfl⟩ | (exfalso; omega))))), fun c2 => ⟨fun c3 => (fun h4 v4 p4 q4 => by obtain ⟨t4, e4⟩ := c_X12_is p4; have t4 := t4.symm; subst t4; exact (by (intro v e; cases e; (refine ⟨fun z => ?_, fun z => ?_⟩ <;> first | exact ⟨_, rfl⟩ | (exfalso; omega))))), fun c3 => ⟨fun c4 => (fun h5 v5 p5 q5 => by obtain ⟨t5, e5⟩ := c_X12_is p5; have t5 := t5.symm; subst t5; exact (by (intro v e; cases e; (refine ⟨fun z => ?_, fun z => ?_⟩ <;> first | exact ⟨_, rfl⟩ | (exfalso; omega))))), fun c4 => ⟨fun c5 => (fun b6 => (fun b7 => (by exact ⟨rfl, 0, ⟨⟨by omega, by omega, by omega, by omega, by omega⟩, by omega, fir_0.symm⟩, ⟨rfl, rfl, rfl, rfl, rfl, trivial⟩⟩))), fun c5 => (fun h6 v6 p6 q6 => by obtain ⟨t6, e6⟩ := c_X12_is p6; have t6 := t6.symm; subst t6; exact (by (intro v e; cases e; (refine ⟨fun z => ?_, fun z => ?_⟩ <;> first | exact ⟨_, rfl⟩ | (exfalso; omega)))))⟩⟩⟩⟩⟩)) (fun k hx hJ => v_X12_tray_l ⟨fun c1 => (fun h1 v1 p1 q1 => by obtain ⟨t1, e1⟩ := c_X12_is p1; have t1 := t1.symm; subst t1; exact (by (intro v e; cases e; (refine ⟨fun z => ?_, fun z => ?_⟩ <;> first | (exfalso; omega) | (rw [hJ.2.2, show k = c.toNat by omega]; exact ⟨_, rfl⟩))))), fun c1 => (fun b2 => (by refine ⟨rfl, k + 1, ⟨hJ.1, by omega, ?_⟩, ⟨rfl, rfl, rfl, rfl, wv (by omega) (by omega) (by omega), trivial⟩⟩; rw [hJ.2.2, ix60 (by omega) (by omega) (by omega) (by omega), Int.toNat_natCast, fir_s]))⟩) hc
  exact q v rfl
/-- what is poured so far: from the one end, from the other -/
def pou (h : PH) (s d n k : Nat) (up : Bool) : PH := fun c' j => if c' = 174 ∧ ((up = true ∧ d ≤ j ∧ j < d + k) ∨ (up = false ∧ d + n ≤ j + k ∧ j < d + n)) then h 174 (s + (j - d)) else h c' j
theorem pou_0 {h : PH} {s d n : Nat} {up : Bool} : pou h s d n 0 up = h := funext (fun c' => funext (fun j => if_neg (by omega)))
theorem pou_n {h : PH} {s d n : Nat} {up : Bool} : pou h s d n n up = cph h 174 174 s d n := funext (fun c' => funext (fun j => by
  unfold pou cph
  by_cases e : c' = 174 ∧ d ≤ j ∧ j < d + n
  · rw [if_pos e, if_pos ⟨e.1, by cases up <;> simp <;> omega⟩]
  · rw [if_neg e, if_neg (fun q => e ⟨q.1, by omega⟩)]))
theorem pou_up {h : PH} {s d n k : Nat} (hd : ¬ (d ≤ s + k ∧ s + k < d + k)) : uph (pou h s d n k true) 174 (d + k) (pou h s d n k true 174 (s + k)) = pou h s d n (k + 1) true := funext (fun c' => funext (fun j => by
  have e0 : pou h s d n k true 174 (s + k) = h 174 (s + k) := if_neg (fun q => by
    rcases q.2 with w | w
    · exact hd w.2
    · exact absurd w.1 (by decide))
  rw [e0]
  unfold uph pou
  by_cases e : c' = 174 ∧ j = d + k
  · rw [if_pos e, if_pos ⟨e.1, Or.inl ⟨rfl, by omega, by omega⟩⟩]
    congr 1
    omega
  · rw [if_neg e]
    by_cases e3 : c' = 174 ∧ d ≤ j ∧ j < d + k
    · rw [if_pos ⟨e3.1, Or.inl ⟨rfl, e3.2⟩⟩, if_pos ⟨e3.1, Or.inl ⟨rfl, by omega, by omega⟩⟩]
    · rw [if_neg (fun q => by
        rcases q.2 with w | w
        · exact e3 ⟨q.1, w.2⟩
        · exact absurd w.1 (by decide)), if_neg (fun q => by
        rcases q.2 with w | w
        · omega
        · exact absurd w.1 (by decide))]))
theorem pou_dn {h : PH} {s d n k : Nat} (hk : k < n) (hd : ¬ (d + n ≤ s + (n - 1 - k) + k ∧ s + (n - 1 - k) < d + n)) : uph (pou h s d n k false) 174 (d + (n - 1 - k)) (pou h s d n k false 174 (s + (n - 1 - k))) = pou h s d n (k + 1) false := funext (fun c' => funext (fun j => by
  have e0 : pou h s d n k false 174 (s + (n - 1 - k)) = h 174 (s + (n - 1 - k)) := if_neg (fun q => by
    rcases q.2 with w | w
    · exact absurd w.1 (by decide)
    · exact hd w.2)
  rw [e0]
  unfold uph pou
  by_cases e : c' = 174 ∧ j = d + (n - 1 - k)
  · rw [if_pos e, if_pos ⟨e.1, Or.inr ⟨rfl, by omega, by omega⟩⟩]
    congr 1
    omega
  · rw [if_neg e]
    by_cases e3 : c' = 174 ∧ d + n ≤ j + k ∧ j < d + n
    · rw [if_pos ⟨e3.1, Or.inr ⟨rfl, e3.2⟩⟩, if_pos ⟨e3.1, Or.inr ⟨rfl, by omega, by omega⟩⟩]
    · rw [if_neg (fun q => by
        rcases q.2 with w | w
        · exact absurd w.1 (by decide)
        · exact e3 ⟨q.1, w.2⟩), if_neg (fun q => by
        rcases q.2 with w | w
        · exact absurd w.1 (by decide)
        · omega)]))
theorem ix61 {a b k : Int} (h0 : 0 ≤ a) (h1 : a < 4) (h2 : 0 ≤ b) (h3 : b ≤ 60) (h4 : 0 ≤ k) (h5 : k ≤ 60) : (w32 ((w32 ((w32 (60 * a)) + b)) + k)).toNat = 60 * a.toNat + b.toNat + k.toNat := by
  rw [w32_id (z := 60 * a) (by omega) (by omega), w32_id (z := 60 * a + b) (by omega) (by omega), w32_id (by omega) (by omega)]
  omega
theorem ix62 {e k : Int} (h0 : 0 ≤ e) (h1 : e ≤ 60) (h2 : 0 ≤ k) (h3 : k < e) : w32 ((w32 (e - 1)) - k) = e - 1 - k := by
  rw [w32_id (z := e - 1) (by omega) (by omega), w32_id (by omega) (by omega)]
set_option maxRecDepth 10000 in
theorem v_X12_pour {sl : Nat} {si : Nat → Int} {fm : ZV} {K : Nat → PH → ZL → List ZV → Prop} {Q : PH → List ZV → Prop} {h : PH} {a b c d e : Int} (H : ∀ h1 v1, CP (zz sl si fm) mX12_isTray h [(0, a)] h1 [(0, v1)] → v1 = 0 ∨ v1 = 1 → (v1 = 0 → ∀ h2 v2, CP (zz sl si fm) mX12_is h1 [(2, 169), (0, 1)] h2 [(0, v2)] → v2 = 0 ∨ v2 = 1 → Q h2 [(0, v2)]) ∧ (¬ (v1 = 0) → ∀ h3 v3, CP (zz sl si fm) mX12_isTray h1 [(0, c)] h3 [(0, v3)] → v3 = 0 ∨ v3 = 1 → (v3 = 0 → ∀ h4 v4, CP (zz sl si fm) mX12_is h3 [(2, 169), (0, 1)] h4 [(0, v4)] → v4 = 0 ∨ v4 = 1 → Q h4 [(0, v4)]) ∧ (¬ (v3 = 0) → (b < 0 → ∀ h5 v5, CP (zz sl si fm) mX12_is h3 [(2, 169), (0, 1)] h5 [(0, v5)] → v5 = 0 ∨ v5 = 1 → Q h5 [(0, v5)]) ∧ (¬ (b < 0) → (d < 0 → ∀ h6 v6, CP (zz sl si fm) mX12_is h3 [(2, 169), (0, 1)] h6 [(0, v6)] → v6 = 0 ∨ v6 = 1 → Q h6 [(0, v6)]) ∧ (¬ (d < 0) → ((0 : Int) ≤ e → 0 ≤ a ∧ a < (4 : Nat) → R32 (h3 173 a.toNat) → ((h3 173 a.toNat) = (-1) → ∀ h7 v7, CP (zz sl si fm) mX12_is h3 [(2, 169), (0, 2)] h7 [(0, v7)] → v7 = 0 ∨ v7 = 1 → Q h7 [(0, v7)]) ∧ (¬ ((h3 173 a.toNat) = (-1)) → 0 ≤ c ∧ c < (4 : Nat) → R32 (h3 173 c.toNat) → ((h3 173 c.toNat) ≠ (-1) → 0 ≤ a ∧ a < (4 : Nat) → R32 (h3 172 a.toNat) → 0 ≤ c ∧ c < (4 : Nat) → R32 (h3 172 c.toNat) → ((h3 172 a.toNat) = (h3 172 c.toNat) → 0 ≤ a ∧ a < (4 : Nat) → R32 (h3 173 a.toNat) → ((w32 ((h3 173 a.toNat) - b)) < e → ∀ h8 v8, CP (zz sl si fm) mX12_is h3 [(2, 169), (0, 3)] h8 [(0, v8)] → v8 = 0 ∨ v8 = 1 → Q h8 [(0, v8)]) ∧ (¬ ((w32 ((h3 173 a.toNat) - b)) < e) → 0 ≤ c ∧ c < (4 : Nat) → R32 (h3 173 c.toNat) → (e ≤ (w32 ((h3 173 c.toNat) - d)) → K 118 h3 [(6, (0, 0)), (0, (2, 169)), (1, (0, a)), (2, (0, b)), (3, (0, c)), (4, (0, d)), (5, (0, e))] []) ∧ (¬ (e ≤ (w32 ((h3 173 c.toNat) - d))) → ∀ h9 v9, CP (zz sl si fm) mX12_is h3 [(2, 169), (0, 3)] h9 [(0, v9)] → v9 = 0 ∨ v9 = 1 → Q h9 [(0, v9)]))) ∧ (¬ ((h3 172 a.toNat) = (h3 172 c.toNat)) → ∀ h10 v10, CP (zz sl si fm) mX12_is h3 [(2, 169), (0, 8)] h10 [(0, v10)] → v10 = 0 ∨ v10 = 1 → Q h10 [(0, v10)])) ∧ (¬ ((h3 173 c.toNat) ≠ (-1)) → ∀ h11 v11, CP (zz sl si fm) mX12_is h3 [(2, 169), (0, 2)] h11 [(0, v11)] → v11 = 0 ∨ v11 = 1 → Q h11 [(0, v11)]))) ∧ (¬ ((0 : Int) ≤ e) → ∀ h12 v12, CP (zz sl si fm) mX12_is h3 [(2, 169), (0, 1)] h12 [(0, v12)] → v12 = 0 ∨ v12 = 1 → Q h12 [(0, v12)])))))) : vc (zz sl si fm) (fun p => Nat.beq p 118) K Q mX12_pour 55 0 mX12_pour.2.2.2.2.2.2 h [(0, (2, 169)), (1, (0, a)), (2, (0, b)), (3, (0, c)), (4, (0, d)), (5, (0, e))] [] := H
set_option maxRecDepth 10000 in
theorem v_X12_pour_l {sl : Nat} {si : Nat → Int} {fm : ZV} {K : Nat → PH → ZL → List ZV → Prop} {Q : PH → List ZV → Prop} {h : PH} {a b c d e : Int} {k : Int} (H : (e ≤ k → ∀ h1 v1, CP (zz sl si fm) mX12_is h [(2, 169), (0, 0)] h1 [(0, v1)] → v1 = 0 ∨ v1 = 1 → Q h1 [(0, v1)]) ∧ (¬ (e ≤ k) → (d ≤ b → 0 ≤ w32 ((w32 ((w32 (60 * a)) + b)) + k) ∧ w32 ((w32 ((w32 (60 * a)) + b)) + k) < (240 : Nat) → R64 (h 174 (w32 ((w32 ((w32 (60 * a)) + b)) + k)).toNat) → 0 ≤ w32 ((w32 ((w32 (60 * c)) + d)) + k) ∧ w32 ((w32 ((w32 (60 * c)) + d)) + k) < (240 : Nat) → K 118 (uph h 174 (w32 ((w32 ((w32 (60 * c)) + d)) + k)).toNat (h 174 (w32 ((w32 ((w32 (60 * a)) + b)) + k)).toNat)) [(6, (0, w32 (k + 1))), (7, (0, k)), (0, (2, 169)), (1, (0, a)), (2, (0, b)), (3, (0, c)), (4, (0, d)), (5, (0, e))] []) ∧ (¬ (d ≤ b) → 0 ≤ w32 ((w32 ((w32 (60 * a)) + b)) + (w32 ((w32 (e - 1)) - k))) ∧ w32 ((w32 ((w32 (60 * a)) + b)) + (w32 ((w32 (e - 1)) - k))) < (240 : Nat) → R64 (h 174 (w32 ((w32 ((w32 (60 * a)) + b)) + (w32 ((w32 (e - 1)) - k)))).toNat) → 0 ≤ w32 ((w32 ((w32 (60 * c)) + d)) + (w32 ((w32 (e - 1)) - k))) ∧ w32 ((w32 ((w32 (60 * c)) + d)) + (w32 ((w32 (e - 1)) - k))) < (240 : Nat) → K 118 (uph h 174 (w32 ((w32 ((w32 (60 * c)) + d)) + (w32 ((w32 (e - 1)) - k)))).toNat (h 174 (w32 ((w32 ((w32 (60 * a)) + b)) + (w32 ((w32 (e - 1)) - k)))).toNat)) [(6, (0, w32 (k + 1))), (7, (0, w32 ((w32 (e - 1)) - k))), (0, (2, 169)), (1, (0, a)), (2, (0, b)), (3, (0, c)), (4, (0, d)), (5, (0, e))] []))) : vc (zz sl si fm) (fun p => Nat.beq p 118) K Q mX12_pour 37 118 (ax_jmp mX12_pour.2.2.2.2.2.2 118) h [(0, (2, 169)), (1, (0, a)), (2, (0, b)), (3, (0, c)), (4, (0, d)), (5, (0, e)), (6, (0, k))] [] := H
theorem c_X12_pour {sl : Nat} {si : Nat → Int} {fm : ZV} {h h' : PH} {a b c d e : Int} {v : Int} (hq : ∀ t, t < 4 → -1 ≤ h 173 t ∧ h 173 t ≤ 60) (hb : b ≤ 2147483647) (hd : d ≤ 2147483647) (hc : CP (zz sl si fm) mX12_pour h [(2, 169), (0, a), (0, b), (0, c), (0, d), (0, e)] h' [(0, v)]) : ((0 ≤ a ∧ a < 4) ∧ (0 ≤ c ∧ c < 4) ∧ 0 ≤ b ∧ 0 ≤ d ∧ 0 ≤ e ∧ h 173 a.toNat ≠ -1 ∧ h 173 c.toNat ≠ -1 ∧ h 172 a.toNat = h 172 c.toNat ∧ e ≤ w32 (h 173 a.toNat - b) ∧ e ≤ w32 (h 173 c.toNat - d) → (∃ s, h' = uph (cph h 174 174 (60 * a.toNat + b.toNat) (60 * c.toNat + d.toNat) e.toNat) 169 2 s) ∧ v = 1) ∧ (¬ ((0 ≤ a ∧ a < 4) ∧ (0 ≤ c ∧ c < 4) ∧ 0 ≤ b ∧ 0 ≤ d ∧ 0 ≤ e ∧ h 173 a.toNat ≠ -1 ∧ h 173 c.toNat ≠ -1 ∧ h 172 a.toNat = h 172 c.toNat ∧ e ≤ w32 (h 173 a.toNat - b) ∧ e ≤ w32 (h 173 c.toNat - d)) → (∃ s, h' = uph h 169 2 s) ∧ v = 0) := by
  have WB : ∀ a b : Int, (0 ≤ a ∧ a < 4) → 0 ≤ b → b ≤ 2147483647 → w32 (h 173 a.toNat - b) = h 173 a.toNat - b := fun a b h1 h2 h3 => by
    have := hq a.toNat (by omega)
    exact w32_id (by omega) (by omega)
  have q := cp_loop (A := fun k : Nat => [(0, (2, 169)), (1, (0, a)), (2, (0, b)), (3, (0, c)), (4, (0, d)), (5, (0, e)), (6, (0, (k : Int)))]) (J := fun k hx => ((0 ≤ a ∧ a < 4) ∧ (0 ≤ c ∧ c < 4) ∧ 0 ≤ b ∧ 0 ≤ d ∧ 0 ≤ e ∧ h 173 a.toNat ≠ -1 ∧ h 173 c.toNat ≠ -1 ∧ h 172 a.toNat = h 172 c.toNat ∧ e ≤ w32 (h 173 a.toNat - b) ∧ e ≤ w32 (h 173 c.toNat - d)) ∧ (b + e ≤ 60 ∧ d + e ≤ 60) ∧ (k : Int) ≤ e ∧ hx = pou h (60 * a.toNat + b.toNat) (60 * c.toNat + d.toNat) e.toNat k (decide (d ≤ b))) (Q := fun xh r => ∀ v : Int, r = [(0, v)] → (((0 ≤ a ∧ a < 4) ∧ (0 ≤ c ∧ c < 4) ∧ 0 ≤ b ∧ 0 ≤ d ∧ 0 ≤ e ∧ h 173 a.toNat ≠ -1 ∧ h 173 c.toNat ≠ -1 ∧ h 172 a.toNat = h 172 c.toNat ∧ e ≤ w32 (h 173 a.toNat - b) ∧ e ≤ w32 (h 173 c.toNat - d) → (∃ s, xh = uph (cph h 174 174 (60 * a.toNat + b.toNat) (60 * c.toNat + d.toNat) e.toNat) 169 2 s) ∧ v = 1) ∧ (¬ ((0 ≤ a ∧ a < 4) ∧ (0 ≤ c ∧ c < 4) ∧ 0 ≤ b ∧ 0 ≤ d ∧ 0 ≤ e ∧ h 173 a.toNat ≠ -1 ∧ h 173 c.toNat ≠ -1 ∧ h 172 a.toNat = h 172 c.toNat ∧ e ≤ w32 (h 173 a.toNat - b) ∧ e ≤ w32 (h 173 c.toNat - d)) → (∃ s, xh = uph h 169 2 s) ∧ v = 0))) (v_X12_pour (fun h1 v1 p1 q1 => by obtain ⟨t1, e1⟩ := c_X12_isTray p1; have t1 := t1.symm; subst t1; exact ⟨fun c1 => (fun h2 v2 p2 q2 => by obtain ⟨t2, e2⟩ := c_X12_is p2; have t2 := t2.symm; subst t2; exact (by (intro v e; cases e; (refine ⟨fun z => ?_, fun z => ?_⟩ <;> first | exact ⟨⟨_, rfl⟩, by omega⟩ | (exfalso; omega))))), fun c1 => (fun h3 v3 p3 q3 => by obtain ⟨t3, e3⟩ := c_X12_isTray p3; have t3 := t3.symm; subst t3; exact ⟨fun c2 => (fun h4 v4 p4 q4 => by obtain ⟨t4, e4⟩ := c_X12_is p4; have t4 := t4.symm; subst t4; exact (by (intro v e; cases e; (refine ⟨fun z => ?_, fun z => ?_⟩ <;> first | exact ⟨⟨_, rfl⟩, by omega⟩ | (exfalso; omega))))), fun c2 => ⟨fun c3 => (fun h5 v5 p5 q5 => by obtain ⟨t5, e5⟩ := c_X12_is p5; have t5 := t5.symm; subst t5; exact (by (intro v e; cases e; (refine ⟨fun z => ?_, fun z => ?_⟩ <;> first | exact ⟨⟨_, rfl⟩, by omega⟩ | (exfalso; omega))))), fun c3 => ⟨fun c4 => (fun h6 v6 p6 q6 => by obtain ⟨t6, e6⟩ := c_X12_is p6; have t6 := t6.symm; subst t6; exact (by (intro v e; cases e; (refine ⟨fun z => ?_, fun z => ?_⟩ <;> first | exact ⟨⟨_, rfl⟩, by omega⟩ | (exfalso; omega))))), fun c4 => ⟨fun c5 => (fun b6 r7 => ⟨fun c8 => (fun h7 v7 p7 q7 => by obtain ⟨t7, e7⟩ := c_X12_is p7; have t7 := t7.symm; subst t7; exact (by (intro v e; cases e; (refine ⟨fun z => ?_, fun z => ?_⟩ <;> first | exact ⟨⟨_, rfl⟩, by omega⟩ | (exfalso; omega))))), fun c8 => (fun b9 r10 => ⟨fun c11 => (fun b12 r13 => (fun b14 r15 => ⟨fun c16 => (fun b17 r18 => ⟨fun c19 => (fun h8 v8 p8 q8 => by obtain ⟨t8, e8⟩ := c_X12_is p8; have t8 := t8.symm; subst t8; exact (by (intro v e; cases e; (refine ⟨fun z => ?_, fun z => ?_⟩ <;> first | exact ⟨⟨_, rfl⟩, by omega⟩ | (exfalso; omega))))), fun c19 => (fun b20 r21 => ⟨fun c22 => (by have w1 := WB a b (by omega) (by omega) (by omega); have w2 := WB c d (by omega) (by omega) (by omega); have u1 := hq a.toNat (by omega); have u2 := hq c.toNat (by omega); exact ⟨rfl, 0, ⟨⟨by omega, by omega, by omega, by omega, by omega, by omega, by omega, by omega, by omega, by omega⟩, by omega, by omega, pou_0.symm⟩, ⟨rfl, rfl, rfl, rfl, rfl, rfl, rfl, trivial⟩⟩), fun c22 => (fun h9 v9 p9 q9 => by obtain ⟨t9, e9⟩ := c_X12_is p9; have t9 := t9.symm; subst t9; exact (by (intro v e; cases e; (refine ⟨fun z => ?_, fun z => ?_⟩ <;> first | exact ⟨⟨_, rfl⟩, by omega⟩ | (exfalso; omega)))))⟩)⟩), fun c16 => (fun h10 v10 p10 q10 => by obtain ⟨t10, e10⟩ := c_X12_is p10; have t10 := t10.symm; subst t10; exact (by (intro v e; cases e; (refine ⟨fun z => ?_, fun z => ?_⟩ <;> first | exact ⟨⟨_, rfl⟩, by omega⟩ | (exfalso; omega)))))⟩)), fun c11 => (fun h11 v11 p11 q11 => by obtain ⟨t11, e11⟩ := c_X12_is p11; have t11 := t11.symm; subst t11; exact (by (intro v e; cases e; (refine ⟨fun z => ?_, fun z => ?_⟩ <;> first | exact ⟨⟨_, rfl⟩, by omega⟩ | (exfalso; omega)))))⟩)⟩), fun c5 => (fun h12 v12 p12 q12 => by obtain ⟨t12, e12⟩ := c_X12_is p12; have t12 := t12.symm; subst t12; exact (by (intro v e; cases e; (refine ⟨fun z => ?_, fun z => ?_⟩ <;> first | exact ⟨⟨_, rfl⟩, by omega⟩ | (exfalso; omega)))))⟩⟩⟩⟩)⟩)) (fun k hx hJ => v_X12_pour_l ⟨fun c1 => (fun h1 v1 p1 q1 => by obtain ⟨t1, e1⟩ := c_X12_is p1; have t1 := t1.symm; subst t1; exact (by (intro v e; cases e; (refine ⟨fun z => ?_, fun z => ?_⟩ <;> first | (exact absurd hJ.1 z) | (rw [hJ.2.2.2, show k = e.toNat by omega, pou_n]; exact ⟨⟨_, rfl⟩, by omega⟩))))), fun c1 => ⟨fun c2 => (fun b3 r4 => (fun b5 => (by first | (refine ⟨rfl, k + 1, ⟨hJ.1, hJ.2.1, by omega, ?_⟩, ⟨rfl, rfl, rfl, rfl, rfl, rfl, wv (by omega) (by omega) (by omega), trivial⟩⟩; rw [hJ.2.2.2, decide_eq_true c2, ix61 (by omega) (by omega) (by omega) (by omega) (by omega) (by omega), ix61 (by omega) (by omega) (by omega) (by omega) (by omega) (by omega), Int.toNat_natCast, pou_up (by omega)]) | (refine ⟨rfl, k + 1, ⟨hJ.1, hJ.2.1, by omega, ?_⟩, ⟨rfl, rfl, rfl, rfl, rfl, rfl, wv (by omega) (by omega) (by omega), trivial⟩⟩; rw [hJ.2.2.2, decide_eq_false c2, ix62 (by omega) (by omega) (by omega) (by omega), ix61 (by omega) (by omega) (by omega) (by omega) (by omega) (by omega), ix61 (by omega) (by omega) (by omega) (by omega) (by omega) (by omega), show (e - 1 - (k : Int)).toNat = e.toNat - 1 - k by omega, pou_dn (by omega) (by omega)])))), fun c2 => (fun b6 r7 => (fun b8 => (by first | (refine ⟨rfl, k + 1, ⟨hJ.1, hJ.2.1, by omega, ?_⟩, ⟨rfl, rfl, rfl, rfl, rfl, rfl, wv (by omega) (by omega) (by omega), trivial⟩⟩; rw [hJ.2.2.2, decide_eq_true c2, ix61 (by omega) (by omega) (by omega) (by omega) (by omega) (by omega), ix61 (by omega) (by omega) (by omega) (by omega) (by omega) (by omega), Int.toNat_natCast, pou_up (by omega)]) | (refine ⟨rfl, k + 1, ⟨hJ.1, hJ.2.1, by omega, ?_⟩, ⟨rfl, rfl, rfl, rfl, rfl, rfl, wv (by omega) (by omega) (by omega), trivial⟩⟩; rw [hJ.2.2.2, decide_eq_false c2, ix62 (by omega) (by omega) (by omega) (by omega), ix61 (by omega) (by omega) (by omega) (by omega) (by omega) (by omega), ix61 (by omega) (by omega) (by omega) (by omega) (by omega) (by omega), show (e - 1 - (k : Int)).toNat = e.toNat - 1 - k by omega, pou_dn (by omega) (by omega)]))))⟩⟩) hc
  exact q v rfl
/-! TRAYS of both sides alike -/
def J7 (h : PH) : Prop := ∀ t : Nat, t < 4 → (h (95 + 2 * t) 0 = 0 ∧ h 173 t = -1) ∨ (h (95 + 2 * t) 0 ≠ 0 ∧ h (95 + 2 * t) 1 = h 172 t ∧ h (95 + 2 * t) 2 = h 173 t ∧ 0 ≤ h 173 t ∧ h 173 t ≤ 60 ∧ ∀ k : Nat, (k : Int) < h 173 t → h (96 + 2 * t) k = h 174 (60 * t + k))
theorem J7.q {h : PH} (hJ : J7 h) : ∀ t, t < 4 → -1 ≤ h 173 t ∧ h 173 t ≤ 60 := fun t ht => by rcases hJ t ht with q | q <;> omega
def F7 : List (Nat × Int × Int) := [(95, 0, 100), (96, 0, 100), (97, 0, 100), (98, 0, 100), (99, 0, 100), (100, 0, 100), (101, 0, 100), (102, 0, 100), (172, 0, 100), (173, 0, 100), (174, 0, 300)]
theorem F7_in {c : Nat} (h : 95 ≤ c ∧ c ≤ 102 ∨ c = 172 ∨ c = 173) : (c, (0 : Int), (100 : Int)) ∈ F7 := by
  have h : c = 95 ∨ c = 96 ∨ c = 97 ∨ c = 98 ∨ c = 99 ∨ c = 100 ∨ c = 101 ∨ c = 102 ∨ c = 172 ∨ c = 173 := by omega
  rcases h with rfl | rfl | rfl | rfl | rfl | rfl | rfl | rfl | rfl | rfl <;> decide
theorem J7_frm {h h' : PH} (hJ : J7 h) (hF : Frm F7 h h') : J7 h' := by
  intro t ht
  have A : ∀ c k : Nat, (95 ≤ c ∧ c ≤ 102 ∨ c = 172 ∨ c = 173) → k ≤ 100 → h' c k = h c k := fun c k hc hk => hF _ (F7_in hc) k (by show (0 : Int) ≤ _; omega) (by show _ ≤ (100 : Int); omega)
  have B : ∀ k : Nat, k ≤ 300 → h' 174 k = h 174 k := fun k hk => hF (174, 0, 300) (by decide) k (by show (0 : Int) ≤ _; omega) (by show _ ≤ (300 : Int); omega)
  rw [A (95 + 2 * t) 0 (by omega) (by omega), A (95 + 2 * t) 1 (by omega) (by omega), A (95 + 2 * t) 2 (by omega) (by omega), A 172 t (by omega) (by omega), A 173 t (by omega) (by omega)]
  rcases hJ t ht with q | ⟨q1, q2, q3, q4, q5, q6⟩
  · exact Or.inl q
  · refine Or.inr ⟨q1, q2, q3, q4, q5, fun k hk => ?_⟩
    rw [A (96 + 2 * t) k (by omega) (by omega), B (60 * t + k) (by omega)]
    exact q6 k hk
theorem J7_st1 {h : PH} (hJ : J7 h) {s1 : Int} : J7 (uph h 0 0 s1) := by
  intro t ht
  have A : ∀ c k : Nat, c ≠ 0 → uph h 0 0 s1 c k = h c k := fun c k h1 => up_ne (by omega)
  have J := hJ t ht
  rw [A _ 0 (by omega), A _ 1 (by omega), A _ 2 (by omega), A 172 t (by omega), A 173 t (by omega)]
  rcases J with q | ⟨q1, q2, q3, q4, q5, q6⟩
  · exact Or.inl q
  · refine Or.inr ⟨q1, q2, q3, q4, q5, fun k hk => ?_⟩
    rw [A _ k (by omega), A 174 _ (by omega)]
    exact q6 k hk
/-- what is told of a call that is not done -/
theorem J7_st {h : PH} (hJ : J7 h) (s1 s2 : Int) : J7 (uph (uph h 0 0 s1) 169 2 s2) := by
  intro t ht
  have A : ∀ c k : Nat, c ≠ 0 → c ≠ 169 → uph (uph h 0 0 s1) 169 2 s2 c k = h c k := fun c k h1 h2 => by rw [up_ne (by omega), up_ne (by omega)]
  have J := hJ t ht
  rw [A _ 0 (by omega) (by omega), A _ 1 (by omega) (by omega), A _ 2 (by omega) (by omega), A 172 t (by omega) (by omega), A 173 t (by omega) (by omega)]
  rcases J with q | ⟨q1, q2, q3, q4, q5, q6⟩
  · exact Or.inl q
  · refine Or.inr ⟨q1, q2, q3, q4, q5, fun k hk => ?_⟩
    rw [A _ k (by omega) (by omega), A 174 _ (by omega) (by omega)]
    exact q6 k hk
theorem fir_ne {h : PH} {c lo n : Nat} {v : Int} {c' k : Nat} (hn : ¬ (c' = c ∧ lo ≤ k ∧ k < lo + n)) : fir h c lo n v c' k = h c' k := if_neg hn
theorem fir_in {h : PH} {c lo n : Nat} {v : Int} {k : Nat} (h1 : lo ≤ k) (h2 : k < lo + n) : fir h c lo n v c k = v := if_pos ⟨rfl, h1, h2⟩
theorem fih_ne {h : PH} {c n : Nat} {v : Int} {c' k : Nat} (hn : ¬ (c' = c ∧ k < n)) : fih h c n v c' k = h c' k := if_neg hn
theorem fih_in {h : PH} {c n : Nat} {v : Int} {k : Nat} (h2 : k < n) : fih h c n v c k = v := if_pos ⟨rfl, h2⟩
theorem cpx_ne {h : PH} {cs cd s d n : Nat} {c' k : Nat} (hn : ¬ (c' = cd ∧ d ≤ k ∧ k < d + n)) : cph h cs cd s d n c' k = h c' k := if_neg hn
theorem cpx_in {h : PH} {cs cd s d n : Nat} {k : Nat} (h1 : d ≤ k) (h2 : k < d + n) : cph h cs cd s d n cd k = h cs (s + (k - d)) := if_pos ⟨rfl, h1, h2⟩
section PR
variable {sl : Nat} {si : Nat → Int} {fm : ZV} {h h1 h2 : PH} {a b c d e x v w : Int}
theorem pr_tray (hJ : J7 h) (p1 : CP (zz sl si fm) mX11_tray h [(2, 0), (0, a), (0, b), (0, c)] h1 [(0, v)]) (p2 : CP (zz sl si fm) mX12_tray h1 [(2, 169), (0, a), (0, b), (0, c)] h2 [(0, w)]) : J7 h2 := by
  obtain ⟨y1, n1⟩ := c_X11_tray p1
  obtain ⟨y2, n2⟩ := c_X12_tray p2
  by_cases ok : (0 ≤ a ∧ a ≤ 3) ∧ 0 ≤ b ∧ b ≤ 3 ∧ 0 ≤ c ∧ c ≤ 60
  · obtain ⟨s1, y1⟩ := y1 ok
    obtain ⟨s2, y2⟩ := y2 (by omega)
    rw [y2, y1]
    generalize ha : a.toNat = A
    have e1 : tC a = 95 + 2 * A := by unfold tC; rw [ha]
    have e2 : cC a = 96 + 2 * A := by unfold cC; rw [ha]
    rw [e1, e2]
    have hA : A < 4 := by omega
    intro t ht
    by_cases et : t = A
    · subst et
      refine Or.inr ⟨?_, ?_, ?_, ?_, ?_, fun k hk => ?_⟩
      · rw [up_ne (by omega), fir_ne (by omega), up_ne (by omega), up_ne (by omega), up_ne (by omega), fih_ne (by omega), up_ne (by omega), up_ne (by omega), up_sm]
        decide
      · rw [up_ne (by omega), fir_ne (by omega), up_ne (by omega), up_ne (by omega), up_ne (by omega), fih_ne (by omega), up_ne (by omega), up_sm, up_ne (by omega), fir_ne (by omega), up_ne (by omega), up_sm]
      · rw [up_ne (by omega), fir_ne (by omega), up_ne (by omega), up_ne (by omega), up_ne (by omega), fih_ne (by omega), up_sm, up_ne (by omega), fir_ne (by omega), up_sm]
      · rw [up_ne (by omega), fir_ne (by omega), up_sm]
        omega
      · rw [up_ne (by omega), fir_ne (by omega), up_sm]
        omega
      · rw [up_ne (by omega), fir_ne (by omega), up_sm] at hk
        rw [up_ne (by omega), fir_ne (by omega), up_ne (by omega), up_ne (by omega), up_ne (by omega), fih_in (by omega), up_ne (by omega), fir_in (by omega) (by omega)]
    · have A1 : ∀ c' k : Nat, c' ≠ 0 → c' ≠ 95 + 2 * A → c' ≠ 96 + 2 * A → c' ≠ 169 → (c' = 172 → k ≠ A) → (c' = 173 → k ≠ A) → (c' = 174 → ¬ (60 * A ≤ k ∧ k < 60 * A + 60)) → uph (fir (uph (uph (uph (fih (uph (uph (uph h (95 + 2 * A) 0 1) (95 + 2 * A) 1 b) (95 + 2 * A) 2 c) (96 + 2 * A) 60 0) 0 0 s1) 172 A b) 173 A c) 174 (60 * A) c.toNat 0) 169 2 s2 c' k = h c' k := fun c' k g1 g2 g3 g4 g5 g6 g7 => by
        rw [up_ne (by omega), fir_ne (by omega), up_ne (by omega), up_ne (by omega), up_ne (by omega), fih_ne (by omega), up_ne (by omega), up_ne (by omega), up_ne (by omega)]
      have J := hJ t ht
      rw [A1 _ 0 (by omega) (by omega) (by omega) (by omega) (by omega) (by omega) (by omega), A1 _ 1 (by omega) (by omega) (by omega) (by omega) (by omega) (by omega) (by omega), A1 _ 2 (by omega) (by omega) (by omega) (by omega) (by omega) (by omega) (by omega), A1 172 t (by omega) (by omega) (by omega) (by omega) (by omega) (by omega) (by omega), A1 173 t (by omega) (by omega) (by omega) (by omega) (by omega) (by omega) (by omega)]
      rcases J with q | ⟨q1, q2, q3, q4, q5, q6⟩
      · exact Or.inl q
      · refine Or.inr ⟨q1, q2, q3, q4, q5, fun k hk => ?_⟩
        rw [A1 _ k (by omega) (by omega) (by omega) (by omega) (by omega) (by omega) (by omega), A1 174 _ (by omega) (by omega) (by omega) (by omega) (by omega) (by omega) (by omega)]
        exact q6 k hk
  · obtain ⟨s1, n1⟩ := n1 ok
    obtain ⟨s2, n2⟩ := n2 (by omega)
    rw [n2, n1]
    exact J7_st hJ s1 s2
/-- a place that both have -/
theorem J7_pl (hJ : J7 h) : ((0 ≤ a ∧ a ≤ 3) ∧ h (tC a) 0 ≠ 0 ∧ 0 ≤ b ∧ 1 ≤ h (tC a) 2 ∧ b ≤ w32 (h (tC a) 2 - 1)) ↔ ((0 ≤ a ∧ a < 4) ∧ h 173 a.toNat ≠ -1 ∧ 0 ≤ b ∧ b < h 173 a.toNat) := by
  by_cases ok : 0 ≤ a ∧ a ≤ 3
  · rcases hJ a.toNat (by omega) with q | ⟨q1, q2, q3, q4, q5, q6⟩
    · have e : h (tC a) 0 = 0 := q.1
      omega
    · have e0 : h (tC a) 0 ≠ 0 := q1
      have e2 : h (tC a) 2 = h 173 a.toNat := q3
      rw [e2, w32_id (by omega) (by omega)]
      omega
  · omega
theorem pr_read (hJ : J7 h) (p1 : CP (zz sl si fm) mX11_read h [(2, 0), (0, a), (0, b)] h1 [(1, v)]) (p2 : CP (zz sl si fm) mX12_read h1 [(2, 169), (0, a), (0, b)] h2 [(1, w)]) : J7 h2 ∧ v = w := by
  obtain ⟨s1, rfl, y1, n1⟩ := c_X11_read p1
  have hJ1 : J7 (uph h 0 0 s1) := J7_st1 hJ
  obtain ⟨s2, rfl, y2, n2⟩ := c_X12_read hJ1.q p2
  refine ⟨J7_st hJ s1 s2, ?_⟩
  have E : ∀ c' k : Nat, c' ≠ 0 → uph h 0 0 s1 c' k = h c' k := fun c' k g => up_ne (by omega)
  rw [E 173 _ (by omega), E 174 _ (by omega)] at y2
  rw [E 173 _ (by omega)] at n2
  have P := J7_pl (a := a) (b := b) hJ
  by_cases ok : (0 ≤ a ∧ a ≤ 3) ∧ h (tC a) 0 ≠ 0 ∧ 0 ≤ b ∧ 1 ≤ h (tC a) 2 ∧ b ≤ w32 (h (tC a) 2 - 1)
  · have ok2 := P.mp ok
    rw [y1 ok, y2 ok2]
    rcases hJ a.toNat (by omega) with q | ⟨q1, q2, q3, q4, q5, q6⟩
    · omega
    · exact q6 b.toNat (by omega)
  · rw [n1 ok, n2 (fun z => ok (P.mpr z))]
theorem pr_write (hJ : J7 h) (p1 : CP (zz sl si fm) mX11_write h [(2, 0), (0, a), (0, b), (1, x)] h1 [(0, v)]) (p2 : CP (zz sl si fm) mX12_write h1 [(2, 169), (0, a), (0, b), (1, x)] h2 [(0, w)]) : J7 h2 := by
  obtain ⟨y1, n1⟩ := c_X11_write p1
  have P := J7_pl (a := a) (b := b) hJ
  by_cases ok : (0 ≤ a ∧ a ≤ 3) ∧ h (tC a) 0 ≠ 0 ∧ 0 ≤ b ∧ 1 ≤ h (tC a) 2 ∧ b ≤ w32 (h (tC a) 2 - 1)
  · have ok2 := P.mp ok
    obtain ⟨s1, y1⟩ := y1 ok
    subst y1
    generalize ha : a.toNat = A at *
    have e1 : tC a = 95 + 2 * A := by unfold tC; rw [ha]
    have e2 : cC a = 96 + 2 * A := by unfold cC; rw [ha]
    rw [e1, e2] at p2
    have hA : A < 4 := by omega
    have Q := hJ A hA
    have E : ∀ c' k : Nat, c' ≠ 0 → c' ≠ 96 + 2 * A → uph (uph h (96 + 2 * A) b.toNat (zcut (h (95 + 2 * A) 1) x)) 0 0 s1 c' k = h c' k := fun c' k g1 g2 => by rw [up_ne (by omega), up_ne (by omega)]
    obtain ⟨y2, -⟩ := c_X12_write (fun t ht => by rw [E 173 t (by omega) (by omega)]; exact hJ.q t ht) p2
    rw [ha, E 173 _ (by omega) (by omega), E 172 _ (by omega) (by omega)] at y2
    obtain ⟨s2, y2⟩ := y2 ok2
    rw [y2]
    intro t ht
    have G : ∀ c' k : Nat, c' ≠ 0 → c' ≠ 169 → (c' = 96 + 2 * A → k ≠ b.toNat) → (c' = 174 → k ≠ 60 * A + b.toNat) → uph (uph (uph (uph h (96 + 2 * A) b.toNat (zcut (h (95 + 2 * A) 1) x)) 0 0 s1) 174 (60 * A + b.toNat) (zcut (h 172 A) x)) 169 2 s2 c' k = h c' k := fun c' k g1 g2 g3 g4 => by rw [up_ne (by omega), up_ne (by omega), up_ne (by omega), up_ne (by omega)]
    have J := hJ t ht
    rw [G _ 0 (by omega) (by omega) (by omega) (by omega), G _ 1 (by omega) (by omega) (by omega) (by omega), G _ 2 (by omega) (by omega) (by omega) (by omega), G 172 t (by omega) (by omega) (by omega) (by omega), G 173 t (by omega) (by omega) (by omega) (by omega)]
    rcases J with q | ⟨q1, q2, q3, q4, q5, q6⟩
    · exact Or.inl q
    · refine Or.inr ⟨q1, q2, q3, q4, q5, fun k hk => ?_⟩
      by_cases eq : t = A ∧ k = b.toNat
      · obtain ⟨rfl, rfl⟩ := eq
        rw [up_ne (by omega), up_ne (by omega), up_ne (by omega), up_sm, up_ne (by omega), up_sm, q2]
      · rw [G _ k (by omega) (by omega) (by omega) (by omega), G 174 _ (by omega) (by omega) (by omega) (by omega)]
        exact q6 k hk
  · obtain ⟨s1, n1⟩ := n1 ok
    subst n1
    have hJ1 : J7 (uph h 0 0 s1) := J7_st1 hJ
    obtain ⟨-, n2⟩ := c_X12_write hJ1.q p2
    rw [up_ne (by omega)] at n2
    obtain ⟨s2, n2⟩ := n2 (fun z => ok (P.mpr z))
    rw [n2]
    exact J7_st hJ s1 s2
theorem pr_read7 (hJ : J7 h) (p1 : CP (zz sl si fm) mX11_read h [(2, 0), (0, a), (0, b)] h1 [(1, v)]) (p2 : CP (zz sl si fm) mX12_read h1 [(2, 169), (0, a), (0, b)] h2 [(1, w)]) : J7 h2 := (pr_read hJ p1 p2).1
theorem pr_pour8 (hJ : J7 h) (hb : b ≤ 2147483647) (hd : d ≤ 2147483647) (he : e ≤ 2147483647) (p1 : CP (zz sl si fm) mX11_pour h [(2, 0), (0, a), (0, b), (0, c), (0, d), (0, e)] h1 [(0, v)]) (p2 : CP (zz sl si fm) mX12_pour h1 [(2, 169), (0, a), (0, b), (0, c), (0, d), (0, e)] h2 [(0, w)]) : J7 h2 ∧ v = w := by
  obtain ⟨y1, n1⟩ := c_X11_pour p1
  have P : ((0 ≤ a ∧ a ≤ 3) ∧ (0 ≤ c ∧ c ≤ 3) ∧ 0 ≤ b ∧ 0 ≤ d ∧ 0 ≤ e ∧ h (tC a) 0 ≠ 0 ∧ h (tC c) 0 ≠ 0 ∧ h (tC a) 1 = h (tC c) 1 ∧ e ≤ h (tC a) 2 ∧ b ≤ w32 (h (tC a) 2 - e) ∧ e ≤ h (tC c) 2 ∧ d ≤ w32 (h (tC c) 2 - e)) ↔ ((0 ≤ a ∧ a < 4) ∧ (0 ≤ c ∧ c < 4) ∧ 0 ≤ b ∧ 0 ≤ d ∧ 0 ≤ e ∧ h 173 a.toNat ≠ -1 ∧ h 173 c.toNat ≠ -1 ∧ h 172 a.toNat = h 172 c.toNat ∧ e ≤ w32 (h 173 a.toNat - b) ∧ e ≤ w32 (h 173 c.toNat - d)) := by
    by_cases ok : (0 ≤ a ∧ a ≤ 3) ∧ (0 ≤ c ∧ c ≤ 3) ∧ 0 ≤ b ∧ 0 ≤ d ∧ 0 ≤ e
    · rcases hJ a.toNat (by omega) with q | ⟨q1, q2, q3, q4, q5, q6⟩
      · have e : h (tC a) 0 = 0 := q.1
        omega
      · rcases hJ c.toNat (by omega) with r | ⟨r1, r2, r3, r4, r5, r6⟩
        · have e : h (tC c) 0 = 0 := r.1
          omega
        · have e0 : h (tC a) 0 ≠ 0 := q1
          have e1 : h (tC a) 1 = h 172 a.toNat := q2
          have e2 : h (tC a) 2 = h 173 a.toNat := q3
          have f0 : h (tC c) 0 ≠ 0 := r1
          have f1 : h (tC c) 1 = h 172 c.toNat := r2
          have f2 : h (tC c) 2 = h 173 c.toNat := r3
          rw [e1, e2, f1, f2, w32_id (z := h 173 a.toNat - e) (by omega) (by omega), w32_id (z := h 173 c.toNat - e) (by omega) (by omega), w32_id (z := h 173 a.toNat - b) (by omega) (by omega), w32_id (z := h 173 c.toNat - d) (by omega) (by omega)]
          omega
    · omega
  by_cases ok : ((0 ≤ a ∧ a < 4) ∧ (0 ≤ c ∧ c < 4) ∧ 0 ≤ b ∧ 0 ≤ d ∧ 0 ≤ e ∧ h 173 a.toNat ≠ -1 ∧ h 173 c.toNat ≠ -1 ∧ h 172 a.toNat = h 172 c.toNat ∧ e ≤ w32 (h 173 a.toNat - b) ∧ e ≤ w32 (h 173 c.toNat - d))
  · obtain ⟨⟨s1, y1⟩, v1⟩ := y1 (P.mpr ok)
    subst y1
    have qa := hJ.q a.toNat (by omega)
    have qc := hJ.q c.toNat (by omega)
    have wa : w32 (h 173 a.toNat - b) = h 173 a.toNat - b := w32_id (by omega) (by omega)
    have wc : w32 (h 173 c.toNat - d) = h 173 c.toNat - d := w32_id (by omega) (by omega)
    have e2 : cC a = 96 + 2 * a.toNat := rfl
    have f2 : cC c = 96 + 2 * c.toNat := rfl
    rw [e2, f2] at p2
    have E : ∀ c' k : Nat, c' ≠ 0 → c' ≠ 96 + 2 * c.toNat → uph (cph h (96 + 2 * a.toNat) (96 + 2 * c.toNat) b.toNat d.toNat e.toNat) 0 0 s1 c' k = h c' k := fun c' k g1 g2 => by rw [up_ne (by omega), cpx_ne (by omega)]
    obtain ⟨y2, -⟩ := c_X12_pour (fun t ht => by rw [E 173 t (by omega) (by omega)]; exact hJ.q t ht) hb hd p2
    rw [E 173 _ (by omega) (by omega), E 173 _ (by omega) (by omega), E 172 _ (by omega) (by omega), E 172 _ (by omega) (by omega)] at y2
    obtain ⟨⟨s2, y2⟩, v2⟩ := y2 ok
    rw [y2]
    refine ⟨?_, by omega⟩
    intro t ht
    have G : ∀ c' k : Nat, c' ≠ 0 → c' ≠ 169 → (c' = 96 + 2 * c.toNat → ¬ (d.toNat ≤ k ∧ k < d.toNat + e.toNat)) → (c' = 174 → ¬ (60 * c.toNat + d.toNat ≤ k ∧ k < 60 * c.toNat + d.toNat + e.toNat)) → uph (cph (uph (cph h (96 + 2 * a.toNat) (96 + 2 * c.toNat) b.toNat d.toNat e.toNat) 0 0 s1) 174 174 (60 * a.toNat + b.toNat) (60 * c.toNat + d.toNat) e.toNat) 169 2 s2 c' k = h c' k := fun c' k g1 g2 g3 g4 => by rw [up_ne (by omega), cpx_ne (by omega), up_ne (by omega), cpx_ne (by omega)]
    have J := hJ t ht
    rw [G _ 0 (by omega) (by omega) (by omega) (by omega), G _ 1 (by omega) (by omega) (by omega) (by omega), G _ 2 (by omega) (by omega) (by omega) (by omega), G 172 t (by omega) (by omega) (by omega) (by omega), G 173 t (by omega) (by omega) (by omega) (by omega)]
    rcases J with q | ⟨q1, q2, q3, q4, q5, q6⟩
    · exact Or.inl q
    · refine Or.inr ⟨q1, q2, q3, q4, q5, fun k hk => ?_⟩
      by_cases eq : t = c.toNat ∧ d.toNat ≤ k ∧ k < d.toNat + e.toNat
      · obtain ⟨et, g1, g2⟩ := eq
        rw [up_ne (by omega), cpx_ne (by omega), up_ne (by omega), et, cpx_in g1 g2, up_ne (by omega), cpx_in (by omega) (by omega), up_ne (by omega), cpx_ne (by omega)]
        rcases hJ a.toNat (by omega) with r | ⟨r1, r2, r3, r4, r5, r6⟩
        · omega
        · rw [r6 (b.toNat + (k - d.toNat)) (by omega)]
          congr 1
          omega
      · rw [G _ k (by omega) (by omega) (by omega) (by omega), G 174 _ (by omega) (by omega) (by omega) (by omega)]
        exact q6 k hk
  · obtain ⟨⟨s1, n1⟩, v1⟩ := n1 (fun z => ok (P.mp z))
    subst n1
    have hJ1 : J7 (uph h 0 0 s1) := J7_st1 hJ
    obtain ⟨-, n2⟩ := c_X12_pour hJ1.q hb hd p2
    have E : ∀ c' k : Nat, c' ≠ 0 → uph h 0 0 s1 c' k = h c' k := fun c' k g => up_ne (by omega)
    rw [E 173 _ (by omega), E 173 _ (by omega), E 172 _ (by omega), E 172 _ (by omega)] at n2
    obtain ⟨⟨s2, n2⟩, v2⟩ := n2 ok
    rw [n2]
    exact ⟨J7_st hJ s1 s2, by omega⟩
theorem pr_pour (hJ : J7 h) (hb : b ≤ 2147483647) (hd : d ≤ 2147483647) (he : e ≤ 2147483647) (p1 : CP (zz sl si fm) mX11_pour h [(2, 0), (0, a), (0, b), (0, c), (0, d), (0, e)] h1 [(0, v)]) (p2 : CP (zz sl si fm) mX12_pour h1 [(2, 169), (0, a), (0, b), (0, c), (0, d), (0, e)] h2 [(0, w)]) : J7 h2 := (pr_pour8 hJ hb hd he p1 p2).1
end PR
