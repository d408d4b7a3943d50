/-! SORRIES, turns, NIGHTS of both -/
theorem up_cm {h : PH} {c i j : Nat} {v w : Int} (e : i ≠ j ∨ v = w) : uph (uph h c i v) c j w = uph (uph h c j w) c i v := by
  funext a b
  simp only [up_rd]
  by_cases x : a = c ∧ b = i
  · by_cases y : a = c ∧ b = j
    · rw [if_pos y, if_pos x]; rcases e with e | e; (exact absurd (x.2.symm.trans y.2) e); exact e.symm
    · rw [if_neg y, if_pos x]
      try rw [if_pos x]
  · by_cases y : a = c ∧ b = j
    · rw [if_pos y, if_neg x]
      try rw [if_pos y]
    · rw [if_neg y, if_neg x]
      try rw [if_neg y, if_neg x]
theorem up_idv {h : PH} {c i : Nat} {v : Int} (e : h c i = v) : uph h c i v = h := by
  funext a b
  rw [up_rd]
  by_cases x : a = c ∧ b = i
  · rw [if_pos x, x.1, x.2, e]
  · rw [if_neg x]
theorem zm0 : zmin 99 0 = 0 := by decide
theorem zmi {m x : Int} (h : x ≤ m) : zmin m x = x := by
  unfold zmin
  by_cases c : x < m
  · rw [if_pos c]
  · rw [if_neg c]; omega
theorem bt_n {x : Int} {i : Nat} (h : i < 8) : bt x i = 0 ↔ ¬ bB x i = true := by
  have e : bt x i = if bB x i then 1 else 0 := bt_bB x h
  rw [e]
  cases bB x i <;> simp
theorem so_m9 {g M : PH} (r : RN9 g M) (w : W9 M) {p b : Nat} (hp : (p : Int) < M 0 4) (hb : (b : Int) < M 0 4) (ho : 0 < M 7 (8 * p + b)) : RN9 (soG g p b) (soM M p b) := by
  have h8 := w.1.2.1
  have w1 := w.1.1
  have d1 := r.2.2.2.1 (8 * p + b) (by omega)
  have d2 := r.2.2.2.1 (8 * b + p) (by omega)
  rw [show 67 + (8 * p + b) = 67 + 8 * p + b by omega] at d1
  rw [show 67 + (8 * b + p) = 67 + 8 * b + p by omega] at d2
  have q1 := w.1.2.2.2.2.1 (8 * p + b) (by omega)
  have q2 := w.1.2.2.2.2.1 (8 * b + p) (by omega)
  have ep : ((p : Int)).toNat = p := Int.toNat_natCast p
  have eb : ((b : Int)).toNat = b := Int.toNat_natCast b
  have OW : ∀ v : Int, RN9 (uph g 170 (67 + 8 * p + b) v) (owe M p b v) := fun v => by
    have z := r.ow (x := (p : Int)) (y := (b : Int)) (v := v) (by omega) (by omega)
    rw [ep, eb] at z
    exact z
  have wm : w32 (M 7 (8 * p + b) - 1) = M 7 (8 * p + b) - 1 := w32_id (by omega) (by omega)
  obtain ⟨f1, f2, f3⟩ := (r.2.2.1 b (by omega)).2
  unfold soG soM
  rw [f1, f2, f3, d1, d2, wm, r.1.2.2.1]
  by_cases c1 : bB (M 0 7) b = true
  · rw [if_pos ((bt_B (by omega)).mpr c1), if_pos c1, zm0]
    by_cases c2 : 0 < M 7 (8 * b + p)
    · rw [if_pos c2, if_pos c2, zm0, up_cm (Or.inr rfl)]
      have z := r.ow (x := (b : Int)) (y := (p : Int)) (v := 0) (by omega) (by omega)
      have z2 := z.ow (x := (p : Int)) (y := (b : Int)) (v := 0) (by omega) (by omega)
      rw [ep, eb] at z2
      exact z2
    · rw [if_neg c2, if_neg c2, zmi (by omega)]
      have ne : 8 * p + b ≠ 8 * b + p := fun z => by rw [z] at ho; exact c2 ho
      rw [up_idv (i := 67 + 8 * b + p) (v := 0) (by rw [up_ne (by omega), d2]; omega)]
      exact OW _
  · rw [if_neg (fun z => c1 ((bt_B (by omega)).mp z)), if_neg c1]
    by_cases c2 : bB (M 0 9) b = true
    · rw [if_pos ((bt_B (by omega)).mpr c2), if_pos c2, at_b r h8.2 hb]
      have ab := (w.2.2.1 b hb).1
      have a7 : atL M b < 7 := by unfold atL; omega
      have l := w.2.2.2.2.2 (atL M b) a7
      rw [(r.2.1 (atL M b) a7).2.2, w32_id (by omega) (by omega)]
      by_cases c3 : 9999 ≤ M 15 (atL M b)
      · rw [if_pos c3, up_idv (by rw [(r.2.1 (atL M b) a7).2.2]; unfold zmin; rw [if_neg (by omega)]; omega)]
        exact r
      · rw [if_neg c3, zmi (by omega)]
        exact r.ul a7
    · rw [if_neg (fun z => c2 ((bt_B (by omega)).mp z)), if_neg c2, zmi (by omega)]
      by_cases c3 : ¬ bB (M 0 8) b = true ∨ zrem (M 0 12) 2 = 1
      · rw [if_pos c3, if_pos (c3.elim (fun z => Or.inl ((bt_n (by omega)).mpr z)) Or.inr)]
        exact OW _
      · rw [if_neg c3, if_neg (fun z => c3 (z.elim (fun y => Or.inl ((bt_n (by omega)).mp y)) Or.inr))]
        exact r
theorem ha_b9 {h L : PH} (r : RN9 h L) (w : W9 L) {p : Nat} (hp : (p : Int) < L 0 4) : RN9 (haR h p) (haL L p) := by
  have h8 := w.1.2.1
  have e1 := (r.2.2.1 p (by omega)).2.1
  have eA : amR h p (h 170 1).toNat = amL L p (L 0 4).toNat := by rw [r.1.2.1]; exact am_b9 r w hp _ (by omega)
  have eT := tot_b r w (p := p) (by omega)
  have ab := amL_b (L := L) (p := p) (L 0 4).toNat
  unfold haR haL
  rw [e1, eT, eA]
  by_cases c1 : bB (L 0 7) p = true ∧ 0 < L 8 p
  · rw [if_pos ⟨(bt_B (by omega)).mpr c1.1, c1.2⟩, if_pos c1]
    by_cases c2 : amL L p (L 0 4).toNat = -1
    · rw [if_pos c2, if_pos c2]; exact r
    · rw [if_neg c2, if_neg c2]
      have aw := amL_w (L := L) (p := p) (L 0 4).toNat c2
      have k1 := ((r.2.2.1 (amL L p (L 0 4).toNat).toNat (by omega)).1 (by omega)).1
      have k2 := ((r.2.2.1 p (by omega)).1 hp).1
      rw [k1, k2]
      by_cases c3 : L 11 (amL L p (L 0 4).toNat).toNat = L 11 p
      · rw [if_pos c3, if_pos c3]
        unfold soR soL
        rw [r.1.2.2.2]
        exact so_m9 r.u3 (w.t (by omega)) (by rw [up_ne (by omega)]; exact hp) (by rw [up_ne (by omega)]; omega) (by rw [up_ne (by omega)]; exact aw.1)
      · rw [if_neg c3, if_neg c3, wz_b9 r w hp (by omega)]
        exact r.ua (by omega)
  · rw [if_neg (fun z => c1 ⟨(bt_B (by omega)).mp z.1, z.2⟩), if_neg c1]
    exact r
theorem ni_b9 {h L : PH} (r : RN9 h L) (w : W9 L) : ∀ p : Nat, (p : Int) ≤ L 0 4 → RN9 (niR h p) (niL L p)
  | 0, _ => by
    show RN9 (uph h 170 2 (w32 (h 170 2 + 1))) (uph L 0 12 (w32 (L 0 12 + 1)))
    rw [r.1.2.2.1]
    exact r.u2
  | p + 1, hp => by
    obtain ⟨x, y, z⟩ := niL_w w p (by omega)
    exact ha_b9 (ni_b9 r w p (by omega)) x (by rw [y]; omega)
theorem ns_b9 {h L : PH} (r : RN9 h L) (w : W9 L) : ∀ k : Nat, RN9 (nsR h k) (nsL L k)
  | 0 => r
  | k + 1 => by
    have i := ns_b9 r w k
    obtain ⟨x, y, z⟩ := nsL_w w k
    have h8 := x.1.2.1
    show RN9 (niR (nsR h k) (nsR h k 170 1).toNat) (niL (nsL L k) (nsL L k 0 4).toNat)
    rw [i.1.2.1]
    exact ni_b9 i x _ (by omega)
