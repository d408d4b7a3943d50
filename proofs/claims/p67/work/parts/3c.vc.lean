/-! WHAT HOLDS AT A RETURN, step by step: if a plain run comes to a return, then .. -/
def vcB (c a b : Prop) : Prop := (c → a) ∧ (¬ c → b)
def vcA (c a : Prop) : Prop := c → a
def vcC (Z : ZP) (C : MR) (h : PH) (as : List ZV) (k : PH → List ZV → Prop) : Prop := match C.2.2.2.1 with
  | none => ∀ h', CP Z C h as h' [] → k h' []
  | some .long => ∀ h' v, CP Z C h as h' [(1, v)] → R64 v → k h' [(1, v)]
  | some (.object _) => ∀ h' v, CP Z C h as h' [v] → k h' [v]
  | some .boolean => ∀ h' v, CP Z C h as h' [(0, v)] → v = 0 ∨ v = 1 → k h' [(0, v)]
  | some _ => ∀ h' v, CP Z C h as h' [(0, v)] → R32 v → k h' [(0, v)]
theorem vcC_ok {Z : ZP} {C : MR} {h : PH} {as : List ZV} {k : PH → List ZV → Prop} (H : vcC Z C h as k) {h' : PH} {r : List ZV} (hc : CP Z C h as h' r) : k h' r := by
  have hc' := hc
  obtain ⟨f, hf⟩ := hc
  match f, hf with
  | f + 1, hf =>
    obtain ⟨-, n, pc', lv', -, ins, -, hk⟩ := hf
    unfold vcC at H
    cases ins <;> first | exact hk.elim | skip
    case ireturn =>
      obtain ⟨x, rfl, e1, e⟩ := hk
      rcases e with e | ⟨e, e2⟩ | e | e <;> rw [e] at H
      · exact H h' x hc' e1
      · exact H h' x hc' e2
      · exact H h' x hc' e1
      · exact H h' x hc' e1
    case lreturn =>
      obtain ⟨x, rfl, e1, e⟩ := hk
      rw [e] at H
      exact H h' x hc' e1
    case areturn =>
      obtain ⟨x, rfl, n, e⟩ := hk
      rw [e] at H
      exact H h' x hc'
    case return_ =>
      obtain ⟨rfl, e⟩ := hk
      rw [e] at H
      exact H h' hc'
/-- the places of A are among those of lv -/
def zsb : ZL → ZL → Prop
  | [], _ => True
  | q :: t, lv => zlk lv q.1 = some q.2 ∧ zsb t lv
def zin (A lv : ZL) : Prop := ∀ q ∈ A, zlk lv q.1 = some q.2
theorem zsb_in : ∀ {A lv : ZL}, zsb A lv → zin A lv
  | [], _, _, q, h => by cases h
  | p :: t, lv, hs, q, h => by
    rcases List.mem_cons.mp h with rfl | h
    · exact hs.1
    · exact zsb_in hs.2 q h
theorem zlk_in {i : Nat} {v : ZV} : ∀ {A : ZL}, zlk A i = some v → (i, v) ∈ A
  | [], h => by cases h
  | q :: t, h => by
    rw [zlk_cons] at h
    cases hb : Nat.beq q.1 i with
    | true =>
      rw [hb] at h
      have e := bb_eq hb
      have e2 : q.2 = v := Option.some.inj h
      rw [← e, ← e2]
      exact List.mem_cons_self
    | false =>
      rw [hb] at h
      exact List.mem_cons_of_mem _ (zlk_in h)
theorem zfl_in {p : Nat × ZV → Bool} {q : Nat × ZV} : ∀ {A : ZL}, q ∈ zfl p A → q ∈ A ∧ p q = true
  | [], h => by cases h
  | x :: t, h => by
    rw [zfl_cons] at h
    cases hp : p x with
    | true =>
      rw [hp] at h
      rcases List.mem_cons.mp h with rfl | h
      · exact ⟨List.mem_cons_self, hp⟩
      · exact ⟨List.mem_cons_of_mem _ (zfl_in h).1, (zfl_in h).2⟩
    | false =>
      rw [hp] at h
      exact ⟨List.mem_cons_of_mem _ (zfl_in h).1, (zfl_in h).2⟩
theorem zin.sto {A lv : ZL} (h : zin A lv) {p : Nat × ZV → Bool} {k : Nat} (hp : ∀ q, p q = true → q.1 ≠ k) (v : ZV) : zin ((k, v) :: zfl p A) ((k, v) :: zfl p lv) := fun q hq => by
  rw [zlk_cons]
  rcases List.mem_cons.mp hq with rfl | hq
  · show (bif Nat.beq k k then _ else _) = _
    rw [bb_rf]; rfl
  · obtain ⟨a, b⟩ := zfl_in hq
    show (bif Nat.beq k q.1 then _ else _) = _
    rw [bb_nb (fun z => hp q b z.symm)]
    exact zlk_fl b (h q a)
theorem zk1_ne {k : Nat} (q : Nat × ZV) (h : zk1 k q = true) : q.1 ≠ k := znq (bb_and h).1
theorem zk2_ne {k : Nat} (q : Nat × ZV) (h : zk2 k q = true) : q.1 ≠ k := znq (bb_and h).1
theorem zlocs_ge : ∀ (as : List ZV) (i : Nat), ∀ q ∈ z_locs i as, i ≤ q.1
  | [], _, q, hq => by cases hq
  | v :: r, i, q, hq => by
    have hq : q ∈ (i, v) :: z_locs (bif Nat.beq v.1 1 then i + 2 else i + 1) r := hq
    rcases List.mem_cons.mp hq with rfl | hq
    · exact Nat.le_refl _
    · have := zlocs_ge r _ q hq
      cases hb : Nat.beq v.1 1 with
      | true => rw [hb] at this; simp only [cond_true] at this; omega
      | false => rw [hb] at this; simp only [cond_false] at this; omega
theorem zlocs_in (as : List ZV) (i : Nat) : zin (z_locs i as) (z_locs i as) := by
  induction as generalizing i with
  | nil => intro q hq; cases hq
  | cons v r ih =>
    intro q hq
    have hq : q ∈ (i, v) :: z_locs (bif Nat.beq v.1 1 then i + 2 else i + 1) r := hq
    show zlk ((i, v) :: z_locs (bif Nat.beq v.1 1 then i + 2 else i + 1) r) q.1 = some q.2
    rw [zlk_cons]
    rcases List.mem_cons.mp hq with rfl | hq
    · show (bif Nat.beq i i then _ else _) = _
      rw [bb_rf]; rfl
    · have g := zlocs_ge r _ q hq
      have g2 : i ≠ q.1 := by
        cases hb : Nat.beq v.1 1 with
        | true => rw [hb] at g; simp only [cond_true] at g; omega
        | false => rw [hb] at g; simp only [cond_false] at g; omega
      show (bif Nat.beq i q.1 then _ else _) = _
      rw [bb_nb g2]
      exact ih _ q hq
noncomputable def vc (Z : ZP) (cut : Nat → Bool) (K : Nat → PH → ZL → List ZV → Prop) (Q : PH → List ZV → Prop) (M : MR) (n : Nat) : Nat → List ME → PH → ZL → List ZV → Prop := Nat.rec (motive := fun _ => Nat → List ME → PH → ZL → List ZV → Prop) (fun _ _ _ _ _ => False) (fun _ ih pc cd h lv st => lcr False cd (fun e tl => gdr False (Nat.beq e.1 pc) (bif Nat.ble 22 e.2.1 && Nat.ble e.2.1 25 then Q h st else z_st (R := Prop) False vcB vcA (vcC Z) Z.2.2.2.1 Z.1 Z.2.1 Z.2.2.1 Z.2.2.2.2 mth e h lv st (fun h' lv' st' => bif cut (e.1 + e.2.2.1) then K (e.1 + e.2.2.1) h' lv' st' else ih (e.1 + e.2.2.1) tl h' lv' st') (fun t h' lv' st' => bif cut t then K t h' lv' st' else ih t (ax_jmp M.2.2.2.2.2.2 t) h' lv' st')))) n
section VC
variable {Z : ZP} {cut : Nat → Bool} {K : Nat → PH → ZL → List ZV → Prop} {Q : PH → List ZV → Prop} {M : MR}
theorem vb0 {G : Prop} {op : Nat} {lk : List Nat} {l1 l2 : ZL} {st : List ZV} {k1 k2 : ZL → List ZV → Prop} (hl : zin l2 l1) (hk : ∀ m1 m2 st, zin m2 m1 → k1 m1 st → k2 m2 st → G) (H1 : z_b0 (R := Prop) False op lk l1 st k1) (H2 : z_b0 (R := Prop) False op lk l2 st k2) : G := by
  unfold z_b0 z_psh at H1 H2
  cases b1 : Nat.ble op 3 with
  | true =>
    rw [b1] at H1 H2
    simp only [cond_true] at H1 H2
    cases b2 : Nat.beq op 0 with
    | true =>
      rw [b2] at H1 H2
      simp only [cond_true] at H1 H2
      match lk, H1, H2 with
      | t :: n :: _, H1, H2 =>
        have H1 : (bif Nat.beq t 0 then k1 l1 ((0, z32 n) :: st) else bif Nat.beq t 1 then k1 l1 ((1, z64 n) :: st) else k1 l1 ((6, Int.ofNat n) :: st)) := H1
        have H2 : (bif Nat.beq t 0 then k2 l2 ((0, z32 n) :: st) else bif Nat.beq t 1 then k2 l2 ((1, z64 n) :: st) else k2 l2 ((6, Int.ofNat n) :: st)) := H2
        cases c1 : Nat.beq t 0 with
        | true => rw [c1] at H1 H2; exact hk _ _ _ hl H1 H2
        | false =>
          rw [c1] at H1 H2
          cases c2 : Nat.beq t 1 with
          | true => rw [c2] at H1 H2; exact hk _ _ _ hl H1 H2
          | false => rw [c2] at H1 H2; exact hk _ _ _ hl H1 H2
    | false =>
      rw [b2] at H1 H2
      simp only [cond_false] at H1 H2
      match lk, H1, H2 with
      | i :: _, H1, H2 =>
        have H1 : obr False (zlk l1 i) (fun v => gdr False ((bif Nat.beq op 1 then ztI else bif Nat.beq op 2 then ztL else ztR) v.1) (k1 l1 (v :: st))) := H1
        have H2 : obr False (zlk l2 i) (fun v => gdr False ((bif Nat.beq op 1 then ztI else bif Nat.beq op 2 then ztL else ztR) v.1) (k2 l2 (v :: st))) := H2
        cases hv : zlk l2 i with
        | none => rw [hv] at H2; exact H2.elim
        | some v =>
          rw [hv] at H2
          rw [hl _ (zlk_in hv)] at H1
          have H1 : gdr False ((bif Nat.beq op 1 then ztI else bif Nat.beq op 2 then ztL else ztR) v.1) (k1 l1 (v :: st)) := H1
          have H2 : gdr False ((bif Nat.beq op 1 then ztI else bif Nat.beq op 2 then ztL else ztR) v.1) (k2 l2 (v :: st)) := H2
          cases hg : ((bif Nat.beq op 1 then ztI else bif Nat.beq op 2 then ztL else ztR) v.1) with
          | false => rw [hg] at H1; exact H1.elim
          | true => rw [hg] at H1 H2; exact hk _ _ _ hl H1 H2
  | false =>
    rw [b1] at H1 H2
    simp only [cond_false] at H1 H2
    cases b2 : Nat.ble op 6 with
    | true =>
      rw [b2] at H1 H2
      simp only [cond_true] at H1 H2
      match lk, st, H1, H2 with
      | i :: _, v :: r, H1, H2 =>
        have H1 : gdr False (bif Nat.beq op 4 then ztI v.1 else bif Nat.beq op 5 then ztL v.1 else ztR v.1) (k1 ((i, v) :: zfl (bif Nat.beq op 5 then zk2 i else zk1 i) l1) r) := H1
        have H2 : gdr False (bif Nat.beq op 4 then ztI v.1 else bif Nat.beq op 5 then ztL v.1 else ztR v.1) (k2 ((i, v) :: zfl (bif Nat.beq op 5 then zk2 i else zk1 i) l2) r) := H2
        cases hg : (bif Nat.beq op 4 then ztI v.1 else bif Nat.beq op 5 then ztL v.1 else ztR v.1) with
        | false => rw [hg] at H1; exact H1.elim
        | true =>
          rw [hg] at H1 H2
          refine hk _ _ _ (hl.sto (fun q hq => ?_) v) H1 H2
          cases h5 : Nat.beq op 5 with
          | true => rw [h5] at hq; exact zk2_ne q hq
          | false => rw [h5] at hq; exact zk1_ne q hq
      | i :: _, [], H1, H2 => exact H1.elim
    | false =>
      rw [b2] at H1 H2
      simp only [cond_false] at H1 H2
      match lk, H1, H2 with
      | i :: n :: _, H1, H2 =>
        have H1 : obr False (zlk l1 i) (fun v => gdr False (Nat.beq v.1 0) (k1 ((i, (0, w32 (v.2 + z32 n))) :: zfl (zk1 i) l1) st)) := H1
        have H2 : obr False (zlk l2 i) (fun v => gdr False (Nat.beq v.1 0) (k2 ((i, (0, w32 (v.2 + z32 n))) :: zfl (zk1 i) l2) st)) := H2
        cases hv : zlk l2 i with
        | none => rw [hv] at H2; exact H2.elim
        | some v =>
          rw [hv] at H2
          rw [hl _ (zlk_in hv)] at H1
          have H1 : gdr False (Nat.beq v.1 0) (k1 ((i, (0, w32 (v.2 + z32 n))) :: zfl (zk1 i) l1) st) := H1
          have H2 : gdr False (Nat.beq v.1 0) (k2 ((i, (0, w32 (v.2 + z32 n))) :: zfl (zk1 i) l2) st) := H2
          cases hg : Nat.beq v.1 0 with
          | false => rw [hg] at H1; exact H1.elim
          | true => rw [hg] at H1 H2; exact hk _ _ _ (hl.sto (fun q hq => zk1_ne q hq) _) H1 H2
/-- one step of a run beside one step of what is to hold -/
theorem vc_step {f : Nat} (hM : Mgd M) {n pc : Nat} {e : ME} {tl : List ME} {h : PH} {lv A : ZL} {st : List ZV} {s1 : ZS} (he : e ∈ M.2.2.2.2.2.2) (htl : ∀ x ∈ tl, x ∈ M.2.2.2.2.2.2) (hpc : e.1 = pc) (hA : zin A lv) (hz : zSt Z (Zc Z f) M (pc, h, lv, st) s1)
    (hv : z_st (R := Prop) False vcB vcA (vcC Z) Z.2.2.2.1 Z.1 Z.2.1 Z.2.2.1 Z.2.2.2.2 mth e h A st (fun h' lv' st' => bif cut (e.1 + e.2.2.1) then K (e.1 + e.2.2.1) h' lv' st' else vc Z cut K Q M n (e.1 + e.2.2.1) tl h' lv' st') (fun t h' lv' st' => bif cut t then K t h' lv' st' else vc Z cut K Q M n t (ax_jmp M.2.2.2.2.2.2 t) h' lv' st')) :
    ∃ B, zin B s1.2.2.1 ∧ ((cut s1.1 = true ∧ K s1.1 s1.2.1 B s1.2.2.2) ∨ (∃ cd, (∀ x ∈ cd, x ∈ M.2.2.2.2.2.2) ∧ vc Z cut K Q M n s1.1 cd s1.2.1 B s1.2.2.2)) := by
  obtain ⟨e', he', hpc', hz'⟩ := hz
  have hee := hM.2 e' he' e he (by rw [hpc', hpc])
  subst hee
  subst hpc
  have FIN : ∀ (t : Nat) (cd : List ME) (m1 m2 : ZL) (h1 : PH) (st1 : List ZV), (∀ x ∈ cd, x ∈ M.2.2.2.2.2.2) → zin m2 m1 → s1 = (t, h1, m1, st1) → (bif cut t then K t h1 m2 st1 else vc Z cut K Q M n t cd h1 m2 st1) → ∃ B, zin B s1.2.2.1 ∧ ((cut s1.1 = true ∧ K s1.1 s1.2.1 B s1.2.2.2) ∨ (∃ cd, (∀ x ∈ cd, x ∈ M.2.2.2.2.2.2) ∧ vc Z cut K Q M n s1.1 cd s1.2.1 B s1.2.2.2)) := fun t cd m1 m2 h1 st1 a1 a2 a3 a4 => by
    subst a3
    refine ⟨m2, a2, ?_⟩
    cases hc : cut t with
    | true => rw [hc] at a4; exact Or.inl ⟨rfl, a4⟩
    | false => rw [hc] at a4; exact Or.inr ⟨cd, a1, a4⟩
  refine z_st_pal (Rl := fun a b : Prop => a → b → ∃ B, zin B s1.2.2.1 ∧ ((cut s1.1 = true ∧ K s1.1 s1.2.1 B s1.2.2.2) ∨ (∃ cd, (∀ x ∈ cd, x ∈ M.2.2.2.2.2.2) ∧ vc Z cut K Q M n s1.1 cd s1.2.1 B s1.2.2.2))) (fun h _ => h.elim) (fun c x1 x2 y1 y2 hx hy a b => a.elim (fun q => hx q.2 (b.1 q.1)) (fun q => hy q.2 (b.2 q.1))) (fun c x1 x2 hx a b => hx a.2 (b a.1)) (fun C h as k1 k2 hk a b => by
    obtain ⟨h', r, a1, a2⟩ := a
    exact hk h' r a2 (vcC_ok b ⟨f, a1⟩)) (fun a b => vb0 hA (fun m1 m2 st' z1 z2 z3 => FIN _ tl m1 m2 h st' htl z1 z2 z3) a b) (fun h' st' a b => FIN _ tl lv A h' st' htl hA a b) (fun t h' st' a b => FIN t _ lv A h' st' (ax_jmp_in _ _) hA a b) hz' hv
theorem rtz_op (hM : Mgd M) {e : ME} (he : e ∈ M.2.2.2.2.2.2) {st : List ZV} (hr : rtz M e.1 st) : (Nat.ble 22 e.2.1 && Nat.ble e.2.1 25) = true := by
  obtain ⟨ins, hd, hk⟩ := hr
  have hok := hM.1 e he
  obtain ⟨pc0, op, len, lk, ins0⟩ := e
  unfold eok at hok
  have k1 := bb_and hok
  have k2 := bb_and k1.2
  have hdg : decode M.2.1 pc0 = .ok (ins0, len) := of_decide_eq_true k1.1
  have hop : op = ax_op ins0 := bb_eq k2.1
  have hd : decode M.2.1 pc0 = .ok (ins, 1) := hd
  rw [hd] at hdg
  cases hdg
  subst hop
  cases ins <;> first | (exact hk.elim) | rfl
theorem op_rtz {cr : CRl} (hM : Mgd M) {e : ME} (he : e ∈ M.2.2.2.2.2.2) {h : PH} {lv : ZL} {st : List ZV} {s1 : ZS} (ho : (Nat.ble 22 e.2.1 && Nat.ble e.2.1 25) = true) (H : zSt Z cr M (e.1, h, lv, st) s1) : False := by
  obtain ⟨e', he', hpc', hz'⟩ := H
  have hee := hM.2 e' he' e he hpc'
  subst hee
  have w := bb_and ho
  have a := bb_le w.1
  have b := bb_le w.2
  obtain ⟨pc0, op, len, lk, ins0⟩ := e'
  have a : 22 ≤ op := a
  have b : op ≤ 25 := b
  rcases (show op = 22 ∨ op = 23 ∨ op = 24 ∨ op = 25 by omega) with rfl | rfl | rfl | rfl <;> exact hz'.elim
theorem vc_ok {f : Nat} (hM : Mgd M) : ∀ (n : Nat) {m pc : Nat} {cd : List ME} {h : PH} {lv A : ZL} {st : List ZV} {s : ZS}, (∀ x ∈ cd, x ∈ M.2.2.2.2.2.2) → zin A lv → vc Z cut K Q M n pc cd h A st → Zn Z (Zc Z f) m M (pc, h, lv, st) s → rtz M s.1 s.2.2.2 → Q s.2.1 s.2.2.2 ∨ ∃ m', m' < m ∧ ∃ pc' h' lv' B st', cut pc' = true ∧ zin B lv' ∧ K pc' h' B st' ∧ Zn Z (Zc Z f) m' M (pc', h', lv', st') s
  | 0, _, _, _, _, _, _, _, _, _, _, H, _, _ => H.elim
  | n + 1, m, pc, cd, h, lv, A, st, s, hcd, hA, H, hZ, hr => by
    match cd, hcd, H with
    | e :: tl, hcd, H =>
      have H2 : gdr False (Nat.beq e.1 pc) (bif Nat.ble 22 e.2.1 && Nat.ble e.2.1 25 then Q h st else z_st (R := Prop) False vcB vcA (vcC Z) Z.2.2.2.1 Z.1 Z.2.1 Z.2.2.1 Z.2.2.2.2 mth e h A st (fun h' lv' st' => bif cut (e.1 + e.2.2.1) then K (e.1 + e.2.2.1) h' lv' st' else vc Z cut K Q M n (e.1 + e.2.2.1) tl h' lv' st') (fun t h' lv' st' => bif cut t then K t h' lv' st' else vc Z cut K Q M n t (ax_jmp M.2.2.2.2.2.2 t) h' lv' st')) := H
      have he := hcd e List.mem_cons_self
      have htl : ∀ x ∈ tl, x ∈ M.2.2.2.2.2.2 := fun x hx => hcd x (List.mem_cons_of_mem _ hx)
      cases hp : Nat.beq e.1 pc with
      | false => rw [hp] at H2; exact H2.elim
      | true =>
        rw [hp] at H2
        have H3 : (bif Nat.ble 22 e.2.1 && Nat.ble e.2.1 25 then Q h st else z_st (R := Prop) False vcB vcA (vcC Z) Z.2.2.2.1 Z.1 Z.2.1 Z.2.2.1 Z.2.2.2.2 mth e h A st (fun h' lv' st' => bif cut (e.1 + e.2.2.1) then K (e.1 + e.2.2.1) h' lv' st' else vc Z cut K Q M n (e.1 + e.2.2.1) tl h' lv' st') (fun t h' lv' st' => bif cut t then K t h' lv' st' else vc Z cut K Q M n t (ax_jmp M.2.2.2.2.2.2 t) h' lv' st')) := H2
        have epc := bb_eq hp
        subst epc
        cases ho : (Nat.ble 22 e.2.1 && Nat.ble e.2.1 25) with
        | true =>
          rw [ho] at H3
          match m, hZ with
          | 0, hZ =>
            have hZ : (e.1, h, lv, st) = s := hZ
            subst hZ
            exact Or.inl H3
          | m + 1, hZ =>
            obtain ⟨s1, a, -⟩ := hZ
            exact (op_rtz hM he ho a).elim
        | false =>
          rw [ho] at H3
          match m, hZ with
          | 0, hZ =>
            have hZ : (e.1, h, lv, st) = s := hZ
            subst hZ
            have := rtz_op hM he hr
            rw [ho] at this
            cases this
          | m + 1, hZ =>
            obtain ⟨s1, a, b⟩ := hZ
            obtain ⟨B, c1, c2⟩ := vc_step hM he htl rfl hA a H3
            obtain ⟨p1, h1, l1, t1⟩ := s1
            rcases c2 with ⟨d1, d2⟩ | ⟨cd', d1, d2⟩
            · exact Or.inr ⟨m, Nat.lt_succ_self m, p1, h1, l1, B, t1, d1, c1, d2, b⟩
            · rcases vc_ok hM n d1 c1 d2 b hr with q | ⟨m', q1, q2⟩
              · exact Or.inl q
              · exact Or.inr ⟨m', Nat.lt_succ_of_lt q1, q2⟩
theorem zin.tr {A B lv : ZL} (h1 : zin A B) (h2 : zin B lv) : zin A lv := fun q hq => h2 q (by have := zlk_in (h1 q hq); exact this)
/-- what holds at cut places holds again at each of them -/
theorem vc_all {f : Nat} (hM : Mgd M) (H : ∀ pc h lv st, cut pc = true → K pc h lv st → ∃ n A, zsb A lv ∧ vc Z cut K Q M n pc (ax_jmp M.2.2.2.2.2.2 pc) h A st) : ∀ (k m : Nat) {pc : Nat} {h : PH} {lv A : ZL} {st : List ZV} {s : ZS}, m < k → cut pc = true → zin A lv → K pc h A st → Zn Z (Zc Z f) m M (pc, h, lv, st) s → rtz M s.1 s.2.2.2 → Q s.2.1 s.2.2.2
  | 0, m, _, _, _, _, _, _, hm, _, _, _, _, _ => absurd hm (Nat.not_lt_zero m)
  | k + 1, m, pc, h, lv, A, st, s, hm, hc, hA, hK, hZ, hr => by
    obtain ⟨n, B, hB, hv⟩ := H pc h A st hc hK
    rcases vc_ok hM n (ax_jmp_in _ _) (zin.tr (zsb_in hB) hA) hv hZ hr with q | ⟨m', q1, pc', h', lv', B', st', q2, q3, q4, q5⟩
    · exact q
    · exact vc_all hM H k m' (by omega) q2 q3 q4 q5 hr
theorem cp_vc {n : Nat} {h h' : PH} {as r : List ZV} (H0 : vc Z cut K Q M n 0 M.2.2.2.2.2.2 h (z_locs 0 as) []) (H : ∀ pc h lv st, cut pc = true → K pc h lv st → ∃ n A, zsb A lv ∧ vc Z cut K Q M n pc (ax_jmp M.2.2.2.2.2.2 pc) h A st) (hc : CP Z M h as h' r) : Q h' r := by
  obtain ⟨f, hf⟩ := hc
  match f, hf with
  | f + 1, hf =>
    obtain ⟨hM, m, pc', lv', a, b⟩ := hf
    rcases vc_ok hM n (fun _ hx => hx) (zlocs_in as 0) H0 a b with q | ⟨m', q1, p1, h1, l1, B, t1, q2, q3, q4, q5⟩
    · exact q
    · exact vc_all hM H (m' + 1) m' (Nat.lt_succ_self _) q2 q3 q4 q5 b
/-- at a loop's head: places by an unknown, what holds of it -/
def lK {α : Type} (A : α → ZL) (J : α → PH → Prop) : Nat → PH → ZL → List ZV → Prop := fun _ hx lv st => st = [] ∧ ∃ a, J a hx ∧ zsb (A a) lv
theorem cp_loop {α : Type} {A : α → ZL} {J : α → PH → Prop} {hd n0 n1 : Nat} {h h' : PH} {as r : List ZV} (H0 : vc Z (fun p => Nat.beq p hd) (lK A J) Q M n0 0 M.2.2.2.2.2.2 h (z_locs 0 as) []) (H1 : ∀ a hx, J a hx → vc Z (fun p => Nat.beq p hd) (lK A J) Q M n1 hd (ax_jmp M.2.2.2.2.2.2 hd) hx (A a) []) (hc : CP Z M h as h' r) : Q h' r := by
  refine cp_vc H0 (fun pc hx lv st hcut hK => ?_) hc
  have e : pc = hd := bb_eq hcut
  subst e
  obtain ⟨rfl, a, hJ, hs⟩ := hK
  exact ⟨n1, A a, hs, H1 a hx hJ⟩
end VC
