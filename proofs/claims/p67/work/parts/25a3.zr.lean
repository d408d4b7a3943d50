/-! PLAIN RUNS, 3: steps, runs, calls -/
/-- what a plain run is told: texts, the script's length and ints, shapes, a value that is not looked into -/
abbrev ZP : Type := (Nat → List Nat) × Nat × (Nat → Int) × SHP × ZV
abbrev CRl : Type := MR → PH → List ZV → PH → List ZV → Prop
def exB (c a b : Prop) : Prop := (c ∧ a) ∨ (¬ c ∧ b)
def exA (c a : Prop) : Prop := c ∧ a
def exC (cr : CRl) (C : MR) (h : PH) (as : List ZV) (k : PH → List ZV → Prop) : Prop := ∃ h' r, cr C h as h' r ∧ k h' r
section ZR
variable (Z : ZP)
/-- one step -/
def zSt (cr : CRl) (M : MR) (s s' : ZS) : Prop := ∃ e ∈ M.2.2.2.2.2.2, e.1 = s.1 ∧ z_st (R := Prop) False exB exA (exC cr) Z.2.2.2.1 Z.1 Z.2.1 Z.2.2.1 Z.2.2.2.2 mth e s.2.1 s.2.2.1 s.2.2.2 (fun h lv st => s' = (s.1 + e.2.2.1, h, lv, st)) (fun t h lv st => s' = (t, h, lv, st))
/-- n steps -/
def Zn (cr : CRl) : Nat → MR → ZS → ZS → Prop
  | 0 => fun _ s s' => s = s'
  | n + 1 => fun M s s' => ∃ s1, zSt Z cr M s s1 ∧ Zn cr n M s1 s'
end ZR
def rokz (ret : Option FieldType) (ins : Instr) (st : List ZV) : Prop := match ins with
  | .ireturn => ∃ x, st = [(0, x)] ∧ R32 x ∧ (ret = some .int ∨ (ret = some .boolean ∧ (x = 0 ∨ x = 1)) ∨ ret = some .byte ∨ ret = some .char)
  | .lreturn => ∃ x, st = [(1, x)] ∧ R64 x ∧ ret = some .long
  | .areturn => ∃ v, st = [v] ∧ ∃ n, ret = some (.object n)
  | .return_ => st = [] ∧ ret = none
  | _ => False
/-- at a return -/
def rtz (M : MR) (pc : Nat) (st : List ZV) : Prop := ∃ ins, decode M.2.1 pc = .ok (ins, 1) ∧ rokz M.2.2.2.1 ins st
section ZR
variable (Z : ZP)
/-- a call, its calls no more than f deep -/
def Zc : Nat → CRl
  | 0 => fun _ _ _ _ _ => False
  | f + 1 => fun C h as h' r => Mgd C ∧ ∃ n pc' lv', Zn Z (Zc f) n C (0, h, z_locs 0 as, []) (pc', h', lv', r) ∧ rtz C pc' r
/-- a call, as deep as it may be -/
def CP (C : MR) (h : PH) (as : List ZV) (h' : PH) (r : List ZV) : Prop := ∃ f, Zc Z f C h as h' r
end ZR
section ZR
variable {Z : ZP}
theorem zSt_mono {c1 c2 : CRl} (hc : ∀ C h as h' r, c1 C h as h' r → c2 C h as h' r) {M : MR} {s s' : ZS} (H : zSt Z c1 M s s') : zSt Z c2 M s s' := by
  obtain ⟨e, he, hpc, hz⟩ := H
  refine ⟨e, he, hpc, ?_⟩
  exact z_st_par (Rl := fun a b : Prop => a → b) (fun h => h) (fun c x1 x2 y1 y2 hx hy h => h.elim (fun q => Or.inl ⟨q.1, hx q.2⟩) (fun q => Or.inr ⟨q.1, hy q.2⟩)) (fun c x1 x2 hx h => ⟨h.1, hx h.2⟩) (fun C h as k1 k2 hk q => by
    obtain ⟨h', r, a, b⟩ := q
    exact ⟨h', r, hc _ _ _ _ _ a, hk _ _ b⟩) (fun _ _ _ h => h) (fun _ _ _ _ h => h) hz
theorem Zn_mono {c1 c2 : CRl} (hc : ∀ C h as h' r, c1 C h as h' r → c2 C h as h' r) {M : MR} : ∀ (n : Nat) {s s' : ZS}, Zn Z c1 n M s s' → Zn Z c2 n M s s'
  | 0, _, _, H => H
  | n + 1, _, _, H => by
    obtain ⟨s1, a, b⟩ := H
    exact ⟨s1, zSt_mono hc a, Zn_mono hc n b⟩
theorem Zc_succ : ∀ (f : Nat) (C : MR) (h : PH) (as : List ZV) (h' : PH) (r : List ZV), Zc Z f C h as h' r → Zc Z (f + 1) C h as h' r
  | 0, _, _, _, _, _, H => H.elim
  | f + 1, C, h, as, h', r, H => by
    obtain ⟨g, n, pc', lv', a, b⟩ := H
    exact ⟨g, n, pc', lv', Zn_mono (Zc_succ f) n a, b⟩
theorem Zc_le {f g : Nat} (hfg : f ≤ g) {C : MR} {h : PH} {as : List ZV} {h' : PH} {r : List ZV} (H : Zc Z f C h as h' r) : Zc Z g C h as h' r := by
  induction hfg with
  | refl => exact H
  | step _ ih => exact Zc_succ _ _ _ _ _ _ ih
theorem Zn_le {f g n : Nat} (hfg : f ≤ g) {M : MR} {s s' : ZS} (H : Zn Z (Zc Z f) n M s s') : Zn Z (Zc Z g) n M s s' := Zn_mono (fun _ _ _ _ _ q => Zc_le hfg q) n H
theorem Zn_add {cr : CRl} {M : MR} : ∀ (n : Nat) {m : Nat} {s s1 s2 : ZS}, Zn Z cr n M s s1 → Zn Z cr m M s1 s2 → Zn Z cr (n + m) M s s2
  | 0, m, s, s1, s2, a, b => by
    have a : s = s1 := a
    subst a
    rw [Nat.zero_add]
    exact b
  | n + 1, m, s, s1, s2, a, b => by
    obtain ⟨s3, c, d⟩ := a
    rw [show n + 1 + m = (n + m) + 1 by omega]
    exact ⟨s3, c, Zn_add n d b⟩
theorem zSt_det {cr : CRl} (hc : ∀ C h as h1 r1 h2 r2, cr C h as h1 r1 → cr C h as h2 r2 → h1 = h2 ∧ r1 = r2) {M : MR} (hM : Mgd M) {s s1 s2 : ZS} (H1 : zSt Z cr M s s1) (H2 : zSt Z cr M s s2) : s1 = s2 := by
  obtain ⟨e, he, hpc, hz⟩ := H1
  obtain ⟨e', he', hpc', hz'⟩ := H2
  have hee := hM.2 e he e' he' (by rw [hpc, hpc'])
  subst hee
  exact z_st_par (Rl := fun a b : Prop => a → b → s1 = s2) (fun h _ => h.elim) (fun c x1 x2 y1 y2 hx hy h h' => h.elim (fun q => h'.elim (fun q' => hx q.2 q'.2) (fun q' => absurd q.1 q'.1)) (fun q => h'.elim (fun q' => absurd q'.1 q.1) (fun q' => hy q.2 q'.2))) (fun c x1 x2 hx h h' => hx h.2 h'.2) (fun C h as k1 k2 hk q q' => by
    obtain ⟨h1, r1, a, b⟩ := q
    obtain ⟨h2, r2, a', b'⟩ := q'
    obtain ⟨rfl, rfl⟩ := hc _ _ _ _ _ _ _ a a'
    exact hk _ _ b b') (fun _ _ _ h h' => h.trans h'.symm) (fun _ _ _ _ h h' => h.trans h'.symm) hz hz'
theorem zSt_rt {cr : CRl} {M : MR} (hM : Mgd M) {s s1 : ZS} (hr : rtz M s.1 s.2.2.2) (H : zSt Z cr M s s1) : False := by
  obtain ⟨e, he, hpc, hz⟩ := H
  obtain ⟨ins, hd, hk⟩ := hr
  have hok := hM.1 e he
  obtain ⟨pc0, op, len, lk, ins0⟩ := e
  unfold eok at hok
  have k1 := bb_and hok
  have k2 := bb_and k1.2
  have hdg : decode M.2.1 pc0 = .ok (ins0, len) := of_decide_eq_true k1.1
  have hop : op = ax_op ins0 := bb_eq k2.1
  have hpc : pc0 = s.1 := hpc
  rw [hpc, hd] at hdg
  cases hdg
  subst hop
  cases ins <;> first | (exact hk.elim) | (exact hz.elim)
theorem Zn_det {cr : CRl} (hc : ∀ C h as h1 r1 h2 r2, cr C h as h1 r1 → cr C h as h2 r2 → h1 = h2 ∧ r1 = r2) {M : MR} (hM : Mgd M) : ∀ (n m : Nat) {s s1 s2 : ZS}, Zn Z cr n M s s1 → Zn Z cr m M s s2 → rtz M s1.1 s1.2.2.2 → rtz M s2.1 s2.2.2.2 → s1 = s2
  | 0, 0, _, _, _, a, b, _, _ => by
    have a := a
    exact Eq.trans (Eq.symm a) b
  | 0, m + 1, s, s1, s2, a, b, r1, r2 => by
    have a : s = s1 := a
    subst a
    obtain ⟨s3, c, -⟩ := b
    exact (zSt_rt hM r1 c).elim
  | n + 1, 0, s, s1, s2, a, b, r1, r2 => by
    have b : s = s2 := b
    subst b
    obtain ⟨s3, c, -⟩ := a
    exact (zSt_rt hM r2 c).elim
  | n + 1, m + 1, s, s1, s2, a, b, r1, r2 => by
    obtain ⟨s3, c, d⟩ := a
    obtain ⟨s4, c', d'⟩ := b
    have e := zSt_det hc hM c c'
    subst e
    exact Zn_det hc hM n m d d' r1 r2
theorem Zc_det : ∀ (f : Nat) (C : MR) (h : PH) (as : List ZV) (h1 : PH) (r1 : List ZV) (h2 : PH) (r2 : List ZV), Zc Z f C h as h1 r1 → Zc Z f C h as h2 r2 → h1 = h2 ∧ r1 = r2
  | 0, _, _, _, _, _, _, _, H, _ => H.elim
  | f + 1, C, h, as, h1, r1, h2, r2, H, H' => by
    obtain ⟨g, n, pc1, lv1, a, b⟩ := H
    obtain ⟨-, m, pc2, lv2, a', b'⟩ := H'
    have e := Zn_det (Zc_det f) g n m a a' b b'
    cases e
    exact ⟨rfl, rfl⟩
theorem CP_det {C : MR} {h : PH} {as : List ZV} {h1 : PH} {r1 : List ZV} {h2 : PH} {r2 : List ZV} (H : CP Z C h as h1 r1) (H' : CP Z C h as h2 r2) : h1 = h2 ∧ r1 = r2 := by
  obtain ⟨f, a⟩ := H
  obtain ⟨g, b⟩ := H'
  exact Zc_det (max f g) C h as h1 r1 h2 r2 (Zc_le (Nat.le_max_left _ _) a) (Zc_le (Nat.le_max_right _ _) b)
end ZR
