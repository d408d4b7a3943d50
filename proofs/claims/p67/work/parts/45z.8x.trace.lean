/-! live(): the steps of a life -/
def hdS (L : PH) (K a b n : Int) : Prop := if K = 19 then ¬ (bB (L 0 7) a.toNat = true ∧ 0 < L 8 a.toNat) else if K = 20 then L 11 a.toNat = b else if b = 60 then L 15 a.toNat < n else if b = 62 then n < L 15 a.toNat else L 15 a.toNat = n
def upt (T : Nat → Int) (o : Nat) (v : Int) : Nat → Int := fun i => if i = o then v else T i
theorem upt_s {T : Nat → Int} {o : Nat} {v : Int} : upt T o v o = v := if_pos rfl
theorem upt_o {T : Nat → Int} {o i : Nat} {v : Int} (h : i ≠ o) : upt T o v i = T i := if_neg h
def same3 (s u : (Int × PH × Int × (Nat → Int) × Int × Int)) : Prop := u.2.1 = s.2.1 ∧ u.2.2.1 = s.2.2.1 ∧ u.2.2.2.2.2 = s.2.2.2.2.2
/-- one place of TALES: place, LAND, draws, turns, done, missed -/
def lstp (Y : PH) (s u : (Int × PH × Int × (Nat → Int) × Int × Int)) : Prop :=
  (0 ≤ s.1 ∧ s.1 < Y 43 2) ∧ (Y 44 s.1.toNat ≠ 22 → s.2.2.2.2.1 < 300 ∧ u.2.2.2.2.1 = s.2.2.2.2.1 + 1) ∧ (Y 44 s.1.toNat = 22 → u.2.2.2.2.1 = s.2.2.2.2.1) ∧
  (Y 44 s.1.toNat = 21 → same3 s u ∧ u.1 = s.1 + 1 ∧ u.2.2.2.1 = upt s.2.2.2.1 s.1.toNat (Y 47 s.1.toNat)) ∧
  (Y 44 s.1.toNat = 22 → same3 s u ∧ u.2.2.2.1 = upt s.2.2.2.1 (Y 48 s.1.toNat).toNat (w32 (s.2.2.2.1 (Y 48 s.1.toNat).toNat - 1)) ∧ (Y 44 (Y 48 s.1.toNat).toNat = 21 ∧ 0 < w32 (s.2.2.2.1 (Y 48 s.1.toNat).toNat - 1) → u.1 = Y 48 s.1.toNat + 1) ∧ (¬ (Y 44 (Y 48 s.1.toNat).toNat = 21 ∧ 0 < w32 (s.2.2.2.1 (Y 48 s.1.toNat).toNat - 1)) → u.1 = s.1 + 1)) ∧
  (Y 44 s.1.toNat = 18 ∨ Y 44 s.1.toNat = 19 ∨ Y 44 s.1.toNat = 20 → same3 s u ∧ u.2.2.2.1 = s.2.2.2.1 ∧ (hdS s.2.1 (Y 44 s.1.toNat) (Y 45 s.1.toNat) (Y 46 s.1.toNat) (Y 47 s.1.toNat) → u.1 = s.1 + 1) ∧ (¬ hdS s.2.1 (Y 44 s.1.toNat) (Y 45 s.1.toNat) (Y 46 s.1.toNat) (Y 47 s.1.toNat) → u.1 = Y 48 s.1.toNat + 1)) ∧
  (Y 44 s.1.toNat = 23 → same3 s u ∧ u.2.2.2.1 = s.2.2.2.1 ∧ u.1 = Y 43 2) ∧
  (Y 44 s.1.toNat = 1 ∨ (10 ≤ Y 44 s.1.toNat ∧ Y 44 s.1.toNat ≤ 14) ∨ Y 44 s.1.toNat = 16 → u.1 = s.1 + 1 ∧ u.2.2.2.1 = s.2.2.2.1 ∧ ∃ v : Int, (v = 0 ∨ v = 1) ∧ W10 u.2.1 ∧ dnL s.2.1 s.2.2.1 (Y 44 s.1.toNat) (Y 45 s.1.toNat) (Y 46 s.1.toNat) (Y 47 s.1.toNat) v u.2.1 u.2.2.1 ∧ u.2.2.2.2.2 = s.2.2.2.2.2 + (1 - v))
def trL (Y : PH) : Nat → (Int × PH × Int × (Nat → Int) × Int × Int) → (Int × PH × Int × (Nat → Int) × Int × Int) → Prop
  | 0, s, u => s = u
  | n + 1, s, u => ∃ t, lstp Y s t ∧ trL Y n t u
theorem trL_r {Y : PH} : ∀ (n : Nat) {s t u : (Int × PH × Int × (Nat → Int) × Int × Int)}, trL Y n s t → lstp Y t u → trL Y (n + 1) s u
  | 0, s, t, u, h, l => by cases h; exact ⟨u, l, rfl⟩
  | n + 1, s, t, u, ⟨r, a, b⟩, l => ⟨r, a, trL_r n b l⟩
/-- nothing comes behind -/
def fin (Y : PH) (s : (Int × PH × Int × (Nat → Int) × Int × Int)) : Prop := ¬ (0 ≤ s.1 ∧ s.1 < Y 43 2) ∨ (Y 44 s.1.toNat ≠ 22 ∧ 300 ≤ s.2.2.2.2.1)
theorem trL_0 {Y : PH} {n : Nat} {s u : (Int × PH × Int × (Nat → Int) × Int × Int)} (h : trL Y n s u) (f : fin Y s) : s = u := by
  match n, h with
  | 0, h => exact h
  | n + 1, ⟨t, l, _⟩ => exact (f.elim (fun q => q l.1) (fun q => absurd (l.2.1 q.1).1 (by omega))).elim
theorem trL_1 {Y : PH} {n : Nat} {s u : (Int × PH × Int × (Nat → Int) × Int × Int)} (h : trL Y n s u) (f : fin Y u) (g : ¬ fin Y s) : ∃ m t, n = m + 1 ∧ lstp Y s t ∧ trL Y m t u := by
  match n, h with
  | 0, h => cases h; exact absurd f g
  | n + 1, ⟨t, l, q⟩ => exact ⟨n, t, rfl, l, q⟩
/-- the LOOP at o is open at k -/
def opk (Y : PH) (k : Int) (o : Nat) : Prop := (o : Int) < k ∧ k ≤ Y 48 o ∧ isO (Y 44 o)
def WYc (L Y : PH) : Prop := 0 ≤ Y 43 2 ∧
  (∀ k : Nat, (k : Int) < Y 43 2 → okw L (Y 44 k) (Y 45 k) (Y 46 k) (Y 47 k)) ∧
  (∀ k : Nat, (k : Int) < Y 43 2 → isO (Y 44 k) → ((k : Int) < Y 48 k ∧ Y 48 k < Y 43 2) ∧ Y 44 (Y 48 k).toNat = 22 ∧ Y 48 (Y 48 k).toNat = (k : Int)) ∧
  (∀ k : Nat, (k : Int) < Y 43 2 → Y 44 k = 22 → (0 ≤ Y 48 k ∧ Y 48 k < (k : Int)) ∧ isO (Y 44 (Y 48 k).toNat) ∧ Y 48 (Y 48 k).toNat = (k : Int)) ∧
  ∀ o p : Nat, (o : Int) < Y 43 2 → isO (Y 44 o) → isO (Y 44 p) → o < p → (p : Int) < Y 48 o → Y 48 p < Y 48 o
section WYC
variable {L Y : PH}
theorem WYc.n0 (w : WYc L Y) : 0 ≤ Y 43 2 := w.1
theorem WYc.ok (w : WYc L Y) : ∀ k : Nat, (k : Int) < Y 43 2 → okw L (Y 44 k) (Y 45 k) (Y 46 k) (Y 47 k) := w.2.1
theorem WYc.op (w : WYc L Y) : ∀ k : Nat, (k : Int) < Y 43 2 → isO (Y 44 k) → ((k : Int) < Y 48 k ∧ Y 48 k < Y 43 2) ∧ Y 44 (Y 48 k).toNat = 22 ∧ Y 48 (Y 48 k).toNat = (k : Int) := w.2.2.1
theorem WYc.cl (w : WYc L Y) : ∀ k : Nat, (k : Int) < Y 43 2 → Y 44 k = 22 → (0 ≤ Y 48 k ∧ Y 48 k < (k : Int)) ∧ isO (Y 44 (Y 48 k).toNat) ∧ Y 48 (Y 48 k).toNat = (k : Int) := w.2.2.2.1
theorem WYc.ne (w : WYc L Y) : ∀ o p : Nat, (o : Int) < Y 43 2 → isO (Y 44 o) → isO (Y 44 p) → o < p → (p : Int) < Y 48 o → Y 48 p < Y 48 o := w.2.2.2.2
end WYC
theorem WY9.c {L Y : PH} (w : WY9 L Y) (z : Y 50 4 = 0) : WYc L Y := by
  obtain ⟨⟨a0, -⟩, a1, -, a3, a4, a5⟩ := w
  have nk : ∀ k, ¬ inK Y k := fun k ⟨i, hi, _⟩ => by omega
  exact ⟨a0, a1, fun k hk ho => a3 k hk ho (nk _), fun k hk h => by obtain ⟨x, y, z, -⟩ := a4 k hk h; exact ⟨x, y, z⟩, fun o p ho h1 h2 h3 h4 => (a5 o p ho h1 (nk _) h2 h3 h4).2⟩
theorem lstp_o {L Y : PH} {s u : (Int × PH × Int × (Nat → Int) × Int × Int)} (w : WYc L Y) (t : lstp Y s u) : (0 ≤ u.1 ∧ u.1 ≤ Y 43 2) ∧ ∀ o : Nat, opk Y u.1 o → (opk Y s.1 o ∧ u.2.2.2.1 o = s.2.2.2.1 o ∧ (Y 44 s.1.toNat = 22 → (o : Int) ≠ Y 48 s.1.toNat)) ∨ ((o : Int) = s.1 ∧ isO (Y 44 s.1.toNat) ∧ (Y 44 s.1.toNat = 21 → u.2.2.2.1 o = Y 47 o)) ∨ (Y 44 s.1.toNat = 22 ∧ (o : Int) = Y 48 s.1.toNat ∧ Y 44 o = 21 ∧ u.2.2.2.1 o = w32 (s.2.2.2.1 o - 1) ∧ 0 < w32 (s.2.2.2.1 o - 1) ∧ opk Y s.1 o) := by
  obtain ⟨k, L1, x, T, d, m⟩ := s
  obtain ⟨k', L2, x', T', d', m'⟩ := u
  obtain ⟨⟨h0, h1⟩, -, -, t21, t22, tw, t23, tr⟩ := t
  simp only [] at h0 h1 t21 t22 tw t23 tr ⊢
  obtain ⟨i, rfl⟩ : ∃ i : Nat, k = (i : Int) := ⟨k.toNat, by omega⟩
  simp only [Int.toNat_natCast] at *
  have ok := w.ok i h1
  have kk := ok.1
  -- one further
  have up : ¬ (Y 44 i = 22) → ∀ o : Nat, opk Y ((i : Int) + 1) o → o ≠ i → opk Y (i : Int) o := fun _ o ⟨a, b, c⟩ hn => ⟨by omega, by omega, c⟩
  by_cases c21 : Y 44 i = 21
  · obtain ⟨-, e, eT⟩ := t21 c21
    subst e; subst eT
    refine ⟨by omega, fun o ho => ?_⟩
    by_cases q : o = i
    · subst q
      exact Or.inr (Or.inl ⟨rfl, Or.inr (Or.inr (Or.inr c21)), fun _ => upt_s⟩)
    · exact Or.inl ⟨up (by omega) o ho q, upt_o q, fun z => by omega⟩
  · by_cases c22 : Y 44 i = 22
    · obtain ⟨-, eT, ea, eb⟩ := t22 c22
      obtain ⟨⟨b0, b1⟩, b2, b3⟩ := w.cl i h1 c22
      have b4 : ((Y 48 i).toNat : Int) = Y 48 i := Int.toNat_of_nonneg b0
      subst eT
      by_cases z : Y 44 (Y 48 i).toNat = 21 ∧ 0 < w32 (T (Y 48 i).toNat - 1)
      · have e := ea z
        subst e
        refine ⟨by omega, fun o ho => ?_⟩
        by_cases q : o = (Y 48 i).toNat
        · subst q
          exact Or.inr (Or.inr ⟨c22, b4, z.1, upt_s, z.2, by omega, by omega, b2⟩)
        · obtain ⟨o1, o2, o3⟩ := ho
          have n := w.ne o (Y 48 i).toNat (by omega) o3 b2 (by omega) (by omega)
          rw [b3] at n
          exact Or.inl ⟨⟨by omega, by omega, o3⟩, upt_o q, fun _ => by omega⟩
      · have e := eb z
        subst e
        refine ⟨by omega, fun o ho => ?_⟩
        obtain ⟨o1, o2, o3⟩ := ho
        have q : o ≠ (Y 48 i).toNat := fun q => by subst q; omega
        have q2 : o ≠ i := fun q => by subst q; clear t21 t22 tw t23 tr; unfold isO at o3; omega
        exact Or.inl ⟨⟨by omega, by omega, o3⟩, upt_o q, fun _ => by omega⟩
    · by_cases cw : Y 44 i = 18 ∨ Y 44 i = 19 ∨ Y 44 i = 20
      · obtain ⟨-, eT, ea, eb⟩ := tw cw
        have io : isO (Y 44 i) := by unfold isO; omega
        obtain ⟨⟨b0, b1⟩, b2, b3⟩ := w.op i h1 io
        subst eT
        by_cases z : hdS L1 (Y 44 i) (Y 45 i) (Y 46 i) (Y 47 i)
        · have e := ea z
          subst e
          refine ⟨by omega, fun o ho => ?_⟩
          by_cases q : o = i
          · subst q
            exact Or.inr (Or.inl ⟨rfl, io, fun z => absurd z c21⟩)
          · exact Or.inl ⟨up c22 o ho q, rfl, fun z => absurd z c22⟩
        · have e := eb z
          subst e
          refine ⟨by omega, fun o ho => ?_⟩
          obtain ⟨o1, o2, o3⟩ := ho
          by_cases q : o = i
          · subst q
            omega
          · refine Or.inl ⟨⟨?_, by omega, o3⟩, rfl, fun z => absurd z c22⟩
            show (o : Int) < i
            by_cases g : o < i
            · omega
            · exfalso
              by_cases g2 : (o : Int) < Y 48 i
              · have n := w.ne i o h1 io o3 (by omega) g2
                omega
              · have e : o = (Y 48 i).toNat := by omega
                rw [e, b2] at o3
                unfold isO at o3
                omega
      · by_cases c23 : Y 44 i = 23
        · obtain ⟨-, eT, e⟩ := t23 c23
          subst eT; subst e
          refine ⟨by omega, fun o ho => ?_⟩
          obtain ⟨o1, o2, o3⟩ := ho
          have := w.op o (by omega) o3
          omega
        · obtain ⟨e, eT, -⟩ := tr (by omega)
          subst e; subst eT
          refine ⟨by omega, fun o ho => ?_⟩
          have q2 : o ≠ i := fun q => by subst q; clear t21 t22 tw t23 tr; have := ho.2.2; unfold isO at this; omega
          exact Or.inl ⟨up c22 o ho q2, rfl, fun z => absurd z c22⟩
def ENk (Y : PH) (T : Nat → Int) (k : Int) : Prop := ∀ o : Nat, opk Y k o → Y 44 o = 21 → 1 ≤ T o ∧ T o ≤ 99
theorem lstp_en {L Y : PH} {s u : (Int × PH × Int × (Nat → Int) × Int × Int)} (w : WYc L Y) (t : lstp Y s u) (e : ENk Y s.2.2.2.1 s.1) : ENk Y u.2.2.2.1 u.1 := fun o ho h21 => by
  have ks := t.1
  rcases (lstp_o w t).2 o ho with ⟨a, b, -⟩ | ⟨a, b, c⟩ | ⟨-, -, -, b, c, a⟩
  · rw [b]; exact e o a h21
  · have eo : s.1.toNat = o := by omega
    rw [eo] at c
    rw [c h21]
    exact (w.ok o (by omega)).2.2.2.2.2.2.1 (Or.inr h21)
  · have := e o a h21
    rw [w32_id (by omega) (by omega)] at b c
    omega
def phe (Y : PH) (T : Nat → Int) (k : Int) (o : Nat) : Int := if (o : Int) < k ∧ k ≤ Y 48 o ∧ (Y 44 o = 18 ∨ Y 44 o = 19 ∨ Y 44 o = 20 ∨ Y 44 o = 21) then (if Y 44 o = 21 then T o else 1) else 0
def phS (f : Nat → Int) : Nat → Int
  | 0 => 0
  | n + 1 => phS f n + f n
theorem phS_le {f g : Nat → Int} {q : Nat} {c : Int} (h1 : ∀ o, o ≠ q → g o ≤ f o) (h2 : g q ≤ f q + c) : ∀ n : Nat, phS g n ≤ phS f n + (if q < n then c else 0)
  | 0 => by simp [phS]
  | n + 1 => by
    have i := phS_le h1 h2 n
    show phS g n + g n ≤ phS f n + f n + _
    by_cases e : n = q
    · subst e
      rw [if_neg (by omega)] at i
      rw [if_pos (by omega)]
      omega
    · have := h1 n e
      by_cases z : q < n
      · rw [if_pos z] at i
        rw [if_pos (by omega)]
        omega
      · rw [if_neg z] at i
        rw [if_neg (by omega)]
        omega
theorem phS_nn {f : Nat → Int} (h : ∀ o, 0 ≤ f o) : ∀ n, 0 ≤ phS f n
  | 0 => by simp [phS]
  | n + 1 => by have := phS_nn h n; have := h n; show 0 ≤ phS f n + f n; omega
theorem phe_y {Y : PH} {T : Nat → Int} {k : Int} {o : Nat} (h : opk Y k o) : phe Y T k o = if Y 44 o = 21 then T o else 1 := if_pos h
theorem phe_n {Y : PH} {T : Nat → Int} {k : Int} {o : Nat} (h : ¬ opk Y k o) : phe Y T k o = 0 := if_neg h
theorem phe_nn {Y : PH} {T : Nat → Int} {k : Int} (e : ENk Y T k) (o : Nat) : 0 ≤ phe Y T k o := by
  by_cases h : opk Y k o
  · rw [phe_y h]
    split
    · have := e o h (by assumption); omega
    · omega
  · rw [phe_n h]; omega
def phi (Y : PH) (T : Nat → Int) (k : Int) : Int := phS (phe Y T k) 60
theorem phi_nn {Y : PH} {T : Nat → Int} {k : Int} (e : ENk Y T k) : 0 ≤ phi Y T k := phS_nn (phe_nn e) 60
theorem lstp_phi {L Y : PH} {s u : (Int × PH × Int × (Nat → Int) × Int × Int)} (w : WYc L Y) (h60 : Y 43 2 ≤ 60) (t : lstp Y s u) (e : ENk Y s.2.2.2.1 s.1) : (Y 44 s.1.toNat ≠ 22 → phi Y u.2.2.2.1 u.1 ≤ phi Y s.2.2.2.1 s.1 + 99) ∧ (Y 44 s.1.toNat = 22 → phi Y u.2.2.2.1 u.1 + 1 ≤ phi Y s.2.2.2.1 s.1) := by
  have ks := t.1
  have O := (lstp_o w t).2
  have nn := phe_nn e
  have main : ∀ o : Nat, ((o : Int) = s.1 → isO (Y 44 s.1.toNat) → False) → (Y 44 s.1.toNat = 22 → (o : Int) = Y 48 s.1.toNat → False) → phe Y u.2.2.2.1 u.1 o ≤ phe Y s.2.2.2.1 s.1 o := fun o n1 n2 => by
    by_cases h : opk Y u.1 o
    · rcases O o h with ⟨a, b, -⟩ | ⟨a, b, c⟩ | ⟨a, b, -⟩
      · rw [phe_y h, phe_y a, b]; omega
      · exact (n1 a b).elim
      · exact (n2 a b).elim
    · rw [phe_n h]; exact nn o
  refine ⟨fun h22 => ?_, fun h22 => ?_⟩
  · have z := phS_le (f := phe Y s.2.2.2.1 s.1) (g := phe Y u.2.2.2.1 u.1) (q := s.1.toNat) (c := 99) (fun o ho => main o (fun q _ => by omega) (fun q => absurd q h22)) (by
      have n0 := nn s.1.toNat
      by_cases h : opk Y u.1 s.1.toNat
      · rw [phe_y h]
        rcases O s.1.toNat h with ⟨a, b, -⟩ | ⟨a, b, c⟩ | ⟨a, b, -⟩
        · have := a.1; omega
        · by_cases c21 : Y 44 s.1.toNat = 21
          · rw [if_pos c21, c c21]
            have := (w.ok s.1.toNat (by omega)).2.2.2.2.2.2.1 (Or.inr c21)
            omega
          · rw [if_neg c21]; omega
        · exact absurd a h22
      · rw [phe_n h]; omega) 60
    rw [if_pos (by omega)] at z
    exact z
  · obtain ⟨⟨b0, b1⟩, b2, b3⟩ := w.cl s.1.toNat (by omega) h22
    have z := phS_le (f := phe Y s.2.2.2.1 s.1) (g := phe Y u.2.2.2.1 u.1) (q := (Y 48 s.1.toNat).toNat) (c := -1) (fun o ho => main o (fun _ q => by rw [h22] at q; unfold isO at q; omega) (fun _ q => ho (by omega))) (by
      have a : opk Y s.1 (Y 48 s.1.toNat).toNat := ⟨by omega, by omega, b2⟩
      rw [phe_y a]
      by_cases h : opk Y u.1 (Y 48 s.1.toNat).toNat
      · rw [phe_y h]
        rcases O _ h with ⟨-, b, c⟩ | ⟨-, b, c⟩ | ⟨-, b, c, d, f, -⟩
        · exact absurd (by omega) (c h22)
        · rw [h22] at b; unfold isO at b; omega
        · rw [if_pos c, if_pos c, d]
          have := e _ a c
          rw [w32_id (by omega) (by omega)]
          omega
      · rw [phe_n h]
        by_cases c21 : Y 44 (Y 48 s.1.toNat).toNat = 21
        · rw [if_pos c21]; have := e _ a c21; omega
        · rw [if_neg c21]; omega) 60
    rw [if_pos (by omega)] at z
    unfold phi
    omega
theorem lstp_d {Y : PH} {s u : (Int × PH × Int × (Nat → Int) × Int × Int)} (t : lstp Y s u) (h : 0 ≤ s.2.2.2.2.2 ∧ s.2.2.2.2.2 ≤ s.2.2.2.2.1 ∧ s.2.2.2.2.1 ≤ 300) (kk : Y 44 s.1.toNat = 1 ∨ (10 ≤ Y 44 s.1.toNat ∧ Y 44 s.1.toNat ≤ 14) ∨ Y 44 s.1.toNat = 16 ∨ (18 ≤ Y 44 s.1.toNat ∧ Y 44 s.1.toNat ≤ 23)) : 0 ≤ u.2.2.2.2.2 ∧ u.2.2.2.2.2 ≤ u.2.2.2.2.1 ∧ u.2.2.2.2.1 ≤ 300 := by
  obtain ⟨-, t0, t1, t21, t22, tw, t23, tr⟩ := t
  by_cases c22 : Y 44 s.1.toNat = 22
  · have a := t1 c22
    have b := (t22 c22).1.2.2
    omega
  · obtain ⟨a, a'⟩ := t0 c22
    by_cases cr : Y 44 s.1.toNat = 1 ∨ (10 ≤ Y 44 s.1.toNat ∧ Y 44 s.1.toNat ≤ 14) ∨ Y 44 s.1.toNat = 16
    · obtain ⟨-, -, v, hv, -, -, e⟩ := tr cr
      omega
    · have b : same3 s u := by
        by_cases c21 : Y 44 s.1.toNat = 21
        · exact (t21 c21).1
        · by_cases c23 : Y 44 s.1.toNat = 23
          · exact (t23 c23).1
          · exact (tw (by clear tr; omega)).1
      have := b.2.2
      omega
theorem dnL_k {L M : PH} {x K a b n v y : Int} (d : dnL L x K a b n v M y) (kk : K = 1 ∨ (10 ≤ K ∧ K ≤ 14) ∨ K = 16) (w : W10 L) : M 1 0 = L 1 0 ∧ M 0 4 = L 0 4 ∧ (∀ k, M 9 k = L 9 k) ∧ ∀ k, M 10 k = L 10 k := by
  have S : ∀ c : Int, stE L a c v M → M 1 0 = L 1 0 ∧ M 0 4 = L 0 4 ∧ (∀ k, M 9 k = L 9 k) ∧ ∀ k, M 10 k = L 10 k := fun c h => by
    by_cases z : (bB (L 1 1) a.toNat = true ↔ c = 1)
    · rw [(h.1 z).2]; exact ⟨rfl, rfl, fun _ => rfl, fun _ => rfl⟩
    · obtain ⟨-, -, e⟩ := h.2 z
      exact ⟨(e _ _ (by omega) (by omega)).trans (fl_o (by omega)), (e _ _ (by omega) (by omega)).trans (fl_o (by omega)), fun k => (e _ _ (by omega) (by omega)).trans (fl_o (by omega)), fun k => (e _ _ (by omega) (by omega)).trans (fl_o (by omega))⟩
  have D : ∀ p : Nat, DIn (ddL L p) p (L 0 4).toNat M → M 1 0 = L 1 0 ∧ M 0 4 = L 0 4 ∧ (∀ k, M 9 k = L 9 k) ∧ ∀ k, M 10 k = L 10 k := fun p h => by
    have e := h.2.1
    exact ⟨(e _ _ (by omega) (by omega)).trans (up_ne (by omega)), (e _ _ (by omega) (by omega)).trans (up_ne (by omega)), fun k => (e _ _ (by omega) (by omega)).trans (up_ne (by omega)), fun k => (e _ _ (by omega) (by omega)).trans (up_ne (by omega))⟩
  have R : M = L → M 1 0 = L 1 0 ∧ M 0 4 = L 0 4 ∧ (∀ k, M 9 k = L 9 k) ∧ ∀ k, M 10 k = L 10 k := fun e => by rw [e]; exact ⟨rfl, rfl, fun _ => rfl, fun _ => rfl⟩
  have W : ∀ p q v : Int, M = owe L p q v → M 1 0 = L 1 0 ∧ M 0 4 = L 0 4 ∧ (∀ k, M 9 k = L 9 k) ∧ ∀ k, M 10 k = L 10 k := fun p q v e => by
    rw [e]; unfold owe
    exact ⟨by rw [up_ne (by omega), up_ne (by omega)], by rw [up_ne (by omega), up_ne (by omega)], fun _ => by rw [up_ne (by omega), up_ne (by omega)], fun _ => by rw [up_ne (by omega), up_ne (by omega)]⟩
  obtain ⟨d1, d13, d10, d11, d12, d14, d16⟩ := d
  by_cases c1 : K = 1
  · exact S _ (d1 c1).2
  by_cases c13 : K = 13
  · exact S _ (d13 c13).2
  by_cases c10 : K = 10
  · obtain ⟨-, q1, q2⟩ := d10 c10
    by_cases z : 9999 < w32 (L 0 12 + n)
    · exact R (q1 z).2
    · have e := (q2 z).2
      obtain ⟨-, n1, n2⟩ := nsL_w w.1 n.toNat
      rw [e]
      exact ⟨n2, n1, fun k => nsL_o (Or.inl rfl) _, fun k => nsL_o (Or.inr rfl) _⟩
  by_cases c11 : K = 11
  · obtain ⟨-, q⟩ := d11 c11
    by_cases z : bB (L 0 7) a.toNat = true
    · exact R (q.1 z).2
    · exact D _ (q.2 z).2.2
  by_cases c12 : K = 12
  · obtain ⟨-, q1, q2⟩ := d12 c12
    by_cases z : bB (L 0 7) a.toNat = true ∨ L 7 (8 * b.toNat + a.toNat) = 0
    · exact R (q1 z).2
    · exact W _ _ _ (q2 z).2
  by_cases c14 : K = 14
  · obtain ⟨-, q1, q2⟩ := d14 c14
    by_cases z : ¬ bB (L 0 7) a.toNat = true ∨ bB (L 0 7) b.toNat = true
    · exact R (q1 z).2
    · exact W _ _ _ (q2 z).2
  obtain ⟨q1, q2⟩ := d16 (by clear d1 d13 d10 d11 d12 d14 d16; omega)
  by_cases z : clv L (L 0 4).toNat < 1
  · exact R (q1 z).2.2
  · obtain ⟨p, -, -, -, -, -, -, e⟩ := q2 (by omega)
    exact D p e

section NS2
variable {L : PH}
theorem soM_g {p b j k : Nat} (hj : j ≠ 7 ∧ j ≠ 8 ∧ j ≠ 15) : soM L p b j k = L j k := by
  unfold soM
  split
  · split
    · rw [owe_o (by omega) (by omega), owe_o (by omega) (by omega)]
    · rw [owe_o (by omega) (by omega)]
  · split
    · split
      · rfl
      · rw [up_ne (by omega)]
    · split
      · rw [owe_o (by omega) (by omega)]
      · rfl
theorem haL_g {p k : Nat} (hk : k ≠ 13) : haL L p 0 k = L 0 k := by
  unfold haL
  by_cases c1 : bB (L 0 7) p = true ∧ 0 < L 8 p
  · rw [if_pos c1]
    by_cases c2 : amL L p (L 0 4).toNat = -1
    · rw [if_pos c2]
    · rw [if_neg c2]
      by_cases c3 : L 11 (amL L p (L 0 4).toNat).toNat = L 11 p
      · rw [if_pos c3]; unfold soL; rw [soM_g (by omega), up_ne (by omega)]
      · rw [if_neg c3, up_ne (by omega)]
  · rw [if_neg c1]
theorem niL_g {k : Nat} (hk : k ≠ 13) : ∀ p : Nat, niL L p 0 k = if k = 12 then w32 (L 0 12 + 1) else L 0 k
  | 0 => by
    by_cases z : k = 12
    · subst z; rw [if_pos rfl]; exact up_sm
    · rw [if_neg z]; exact up_ne (by omega)
  | p + 1 => (haL_g hk).trans (niL_g hk p)
theorem nsL_g {k : Nat} (hk : k ≠ 12 ∧ k ≠ 13) : ∀ n : Nat, nsL L n 0 k = L 0 k
  | 0 => rfl
  | n + 1 => ((niL_g hk.2 _).trans (if_neg hk.1)).trans (nsL_g hk n)
theorem w32_bm (z : Int) : w32 z = z.bmod 4294967296 := Int32.toInt_ofInt
theorem w32_a (a b : Int) : w32 (w32 a + b) = w32 (a + b) := by
  rw [w32_bm, w32_bm, w32_bm]; exact Int.bmod_add_bmod
theorem w32_s (a b : Int) : w32 (w32 a - b) = w32 (a - b) := by
  rw [w32_bm, w32_bm, w32_bm]; exact Int.bmod_sub_bmod
theorem w32_r (a b : Int) : w32 (a + w32 b) = w32 (a + b) := by
  rw [w32_bm, w32_bm, w32_bm]; exact Int.add_bmod_bmod
theorem nsL_12 : ∀ n : Nat, nsL L (n + 1) 0 12 = w32 (L 0 12 + ((n + 1 : Nat) : Int))
  | 0 => (niL_g (by omega) _).trans (if_pos rfl)
  | n + 1 => ((niL_g (by omega) _).trans (if_pos rfl)).trans (by rw [nsL_12 n, w32_a]; congr 1; omega)
end NS2
