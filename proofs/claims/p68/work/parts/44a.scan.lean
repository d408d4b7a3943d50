/-! FIELDS THAT A METHOD NEVER WRITES, by its instructions and those of all that it calls -/
theorem z_st_h {R : Type} {bot : R} {br : Prop → R → R → R} {as : Prop → R → R} {cl : MR → PH → List ZV → (PH → List ZV → R) → R} {sh : SHP} {sb : Nat → List Nat} {sl : Nat} {si : Nat → Int} {fm : ZV} {mt : Nat → Nat → Option MR} {e : ME} {h : PH} {lv : ZL} {st : List ZV} {nx : PH → ZL → List ZV → R} {jp : Nat → PH → ZL → List ZV → R} (h9 : e.2.1 ≠ 9) (h14 : ¬ (14 ≤ e.2.1 ∧ e.2.1 ≤ 16)) (h21 : e.2.1 ≠ 21) : z_st bot br as cl sh sb sl si fm mt e h lv st nx jp = z_st bot br as cl sh sb sl si fm mt e h lv st (fun _ lv st => nx h lv st) (fun t _ lv st => jp t h lv st) := by
  unfold z_st
  cases b1 : Nat.ble e.2.1 7 with
  | true => rfl
  | false =>
    cases b2 : Nat.ble e.2.1 17 with
    | true =>
      cases b3 : Nat.beq e.2.1 8 with
      | true => rfl
      | false =>
        cases b4 : Nat.beq e.2.1 9 with
        | true => exact absurd (bb_eq b4) h9
        | false =>
          cases b5 : Nat.ble e.2.1 13 with
          | true => rfl
          | false =>
            cases b6 : Nat.ble e.2.1 16 with
            | true => exact absurd ⟨by (rcases Nat.lt_or_ge 13 e.2.1 with q | q; exact q; (rw [Nat.ble_eq_true_of_le q] at b5; cases b5)), bb_le b6⟩ h14
            | false => rfl
    | false =>
      cases b7 : Nat.ble e.2.1 25 with
      | true =>
        cases b8 : Nat.ble e.2.1 19 with
        | true => rfl
        | false =>
          cases b9 : Nat.beq e.2.1 20 with
          | true => rfl
          | false =>
            cases b10 : Nat.beq e.2.1 21 with
            | true => exact absurd (bb_eq b10) h21
            | false => rfl
      | false => rfl
theorem z_putf_k {sh : SHP} {lk : List Nat} {h : PH} {st : List ZV} {kk : PH → List ZV → Prop} (H : z_putf (R := Prop) False sh lk h st kk) : ∃ ci k rest a v r q, lk = ci :: k :: rest ∧ sh[zc a]? = some q ∧ q.1 = ci ∧ kk (uph h (zc a) k v) r := by
  unfold z_putf at H
  match lk, st, H with
  | ci :: k :: tc :: rest, v :: a :: r, H =>
    have H : gdr False (Nat.beq a.1 2) (obr False (ax_nth sh (zc a)) (fun q => gdr False (Nat.beq q.1 ci && Nat.blt ci 100) (kk (uph h (zc a) k v.2) r))) := H
    cases g1 : Nat.beq a.1 2 with
    | false => rw [g1] at H; exact H.elim
    | true =>
      rw [g1] at H
      have H : obr False (ax_nth sh (zc a)) (fun q => gdr False (Nat.beq q.1 ci && Nat.blt ci 100) (kk (uph h (zc a) k v.2) r)) := H
      cases g2 : ax_nth sh (zc a) with
      | none => rw [g2] at H; exact H.elim
      | some q =>
        rw [g2] at H
        have H : gdr False (Nat.beq q.1 ci && Nat.blt ci 100) (kk (uph h (zc a) k v.2) r) := H
        cases g3 : (Nat.beq q.1 ci && Nat.blt ci 100) with
        | false => rw [g3] at H; exact H.elim
        | true =>
          rw [g3] at H
          rw [ax_nth_eq] at g2
          exact ⟨ci, k, _, a, v.2, r, q, rfl, g2, bb_eq (bb_and g3).1, H⟩
theorem z_ast_k {sh : SHP} {kd : Nat} {h : PH} {st : List ZV} {kk : PH → List ZV → Prop} (H : z_ast (R := Prop) False exA sh kd h st kk) : ∃ a i v r q, sh[zc a]? = some q ∧ q.1 = kd ∧ kk (uph h (zc a) i v) r := by
  unfold z_ast at H
  match st, H with
  | v :: i :: a :: r, H =>
    have H : gdr False (Nat.beq i.1 0 && Nat.beq a.1 2) (obr False (ax_nth sh (zc a)) (fun q => gdr False (Nat.beq q.1 kd) (exA (0 ≤ i.2 ∧ i.2 < q.2.1) (kk (uph h (zc a) i.2.toNat v.2) r)))) := H
    cases g1 : (Nat.beq i.1 0 && Nat.beq a.1 2) with
    | false => rw [g1] at H; exact H.elim
    | true =>
      rw [g1] at H
      have H : obr False (ax_nth sh (zc a)) (fun q => gdr False (Nat.beq q.1 kd) (exA (0 ≤ i.2 ∧ i.2 < q.2.1) (kk (uph h (zc a) i.2.toNat v.2) r))) := H
      cases g2 : ax_nth sh (zc a) with
      | none => rw [g2] at H; exact H.elim
      | some q =>
        rw [g2] at H
        have H : gdr False (Nat.beq q.1 kd) (exA (0 ≤ i.2 ∧ i.2 < q.2.1) (kk (uph h (zc a) i.2.toNat v.2) r)) := H
        cases g3 : Nat.beq q.1 kd with
        | false => rw [g3] at H; exact H.elim
        | true =>
          rw [g3] at H
          rw [ax_nth_eq] at g2
          exact ⟨a, i.2.toNat, v.2, r, q, g2, bb_eq g3, H.2⟩
theorem z_inv_k {cr : CRl} {mt : Nat → Nat → Option MR} {lk : List Nat} {h : PH} {st : List ZV} {go : PH → List ZV → Prop} (H : z_inv (R := Prop) False exA (exC cr) mt lk h st go) : ∃ x l1, lk = x :: l1 ∧ (x = 901 ∨ (∃ r, go h r) ∨ ∃ b l2 C as h' r q, l1 = b :: l2 ∧ mt x b = some C ∧ cr C h as h' r ∧ go h' q) := by
  unfold z_inv at H
  match lk, H with
  | x :: l1, H =>
    refine ⟨x, l1, rfl, ?_⟩
    have H : (bif Nat.beq x 901 then lcr False st (fun n st => lcr False st (fun dp st => lcr False st (fun d st => lcr False st (fun sq st => lcr False st (fun s r => gdr False (Nat.beq d.1 2 && Nat.beq s.1 2)
      (exA (0 ≤ sq.2 ∧ 0 ≤ dp.2 ∧ 0 ≤ n.2) (go (cph h (zc s) (zc d) sq.2.toNat dp.2.toNat n.2.toNat) r)))))))
    else bif Nat.beq x 902 then lcr False st (fun b st => lcr False st (fun a r => go h ((0, zmin a.2 b.2) :: r)))
    else bif Nat.beq x 903 then lcr False st (fun b st => lcr False st (fun a r => go h ((0, zmax a.2 b.2) :: r)))
    else lcr False l1 (fun b _ => obr False (mt x b) (fun C => obr False (z_args C.2.2.2.2.2.1 st []) (fun q => exC cr C h q.1 (fun h' r => go h' (r ++ q.2)))))) := H
    cases g1 : Nat.beq x 901 with
    | true => exact Or.inl (bb_eq g1)
    | false =>
      rw [g1] at H
      simp only [cond_false] at H
      cases g2 : Nat.beq x 902 with
      | true =>
        rw [g2] at H
        simp only [cond_true] at H
        match st, H with
        | b :: a :: r, H => exact Or.inr (Or.inl ⟨_, H⟩)
      | false =>
        rw [g2] at H
        simp only [cond_false] at H
        cases g3 : Nat.beq x 903 with
        | true =>
          rw [g3] at H
          simp only [cond_true] at H
          match st, H with
          | b :: a :: r, H => exact Or.inr (Or.inl ⟨_, H⟩)
        | false =>
          rw [g3] at H
          simp only [cond_false] at H
          match l1, H with
          | b :: l2, H =>
            have H : obr False (mt x b) (fun C => obr False (z_args C.2.2.2.2.2.1 st []) (fun q => exC cr C h q.1 (fun h' r => go h' (r ++ q.2)))) := H
            cases g4 : mt x b with
            | none => rw [g4] at H; exact H.elim
            | some C =>
              rw [g4] at H
              have H : obr False (z_args C.2.2.2.2.2.1 st []) (fun q => exC cr C h q.1 (fun h' r => go h' (r ++ q.2))) := H
              cases g5 : z_args C.2.2.2.2.2.1 st [] with
              | none => rw [g5] at H; exact H.elim
              | some q =>
                rw [g5] at H
                obtain ⟨h', r, a1, a2⟩ := H
                exact Or.inr (Or.inr ⟨b, l2, C, q.1, h', r, _, rfl, g4, a1, a2⟩)
theorem mx902 (b : Nat) (C : MR) : ¬ mth 902 b = some C := fun h => by
  have e : ax_nth mtt 902 = none := by rw [ax_nth_eq]; rfl
  unfold mth at h
  rw [e] at h
  cases h
theorem mx903 (b : Nat) (C : MR) : ¬ mth 903 b = some C := fun h => by
  have e : ax_nth mtt 903 = none := by rw [ax_nth_eq]; rfl
  unfold mth at h
  rw [e] at h
  cases h
/-- an entry that writes no field k of a cell of class ci and calls none but of S -/
noncomputable def npe (ci k : Nat) (S : List (Nat × Nat)) (e : ME) : Bool :=
  bif Nat.beq e.2.1 9 then (match e.2.2.2.1 with
    | c :: j :: _ => !(Nat.beq c ci && Nat.beq j k)
    | _ => true)
  else bif Nat.beq e.2.1 21 then (match e.2.2.2.1 with
    | x :: l1 => !(Nat.beq x 901) && (match l1 with
      | b :: _ => Nat.beq x 902 || (Nat.beq x 903 || S.any (fun q => Nat.beq q.1 x && Nat.beq q.2 b))
      | [] => true)
    | [] => true)
  else true
noncomputable def npc (ci k : Nat) (S : List (Nat × Nat)) : Bool := S.all (fun q => match mth q.1 q.2 with
  | some C => C.2.2.2.2.2.2.all (npe ci k S)
  | none => true)
def inS (S : List (Nat × Nat)) (C : MR) : Prop := ∃ q ∈ S, mth q.1 q.2 = some C
theorem npc_in {ci k : Nat} {S : List (Nat × Nat)} (h : npc ci k S = true) {C : MR} (hC : inS S C) : ∀ e ∈ C.2.2.2.2.2.2, npe ci k S e = true := by
  obtain ⟨q, hq, hm⟩ := hC
  have a := List.all_eq_true.mp h q hq
  rw [hm] at a
  exact List.all_eq_true.mp a
section SC
variable {Z : ZP} {ci k0 c0 : Nat} {S : List (Nat × Nat)} {q0 : Nat × Nat × List (Nat × Nat)}
theorem np_st (h0 : Z.2.2.2.1[c0]? = some q0) (hq : q0.1 = ci) (hc : ci < 100) {cr : CRl} (hcr : ∀ C h as h' r, inS S C → cr C h as h' r → h' c0 k0 = h c0 k0) (hn : npc ci k0 S = true) {M : MR} (hM : inS S M) {s s' : ZS} (H : zSt Z cr M s s') : s'.2.1 c0 k0 = s.2.1 c0 k0 := by
  obtain ⟨e, he, hpc, hz⟩ := H
  have hne := npc_in hn hM e he
  by_cases h9 : e.2.1 = 9
  · unfold z_st at hz
    rw [h9] at hz
    have hz : z_putf (R := Prop) False Z.2.2.2.1 e.2.2.2.1 s.2.1 s.2.2.2 (fun h' st' => s' = (s.1 + e.2.2.1, h', s.2.2.1, st')) := hz
    obtain ⟨c, k, rest, a, v, r, q, e1, e2, e3, e4⟩ := z_putf_k hz
    unfold npe at hne
    rw [h9, e1] at hne
    have hne : (!(Nat.beq c ci && Nat.beq k k0)) = true := hne
    rw [e4]
    show uph s.2.1 (zc a) k v c0 k0 = s.2.1 c0 k0
    unfold uph
    rw [if_neg]
    intro z
    obtain ⟨z1, z2⟩ := z
    rw [← z1, h0] at e2
    have e2 := Option.some.inj e2
    have : c = ci := by rw [← e3, ← e2, hq]
    rw [this, ← z2] at hne
    rw [show Nat.beq ci ci = true from by rw [Nat.beq_eq], show Nat.beq k0 k0 = true from by rw [Nat.beq_eq]] at hne
    cases hne
  · by_cases h14 : 14 ≤ e.2.1 ∧ e.2.1 ≤ 16
    · have hz : z_ast (R := Prop) False exA Z.2.2.2.1 (e.2.1 + 86) s.2.1 s.2.2.2 (fun h' st' => s' = (s.1 + e.2.2.1, h', s.2.2.1, st')) := by
        unfold z_st at hz
        rcases (show e.2.1 = 14 ∨ e.2.1 = 15 ∨ e.2.1 = 16 by omega) with z | z | z <;> rw [z] at hz ⊢ <;> exact hz
      obtain ⟨a, i, v, r, q, e2, e3, e4⟩ := z_ast_k hz
      rw [e4]
      show uph s.2.1 (zc a) i v c0 k0 = s.2.1 c0 k0
      unfold uph
      rw [if_neg]
      intro z
      rw [← z.1, h0] at e2
      have e2 := Option.some.inj e2
      rw [← e2, hq] at e3
      omega
    · by_cases h21 : e.2.1 = 21
      · unfold z_st at hz
        rw [h21] at hz
        have hz : z_inv (R := Prop) False exA (exC cr) mth e.2.2.2.1 s.2.1 s.2.2.2 (fun h' st' => s' = (s.1 + e.2.2.1, h', s.2.2.1, st')) := hz
        obtain ⟨x, l1, e1, e2⟩ := z_inv_k hz
        unfold npe at hne
        rw [h21, e1] at hne
        rcases e2 with e2 | ⟨r, e2⟩ | ⟨b, l2, C, as, h', r, q, e2, e3, e4, e5⟩
        · exfalso
          have w := bb_and hne
          rw [e2] at w
          cases w.1
        · rw [e2]
        · rw [e5]
          rw [e2] at hne
          have w := (bb_and hne).2
          refine hcr C _ as h' r ?_ e4
          rcases (Bool.or_eq_true _ _).mp w with z | z
          · exfalso
            rw [bb_eq z] at e3
            exact mx902 _ _ e3
          · rcases (Bool.or_eq_true _ _).mp z with z | z
            · exfalso
              rw [bb_eq z] at e3
              exact mx903 _ _ e3
            · obtain ⟨p, p1, p2⟩ := List.any_eq_true.mp z
              have p2 := bb_and p2
              exact ⟨p, p1, by rw [bb_eq p2.1, bb_eq p2.2]; exact e3⟩
      · rw [z_st_h h9 h14 h21] at hz
        exact z_st_par (R2 := Prop) (Rl := fun a _ => a → s'.2.1 c0 k0 = s.2.1 c0 k0) (b2 := True) (br2 := fun _ _ _ => True) (as2 := fun _ _ => True) (cl2 := fun _ _ _ _ => True) (fun h => h.elim) (fun c x1 x2 y1 y2 hx hy h => h.elim (fun q => hx q.2) (fun q => hy q.2)) (fun c x1 x2 hx h => hx h.2) (fun C h as k1 k2 hk q => by
          obtain ⟨h', r, -, b⟩ := q
          exact hk h' r b) (nx2 := fun _ _ _ => True) (jp2 := fun _ _ _ _ => True) (fun _ _ _ z => by rw [z]) (fun _ _ _ _ z => by rw [z]) hz
theorem np_n (h0 : Z.2.2.2.1[c0]? = some q0) (hq : q0.1 = ci) (hc : ci < 100) {cr : CRl} (hcr : ∀ C h as h' r, inS S C → cr C h as h' r → h' c0 k0 = h c0 k0) (hn : npc ci k0 S = true) {M : MR} (hM : inS S M) : ∀ (n : Nat) {s s' : ZS}, Zn Z cr n M s s' → s'.2.1 c0 k0 = s.2.1 c0 k0
  | 0, _, _, H => by
    have H := H
    rw [H]
  | n + 1, _, _, H => by
    obtain ⟨s1, a, b⟩ := H
    rw [np_n h0 hq hc hcr hn hM n b, np_st h0 hq hc hcr hn hM a]
theorem np_c (h0 : Z.2.2.2.1[c0]? = some q0) (hq : q0.1 = ci) (hc : ci < 100) (hn : npc ci k0 S = true) : ∀ (f : Nat) (C : MR) (h : PH) (as : List ZV) (h' : PH) (r : List ZV), inS S C → Zc Z f C h as h' r → h' c0 k0 = h c0 k0
  | 0, _, _, _, _, _, _, H => H.elim
  | f + 1, C, h, as, h', r, hC, H => by
    obtain ⟨-, n, pc', lv', a, -⟩ := H
    exact np_n h0 hq hc (np_c h0 hq hc hn f) hn hC n a
/-- field k0 of cell c0 stays -/
theorem np_cp (h0 : Z.2.2.2.1[c0]? = some q0) (hq : q0.1 = ci) (hc : ci < 100) (hn : npc ci k0 S = true) {C : MR} {h : PH} {as : List ZV} {h' : PH} {r : List ZV} (hC : inS S C) (H : CP Z C h as h' r) : h' c0 k0 = h c0 k0 := by
  obtain ⟨f, H⟩ := H
  exact np_c h0 hq hc hn f C h as h' r hC H
end SC
