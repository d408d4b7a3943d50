/-! METHODS THAT WRITE NOTHING -/
noncomputable def pue (S : List (Nat × Nat)) (e : ME) : Bool :=
  !(Nat.beq e.2.1 9) && (!(Nat.ble 14 e.2.1 && Nat.ble e.2.1 16) && (bif Nat.beq e.2.1 21 then (match e.2.2.2.1 with
    | x :: l1 => !(Nat.beq x 901) && (match l1 with
      | b :: _ => Nat.beq x 902 || (Nat.beq x 903 || S.any (fun q => Nat.beq q.1 x && Nat.beq q.2 b))
      | [] => true)
    | [] => true) else true))
noncomputable def puc (S : List (Nat × Nat)) : Bool := S.all (fun q => match mth q.1 q.2 with
  | some C => C.2.2.2.2.2.2.all (pue S)
  | none => true)
theorem puc_in {S : List (Nat × Nat)} (h : puc S = true) {C : MR} (hC : inS S C) : ∀ e ∈ C.2.2.2.2.2.2, pue S e = true := by
  obtain ⟨q, hq, hm⟩ := hC
  have a := List.all_eq_true.mp h q hq
  rw [hm] at a
  exact List.all_eq_true.mp a
section PU
variable {Z : ZP} {S : List (Nat × Nat)}
theorem pu_st {cr : CRl} (hcr : ∀ C h as h' r, inS S C → cr C h as h' r → h' = h) (hn : puc S = true) {M : MR} (hM : inS S M) {s s' : ZS} (H : zSt Z cr M s s') : s'.2.1 = s.2.1 := by
  obtain ⟨e, he, hpc, hz⟩ := H
  have hne := puc_in hn hM e he
  unfold pue at hne
  obtain ⟨n1, hne⟩ := bb_and hne
  obtain ⟨n2, n3⟩ := bb_and hne
  by_cases h9 : e.2.1 = 9
  · rw [h9] at n1
    cases n1
  · by_cases h14 : 14 ≤ e.2.1 ∧ e.2.1 ≤ 16
    · exfalso
      rw [Nat.ble_eq_true_of_le h14.1, Nat.ble_eq_true_of_le h14.2] at n2
      cases n2
    · by_cases h21 : e.2.1 = 21
      · unfold z_st at hz
        rw [h21] at hz
        have hz : z_inv (R := Prop) False exA (exC cr) mth e.2.2.2.1 s.2.1 s.2.2.2 (fun h' st' => s' = (s.1 + e.2.2.1, h', s.2.2.1, st')) := hz
        obtain ⟨x, l1, e1, e2⟩ := z_inv_k hz
        rw [h21, e1] at n3
        rcases e2 with e2 | ⟨r, e2⟩ | ⟨b, l2, C, as, h', r, q, e2, e3, e4, e5⟩
        · exfalso
          have w := bb_and n3
          rw [e2] at w
          cases w.1
        · rw [e2]
        · rw [e5]
          rw [e2] at n3
          have w := (bb_and n3).2
          refine hcr C _ as h' r ?_ e4
          rcases (Bool.or_eq_true _ _).mp w with z | z
          · exfalso
            rw [bb_eq z] at e3
            exact mx902 _ _ e3
          · rcases (Bool.or_eq_true _ _).mp z with z | z
            · exfalso
              rw [bb_eq z] at e3
              exact mx903 _ _ e3
            · obtain ⟨p, p1, p2⟩ := List.any_eq_true.mp z
              have p2 := bb_and p2
              exact ⟨p, p1, by rw [bb_eq p2.1, bb_eq p2.2]; exact e3⟩
      · rw [z_st_h h9 h14 h21] at hz
        exact z_st_par (R2 := Prop) (Rl := fun a _ => a → s'.2.1 = s.2.1) (b2 := True) (br2 := fun _ _ _ => True) (as2 := fun _ _ => True) (cl2 := fun _ _ _ _ => True) (fun h => h.elim) (fun c x1 x2 y1 y2 hx hy h => h.elim (fun q => hx q.2) (fun q => hy q.2)) (fun c x1 x2 hx h => hx h.2) (fun C h as k1 k2 hk q => by
          obtain ⟨h', r, -, b⟩ := q
          exact hk h' r b) (nx2 := fun _ _ _ => True) (jp2 := fun _ _ _ _ => True) (fun _ _ _ z => by rw [z]) (fun _ _ _ _ z => by rw [z]) hz
theorem pu_n {cr : CRl} (hcr : ∀ C h as h' r, inS S C → cr C h as h' r → h' = h) (hn : puc S = true) {M : MR} (hM : inS S M) : ∀ (n : Nat) {s s' : ZS}, Zn Z cr n M s s' → s'.2.1 = s.2.1
  | 0, _, _, H => by
    have H := H
    rw [H]
  | n + 1, _, _, H => by
    obtain ⟨s1, a, b⟩ := H
    rw [pu_n hcr hn hM n b, pu_st hcr hn hM a]
theorem pu_c (hn : puc S = true) : ∀ (f : Nat) (C : MR) (h : PH) (as : List ZV) (h' : PH) (r : List ZV), inS S C → Zc Z f C h as h' r → h' = h
  | 0, _, _, _, _, _, _, H => H.elim
  | f + 1, C, h, as, h', r, hC, H => by
    obtain ⟨-, n, pc', lv', a, -⟩ := H
    exact pu_n (pu_c hn f) hn hC n a
theorem pu_cp (hn : puc S = true) {C : MR} {h : PH} {as : List ZV} {h' : PH} {r : List ZV} (hC : inS S C) (H : CP Z C h as h' r) : h' = h := by
  obtain ⟨f, H⟩ := H
  exact pu_c hn f C h as h' r hC H
end PU
def sPu : List (Nat × Nat) := [(0, 3), (0, 6), (0, 7), (0, 8), (0, 9), (0, 10), (0, 11), (0, 15), (0, 16), (0, 17), (0, 18), (0, 19), (1, 0), (1, 1), (1, 2), (1, 3), (1, 7), (1, 8), (2, 9), (2, 10), (2, 18), (3, 1), (3, 3), (3, 4), (3, 5), (3, 6), (3, 12), (3, 13), (3, 14), (3, 17), (3, 18), (3, 19), (4, 0), (4, 2), (5, 2), (5, 18), (5, 19), (6, 0), (6, 1), (6, 2), (6, 4), (6, 5), (6, 16), (6, 19), (7, 0), (7, 1), (7, 9), (10, 15), (10, 16), (10, 17), (10, 18), (10, 19), (11, 0), (11, 1), (11, 2), (11, 6), (11, 7), (11, 8), (11, 14), (11, 15), (11, 17), (12, 1), (12, 4), (12, 5), (12, 6), (12, 8), (12, 9), (12, 15), (12, 16), (12, 17), (12, 18), (13, 17), (13, 18), (13, 19), (14, 0), (14, 1), (14, 2), (14, 3), (14, 4), (14, 5), (14, 6), (14, 7), (14, 9), (14, 10), (14, 11), (14, 12), (14, 13), (14, 18), (15, 1), (15, 10), (15, 11), (15, 12), (16, 10), (16, 13), (17, 4), (18, 6), (18, 9), (19, 4), (19, 13), (19, 16), (19, 17), (19, 18), (19, 19), (20, 0), (20, 1), (20, 2), (20, 3), (20, 4), (20, 5), (20, 8)]
set_option maxRecDepth 100000 in
theorem pu_ok : puc sPu = true := by decide +kernel
theorem u_X12_areTwo {sl : Nat} {si : Nat → Int} {h h' : PH} {as r : List ZV} (hc : CP (zz sl si (7, 0)) mX12_areTwo h as h' r) : h' = h ∧ True := ⟨pu_cp pu_ok ⟨(14, 1), by decide +kernel, rfl⟩ hc, trivial⟩
theorem u_X12_isIn {sl : Nat} {si : Nat → Int} {h h' : PH} {as r : List ZV} (hc : CP (zz sl si (7, 0)) mX12_isIn h as h' r) : h' = h ∧ True := ⟨pu_cp pu_ok ⟨(14, 2), by decide +kernel, rfl⟩ hc, trivial⟩
theorem u_X12_bits {sl : Nat} {si : Nat → Int} {h h' : PH} {as r : List ZV} (hc : CP (zz sl si (7, 0)) mX12_bits h as h' r) : h' = h ∧ True := ⟨pu_cp pu_ok ⟨(14, 3), by decide +kernel, rfl⟩ hc, trivial⟩
theorem u_X12_owesAll {sl : Nat} {si : Nat → Int} {h h' : PH} {as r : List ZV} (hc : CP (zz sl si (7, 0)) mX12_owesAll h as h' r) : h' = h ∧ True := ⟨pu_cp pu_ok ⟨(14, 9), by decide +kernel, rfl⟩ hc, trivial⟩
theorem u_X12_sorrow {sl : Nat} {si : Nat → Int} {h h' : PH} {as r : List ZV} (hc : CP (zz sl si (7, 0)) mX12_sorrow h as h' r) : h' = h ∧ True := ⟨pu_cp pu_ok ⟨(14, 11), by decide +kernel, rfl⟩ hc, trivial⟩
theorem u_X12_isGhost {sl : Nat} {si : Nat → Int} {h h' : PH} {as r : List ZV} (hc : CP (zz sl si (7, 0)) mX12_isGhost h as h' r) : h' = h ∧ True := ⟨pu_cp pu_ok ⟨(14, 12), by decide +kernel, rfl⟩ hc, trivial⟩
theorem u_X12_setOf {sl : Nat} {si : Nat → Int} {h h' : PH} {as r : List ZV} (hc : CP (zz sl si (7, 0)) mX12_setOf h as h' r) : h' = h ∧ True := ⟨pu_cp pu_ok ⟨(14, 13), by decide +kernel, rfl⟩ hc, trivial⟩
theorem u_X12_inHouse {sl : Nat} {si : Nat → Int} {h h' : PH} {as r : List ZV} (hc : CP (zz sl si (7, 0)) mX12_inHouse h as h' r) : h' = h ∧ True := ⟨pu_cp pu_ok ⟨(15, 1), by decide +kernel, rfl⟩ hc, trivial⟩
theorem u_X12_isSo {sl : Nat} {si : Nat → Int} {h h' : PH} {as r : List ZV} (hc : CP (zz sl si (7, 0)) mX12_isSo h as h' r) : h' = h ∧ True := ⟨pu_cp pu_ok ⟨(16, 13), by decide +kernel, rfl⟩ hc, trivial⟩
theorem u_X12_mostOf {sl : Nat} {si : Nat → Int} {h h' : PH} {as r : List ZV} (hc : CP (zz sl si (7, 0)) mX12_mostOf h as h' r) : h' = h ∧ True := ⟨pu_cp pu_ok ⟨(17, 4), by decide +kernel, rfl⟩ hc, trivial⟩
/-! METHODS THAT WRITE NO ROW -/
theorem z_putf_k2 {sh : SHP} {lk : List Nat} {h : PH} {st : List ZV} {kk : PH → List ZV → Prop} (H : z_putf (R := Prop) False sh lk h st kk) : ∃ ci k rest a v r q, lk = ci :: k :: rest ∧ sh[zc a]? = some q ∧ q.1 < 100 ∧ q.1 = ci ∧ kk (uph h (zc a) k v) r := by
  unfold z_putf at H
  match lk, st, H with
  | ci :: k :: tc :: rest, v :: a :: r, H =>
    have H : gdr False (Nat.beq a.1 2) (obr False (ax_nth sh (zc a)) (fun q => gdr False (Nat.beq q.1 ci && Nat.blt ci 100) (kk (uph h (zc a) k v.2) r))) := H
    cases g1 : Nat.beq a.1 2 with
    | false => rw [g1] at H; exact H.elim
    | true =>
      rw [g1] at H
      have H : obr False (ax_nth sh (zc a)) (fun q => gdr False (Nat.beq q.1 ci && Nat.blt ci 100) (kk (uph h (zc a) k v.2) r)) := H
      cases g2 : ax_nth sh (zc a) with
      | none => rw [g2] at H; exact H.elim
      | some q =>
        rw [g2] at H
        have H : gdr False (Nat.beq q.1 ci && Nat.blt ci 100) (kk (uph h (zc a) k v.2) r) := H
        cases g3 : (Nat.beq q.1 ci && Nat.blt ci 100) with
        | false => rw [g3] at H; exact H.elim
        | true =>
          rw [g3] at H
          rw [ax_nth_eq] at g2
          have w := bb_and g3
          have w1 := bb_eq w.1
          have w2 : ci < 100 := Nat.lt_of_succ_le (Nat.le_of_ble_eq_true w.2)
          exact ⟨ci, k, _, a, v.2, r, q, rfl, g2, by omega, w1, H⟩
noncomputable def nae (S : List (Nat × Nat)) (e : ME) : Bool :=
  !(Nat.ble 14 e.2.1 && Nat.ble e.2.1 16) && (bif Nat.beq e.2.1 21 then (match e.2.2.2.1 with
    | x :: l1 => !(Nat.beq x 901) && (match l1 with
      | b :: _ => Nat.beq x 902 || (Nat.beq x 903 || S.any (fun q => Nat.beq q.1 x && Nat.beq q.2 b))
      | [] => true)
    | [] => true) else true)
noncomputable def nac (S : List (Nat × Nat)) : Bool := S.all (fun q => match mth q.1 q.2 with
  | some C => C.2.2.2.2.2.2.all (nae S)
  | none => true)
theorem nac_in {S : List (Nat × Nat)} (h : nac S = true) {C : MR} (hC : inS S C) : ∀ e ∈ C.2.2.2.2.2.2, nae S e = true := by
  obtain ⟨q, hq, hm⟩ := hC
  have a := List.all_eq_true.mp h q hq
  rw [hm] at a
  exact List.all_eq_true.mp a
section NA
variable {Z : ZP} {c0 k0 : Nat} {S : List (Nat × Nat)} {q0 : Nat × Nat × List (Nat × Nat)}
theorem na_st (h0 : Z.2.2.2.1[c0]? = some q0) (hq : 100 ≤ q0.1) {cr : CRl} (hcr : ∀ C h as h' r, inS S C → cr C h as h' r → h' c0 k0 = h c0 k0) (hn : nac S = true) {M : MR} (hM : inS S M) {s s' : ZS} (H : zSt Z cr M s s') : s'.2.1 c0 k0 = s.2.1 c0 k0 := by
  obtain ⟨e, he, hpc, hz⟩ := H
  have hne := nac_in hn hM e he
  unfold nae at hne
  obtain ⟨n2, n3⟩ := bb_and hne
  by_cases h9 : e.2.1 = 9
  · unfold z_st at hz
    rw [h9] at hz
    have hz : z_putf (R := Prop) False Z.2.2.2.1 e.2.2.2.1 s.2.1 s.2.2.2 (fun h' st' => s' = (s.1 + e.2.2.1, h', s.2.2.1, st')) := hz
    obtain ⟨c, k, rest, a, v, r, q, e1, e2, e3, e5, e4⟩ := z_putf_k2 hz
    rw [e4]
    show uph s.2.1 (zc a) k v c0 k0 = s.2.1 c0 k0
    unfold uph
    rw [if_neg]
    intro z
    rw [← z.1, h0] at e2
    have e2 := Option.some.inj e2
    rw [← e2] at e3
    omega
  · by_cases h14 : 14 ≤ e.2.1 ∧ e.2.1 ≤ 16
    · exfalso
      rw [Nat.ble_eq_true_of_le h14.1, Nat.ble_eq_true_of_le h14.2] at n2
      cases n2
    · by_cases h21 : e.2.1 = 21
      · unfold z_st at hz
        rw [h21] at hz
        have hz : z_inv (R := Prop) False exA (exC cr) mth e.2.2.2.1 s.2.1 s.2.2.2 (fun h' st' => s' = (s.1 + e.2.2.1, h', s.2.2.1, st')) := hz
        obtain ⟨x, l1, e1, e2⟩ := z_inv_k hz
        rw [h21, e1] at n3
        rcases e2 with e2 | ⟨r, e2⟩ | ⟨b, l2, C, as, h', r, q, e2, e3, e4, e5⟩
        · exfalso
          have w := bb_and n3
          rw [e2] at w
          cases w.1
        · rw [e2]
        · rw [e5]
          rw [e2] at n3
          have w := (bb_and n3).2
          refine hcr C _ as h' r ?_ e4
          rcases (Bool.or_eq_true _ _).mp w with z | z
          · exfalso
            rw [bb_eq z] at e3
            exact mx902 _ _ e3
          · rcases (Bool.or_eq_true _ _).mp z with z | z
            · exfalso
              rw [bb_eq z] at e3
              exact mx903 _ _ e3
            · obtain ⟨p, p1, p2⟩ := List.any_eq_true.mp z
              have p2 := bb_and p2
              exact ⟨p, p1, by rw [bb_eq p2.1, bb_eq p2.2]; exact e3⟩
      · rw [z_st_h h9 h14 h21] at hz
        exact z_st_par (R2 := Prop) (Rl := fun a _ => a → s'.2.1 c0 k0 = s.2.1 c0 k0) (b2 := True) (br2 := fun _ _ _ => True) (as2 := fun _ _ => True) (cl2 := fun _ _ _ _ => True) (fun h => h.elim) (fun c x1 x2 y1 y2 hx hy h => h.elim (fun q => hx q.2) (fun q => hy q.2)) (fun c x1 x2 hx h => hx h.2) (fun C h as k1 k2 hk q => by
          obtain ⟨h', r, -, b⟩ := q
          exact hk h' r b) (nx2 := fun _ _ _ => True) (jp2 := fun _ _ _ _ => True) (fun _ _ _ z => by rw [z]) (fun _ _ _ _ z => by rw [z]) hz
theorem na_n (h0 : Z.2.2.2.1[c0]? = some q0) (hq : 100 ≤ q0.1) {cr : CRl} (hcr : ∀ C h as h' r, inS S C → cr C h as h' r → h' c0 k0 = h c0 k0) (hn : nac S = true) {M : MR} (hM : inS S M) : ∀ (n : Nat) {s s' : ZS}, Zn Z cr n M s s' → s'.2.1 c0 k0 = s.2.1 c0 k0
  | 0, _, _, H => by
    have H := H
    rw [H]
  | n + 1, _, _, H => by
    obtain ⟨s1, a, b⟩ := H
    rw [na_n h0 hq hcr hn hM n b, na_st h0 hq hcr hn hM a]
theorem na_c (h0 : Z.2.2.2.1[c0]? = some q0) (hq : 100 ≤ q0.1) (hn : nac S = true) : ∀ (f : Nat) (C : MR) (h : PH) (as : List ZV) (h' : PH) (r : List ZV), inS S C → Zc Z f C h as h' r → h' c0 k0 = h c0 k0
  | 0, _, _, _, _, _, _, H => H.elim
  | f + 1, C, h, as, h', r, hC, H => by
    obtain ⟨-, n, pc', lv', a, -⟩ := H
    exact na_n h0 hq (na_c h0 hq hn f) hn hC n a
/-- the rows stay -/
theorem na_cp (h0 : Z.2.2.2.1[c0]? = some q0) (hq : 100 ≤ q0.1) (hn : nac S = true) {C : MR} {h : PH} {as : List ZV} {h' : PH} {r : List ZV} (hC : inS S C) (H : CP Z C h as h' r) : h' c0 = h c0 := funext (fun k => by
  obtain ⟨f, H⟩ := H
  exact na_c h0 hq hn f C h as h' r hC H)
end NA
def sNa : List (Nat × Nat) := [(0, 0), (0, 3), (0, 6), (0, 7), (0, 8), (0, 9), (0, 10), (0, 11), (0, 12), (0, 15), (0, 16), (0, 17), (0, 18), (0, 19), (1, 0), (1, 1), (1, 2), (1, 3), (1, 7), (1, 8), (1, 14), (1, 17), (1, 18), (2, 4), (2, 5), (2, 7), (2, 9), (2, 10), (2, 12), (2, 13), (2, 18), (3, 1), (3, 3), (3, 4), (3, 5), (3, 6), (3, 7), (3, 12), (3, 13), (3, 14), (3, 17), (3, 18), (3, 19), (4, 0), (4, 2), (4, 3), (4, 14), (4, 15), (4, 18), (5, 2), (5, 14), (5, 15), (5, 16), (5, 17), (5, 18), (5, 19), (6, 0), (6, 1), (6, 2), (6, 3), (6, 4), (6, 5), (6, 6), (6, 7), (6, 8), (6, 9), (6, 10), (6, 11), (6, 12), (6, 13), (6, 14), (6, 16), (6, 19), (7, 0), (7, 1), (7, 4), (7, 9), (7, 10), (7, 11), (7, 12), (7, 13), (7, 14), (7, 15), (7, 16), (8, 2), (8, 5), (8, 6), (8, 7), (8, 15), (8, 16), (9, 1), (9, 4), (9, 8), (9, 9), (9, 10), (9, 11), (9, 12), (9, 15), (9, 16), (9, 17), (9, 18), (9, 19), (10, 0), (10, 2), (10, 3), (10, 5), (10, 9), (10, 10), (10, 11), (10, 12), (10, 13), (10, 14), (10, 15), (10, 16), (10, 17), (10, 18), (10, 19), (11, 0), (11, 1), (11, 2), (11, 3), (11, 6), (11, 7), (11, 8), (11, 9), (11, 10), (11, 11), (11, 12), (11, 13), (11, 14), (11, 15), (11, 17), (11, 19), (12, 1), (12, 4), (12, 5), (12, 6), (12, 7), (12, 8), (12, 9), (12, 10), (12, 12), (12, 13), (12, 15), (12, 16), (12, 17), (12, 18), (12, 19), (13, 0), (13, 17), (13, 18), (13, 19), (14, 0), (14, 1), (14, 2), (14, 3), (14, 4), (14, 5), (14, 6), (14, 7), (14, 9), (14, 10), (14, 11), (14, 12), (14, 13), (14, 14), (14, 15), (14, 16), (14, 17), (14, 18), (14, 19), (15, 0), (15, 1), (15, 2), (15, 10), (15, 11), (15, 12), (16, 10), (16, 13), (17, 4), (17, 12), (17, 18), (17, 19), (18, 0), (18, 6), (18, 9), (18, 10), (18, 11), (18, 12), (18, 13), (18, 14), (18, 15), (18, 17), (18, 19), (19, 4), (19, 8), (19, 13), (19, 16), (19, 17), (19, 18), (19, 19), (20, 0), (20, 1), (20, 2), (20, 3), (20, 4), (20, 5), (20, 8), (900, 0), (900, 1)]
set_option maxRecDepth 100000 in
theorem na_ok : nac sNa = true := by decide +kernel
theorem n_X12_is {sl : Nat} {si : Nat → Int} {h h' : PH} {as r : List ZV} {c0 : Nat} {q0 : Nat × Nat × List (Nat × Nat)} (h0 : shq[c0]? = some q0) (hq : 100 ≤ q0.1) (hc : CP (zz sl si (7, 0)) mX12_is h as h' r) : h' c0 = h c0 := na_cp (Z := zz sl si (7, 0)) h0 hq na_ok ⟨(11, 9), by decide +kernel, rfl⟩ hc
theorem n_X12_tellsBy {sl : Nat} {si : Nat → Int} {h h' : PH} {as r : List ZV} {c0 : Nat} {q0 : Nat × Nat × List (Nat × Nat)} (h0 : shq[c0]? = some q0) (hq : 100 ≤ q0.1) (hc : CP (zz sl si (7, 0)) mX12_tellsBy h as h' r) : h' c0 = h c0 := na_cp (Z := zz sl si (7, 0)) h0 hq na_ok ⟨(11, 13), by decide +kernel, rfl⟩ hc
