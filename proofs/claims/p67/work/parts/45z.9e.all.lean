/-! what holds between calls, through every call -/
section TL
variable {sl : Nat} {si : Nat → Int} {h h1 h2 : PH} {a v w : Int}
theorem tales_9 {L : PH} (hJ : J10 h) (hL : CL 5 h L) (hw : W10 L) (hr : RLd 0 0 h L) (ht : TLS 21 0 h L) (fbL : ∀ j k : Nat, inL j k → h2 (5 + j) k = h1 (5 + j) k) (fbT : ∀ j k : Nat, inT j k → h2 (21 + j) k = h1 (21 + j) k) (fbN : ∀ k : Nat, k < 15 → h2 171 k = h1 171 k) (p1 : CP (zz sl si (7, 0)) mX11_tales h [(2, 0), (0, a)] h1 [(0, v)]) (p2 : CP (zz sl si (7, 0)) mX12_tales h1 [(2, 169), (0, a)] h2 [(0, w)]) : v = w ∧ CL 5 h2 L ∧ RLd 0 0 h2 L ∧ TLS 21 0 h2 L ∧ ∀ k : Nat, 528 ≤ k → k < 2112 → h2 170 k = h 170 k := by
  let M : PH := fun j k => if j = 99 then h 170 k else L j k
  have MO : ∀ j k : Nat, j ≠ 99 → M j k = L j k := fun j k q => if_neg q
  have M9 : ∀ k : Nat, M 99 k = h 170 k := fun k => if_pos rfl
  have hM : CL 5 h M := fun j k i => by have := inL_b i; rw [MO j k (by omega)]; exact hL j k i
  have hWN : WN M := ⟨by rw [MO 1 0 (by omega)]; exact hw.1.1.1, by rw [MO 0 4 (by omega)]; exact hw.1.1.2.1⟩
  obtain ⟨y1, n1, f1⟩ := c_X11_talesF hJ hM hWN p1
  obtain ⟨ja, jb, jc, jd⟩ := hJ
  have F1 : ∀ c k : Nat, (5 ≤ c ∧ c ≤ 20) ∨ (c = 169 ∧ k = 10) ∨ 170 ≤ c → h1 c k = h c k := fun c k q => f1 c k (by omega) (by omega) (by omega) (by omega) (by omega) (by omega) (by omega)
  have nm : NmL h1 M := by
    obtain ⟨⟨a1, a2, -, -⟩, -, -, -, -, f, g⟩ := hr
    refine ⟨⟨by rw [F1 170 0 (by omega), MO 1 0 (by omega)]; exact a1, by rw [F1 170 1 (by omega), MO 0 4 (by omega)]; exact a2⟩, fun i hi => ?_, fun p hp => ?_, fun k hk => by rw [F1 170 k (by omega), M9]⟩
    · rw [MO 1 0 (by omega)] at hi
      have z := f i hi
      rw [Nat.zero_add] at z
      rw [F1 171 i (by omega), MO 9 i (by omega)]; exact z
    · rw [MO 0 4 (by omega)] at hp
      have z := g p hp
      rw [show 0 + 7 + p = 7 + p by omega] at z
      rw [F1 171 _ (by omega), MO 10 p (by omega)]; exact z
  have hY : y0 h 43 2 = 0 ∧ y0 h 43 1 = 0 ∧ y0 h 50 4 = 0 := by
    unfold y0
    exact ⟨by rw [up_ne (by omega), up_sm], by rw [up_ne (by omega), up_ne (by omega), up_sm], up_sm⟩
  obtain ⟨y2, n2⟩ := c_X12_talesG (B := fun k => h 3 k) (n := h 2 1) (L := M) (Y := y0 h) (fun k hk => by rw [F1 175 k (by omega)]; exact jc k hk) (by rw [F1 169 10 (by omega)]; exact ja.symm) jb nm hWN hY p2
  have c5 : CL 5 h2 L := fun j k i => by have := inL_b i; exact ((fbL j k i).trans (F1 (5 + j) k (by omega))).trans (hL j k i)
  have nG : ∀ k : Nat, 0 ≤ k → k < 0 + 15 → h2 171 k = h 171 k := fun k _ hk => (fbN k (by omega)).trans (F1 171 k (by omega))
  by_cases z : 0 ≤ a ∧ a ≤ h 2 1 ∧ a ≤ 300
  · have z1 := (y1 z).2
    have z2 := y2 z
    have zY := ptl_Y (T := Tx (fun k => h 3 k) a) (L := M) (by rw [MO 1 0 (by omega)]; exact hw.1.1.1.1) (by rw [MO 0 4 (by omega)]; exact hw.1.1.2.1.1) 300 (sk (Tx (fun k => h 3 k) a) 0) (y0 h) WY9_y0
    generalize ptl (Tx (fun k => h 3 k) a) M 300 (sk (Tx (fun k => h 3 k) a) 0) (y0 h) = r at z1 z2 zY
    match r, z1, z2, zY with
    | .inl q, z1, z2, zY =>
      have z1 : v = -1 ∧ CF h1 q.1 q.2 ∧ h1 0 0 = 9 ∧ ∀ c k : Nat, 21 ≤ c → c ≤ 26 → h1 c k = h c k := z1
      have z2 : w = -1 ∧ h2 169 16 = q.1 ∧ h2 169 17 = (q.2 : Int) ∧ NmL h2 M := z2
      have e : ∀ k : Nat, k < 2112 → h2 170 k = h 170 k := fun k hk => (z2.2.2.2.2.2.2 k hk).trans (M9 k)
      exact ⟨z1.1.trans z2.1.symm, c5, hr.f4 hw.1.1 (fun k _ hk _ => e k (by omega)) nG, ht.cp (b' := 21) (s' := 0) (fun j k i => by have := inT_b i; exact (fbT j k i).trans (z1.2.2.2 (21 + j) k (by omega) (by omega))) (fun k hk => e _ (by omega)), fun k _ hk => e k hk⟩
    | .inr q, z1, z2, zY =>
      have z1 : v = q.2 43 1 ∧ (h1 2 10 = 0 ∧ h1 2 11 = -1) ∧ CS 21 h1 q.2 ∧ WT q.2 ∧ q.2 50 4 = 0 ∧ h1 0 0 = 0 := z1
      have z2 : w = q.2 43 1 ∧ h2 169 16 = 0 ∧ h2 169 17 = -1 ∧ RTl 0 h2 q.2 ∧ (∀ k : Nat, k < 2112 → k ≠ 4 → ¬ (164 ≤ k ∧ k < 524) → h2 170 k = M 99 k) ∧ ∀ k : Nat, k < 15 → True := z2
      obtain ⟨x1, x2, x3, x4⟩ := z1.2.2.1
      have e : ∀ k : Nat, k < 2112 → k ≠ 4 → ¬ (164 ≤ k ∧ k < 524) → h2 170 k = h 170 k := fun k q1 q2 q3 => (z2.2.2.2.2.1 k q1 q2 q3).trans (M9 k)
      exact ⟨z1.1.trans z2.1.symm, c5, hr.f4 hw.1.1 (fun k _ hk q => e k (by omega) (by omega) (by omega)) nG, Or.inr ⟨q.2, ⟨by rw [show h2 21 0 = h1 21 0 from fbT 0 0 (by unfold inT; omega)]; exact x1, by rw [show h2 21 1 = h1 21 1 from fbT 0 1 (by unfold inT; omega)]; exact x2, by rw [show h2 21 2 = h1 21 2 from fbT 0 2 (by unfold inT; omega)]; exact x3, fun i k hi hk => by rw [show h2 (21 + 1 + i) k = h1 (21 + 1 + i) k by (have z := fbT (1 + i) k (by unfold inT; omega); rw [show 21 + (1 + i) = 21 + 1 + i by omega] at z; exact z)]; exact x4 i k hi hk⟩, z2.2.2.2.1, (zY q rfl).1.lc (MO 1 0 (by omega)).symm (MO 0 4 (by omega)).symm, z1.2.2.2.1, z1.2.2.2.2.1⟩, fun k q1 q2 => e k q2 (by omega) (by omega)⟩
  · obtain ⟨z1, z2⟩ := n1 z
    obtain ⟨z3, z4⟩ := n2 z
    have e : ∀ k : Nat, h2 170 k = h 170 k := fun k => by rw [z4, z1, up_ne (by omega), up_ne (by omega)]
    exact ⟨z2.trans z3.symm, c5, hr.f4 hw.1.1 (fun k _ _ _ => e k) nG, ht.kp rfl rfl (fun c k q1 q2 => by rw [z4, z1, up_ne (by omega), up_ne (by omega)]) (fun k _ => e _), fun k _ _ => e k⟩
end TL
def FLd (b : Nat) : List (Nat × Int × Int) := [(b + 0, 4, 4), (b + 0, 7, 9), (b + 0, 12, 13), (b + 1, 0, 1), (b + 2, 0, 6), (b + 3, 0, 48), (b + 4, 0, 48), (b + 7, 0, 63), (b + 8, 0, 7), (b + 9, 0, 6), (b + 10, 0, 7), (b + 11, 0, 7), (b + 12, 0, 7), (b + 13, 0, 23), (b + 14, 0, 7), (b + 15, 0, 6)]
def FTd (b : Nat) : List (Nat × Int × Int) := [(b + 0, 0, 2), (b + 1, 0, 59), (b + 2, 0, 59), (b + 3, 0, 59), (b + 4, 0, 59), (b + 5, 0, 59)]
def FLV : List (Nat × Int × Int) := [(89, 0, 6), (169, 32, 32), (184, 0, 4)]
def FMK : List (Nat × Int × Int) := FLd 103 ++ (FTd 119 ++ (FLd 125 ++ (FTd 141 ++ (FLd 147 ++ FTd 163))))
def FXx : List (Nat × Int × Int) := [(0, 17, 17), (169, 33, 33)]
def FRr : List (Nat × Int × Int) := [(170, 164, 2111), (171, 0, 59)]
def F9c : List (Nat × Int × Int) := FXx ++ (FLV ++ (FRr ++ (FMK ++ (FLd 5 ++ FTd 21))))
def F9a : List (Nat × Int × Int) := F10 ++ F9c
def F9 : List (Nat × Int × Int) := [(170, 0, 163)] ++ F9a
def FC9 : List (Nat × Int × Int) := [(170, 0, 163)] ++ ([(4, 0, 23), (169, 10, 10), (175, 0, 899)] ++ F9c)
def FD9 : List (Nat × Int × Int) := [(170, 0, 163)] ++ ([(2, 1, 1), (3, 0, 899), (4, 0, 23)] ++ F9c)
def FA9 : List (Nat × Int × Int) := FA10 ++ (FXx ++ (FLV ++ (FMK ++ ([(171, 0, 59)] ++ FLd 5))))
def FB9 : List (Nat × Int × Int) := FB10 ++ (FXx ++ (FLV ++ (FMK ++ ([(171, 0, 59)] ++ (FLd 5 ++ FTd 21)))))
section FR9
variable {A B F : List (Nat × Int × Int)} {h h1 h2 h' : PH}
theorem Frm.l (hF : Frm (A ++ B) h h') : Frm A h h' := fun g hg => hF g (List.mem_append_left _ hg)
theorem Frm.r (hF : Frm (A ++ B) h h') : Frm B h h' := fun g hg => hF g (List.mem_append_right _ hg)
theorem Frm.tr (f : Frm A h h1) (g : Frm A h1 h2) : Frm A h h2 := fun x hx k k1 k2 => (g x hx k k1 k2).trans (f x hx k k1 k2)
theorem Frm.Ld {b : Nat} (hF : Frm (FLd b) h h') : ∀ j k : Nat, inL j k → h' (b + j) k = h (b + j) k := fun j k i => by
  unfold inL at i
  rcases i with ⟨rfl, i⟩ | ⟨rfl, i⟩ | ⟨rfl, i⟩ | ⟨rfl, i⟩ | ⟨rfl, i⟩ | ⟨rfl, i⟩ | ⟨rfl, i⟩ | ⟨rfl, i⟩ | ⟨rfl, i⟩ | ⟨rfl, i⟩ | ⟨rfl, i⟩ | ⟨rfl, i⟩ | ⟨rfl, i⟩ | ⟨rfl, i⟩
  · rcases (show k = 4 ∨ (7 ≤ k ∧ k ≤ 9) ∨ (12 ≤ k ∧ k ≤ 13) by omega) with e | e | e
    · exact hF (b + 0, 4, 4) (by simp [FLd]) k (by show (4 : Int) ≤ _; omega) (by show _ ≤ (4 : Int); omega)
    · exact hF (b + 0, 7, 9) (by simp [FLd]) k (by show (7 : Int) ≤ _; omega) (by show _ ≤ (9 : Int); omega)
    · exact hF (b + 0, 12, 13) (by simp [FLd]) k (by show (12 : Int) ≤ _; omega) (by show _ ≤ (13 : Int); omega)
  · exact hF (b + 1, 0, 1) (by simp [FLd]) k (by show (0 : Int) ≤ _; omega) (by show _ ≤ (1 : Int); omega)
  · exact hF (b + 2, 0, 6) (by simp [FLd]) k (by show (0 : Int) ≤ _; omega) (by show _ ≤ (6 : Int); omega)
  · exact hF (b + 3, 0, 48) (by simp [FLd]) k (by show (0 : Int) ≤ _; omega) (by show _ ≤ (48 : Int); omega)
  · exact hF (b + 4, 0, 48) (by simp [FLd]) k (by show (0 : Int) ≤ _; omega) (by show _ ≤ (48 : Int); omega)
  · exact hF (b + 7, 0, 63) (by simp [FLd]) k (by show (0 : Int) ≤ _; omega) (by show _ ≤ (63 : Int); omega)
  · exact hF (b + 8, 0, 7) (by simp [FLd]) k (by show (0 : Int) ≤ _; omega) (by show _ ≤ (7 : Int); omega)
  · exact hF (b + 9, 0, 6) (by simp [FLd]) k (by show (0 : Int) ≤ _; omega) (by show _ ≤ (6 : Int); omega)
  · exact hF (b + 10, 0, 7) (by simp [FLd]) k (by show (0 : Int) ≤ _; omega) (by show _ ≤ (7 : Int); omega)
  · exact hF (b + 11, 0, 7) (by simp [FLd]) k (by show (0 : Int) ≤ _; omega) (by show _ ≤ (7 : Int); omega)
  · exact hF (b + 12, 0, 7) (by simp [FLd]) k (by show (0 : Int) ≤ _; omega) (by show _ ≤ (7 : Int); omega)
  · exact hF (b + 13, 0, 23) (by simp [FLd]) k (by show (0 : Int) ≤ _; omega) (by show _ ≤ (23 : Int); omega)
  · exact hF (b + 14, 0, 7) (by simp [FLd]) k (by show (0 : Int) ≤ _; omega) (by show _ ≤ (7 : Int); omega)
  · exact hF (b + 15, 0, 6) (by simp [FLd]) k (by show (0 : Int) ≤ _; omega) (by show _ ≤ (6 : Int); omega)
theorem Frm.Td {b : Nat} (hF : Frm (FTd b) h h') : ∀ j k : Nat, inT j k → h' (b + j) k = h (b + j) k := fun j k i => by
  unfold inT at i
  rcases i with ⟨rfl, i⟩ | ⟨i1, i2, i3⟩
  · exact hF (b + 0, 0, 2) (by simp [FTd]) k (by show (0 : Int) ≤ _; omega) (by show _ ≤ (2 : Int); omega)
  · rcases (show j = 1 ∨ j = 2 ∨ j = 3 ∨ j = 4 ∨ j = 5 by omega) with e | e | e | e | e <;> subst e
    · exact hF (b + 1, 0, 59) (by simp [FTd]) k (by show (0 : Int) ≤ _; omega) (by show _ ≤ (59 : Int); omega)
    · exact hF (b + 2, 0, 59) (by simp [FTd]) k (by show (0 : Int) ≤ _; omega) (by show _ ≤ (59 : Int); omega)
    · exact hF (b + 3, 0, 59) (by simp [FTd]) k (by show (0 : Int) ≤ _; omega) (by show _ ≤ (59 : Int); omega)
    · exact hF (b + 4, 0, 59) (by simp [FTd]) k (by show (0 : Int) ≤ _; omega) (by show _ ≤ (59 : Int); omega)
    · exact hF (b + 5, 0, 59) (by simp [FTd]) k (by show (0 : Int) ≤ _; omega) (by show _ ≤ (59 : Int); omega)
theorem LIV.f (l : LIV h) (hF : Frm FLV h h') : LIV h' := l.e (fun c k q => by
  rcases q with ⟨e, i⟩ | ⟨e, i⟩ | ⟨e, i⟩ <;> subst e
  · exact hF (89, 0, 6) (by simp [FLV]) k (by show (0 : Int) ≤ _; omega) (by show _ ≤ (6 : Int); omega)
  · exact hF (169, 32, 32) (by simp [FLV]) k (by show (32 : Int) ≤ _; omega) (by show _ ≤ (32 : Int); omega)
  · exact hF (184, 0, 4) (by simp [FLV]) k (by show (0 : Int) ≤ _; omega) (by show _ ≤ (4 : Int); omega))
theorem Frm.rr (hF : Frm FRr h h') : (∀ k : Nat, 164 ≤ k → k < 2112 → h' 170 k = h 170 k) ∧ ∀ k : Nat, k < 60 → h' 171 k = h 171 k :=
  ⟨fun k k1 k2 => hF (170, 164, 2111) (by simp [FRr]) k (by show (164 : Int) ≤ _; omega) (by show _ ≤ (2111 : Int); omega), fun k k1 => hF (171, 0, 59) (by simp [FRr]) k (by show (0 : Int) ≤ _; omega) (by show _ ≤ (59 : Int); omega)⟩
theorem Frm.xx (hF : Frm FXx h h') : h' 0 17 = h 0 17 ∧ h' 169 33 = h 169 33 :=
  ⟨hF (0, 17, 17) (by simp [FXx]) 17 (by show (17 : Int) ≤ _; omega) (by show _ ≤ (17 : Int); omega), hF (169, 33, 33) (by simp [FXx]) 33 (by show (33 : Int) ≤ _; omega) (by show _ ≤ (33 : Int); omega)⟩
theorem Frm.mk (hF : Frm FMK h h') {m : Nat} (hm : m < 3) : (∀ j k : Nat, inL j k → h' (103 + 22 * m + j) k = h (103 + 22 * m + j) k) ∧ ∀ j k : Nat, inT j k → h' (103 + 22 * m + 16 + j) k = h (103 + 22 * m + 16 + j) k := by
  rcases (show m = 0 ∨ m = 1 ∨ m = 2 by omega) with e | e | e <;> subst e
  · exact ⟨hF.l.Ld, hF.r.l.Td⟩
  · exact ⟨hF.r.r.l.Ld, hF.r.r.r.l.Td⟩
  · exact ⟨hF.r.r.r.r.l.Ld, hF.r.r.r.r.r.Td⟩
/-- the marks -/
theorem J8_mk (hM : ∀ m : Nat, (m : Int) < h 0 17 → ∃ L, LTS (103 + 22 * m) (m + 1) h L) (h3 : h 0 17 ≤ 3) (fm : Frm FMK h h') (e1 : ∀ k : Nat, 528 ≤ k → k < 2112 → h' 170 k = h 170 k) (e2 : ∀ k : Nat, 15 ≤ k → k < 60 → h' 171 k = h 171 k) (e0 : h' 0 17 = h 0 17) : ∀ m : Nat, (m : Int) < h' 0 17 → ∃ L, LTS (103 + 22 * m) (m + 1) h' L := fun m hm => by
  rw [e0] at hm
  obtain ⟨L, l⟩ := hM m hm
  have z := fm.mk (m := m) (by omega)
  exact ⟨L, l.cp z.1 z.2 (fun k hk => e1 _ (by omega) (by omega)) (fun k hk => e2 _ (by omega) (by omega))⟩
theorem J9_of (hJ : J9 h) (j : J10 h') (f : Frm F9c h h') (s : SA h h') : J9 h' := by
  obtain ⟨⟨-, ⟨b1, b2, b3⟩, ⟨L, l⟩, cm⟩, lv⟩ := hJ
  obtain ⟨x0, x1⟩ := f.l.xx
  obtain ⟨r1, r2⟩ := f.r.r.l.rr
  have rr : ∀ k : Nat, k < 2112 → h' 170 k = h 170 k := fun k hk => by
    by_cases z : k < 164
    · exact s k z
    · exact r1 k (by omega) hk
  exact ⟨⟨j, ⟨by rw [x0, x1]; exact b1, by rw [x0]; exact b2, by rw [x0]; exact b3⟩, ⟨L, l.cp f.r.r.r.r.l.Ld f.r.r.r.r.r.Td (fun k hk => rr _ (by omega)) (fun k hk => r2 _ (by omega))⟩, J8_mk cm b3 f.r.r.r.l (fun k k1 k2 => rr k k2) (fun k k1 k2 => r2 k k2) x0⟩, lv.f f.r.l⟩
theorem Frm.sa (hF : Frm [(170, 0, 163)] h h') : SA h h' := fun k hk => hF (170, 0, 163) (List.mem_singleton.mpr rfl) k (by show (0 : Int) ≤ _; omega) (by show _ ≤ (163 : Int); omega)
theorem J9_frm (hJ : J9 h) (hF : Frm F9 h h') : J9 h' := J9_of hJ (J10_frm hJ.1.1 hF.r.l) hF.r.r hF.l.sa
theorem tr9 (hJ : J9 h) (fa : Frm F9 h h1) (fb : Frm F9a h1 h2) (s : SA h1 h2) : J9 h2 := by
  have j := J9_frm hJ fa
  exact J9_of j (J10_frm j.1.1 fb.l) fb.r s
section PR
variable {sl : Nat} {si : Nat → Int} {a b c d e v w : Int}
theorem pr_feed9 (hJ : J9 h) (fa : Frm FC9 h h1) (fb : Frm FD9 h1 h2) (p1 : CP (zz sl si (7, 0)) mX11_feed h [(2, 0), (0, a), (0, b), (0, c), (0, d), (0, e)] h1 [(0, v)]) (p2 : CP (zz sl si (7, 0)) mX12_feed h1 [(2, 169), (0, a), (0, b), (0, c), (0, d), (0, e)] h2 [(0, w)]) : J9 h2 :=
  J9_of hJ (pr_feed hJ.1.1 p1 p2).1 (fa.r.r.tr fb.r.r) (fa.l.tr fb.l).sa
theorem pr_tales9 (hJ : J9 h) (fa : Frm FA9 h h1) (fb : Frm FB9 h1 h2) (p1 : CP (zz sl si (7, 0)) mX11_tales h [(2, 0), (0, a)] h1 [(0, v)]) (p2 : CP (zz sl si (7, 0)) mX12_tales h1 [(2, 169), (0, a)] h2 [(0, w)]) : J9 h2 ∧ v = w := by
  obtain ⟨⟨j, ⟨b1, b2, b3⟩, ⟨L, l⟩, cm⟩, lv⟩ := hJ
  have j2 := pr_tales j fa.l fb.l p1 p2
  obtain ⟨x0, x1⟩ := (fa.r.l.tr fb.r.l).xx
  obtain ⟨q1, q2, q3, q4, q5⟩ := tales_9 j l.1 l.2.1 l.2.2.1 l.2.2.2 fb.r.r.r.r.r.l.Ld fb.r.r.r.r.r.r.Td (fun k hk => fb.r.r.r.r.l (171, 0, 59) (List.mem_singleton.mpr rfl) k (by show (0 : Int) ≤ _; omega) (by show _ ≤ (59 : Int); omega)) p1 p2
  have n2 : ∀ k : Nat, k < 60 → h2 171 k = h 171 k := fun k hk => (fa.r.r.r.r.l.tr fb.r.r.r.r.l) (171, 0, 59) (List.mem_singleton.mpr rfl) k (by show (0 : Int) ≤ _; omega) (by show _ ≤ (59 : Int); omega)
  exact ⟨⟨⟨j2, ⟨by rw [x0, x1]; exact b1, by rw [x0]; exact b2, by rw [x0]; exact b3⟩, ⟨L, q2, l.2.1, q3, q4⟩, J8_mk cm b3 (fa.r.r.r.l.tr fb.r.r.r.l) q5 (fun k k1 k2 => n2 k k2) x0⟩, lv.f (fa.r.r.l.tr fb.r.r.l)⟩, q1⟩
theorem pr_land9 (hJ : J9 h) (fa : Frm FLV h h1) (fb : Frm FLV h1 h2) (p1 : CP (zz sl si (7, 0)) mX11_land h [(2, 0), (0, a)] h1 [(0, v)]) (p2 : CP (zz sl si (7, 0)) mX12_land h1 [(2, 169), (0, a)] h2 [(0, w)]) : J9 h2 ∧ v = w := ⟨⟨(pr_land8 hJ.1 p1 p2).1, (hJ.2.f fa).f fb⟩, (pr_land8 hJ.1 p1 p2).2⟩
theorem pr_mark9 (hJ : J9 h) (fa : Frm FLV h h1) (fb : Frm FLV h1 h2) (p1 : CP (zz sl si (7, 0)) mX11_mark h [(2, 0)] h1 [(0, v)]) (p2 : CP (zz sl si (7, 0)) mX12_mark h1 [(2, 169)] h2 [(0, w)]) : J9 h2 := ⟨pr_mark8 hJ.1 p1 p2, (hJ.2.f fa).f fb⟩
theorem pr_undo9 (hJ : J9 h) (fa : Frm FLV h h1) (fb : Frm FLV h1 h2) (p1 : CP (zz sl si (7, 0)) mX11_undo h [(2, 0)] h1 [(0, v)]) (p2 : CP (zz sl si (7, 0)) mX12_undo h1 [(2, 169)] h2 [(0, w)]) : J9 h2 := ⟨pr_undo8 hJ.1 p1 p2, (hJ.2.f fa).f fb⟩
theorem pr_salt9 (hJ : J9 h) (hb : b = 0 ∨ b = 1) (fa : Frm FLV h h1) (fb : Frm FLV h1 h2) (p1 : CP (zz sl si (7, 0)) mX11_salt h [(2, 0), (0, a), (0, b)] h1 [(0, v)]) (p2 : CP (zz sl si (7, 0)) mX12_salt h1 [(2, 169), (0, a), (0, b)] h2 [(0, w)]) : J9 h2 ∧ v = w := ⟨⟨(pr_salt8 hJ.1 hb p1 p2).1, (hJ.2.f fa).f fb⟩, (pr_salt8 hJ.1 hb p1 p2).2⟩
theorem pr_keep9 (hJ : J9 h) (hb : b = 0 ∨ b = 1) (fa : Frm FLV h h1) (fb : Frm FLV h1 h2) (p1 : CP (zz sl si (7, 0)) mX11_keep h [(2, 0), (0, a), (0, b)] h1 [(0, v)]) (p2 : CP (zz sl si (7, 0)) mX12_keep h1 [(2, 169), (0, a), (0, b)] h2 [(0, w)]) : J9 h2 ∧ v = w := ⟨⟨(pr_keep8 hJ.1 hb p1 p2).1, (hJ.2.f fa).f fb⟩, (pr_keep8 hJ.1 hb p1 p2).2⟩
theorem pr_wall9 (hJ : J9 h) (hb : c = 0 ∨ c = 1) (fa : Frm FLV h h1) (fb : Frm FLV h1 h2) (p1 : CP (zz sl si (7, 0)) mX11_wall h [(2, 0), (0, a), (0, b), (0, c)] h1 [(0, v)]) (p2 : CP (zz sl si (7, 0)) mX12_wall h1 [(2, 169), (0, a), (0, b), (0, c)] h2 [(0, w)]) : J9 h2 ∧ v = w := ⟨⟨(pr_wall8 hJ.1 hb p1 p2).1, (hJ.2.f fa).f fb⟩, (pr_wall8 hJ.1 hb p1 p2).2⟩
theorem pr_move9 (hJ : J9 h) (fa : Frm FLV h h1) (fb : Frm FLV h1 h2) (p1 : CP (zz sl si (7, 0)) mX11_move h [(2, 0), (0, a), (0, b)] h1 [(0, v)]) (p2 : CP (zz sl si (7, 0)) mX12_move h1 [(2, 169), (0, a), (0, b)] h2 [(0, w)]) : J9 h2 ∧ v = w := ⟨⟨(pr_move8 hJ.1 p1 p2).1, (hJ.2.f fa).f fb⟩, (pr_move8 hJ.1 p1 p2).2⟩
theorem pr_night9 (hJ : J9 h) (hB : BdR h1) (hD : BdD h1) (fa : Frm FLV h h1) (fb : Frm FLV h1 h2) (p1 : CP (zz sl si (7, 0)) mX11_night h [(2, 0), (0, a)] h1 [(0, v)]) (p2 : CP (zz sl si (7, 0)) mX12_night h1 [(2, 169), (0, a)] h2 [(0, w)]) : J9 h2 ∧ v = w := ⟨⟨(pr_night8 hJ.1 hB hD p1 p2).1, (hJ.2.f fa).f fb⟩, (pr_night8 hJ.1 hB hD p1 p2).2⟩
theorem pr_die9 (hJ : J9 h) (hB : BdR h1) (hD : BdD h1) (hH : BdH h1) (fa : Frm FLV h h1) (fb : Frm FLV h1 h2) (p1 : CP (zz sl si (7, 0)) mX11_die h [(2, 0), (0, a)] h1 [(0, v)]) (p2 : CP (zz sl si (7, 0)) mX12_die h1 [(2, 169), (0, a)] h2 [(0, w)]) : J9 h2 ∧ v = w := ⟨⟨(pr_die8 hJ.1 hB hD hH p1 p2).1, (hJ.2.f fa).f fb⟩, (pr_die8 hJ.1 hB hD hH p1 p2).2⟩
theorem pr_forgive9 (hJ : J9 h) (fa : Frm FLV h h1) (fb : Frm FLV h1 h2) (p1 : CP (zz sl si (7, 0)) mX11_forgive h [(2, 0), (0, a), (0, b)] h1 [(0, v)]) (p2 : CP (zz sl si (7, 0)) mX12_forgive h1 [(2, 169), (0, a), (0, b)] h2 [(0, w)]) : J9 h2 ∧ v = w := ⟨⟨(pr_forgive8 hJ.1 p1 p2).1, (hJ.2.f fa).f fb⟩, (pr_forgive8 hJ.1 p1 p2).2⟩
theorem pr_forge9 (hJ : J9 h) (fa : Frm FLV h h1) (fb : Frm FLV h1 h2) (p1 : CP (zz sl si (7, 0)) mX11_forge h [(2, 0), (0, a), (0, b), (0, c)] h1 [(0, v)]) (p2 : CP (zz sl si (7, 0)) mX12_forge h1 [(2, 169), (0, a), (0, b), (0, c)] h2 [(0, w)]) : J9 h2 ∧ v = w := ⟨⟨(pr_forge8 hJ.1 p1 p2).1, (hJ.2.f fa).f fb⟩, (pr_forge8 hJ.1 p1 p2).2⟩
end PR
end FR9
