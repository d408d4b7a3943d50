section
/-! 45z.9e.all -/
/-! what holds between calls, through every call -/
section TL
variable {sl : Nat} {si : Nat → Int} {h h1 h2 : PH} {a v w : Int}
theorem tales_9 {L : PH} (hJ : J10 h) (hL : CL 5 h L) (hw : W10 L) (hr : RLd 0 0 h L) (ht : TLS 21 0 h L) (fbL : ∀ j k : Nat, inL j k → h2 (5 + j) k = h1 (5 + j) k) (fbT : ∀ j k : Nat, inT j k → h2 (21 + j) k = h1 (21 + j) k) (fbN : ∀ k : Nat, k < 15 → h2 171 k = h1 171 k) (p1 : CP (zz sl si (7, 0)) mX11_tales h [(2, 0), (0, a)] h1 [(0, v)]) (p2 : CP (zz sl si (7, 0)) mX12_tales h1 [(2, 169), (0, a)] h2 [(0, w)]) : v = w ∧ CL 5 h2 L ∧ RLd 0 0 h2 L ∧ TLS 21 0 h2 L ∧ ∀ k : Nat, 528 ≤ k → k < 2112 → h2 170 k = h 170 k := by
  let M : PH := fun j k => if j = 99 then h 170 k else L j k
  have MO : ∀ j k : Nat, j ≠ 99 → M j k = L j k := fun j k q => if_neg q
  have M9 : ∀ k : Nat, M 99 k = h 170 k := fun k => if_pos rfl
  have hM : CL 5 h M := fun j k i => by have := inL_b i; rw [MO j k (by omega)]; exact hL j k i
  have hWN : WN M := ⟨by rw [MO 1 0 (by omega)]; exact hw.1.1.1, by rw [MO 0 4 (by omega)]; exact hw.1.1.2.1⟩
  obtain ⟨y1, n1, f1⟩ := c_X11_talesF hJ hM hWN p1
  obtain ⟨ja, jb, jc, jd⟩ := hJ
  have F1 : ∀ c k : Nat, (5 ≤ c ∧ c ≤ 20) ∨ (c = 169 ∧ k = 10) ∨ 170 ≤ c → h1 c k = h c k := fun c k q => f1 c k (by omega) (by omega) (by omega) (by omega) (by omega) (by omega) (by omega)
  have nm : NmL h1 M := by
    obtain ⟨⟨a1, a2, -, -⟩, -, -, -, -, f, g⟩ := hr
    refine ⟨⟨by rw [F1 170 0 (by omega), MO 1 0 (by omega)]; exact a1, by rw [F1 170 1 (by omega), MO 0 4 (by omega)]; exact a2⟩, fun i hi => ?_, fun p hp => ?_, fun k hk => by rw [F1 170 k (by omega), M9]⟩
    · rw [MO 1 0 (by omega)] at hi
      have z := f i hi
      rw [Nat.zero_add] at z
      rw [F1 171 i (by omega), MO 9 i (by omega)]; exact z
    · rw [MO 0 4 (by omega)] at hp
      have z := g p hp
      rw [show 0 + 7 + p = 7 + p by omega] at z
      rw [F1 171 _ (by omega), MO 10 p (by omega)]; exact z
  have hY : y0 h 43 2 = 0 ∧ y0 h 43 1 = 0 ∧ y0 h 50 4 = 0 := by
    unfold y0
    exact ⟨by rw [up_ne (by omega), up_sm], by rw [up_ne (by omega), up_ne (by omega), up_sm], up_sm⟩
  obtain ⟨y2, n2⟩ := c_X12_talesG (B := fun k => h 3 k) (n := h 2 1) (L := M) (Y := y0 h) (fun k hk => by rw [F1 175 k (by omega)]; exact jc k hk) (by rw [F1 169 10 (by omega)]; exact ja.symm) jb nm hWN hY p2
  have c5 : CL 5 h2 L := fun j k i => by have := inL_b i; exact ((fbL j k i).trans (F1 (5 + j) k (by omega))).trans (hL j k i)
  have nG : ∀ k : Nat, 0 ≤ k → k < 0 + 15 → h2 171 k = h 171 k := fun k _ hk => (fbN k (by omega)).trans (F1 171 k (by omega))
  by_cases z : 0 ≤ a ∧ a ≤ h 2 1 ∧ a ≤ 300
  · have z1 := (y1 z).2
    have z2 := y2 z
    have zY := ptl_Y (T := Tx (fun k => h 3 k) a) (L := M) (by rw [MO 1 0 (by omega)]; exact hw.1.1.1.1) (by rw [MO 0 4 (by omega)]; exact hw.1.1.2.1.1) 300 (sk (Tx (fun k => h 3 k) a) 0) (y0 h) WY9_y0
    generalize ptl (Tx (fun k => h 3 k) a) M 300 (sk (Tx (fun k => h 3 k) a) 0) (y0 h) = r at z1 z2 zY
    match r, z1, z2, zY with
    | .inl q, z1, z2, zY =>
      have z1 : v = -1 ∧ CF h1 q.1 q.2 ∧ h1 0 0 = 9 ∧ ∀ c k : Nat, 21 ≤ c → c ≤ 26 → h1 c k = h c k := z1
      have z2 : w = -1 ∧ h2 169 16 = q.1 ∧ h2 169 17 = (q.2 : Int) ∧ NmL h2 M := z2
      have e : ∀ k : Nat, k < 2112 → h2 170 k = h 170 k := fun k hk => (z2.2.2.2.2.2.2 k hk).trans (M9 k)
      exact ⟨z1.1.trans z2.1.symm, c5, hr.f4 hw.1.1 (fun k _ hk _ => e k (by omega)) nG, ht.cp (b' := 21) (s' := 0) (fun j k i => by have := inT_b i; exact (fbT j k i).trans (z1.2.2.2 (21 + j) k (by omega) (by omega))) (fun k hk => e _ (by omega)), fun k _ hk => e k hk⟩
    | .inr q, z1, z2, zY =>
      have z1 : v = q.2 43 1 ∧ (h1 2 10 = 0 ∧ h1 2 11 = -1) ∧ CS 21 h1 q.2 ∧ WT q.2 ∧ q.2 50 4 = 0 ∧ h1 0 0 = 0 := z1
      have z2 : w = q.2 43 1 ∧ h2 169 16 = 0 ∧ h2 169 17 = -1 ∧ RTl 0 h2 q.2 ∧ (∀ k : Nat, k < 2112 → k ≠ 4 → ¬ (164 ≤ k ∧ k < 524) → h2 170 k = M 99 k) ∧ ∀ k : Nat, k < 15 → True := z2
      obtain ⟨x1, x2, x3, x4⟩ := z1.2.2.1
      have e : ∀ k : Nat, k < 2112 → k ≠ 4 → ¬ (164 ≤ k ∧ k < 524) → h2 170 k = h 170 k := fun k q1 q2 q3 => (z2.2.2.2.2.1 k q1 q2 q3).trans (M9 k)
      exact ⟨z1.1.trans z2.1.symm, c5, hr.f4 hw.1.1 (fun k _ hk q => e k (by omega) (by omega) (by omega)) nG, Or.inr ⟨q.2, ⟨by rw [show h2 21 0 = h1 21 0 from fbT 0 0 (by unfold inT; omega)]; exact x1, by rw [show h2 21 1 = h1 21 1 from fbT 0 1 (by unfold inT; omega)]; exact x2, by rw [show h2 21 2 = h1 21 2 from fbT 0 2 (by unfold inT; omega)]; exact x3, fun i k hi hk => by rw [show h2 (21 + 1 + i) k = h1 (21 + 1 + i) k by (have z := fbT (1 + i) k (by unfold inT; omega); rw [show 21 + (1 + i) = 21 + 1 + i by omega] at z; exact z)]; exact x4 i k hi hk⟩, z2.2.2.2.1, (zY q rfl).1.lc (MO 1 0 (by omega)).symm (MO 0 4 (by omega)).symm, z1.2.2.2.1, z1.2.2.2.2.1⟩, fun k q1 q2 => e k q2 (by omega) (by omega)⟩
  · obtain ⟨z1, z2⟩ := n1 z
    obtain ⟨z3, z4⟩ := n2 z
    have e : ∀ k : Nat, h2 170 k = h 170 k := fun k => by rw [z4, z1, up_ne (by omega), up_ne (by omega)]
    exact ⟨z2.trans z3.symm, c5, hr.f4 hw.1.1 (fun k _ _ _ => e k) nG, ht.kp rfl rfl (fun c k q1 q2 => by rw [z4, z1, up_ne (by omega), up_ne (by omega)]) (fun k _ => e _), fun k _ _ => e k⟩
end TL
def FLd (b : Nat) : List (Nat × Int × Int) := [(b + 0, 4, 4), (b + 0, 7, 9), (b + 0, 12, 13), (b + 1, 0, 1), (b + 2, 0, 6), (b + 3, 0, 48), (b + 4, 0, 48), (b + 7, 0, 63), (b + 8, 0, 7), (b + 9, 0, 6), (b + 10, 0, 7), (b + 11, 0, 7), (b + 12, 0, 7), (b + 13, 0, 23), (b + 14, 0, 7), (b + 15, 0, 6)]
def FTd (b : Nat) : List (Nat × Int × Int) := [(b + 0, 0, 2), (b + 1, 0, 59), (b + 2, 0, 59), (b + 3, 0, 59), (b + 4, 0, 59), (b + 5, 0, 59)]
def FLV : List (Nat × Int × Int) := [(89, 0, 6), (169, 32, 32), (184, 0, 4)]
def FMK : List (Nat × Int × Int) := FLd 103 ++ (FTd 119 ++ (FLd 125 ++ (FTd 141 ++ (FLd 147 ++ FTd 163))))
def FXx : List (Nat × Int × Int) := [(0, 17, 17), (169, 33, 33)]
def FRr : List (Nat × Int × Int) := [(170, 164, 2111), (171, 0, 59)]
def F9c : List (Nat × Int × Int) := FXx ++ (FLV ++ (FRr ++ (FMK ++ (FLd 5 ++ FTd 21))))
def F9a : List (Nat × Int × Int) := F10 ++ F9c
def F9 : List (Nat × Int × Int) := [(170, 0, 163)] ++ F9a
def FC9 : List (Nat × Int × Int) := [(170, 0, 163)] ++ ([(4, 0, 23), (169, 10, 10), (175, 0, 899)] ++ F9c)
def FD9 : List (Nat × Int × Int) := [(170, 0, 163)] ++ ([(2, 1, 1), (3, 0, 899), (4, 0, 23)] ++ F9c)
def FA9 : List (Nat × Int × Int) := FA10 ++ (FXx ++ (FLV ++ (FMK ++ ([(171, 0, 59)] ++ FLd 5))))
def FB9 : List (Nat × Int × Int) := FB10 ++ (FXx ++ (FLV ++ (FMK ++ ([(171, 0, 59)] ++ (FLd 5 ++ FTd 21)))))
section FR9
variable {A B F : List (Nat × Int × Int)} {h h1 h2 h' : PH}
theorem Frm.l (hF : Frm (A ++ B) h h') : Frm A h h' := fun g hg => hF g (List.mem_append_left _ hg)
theorem Frm.r (hF : Frm (A ++ B) h h') : Frm B h h' := fun g hg => hF g (List.mem_append_right _ hg)
theorem Frm.tr (f : Frm A h h1) (g : Frm A h1 h2) : Frm A h h2 := fun x hx k k1 k2 => (g x hx k k1 k2).trans (f x hx k k1 k2)
theorem Frm.Ld {b : Nat} (hF : Frm (FLd b) h h') : ∀ j k : Nat, inL j k → h' (b + j) k = h (b + j) k := fun j k i => by
  unfold inL at i
  rcases i with ⟨rfl, i⟩ | ⟨rfl, i⟩ | ⟨rfl, i⟩ | ⟨rfl, i⟩ | ⟨rfl, i⟩ | ⟨rfl, i⟩ | ⟨rfl, i⟩ | ⟨rfl, i⟩ | ⟨rfl, i⟩ | ⟨rfl, i⟩ | ⟨rfl, i⟩ | ⟨rfl, i⟩ | ⟨rfl, i⟩ | ⟨rfl, i⟩
  · rcases (show k = 4 ∨ (7 ≤ k ∧ k ≤ 9) ∨ (12 ≤ k ∧ k ≤ 13) by omega) with e | e | e
    · exact hF (b + 0, 4, 4) (by simp [FLd]) k (by show (4 : Int) ≤ _; omega) (by show _ ≤ (4 : Int); omega)
    · exact hF (b + 0, 7, 9) (by simp [FLd]) k (by show (7 : Int) ≤ _; omega) (by show _ ≤ (9 : Int); omega)
    · exact hF (b + 0, 12, 13) (by simp [FLd]) k (by show (12 : Int) ≤ _; omega) (by show _ ≤ (13 : Int); omega)
  · exact hF (b + 1, 0, 1) (by simp [FLd]) k (by show (0 : Int) ≤ _; omega) (by show _ ≤ (1 : Int); omega)
  · exact hF (b + 2, 0, 6) (by simp [FLd]) k (by show (0 : Int) ≤ _; omega) (by show _ ≤ (6 : Int); omega)
  · exact hF (b + 3, 0, 48) (by simp [FLd]) k (by show (0 : Int) ≤ _; omega) (by show _ ≤ (48 : Int); omega)
  · exact hF (b + 4, 0, 48) (by simp [FLd]) k (by show (0 : Int) ≤ _; omega) (by show _ ≤ (48 : Int); omega)
  · exact hF (b + 7, 0, 63) (by simp [FLd]) k (by show (0 : Int) ≤ _; omega) (by show _ ≤ (63 : Int); omega)
  · exact hF (b + 8, 0, 7) (by simp [FLd]) k (by show (0 : Int) ≤ _; omega) (by show _ ≤ (7 : Int); omega)
  · exact hF (b + 9, 0, 6) (by simp [FLd]) k (by show (0 : Int) ≤ _; omega) (by show _ ≤ (6 : Int); omega)
  · exact hF (b + 10, 0, 7) (by simp [FLd]) k (by show (0 : Int) ≤ _; omega) (by show _ ≤ (7 : Int); omega)
  · exact hF (b + 11, 0, 7) (by simp [FLd]) k (by show (0 : Int) ≤ _; omega) (by show _ ≤ (7 : Int); omega)
  · exact hF (b + 12, 0, 7) (by simp [FLd]) k (by show (0 : Int) ≤ _; omega) (by show _ ≤ (7 : Int); omega)
  · exact hF (b + 13, 0, 23) (by simp [FLd]) k (by show (0 : Int) ≤ _; omega) (by show _ ≤ (23 : Int); omega)
  · exact hF (b + 14, 0, 7) (by simp [FLd]) k (by show (0 : Int) ≤ _; omega) (by show _ ≤ (7 : Int); omega)
  · exact hF (b + 15, 0, 6) (by simp [FLd]) k (by show (0 : Int) ≤ _; omega) (by show _ ≤ (6 : Int); omega)
theorem Frm.Td {b : Nat} (hF : Frm (FTd b) h h') : ∀ j k : Nat, inT j k → h' (b + j) k = h (b + j) k := fun j k i => by
  unfold inT at i
  rcases i with ⟨rfl, i⟩ | ⟨i1, i2, i3⟩
  · exact hF (b + 0, 0, 2) (by simp [FTd]) k (by show (0 : Int) ≤ _; omega) (by show _ ≤ (2 : Int); omega)
  · rcases (show j = 1 ∨ j = 2 ∨ j = 3 ∨ j = 4 ∨ j = 5 by omega) with e | e | e | e | e <;> subst e
    · exact hF (b + 1, 0, 59) (by simp [FTd]) k (by show (0 : Int) ≤ _; omega) (by show _ ≤ (59 : Int); omega)
    · exact hF (b + 2, 0, 59) (by simp [FTd]) k (by show (0 : Int) ≤ _; omega) (by show _ ≤ (59 : Int); omega)
    · exact hF (b + 3, 0, 59) (by simp [FTd]) k (by show (0 : Int) ≤ _; omega) (by show _ ≤ (59 : Int); omega)
    · exact hF (b + 4, 0, 59) (by simp [FTd]) k (by show (0 : Int) ≤ _; omega) (by show _ ≤ (59 : Int); omega)
    · exact hF (b + 5, 0, 59) (by simp [FTd]) k (by show (0 : Int) ≤ _; omega) (by show _ ≤ (59 : Int); omega)
theorem LIV.f (l : LIV h) (hF : Frm FLV h h') : LIV h' := l.e (fun c k q => by
  rcases q with ⟨e, i⟩ | ⟨e, i⟩ | ⟨e, i⟩ <;> subst e
  · exact hF (89, 0, 6) (by simp [FLV]) k (by show (0 : Int) ≤ _; omega) (by show _ ≤ (6 : Int); omega)
  · exact hF (169, 32, 32) (by simp [FLV]) k (by show (32 : Int) ≤ _; omega) (by show _ ≤ (32 : Int); omega)
  · exact hF (184, 0, 4) (by simp [FLV]) k (by show (0 : Int) ≤ _; omega) (by show _ ≤ (4 : Int); omega))
theorem Frm.rr (hF : Frm FRr h h') : (∀ k : Nat, 164 ≤ k → k < 2112 → h' 170 k = h 170 k) ∧ ∀ k : Nat, k < 60 → h' 171 k = h 171 k :=
  ⟨fun k k1 k2 => hF (170, 164, 2111) (by simp [FRr]) k (by show (164 : Int) ≤ _; omega) (by show _ ≤ (2111 : Int); omega), fun k k1 => hF (171, 0, 59) (by simp [FRr]) k (by show (0 : Int) ≤ _; omega) (by show _ ≤ (59 : Int); omega)⟩
theorem Frm.xx (hF : Frm FXx h h') : h' 0 17 = h 0 17 ∧ h' 169 33 = h 169 33 :=
  ⟨hF (0, 17, 17) (by simp [FXx]) 17 (by show (17 : Int) ≤ _; omega) (by show _ ≤ (17 : Int); omega), hF (169, 33, 33) (by simp [FXx]) 33 (by show (33 : Int) ≤ _; omega) (by show _ ≤ (33 : Int); omega)⟩
theorem Frm.mk (hF : Frm FMK h h') {m : Nat} (hm : m < 3) : (∀ j k : Nat, inL j k → h' (103 + 22 * m + j) k = h (103 + 22 * m + j) k) ∧ ∀ j k : Nat, inT j k → h' (103 + 22 * m + 16 + j) k = h (103 + 22 * m + 16 + j) k := by
  rcases (show m = 0 ∨ m = 1 ∨ m = 2 by omega) with e | e | e <;> subst e
  · exact ⟨hF.l.Ld, hF.r.l.Td⟩
  · exact ⟨hF.r.r.l.Ld, hF.r.r.r.l.Td⟩
  · exact ⟨hF.r.r.r.r.l.Ld, hF.r.r.r.r.r.Td⟩
/-- the marks -/
theorem J8_mk (hM : ∀ m : Nat, (m : Int) < h 0 17 → ∃ L, LTS (103 + 22 * m) (m + 1) h L) (h3 : h 0 17 ≤ 3) (fm : Frm FMK h h') (e1 : ∀ k : Nat, 528 ≤ k → k < 2112 → h' 170 k = h 170 k) (e2 : ∀ k : Nat, 15 ≤ k → k < 60 → h' 171 k = h 171 k) (e0 : h' 0 17 = h 0 17) : ∀ m : Nat, (m : Int) < h' 0 17 → ∃ L, LTS (103 + 22 * m) (m + 1) h' L := fun m hm => by
  rw [e0] at hm
  obtain ⟨L, l⟩ := hM m hm
  have z := fm.mk (m := m) (by omega)
  exact ⟨L, l.cp z.1 z.2 (fun k hk => e1 _ (by omega) (by omega)) (fun k hk => e2 _ (by omega) (by omega))⟩
theorem J9_of (hJ : J9 h) (j : J10 h') (f : Frm F9c h h') (s : SA h h') : J9 h' := by
  obtain ⟨⟨-, ⟨b1, b2, b3⟩, ⟨L, l⟩, cm⟩, lv⟩ := hJ
  obtain ⟨x0, x1⟩ := f.l.xx
  obtain ⟨r1, r2⟩ := f.r.r.l.rr
  have rr : ∀ k : Nat, k < 2112 → h' 170 k = h 170 k := fun k hk => by
    by_cases z : k < 164
    · exact s k z
    · exact r1 k (by omega) hk
  exact ⟨⟨j, ⟨by rw [x0, x1]; exact b1, by rw [x0]; exact b2, by rw [x0]; exact b3⟩, ⟨L, l.cp f.r.r.r.r.l.Ld f.r.r.r.r.r.Td (fun k hk => rr _ (by omega)) (fun k hk => r2 _ (by omega))⟩, J8_mk cm b3 f.r.r.r.l (fun k k1 k2 => rr k k2) (fun k k1 k2 => r2 k k2) x0⟩, lv.f f.r.l⟩
theorem Frm.sa (hF : Frm [(170, 0, 163)] h h') : SA h h' := fun k hk => hF (170, 0, 163) (List.mem_singleton.mpr rfl) k (by show (0 : Int) ≤ _; omega) (by show _ ≤ (163 : Int); omega)
theorem J9_frm (hJ : J9 h) (hF : Frm F9 h h') : J9 h' := J9_of hJ (J10_frm hJ.1.1 hF.r.l) hF.r.r hF.l.sa
theorem tr9 (hJ : J9 h) (fa : Frm F9 h h1) (fb : Frm F9a h1 h2) (s : SA h1 h2) : J9 h2 := by
  have j := J9_frm hJ fa
  exact J9_of j (J10_frm j.1.1 fb.l) fb.r s
section PR
variable {sl : Nat} {si : Nat → Int} {a b c d e v w : Int}
theorem pr_feed9 (hJ : J9 h) (fa : Frm FC9 h h1) (fb : Frm FD9 h1 h2) (p1 : CP (zz sl si (7, 0)) mX11_feed h [(2, 0), (0, a), (0, b), (0, c), (0, d), (0, e)] h1 [(0, v)]) (p2 : CP (zz sl si (7, 0)) mX12_feed h1 [(2, 169), (0, a), (0, b), (0, c), (0, d), (0, e)] h2 [(0, w)]) : J9 h2 :=
  J9_of hJ (pr_feed hJ.1.1 p1 p2).1 (fa.r.r.tr fb.r.r) (fa.l.tr fb.l).sa
theorem pr_tales9 (hJ : J9 h) (fa : Frm FA9 h h1) (fb : Frm FB9 h1 h2) (p1 : CP (zz sl si (7, 0)) mX11_tales h [(2, 0), (0, a)] h1 [(0, v)]) (p2 : CP (zz sl si (7, 0)) mX12_tales h1 [(2, 169), (0, a)] h2 [(0, w)]) : J9 h2 ∧ v = w := by
  obtain ⟨⟨j, ⟨b1, b2, b3⟩, ⟨L, l⟩, cm⟩, lv⟩ := hJ
  have j2 := pr_tales j fa.l fb.l p1 p2
  obtain ⟨x0, x1⟩ := (fa.r.l.tr fb.r.l).xx
  obtain ⟨q1, q2, q3, q4, q5⟩ := tales_9 j l.1 l.2.1 l.2.2.1 l.2.2.2 fb.r.r.r.r.r.l.Ld fb.r.r.r.r.r.r.Td (fun k hk => fb.r.r.r.r.l (171, 0, 59) (List.mem_singleton.mpr rfl) k (by show (0 : Int) ≤ _; omega) (by show _ ≤ (59 : Int); omega)) p1 p2
  have n2 : ∀ k : Nat, k < 60 → h2 171 k = h 171 k := fun k hk => (fa.r.r.r.r.l.tr fb.r.r.r.r.l) (171, 0, 59) (List.mem_singleton.mpr rfl) k (by show (0 : Int) ≤ _; omega) (by show _ ≤ (59 : Int); omega)
  exact ⟨⟨⟨j2, ⟨by rw [x0, x1]; exact b1, by rw [x0]; exact b2, by rw [x0]; exact b3⟩, ⟨L, q2, l.2.1, q3, q4⟩, J8_mk cm b3 (fa.r.r.r.l.tr fb.r.r.r.l) q5 (fun k k1 k2 => n2 k k2) x0⟩, lv.f (fa.r.r.l.tr fb.r.r.l)⟩, q1⟩
theorem pr_land9 (hJ : J9 h) (fa : Frm FLV h h1) (fb : Frm FLV h1 h2) (p1 : CP (zz sl si (7, 0)) mX11_land h [(2, 0), (0, a)] h1 [(0, v)]) (p2 : CP (zz sl si (7, 0)) mX12_land h1 [(2, 169), (0, a)] h2 [(0, w)]) : J9 h2 ∧ v = w := ⟨⟨(pr_land8 hJ.1 p1 p2).1, (hJ.2.f fa).f fb⟩, (pr_land8 hJ.1 p1 p2).2⟩
theorem pr_mark9 (hJ : J9 h) (fa : Frm FLV h h1) (fb : Frm FLV h1 h2) (p1 : CP (zz sl si (7, 0)) mX11_mark h [(2, 0)] h1 [(0, v)]) (p2 : CP (zz sl si (7, 0)) mX12_mark h1 [(2, 169)] h2 [(0, w)]) : J9 h2 := ⟨pr_mark8 hJ.1 p1 p2, (hJ.2.f fa).f fb⟩
theorem pr_undo9 (hJ : J9 h) (fa : Frm FLV h h1) (fb : Frm FLV h1 h2) (p1 : CP (zz sl si (7, 0)) mX11_undo h [(2, 0)] h1 [(0, v)]) (p2 : CP (zz sl si (7, 0)) mX12_undo h1 [(2, 169)] h2 [(0, w)]) : J9 h2 := ⟨pr_undo8 hJ.1 p1 p2, (hJ.2.f fa).f fb⟩
theorem pr_salt9 (hJ : J9 h) (hb : b = 0 ∨ b = 1) (fa : Frm FLV h h1) (fb : Frm FLV h1 h2) (p1 : CP (zz sl si (7, 0)) mX11_salt h [(2, 0), (0, a), (0, b)] h1 [(0, v)]) (p2 : CP (zz sl si (7, 0)) mX12_salt h1 [(2, 169), (0, a), (0, b)] h2 [(0, w)]) : J9 h2 ∧ v = w := ⟨⟨(pr_salt8 hJ.1 hb p1 p2).1, (hJ.2.f fa).f fb⟩, (pr_salt8 hJ.1 hb p1 p2).2⟩
theorem pr_keep9 (hJ : J9 h) (hb : b = 0 ∨ b = 1) (fa : Frm FLV h h1) (fb : Frm FLV h1 h2) (p1 : CP (zz sl si (7, 0)) mX11_keep h [(2, 0), (0, a), (0, b)] h1 [(0, v)]) (p2 : CP (zz sl si (7, 0)) mX12_keep h1 [(2, 169), (0, a), (0, b)] h2 [(0, w)]) : J9 h2 ∧ v = w := ⟨⟨(pr_keep8 hJ.1 hb p1 p2).1, (hJ.2.f fa).f fb⟩, (pr_keep8 hJ.1 hb p1 p2).2⟩
theorem pr_wall9 (hJ : J9 h) (hb : c = 0 ∨ c = 1) (fa : Frm FLV h h1) (fb : Frm FLV h1 h2) (p1 : CP (zz sl si (7, 0)) mX11_wall h [(2, 0), (0, a), (0, b), (0, c)] h1 [(0, v)]) (p2 : CP (zz sl si (7, 0)) mX12_wall h1 [(2, 169), (0, a), (0, b), (0, c)] h2 [(0, w)]) : J9 h2 ∧ v = w := ⟨⟨(pr_wall8 hJ.1 hb p1 p2).1, (hJ.2.f fa).f fb⟩, (pr_wall8 hJ.1 hb p1 p2).2⟩
theorem pr_move9 (hJ : J9 h) (fa : Frm FLV h h1) (fb : Frm FLV h1 h2) (p1 : CP (zz sl si (7, 0)) mX11_move h [(2, 0), (0, a), (0, b)] h1 [(0, v)]) (p2 : CP (zz sl si (7, 0)) mX12_move h1 [(2, 169), (0, a), (0, b)] h2 [(0, w)]) : J9 h2 ∧ v = w := ⟨⟨(pr_move8 hJ.1 p1 p2).1, (hJ.2.f fa).f fb⟩, (pr_move8 hJ.1 p1 p2).2⟩
theorem pr_night9 (hJ : J9 h) (hB : BdR h1) (hD : BdD h1) (fa : Frm FLV h h1) (fb : Frm FLV h1 h2) (p1 : CP (zz sl si (7, 0)) mX11_night h [(2, 0), (0, a)] h1 [(0, v)]) (p2 : CP (zz sl si (7, 0)) mX12_night h1 [(2, 169), (0, a)] h2 [(0, w)]) : J9 h2 ∧ v = w := ⟨⟨(pr_night8 hJ.1 hB hD p1 p2).1, (hJ.2.f fa).f fb⟩, (pr_night8 hJ.1 hB hD p1 p2).2⟩
theorem pr_die9 (hJ : J9 h) (hB : BdR h1) (hD : BdD h1) (hH : BdH h1) (fa : Frm FLV h h1) (fb : Frm FLV h1 h2) (p1 : CP (zz sl si (7, 0)) mX11_die h [(2, 0), (0, a)] h1 [(0, v)]) (p2 : CP (zz sl si (7, 0)) mX12_die h1 [(2, 169), (0, a)] h2 [(0, w)]) : J9 h2 ∧ v = w := ⟨⟨(pr_die8 hJ.1 hB hD hH p1 p2).1, (hJ.2.f fa).f fb⟩, (pr_die8 hJ.1 hB hD hH p1 p2).2⟩
theorem pr_forgive9 (hJ : J9 h) (fa : Frm FLV h h1) (fb : Frm FLV h1 h2) (p1 : CP (zz sl si (7, 0)) mX11_forgive h [(2, 0), (0, a), (0, b)] h1 [(0, v)]) (p2 : CP (zz sl si (7, 0)) mX12_forgive h1 [(2, 169), (0, a), (0, b)] h2 [(0, w)]) : J9 h2 ∧ v = w := ⟨⟨(pr_forgive8 hJ.1 p1 p2).1, (hJ.2.f fa).f fb⟩, (pr_forgive8 hJ.1 p1 p2).2⟩
theorem pr_forge9 (hJ : J9 h) (fa : Frm FLV h h1) (fb : Frm FLV h1 h2) (p1 : CP (zz sl si (7, 0)) mX11_forge h [(2, 0), (0, a), (0, b), (0, c)] h1 [(0, v)]) (p2 : CP (zz sl si (7, 0)) mX12_forge h1 [(2, 169), (0, a), (0, b), (0, c)] h2 [(0, w)]) : J9 h2 ∧ v = w := ⟨⟨(pr_forge8 hJ.1 p1 p2).1, (hJ.2.f fa).f fb⟩, (pr_forge8 hJ.1 p1 p2).2⟩
end PR
end FR9
end
section
/-! 45z.9f.qu1 -/
/-! questions about a LAND: door, labour, owed -/
theorem RN9.c0 {h h1 L : PH} {x : Int} (r : RN9 h L) (e : h1 = uph h 0 0 x) : RN9 h1 L := r.e (by rw [e]; exact funext (fun k => up_ne (by omega)))
section PQ9
variable {sl : Nat} {si : Nat → Int} {h h1 h2 : PH} {a b c d e v w : Int}
end PQ9
end
section
/-! 45z.9g.bs -/
/-! bestSalt leaves the LAND -/
def lK5 (A : Int → Int → Int → Int → Int → ZL) (J : Int → Int → Int → Int → Int → PH → Prop) : Nat → PH → ZL → List ZV → Prop := fun _ h lv st => st = [] ∧ ∃ a b c d e, J a b c d e h ∧ zsb (A a b c d e) lv
set_option maxRecDepth 10000 in
theorem v_X12_bestSaltA {sl : Nat} {si : Nat → Int} {K : Nat → PH → ZL → List ZV → Prop} {Q : PH → List ZV → Prop} {h : PH} (H : K 6 h [(3, (0, 0)), (2, (0, (-1))), (1, (0, (-1))), (0, (2, 169))] []) : vc (zz sl si (7, 0)) (fun p => Nat.beq p 6 || Nat.beq p 43) K Q mX12_bestSalt 8 0 mX12_bestSalt.2.2.2.2.2.2 h [(0, (2, 169))] [] := H
set_option maxRecDepth 10000 in
theorem v_X12_bestSaltA_6 {sl : Nat} {si : Nat → Int} {K : Nat → PH → ZL → List ZV → Prop} {Q : PH → List ZV → Prop} {h : PH} {b m i : Int} (H : 0 ≤ (0 : Int) ∧ (0 : Int) < (3696 : Nat) → R32 (h 170 0) → ((h 170 0) ≤ i → ∀ h1 v1, CP (zz sl si (7, 0)) mX12_orNone h [(2, 169), (0, b)] h1 [(0, v1)] → R32 v1 → Q h1 [(0, v1)]) ∧ (¬ ((h 170 0) ≤ i) → ∀ h2 v2, CP (zz sl si (7, 0)) mX12_isSalt h [(2, 169), (0, i)] h2 [(0, v2)] → v2 = 0 ∨ v2 = 1 → (v2 = 0 → ∀ h3 v3, CP (zz sl si (7, 0)) mX12_houseRow h2 [(0, i)] h3 [(0, v3)] → R32 v3 → 0 ≤ v3 ∧ v3 < (3696 : Nat) → K 43 (uph h3 170 v3.toNat 1) [(5, (0, 0)), (4, (0, 0)), (0, (2, 169)), (1, (0, b)), (2, (0, m)), (3, (0, i))] []) ∧ (¬ (v2 = 0) → K 6 h2 [(3, (0, w32 (i + 1))), (0, (2, 169)), (1, (0, b)), (2, (0, m))] []))) : vc (zz sl si (7, 0)) (fun p => Nat.beq p 6 || Nat.beq p 43) K Q mX12_bestSalt 22 6 (ax_jmp mX12_bestSalt.2.2.2.2.2.2 6) h [(0, (2, 169)), (1, (0, b)), (2, (0, m)), (3, (0, i))] [] := H
set_option maxRecDepth 10000 in
theorem v_X12_bestSaltA_43 {sl : Nat} {si : Nat → Int} {K : Nat → PH → ZL → List ZV → Prop} {Q : PH → List ZV → Prop} {h : PH} {b m i n p : Int} (H : 0 ≤ (1 : Int) ∧ (1 : Int) < (3696 : Nat) → R32 (h 170 1) → ((h 170 1) ≤ p → ∀ h1 v1, CP (zz sl si (7, 0)) mX12_houseRow h [(0, i)] h1 [(0, v1)] → R32 v1 → 0 ≤ v1 ∧ v1 < (3696 : Nat) → (m < n → K 6 (uph h1 170 v1.toNat 0) [(3, (0, w32 (i + 1))), (1, (0, i)), (2, (0, n)), (0, (2, 169)), (4, (0, n)), (5, (0, p))] []) ∧ (¬ (m < n) → K 6 (uph h1 170 v1.toNat 0) [(3, (0, w32 (i + 1))), (0, (2, 169)), (1, (0, b)), (2, (0, m)), (4, (0, n)), (5, (0, p))] [])) ∧ (¬ ((h 170 1) ≤ p) → ∀ h2 v2, CP (zz sl si (7, 0)) mX12_isGhost h [(2, 169), (0, p)] h2 [(0, v2)] → v2 = 0 ∨ v2 = 1 → (v2 = 0 → K 43 h2 [(5, (0, w32 (p + 1))), (4, (0, w32 (n + 0))), (0, (2, 169)), (1, (0, b)), (2, (0, m)), (3, (0, i))] []) ∧ (¬ (v2 = 0) → ∀ h3 v3, CP (zz sl si (7, 0)) mX12_aimOf h2 [(2, 169), (0, p)] h3 [(0, v3)] → R32 v3 → (v3 ≠ (-1) → K 43 h3 [(5, (0, w32 (p + 1))), (4, (0, w32 (n + 0))), (0, (2, 169)), (1, (0, b)), (2, (0, m)), (3, (0, i))] []) ∧ (¬ (v3 ≠ (-1)) → K 43 h3 [(5, (0, w32 (p + 1))), (4, (0, w32 (n + 1))), (0, (2, 169)), (1, (0, b)), (2, (0, m)), (3, (0, i))] [])))) : vc (zz sl si (7, 0)) (fun p => Nat.beq p 6 || Nat.beq p 43) K Q mX12_bestSalt 24 43 (ax_jmp mX12_bestSalt.2.2.2.2.2.2 43) h [(0, (2, 169)), (1, (0, b)), (2, (0, m)), (3, (0, i)), (4, (0, n)), (5, (0, p))] [] := H
set_option maxHeartbeats 600000 in
theorem c_X12_bestSaltA {sl : Nat} {si : Nat → Int} {h h' : PH} {v : Int} (hB : BdR h) (hD : BdD h) (hss : ∀ i : Nat, i < 7 → h 170 (6 + 3 * i) ≠ 1 → h 170 (6 + 3 * i) = 0) (hc : CP (zz sl si (7, 0)) mX12_bestSalt h [(2, 169)] h' [(0, v)]) : SA h h' := by
  have q : (fun (xh : PH) (r : List ZV) => ∀ v : Int, r = [(0, v)] → (SA h xh)) h' [(0, v)] := by
    refine cp_vc (cut := (fun p => Nat.beq p 6 || Nat.beq p 43)) (K := fun p hx lv st => (p = 6 ∧ lK3 (fun u1 u2 u3 : Int => [(0, (2, 169)), (1, (0, u1)), (2, (0, u2)), (3, (0, u3))]) (fun u1 u2 u3 hx => SA h hx ∧ 0 ≤ u3) p hx lv st) ∨ (p = 43 ∧ lK5 (fun u1 u2 u3 u4 u5 : Int => [(0, (2, 169)), (1, (0, u1)), (2, (0, u2)), (3, (0, u3)), (4, (0, u4)), (5, (0, u5))]) (fun u1 u2 u3 u4 u5 hx => (∀ k : Nat, k < 164 → hx 170 k = (uph h 170 (6 + 3 * u3.toNat) 1) 170 k) ∧ (0 ≤ u3 ∧ u3 < h 170 0) ∧ h 170 (6 + 3 * u3.toNat) = 0 ∧ 0 ≤ u5) p hx lv st)) (Q := fun (xh : PH) (r : List ZV) => ∀ v : Int, r = [(0, v)] → (SA h xh)) (v_X12_bestSaltA ?_) (fun pc hx lv st hcut hK => ?_) hc
    · exact (by exact Or.inl ⟨rfl, rfl, -1, -1, 0, ⟨SA.rf h, by omega⟩, rfl, rfl, rfl, rfl, trivial⟩)
    · rcases hK with ⟨rfl, rfl, u1, u2, u3, hJ, hs⟩ | ⟨rfl, rfl, u1, u2, u3, u4, u5, hJ, hs⟩
      · obtain ⟨j1, j2⟩ := hJ
        have n0 : hx 170 0 = h 170 0 := j1 0 (by omega)
        have b0 := hB.1
        exact ⟨_, _, hs, v_X12_bestSaltA_6 (fun b1 r2 => ⟨fun c3 => (fun h1 v1 p1 q1 => (by intro v e; cases e; rcases Classical.em (u1 = -1) with z | z; (rw [((c_X12_orNone p1).1 z).2]; exact j1.u); (rw [((c_X12_orNone p1).2 z).2]; exact j1.u))), fun c3 => (fun h2 v2 p2 q2 => by obtain ⟨t2, e2⟩ := c_X12_isSalt p2; have t2 := t2.symm; subst t2; exact ⟨fun c4 => (fun h3 v3 p3 q3 => by obtain ⟨t3, e3⟩ := c_X12_houseRow p3; have t3 := t3.symm; subst t3; exact (fun b5 => (by have ss := e2 (by omega) (by omega); have ev := e3 (by omega) (by omega); have s0 := hss u3.toNat (by omega); rw [← j1 (6 + 3 * u3.toNat) (by omega)] at s0; have z0 := s0 (fun z => by have := ss.mpr z; omega); exact Or.inr ⟨rfl, rfl, u1, u2, u3, 0, 0, ⟨fun k hk => (by (rw [show v3.toNat = 6 + 3 * u3.toNat by omega]; by_cases e : k = 6 + 3 * u3.toNat; (rw [e, up_sm, up_sm]); (rw [up_ne (by omega), up_ne (by omega)]; exact j1 k hk))), by omega, by rw [← j1 (6 + 3 * u3.toNat) (by omega)]; exact z0, by omega⟩, rfl, rfl, rfl, rfl, rfl, rfl, trivial⟩))), fun c4 => (by exact Or.inl ⟨rfl, rfl, u1, u2, u3 + 1, ⟨j1, by omega⟩, rfl, rfl, rfl, wv (by omega) (by omega) rfl, trivial⟩)⟩)⟩)⟩
      · obtain ⟨j1, j2, j3, j4⟩ := hJ
        have b0 := hB.1
        have b1 := hB.2.1
        have n1 : hx 170 1 = h 170 1 := (j1 1 (by omega)).trans (up_ne (by omega))
        have hB2 : BdR hx := hB.f (fun k hk => (j1 k (by omega)).trans (up_ne (by omega)))
        have hD2 : BdD hx := fun i hi => by rw [j1 _ (by omega), up_ne (by omega)]; exact hD i hi
        exact ⟨_, _, hs, v_X12_bestSaltA_43 (fun b1 r2 => ⟨fun c3 => (fun h1 v1 p1 q1 => by obtain ⟨t1, e1⟩ := c_X12_houseRow p1; have t1 := t1.symm; subst t1; exact (fun b4 => ⟨fun c5 => (by have ev := e1 (by omega) (by omega); exact Or.inl ⟨rfl, rfl, u3, u4, u3 + 1, ⟨fun k hk => (by (by_cases e : k = 6 + 3 * u3.toNat; (rw [e, show v1.toNat = 6 + 3 * u3.toNat by omega, up_sm, j3]); (rw [up_ne (by omega), j1 k hk, up_ne (by omega)]))), by omega⟩, rfl, rfl, rfl, wv (by omega) (by omega) rfl, trivial⟩), fun c5 => (by have ev := e1 (by omega) (by omega); exact Or.inl ⟨rfl, rfl, u1, u2, u3 + 1, ⟨fun k hk => (by (by_cases e : k = 6 + 3 * u3.toNat; (rw [e, show v1.toNat = 6 + 3 * u3.toNat by omega, up_sm, j3]); (rw [up_ne (by omega), j1 k hk, up_ne (by omega)]))), by omega⟩, rfl, rfl, rfl, wv (by omega) (by omega) rfl, trivial⟩)⟩)), fun c3 => (fun h2 v2 p2 q2 => ⟨fun c6 => (by obtain ⟨t1, -⟩ := c_X12_isGhost (by omega) hD2 (by omega) p2; subst t1; exact Or.inr ⟨rfl, rfl, u1, u2, u3, w32 (u4 + 0), u5 + 1, ⟨j1, j2, j3, by omega⟩, rfl, rfl, rfl, rfl, rfl, wv (by omega) (by omega) rfl, trivial⟩), fun c6 => (fun h3 v3 p3 q3 => ⟨fun c7 => (by obtain ⟨t1, -⟩ := c_X12_isGhost (by omega) hD2 (by omega) p2; subst t1; obtain ⟨-, t2⟩ := c_X12_aimOf hB2 (by omega) p3; exact Or.inr ⟨rfl, rfl, u1, u2, u3, w32 (u4 + 0), u5 + 1, ⟨fun k hk => (t2 170 k (by omega)).trans (j1 k hk), j2, j3, by omega⟩, rfl, rfl, rfl, rfl, rfl, wv (by omega) (by omega) rfl, trivial⟩), fun c7 => (by obtain ⟨t1, -⟩ := c_X12_isGhost (by omega) hD2 (by omega) p2; subst t1; obtain ⟨-, t2⟩ := c_X12_aimOf hB2 (by omega) p3; exact Or.inr ⟨rfl, rfl, u1, u2, u3, w32 (u4 + 1), u5 + 1, ⟨fun k hk => (t2 170 k (by omega)).trans (j1 k hk), j2, j3, by omega⟩, rfl, rfl, rfl, rfl, rfl, wv (by omega) (by omega) rfl, trivial⟩)⟩)⟩)⟩)⟩
  exact q v rfl
theorem RN9.s01 {h L : PH} (r : RN9 h L) : ∀ i : Nat, i < 7 → h 170 (6 + 3 * i) ≠ 1 → h 170 (6 + 3 * i) = 0 := fun i hi z => by
  rw [(r.2.1 i hi).1] at z ⊢
  rw [bt_e (by omega)] at z ⊢
  split
  · rename_i q; rw [if_pos q] at z; exact absurd rfl z
  · rfl
theorem bs_9 {h h1 h2 : PH} {sl : Nat} {si : Nat → Int} {w : Int} (hJ : J9 h) (fa : Frm F9 h h1) (fb : Frm F9a h1 h2) (hB : BdR h1) (hD : BdD h1) (p2 : CP (zz sl si (7, 0)) mX12_bestSalt h1 [(2, 169)] h2 [(0, w)]) : J9 h2 := by
  have j := J9_frm hJ fa
  obtain ⟨L, l⟩ := j.1.2.2.1
  exact tr9 hJ fa fb (c_X12_bestSaltA hB hD (RLd.n9 l.2.2.1).s01 p2)
end
section
/-! 45z.9h.sets -/
/-! sets and sums of a LAND -/
theorem bBz : ∀ j : Nat, j < 8 → bB 0 j = false := by decide +kernel
theorem b8_d : ∀ s : Fin 256, (s.val : Int) = (if bB (s.val : Int) 0 then 1 else 0) + (if bB (s.val : Int) 1 then 2 else 0) + (if bB (s.val : Int) 2 then 4 else 0) + (if bB (s.val : Int) 3 then 8 else 0) + (if bB (s.val : Int) 4 then 16 else 0) + (if bB (s.val : Int) 5 then 32 else 0) + (if bB (s.val : Int) 6 then 64 else 0) + (if bB (s.val : Int) 7 then 128 else 0) := by decide +kernel
theorem b8_x {x y : Int} (x0 : 0 ≤ x) (x1 : x < 256) (y0 : 0 ≤ y) (y1 : y < 256) (h : ∀ j : Nat, j < 8 → bB x j = bB y j) : x = y := by
  have a := b8_d ⟨x.toNat, by omega⟩
  have b := b8_d ⟨y.toNat, by omega⟩
  dsimp only at a b
  rw [Int.toNat_of_nonneg x0] at a
  rw [Int.toNat_of_nonneg y0] at b
  rw [a, b, h 0 (by omega), h 1 (by omega), h 2 (by omega), h 3 (by omega), h 4 (by omega), h 5 (by omega), h 6 (by omega), h 7 (by omega)]
theorem zs8 {n : Nat} : (Int32.ofInt (n : Int)).toBitVec = BitVec.ofNat 32 n := rfl
theorem bv8 {x : BitVec 32} (h : x.toNat < 256) : 0 ≤ x.toInt ∧ x.toInt < 256 := by
  rw [BitVec.toInt_eq_toNat_of_lt (by omega)]; omega
theorem zor_b {x y : Int} (h0 : 0 ≤ x) (h1 : x < 256) (g0 : 0 ≤ y) (g1 : y < 256) : 0 ≤ zor x y ∧ zor x y < 256 := by
  obtain ⟨n, rfl⟩ : ∃ n : Nat, x = (n : Int) := ⟨x.toNat, by omega⟩
  obtain ⟨m, rfl⟩ : ∃ n : Nat, y = (n : Int) := ⟨y.toNat, by omega⟩
  show 0 ≤ ((Int32.ofInt (n : Int) ||| Int32.ofInt (m : Int)).toBitVec).toInt ∧ ((Int32.ofInt (n : Int) ||| Int32.ofInt (m : Int)).toBitVec).toInt < 256
  refine bv8 ?_
  rw [Int32.toBitVec_or, zs8, zs8, BitVec.toNat_or, BitVec.toNat_ofNat, BitVec.toNat_ofNat, Nat.mod_eq_of_lt (by omega), Nat.mod_eq_of_lt (by omega)]
  exact Nat.or_lt_two_pow (n := 8) (by omega) (by omega)
/-! within, person -/
section PQ9
variable {sl : Nat} {si : Nat → Int} {h h1 h2 : PH} {a b c d e v w : Int}
end PQ9
end
section
/-! 45z.9i.told -/
/-! told -/
section PQ9
variable {sl : Nat} {si : Nat → Int} {h h1 h2 : PH} {a v w : Int}
end PQ9
end
section
/-! 45z.9j.best -/
/-! lonely, net, due, deepest, gracious -/
section PQ9
variable {sl : Nat} {si : Nat → Int} {h h1 h2 : PH} {a b c d e v w : Int}
end PQ9
end
section
/-! 45z.9k.way -/
/-! way, aim -/
def E28 (h h' : PH) : Prop := ∀ c k : Nat, ¬ (c = 169 ∧ k = 2) → ¬ (c = 178 ∧ k < 7) → h' c k = h c k
theorem E28.u {h h' : PH} (e : E78 h h') {x : Int} : E28 h (uph h' 169 2 x) := fun c k q1 q2 => by rw [up_ne q1]; exact e c k q2
theorem E28.s {h : PH} {x : Int} : E28 h (uph h 169 2 x) := fun c k q1 q2 => up_ne q1
section PQ9
variable {sl : Nat} {si : Nat → Int} {h h1 h2 : PH} {a b c d e v w : Int}
end PQ9
end
section
/-! 45z.9l.mutual -/
/-! heirs, mutual -/
section PQ9
variable {sl : Nat} {si : Nat → Int} {h h1 h2 : PH} {a b c d e v w : Int}
end PQ9
end
section
/-! 45z.9m.reach -/
/-! reach, exposed -/
/-- the bits of a set below 256 -/
def BS (v : Int) (P : Nat → Prop) : Prop := (0 ≤ v ∧ v < 256) ∧ ∀ x : Nat, x < 8 → (bB v x = true ↔ P x)
section BSs
variable {v w c n : Int} {P Q : Nat → Prop}
theorem BS.eq (a : BS v P) (b : BS w P) : v = w := b8_x a.1.1 a.1.2 b.1.1 b.1.2 (fun j hj => by
  have x := a.2 j hj
  have y := b.2 j hj
  by_cases q : P j
  · rw [x.mpr q, y.mpr q]
  · have x1 : ¬ bB v j = true := fun z => q (x.mp z)
    have y1 : ¬ bB w j = true := fun z => q (y.mp z)
    simp at x1 y1
    rw [x1, y1])
theorem BS.cc (a : BS v P) (h : ∀ x : Nat, x < 8 → (P x ↔ Q x)) : BS v Q := ⟨a.1, fun x hx => (a.2 x hx).trans (h x hx)⟩
theorem BS.z : BS 0 (fun _ => False) := ⟨by omega, fun x hx => by rw [bBz x hx]; exact ⟨fun q => absurd q (by decide), fun q => q.elim⟩⟩
theorem one_d : ∀ n : Fin 8, 0 ≤ zshl 1 (n.val : Int) ∧ zshl 1 (n.val : Int) < 256 ∧ ∀ x : Fin 8, bB (zshl 1 (n.val : Int)) x.val = decide (x = n) := by decide +kernel
theorem BS.one (h0 : 0 ≤ n) (h1 : n < 8) : BS (zshl 1 n) (fun x => x = n.toNat) := by
  have z := one_d ⟨n.toNat, by omega⟩
  dsimp only at z
  rw [Int.toNat_of_nonneg h0] at z
  refine ⟨⟨z.1, z.2.1⟩, fun x hx => ?_⟩
  have y := z.2.2 ⟨x, hx⟩
  dsimp only at y
  rw [y]
  simp
theorem BS.or (a : BS v P) (b : BS w Q) : BS (zor v w) (fun x => P x ∨ Q x) := ⟨zor_b a.1.1 a.1.2 b.1.1 b.1.2, fun x hx => by
  rw [bB_or, Bool.or_eq_true, a.2 x hx, b.2 x hx]⟩
theorem BS.o1 (a : BS v P) (h0 : 0 ≤ n) (h1 : n < 8) : BS (zor v (zshl 1 n)) (fun x => P x ∨ x = n.toNat) := a.or (BS.one h0 h1)
end BSs
section RC
variable {n : Nat} {dr : Nat → Nat → Prop} {cl S : Nat → Prop} {f : Nat}
end RC
theorem SB.bt {x m : Int} (h : SB x m) {j : Nat} (hj : j < 8) (hb : bB x j = true) : (j : Int) < m := by
  by_cases z : (j : Int) < m
  · exact z
  · have y := h.2.2 j hj (by omega)
    rw [bt_e hj, if_pos hb] at y
    omega
section PQ9
variable {sl : Nat} {si : Nat → Int} {h h1 h2 : PH} {a b c d e v w : Int}
end PQ9
end
section
/-! 45z.9n.exposed -/
/-! exposed -/
section PQ9
variable {sl : Nat} {si : Nat → Int} {h h1 h2 : PH} {a b c d e v w : Int}
end PQ9
end
section
/-! 45z.9o.share -/
/-! share -/
def shP (L : PH) (a b c : Int) (n : Nat) : Prop := (n : Int) < L 14 b.toNat ∧ okL L b.toNat a.toNat n ∧ L 13 (3 * b.toNat + n) = c
def shC (L : PH) (a b c : Int) : Prop := (((0 ≤ a ∧ a < L 0 4) ∧ (0 ≤ b ∧ b < L 0 4) ∧ a ≠ b) ∧ 0 ≤ c ∧ c < L 0 4) ∧ ¬ bB (L 0 7) b.toNat = true
def shQ (L : PH) (a b c v : Int) : Prop := (shC L a b c → (∀ n, shP L a b c n → v = shL L b.toNat a.toNat n) ∧ ((∀ n, ¬ shP L a b c n) → v = -1)) ∧ (¬ shC L a b c → v = -1)
theorem shQ.eq {L : PH} {a b c v w : Int} (x : shQ L a b c v) (y : shQ L a b c w) : v = w := by
  by_cases k : shC L a b c
  · by_cases e : ∃ n, shP L a b c n
    · obtain ⟨n, hn⟩ := e
      rw [(x.1 k).1 n hn, (y.1 k).1 n hn]
    · have e : ∀ n, ¬ shP L a b c n := fun n q => e ⟨n, q⟩
      rw [(x.1 k).2 e, (y.1 k).2 e]
  · rw [x.2 k, y.2 k]
theorem shQ.no {L : PH} {a b c : Int} (h : ¬ shC L a b c) : shQ L a b c (-1) := ⟨fun q => absurd q h, fun _ => rfl⟩
section PQ9
variable {sl : Nat} {si : Nat → Int} {h h1 h2 : PH} {a b c d e v w : Int}
end PQ9
end
section
/-! 45z.9p.pair -/
/-! pair -/
def VC (c : Int) : Prop := c = -1 ∨ (0 ≤ c ∧ c < 64)
section PQ9
variable {sl : Nat} {si : Nat → Int} {h h1 h2 : PH} {a b c d e v w : Int}
end PQ9
end
section
/-! 45z.9q.circle -/
/-! circle -/
def owP (L : PH) (a b : Nat) : Prop := 0 < L 7 (8 * a + b)
def CLs (L : PH) (p : Nat) (v : Int) : Prop := ∀ a b : Nat, a < 8 → b < 8 → (a = p ∨ bB v a = true) → owP L a b → bB v b = true
def SUb (v w : Int) : Prop := ∀ x : Nat, x < 8 → bB v x = true → bB w x = true
def MIn (L : PH) (p : Nat) (v : Int) : Prop := ∀ w : Int, CLs L p w → SUb v w
def R8 (v : Int) : Prop := 0 ≤ v ∧ v < 256
theorem ow_n {L : PH} (hw : W10 L) {a b : Nat} (ha : a < 8) (hb : b < 8) (h : owP L a b) : (a : Int) < L 0 4 ∧ (b : Int) < L 0 4 := by
  unfold owP at h
  constructor
  · by_cases z : (a : Int) < L 0 4
    · exact z
    · have := hw.2.2.2.2.2 a b ha hb (by omega); omega
  · by_cases z : (b : Int) < L 0 4
    · exact z
    · have := hw.1.2.1 a b ha hb (by omega); omega
theorem SUb.eq {v w : Int} (hv : R8 v) (hw : R8 w) (a : SUb v w) (b : SUb w v) : v = w := b8_x hv.1 hv.2 hw.1 hw.2 (fun j hj => by
  by_cases q : bB v j = true
  · rw [q, a j hj q]
  · have y : ¬ bB w j = true := fun z => q (b j hj z)
    simp at q y
    rw [q, y])
theorem bt_le {v w : Int} (s : SUb v w) {j : Nat} (hj : j < 8) : 0 ≤ bt v j ∧ bt v j ≤ bt w j ∧ bt w j ≤ 1 ∧ (bt v j = bt w j → (bB w j = true → bB v j = true)) := by
  rw [bt_e hj, bt_e hj]
  by_cases q : bB v j = true
  · rw [if_pos q, if_pos (s j hj q)]; exact ⟨by omega, by omega, by omega, fun _ _ => q⟩
  · rw [if_neg q]
    by_cases y : bB w j = true
    · rw [if_pos y]; exact ⟨by omega, by omega, by omega, fun z => by omega⟩
    · rw [if_neg y]; exact ⟨by omega, by omega, by omega, fun _ z => absurd z y⟩
theorem bn_lt {v w : Int} (hv : R8 v) (hw : R8 w) (s : SUb v w) (h : v ≠ w) : bnS v + 1 ≤ bnS w := by
  have e0 := bt_le s (j := 0) (by omega)
  have e1 := bt_le s (j := 1) (by omega)
  have e2 := bt_le s (j := 2) (by omega)
  have e3 := bt_le s (j := 3) (by omega)
  have e4 := bt_le s (j := 4) (by omega)
  have e5 := bt_le s (j := 5) (by omega)
  have e6 := bt_le s (j := 6) (by omega)
  have e7 := bt_le s (j := 7) (by omega)
  by_cases z : bnS v + 1 ≤ bnS w
  · exact z
  · exfalso
    unfold bnS at z
    refine h (s.eq hv hw (fun x hx => ?_))
    rcases (show x = 0 ∨ x = 1 ∨ x = 2 ∨ x = 3 ∨ x = 4 ∨ x = 5 ∨ x = 6 ∨ x = 7 by omega) with q | q | q | q | q | q | q | q <;> subst q
    · exact e0.2.2.2 (by omega)
    · exact e1.2.2.2 (by omega)
    · exact e2.2.2.2 (by omega)
    · exact e3.2.2.2 (by omega)
    · exact e4.2.2.2 (by omega)
    · exact e5.2.2.2 (by omega)
    · exact e6.2.2.2 (by omega)
    · exact e7.2.2.2 (by omega)
theorem bn_8 {v : Int} (h : 8 ≤ bnS v) : ∀ x : Nat, x < 8 → bB v x = true := fun x hx => by
  have e : ∀ j : Nat, j < 8 → 0 ≤ bt v j ∧ bt v j ≤ 1 ∧ (bt v j = 1 → bB v j = true) := fun j hj => by
    rw [bt_e hj]
    by_cases q : bB v j = true
    · rw [if_pos q]; exact ⟨by omega, by omega, fun _ => q⟩
    · rw [if_neg q]; exact ⟨by omega, by omega, fun z => by omega⟩
  have e0 := e 0 (by omega)
  have e1 := e 1 (by omega)
  have e2 := e 2 (by omega)
  have e3 := e 3 (by omega)
  have e4 := e 4 (by omega)
  have e5 := e 5 (by omega)
  have e6 := e 6 (by omega)
  have e7 := e 7 (by omega)
  unfold bnS at h
  rcases (show x = 0 ∨ x = 1 ∨ x = 2 ∨ x = 3 ∨ x = 4 ∨ x = 5 ∨ x = 6 ∨ x = 7 by omega) with q | q | q | q | q | q | q | q <;> subst q
  · exact e0.2.2 (by omega)
  · exact e1.2.2 (by omega)
  · exact e2.2.2 (by omega)
  · exact e3.2.2 (by omega)
  · exact e4.2.2 (by omega)
  · exact e5.2.2 (by omega)
  · exact e6.2.2 (by omega)
  · exact e7.2.2 (by omega)
theorem sub_0 {w : Int} : SUb 0 w := fun x hx q => by rw [bBz x hx] at q; exact absurd q (by decide)
def ciQ (L : PH) (a v : Int) : Prop := (0 ≤ a ∧ a < L 0 4 → ∃ n, R8 n ∧ CLs L a.toNat n ∧ MIn L a.toNat n ∧ v = bt n a.toNat) ∧ (¬ (0 ≤ a ∧ a < L 0 4) → v = -1)
theorem ciQ.eq {L : PH} {a v w : Int} (x : ciQ L a v) (y : ciQ L a w) : v = w := by
  by_cases k : 0 ≤ a ∧ a < L 0 4
  · obtain ⟨n, n1, n2, n3, n4⟩ := x.1 k
    obtain ⟨m, m1, m2, m3, m4⟩ := y.1 k
    rw [n4, m4, (n3 m m2).eq n1 m1 (m3 n n2)]
  · rw [x.2 k, y.2 k]
/-- the class, behind so many rounds -/
def cJ (L : PH) (p : Nat) (k n : Int) : Prop := R8 n ∧ MIn L p n ∧ (∀ x : Nat, x < 8 → owP L p x → bB n x = true) ∧ (CLs L p n ∨ k + 1 ≤ bnS n)
theorem cJ.z {L : PH} {p : Nat} {n : Int} (hp : p < 8) (b : BS n (fun x => owP L p x)) : cJ L p 0 n := by
  refine ⟨b.1, fun w hw x hx q => hw p x hp hx (Or.inl rfl) ((b.2 x hx).mp q), fun x hx q => (b.2 x hx).mpr q, ?_⟩
  by_cases z : n = 0
  · refine Or.inl (fun a b' ha hb h o => ?_)
    rcases h with h | h
    · subst h; exact (b.2 b' hb).mpr o
    · rw [z, bBz a ha] at h; exact absurd h (by decide)
  · have y := bn_lt (v := 0) (by unfold R8; omega) b.1 sub_0 (fun q => z q.symm)
    rw [bn_z] at y
    exact Or.inr (by omega)
theorem cJ.s {L : PH} {p : Nat} {k n v : Int} (j : cJ L p k n) (b : BS v (fun x => ∃ q, q < 8 ∧ bB n q = true ∧ owP L q x)) : cJ L p (k + 1) (zor n v) := by
  obtain ⟨j1, j2, j3, j4⟩ := j
  have bo : ∀ x : Nat, x < 8 → (bB (zor n v) x = true ↔ bB n x = true ∨ ∃ q, q < 8 ∧ bB n q = true ∧ owP L q x) := fun x hx => by
    rw [bB_or, Bool.or_eq_true, b.2 x hx]
  have r : R8 (zor n v) := zor_b j1.1 j1.2 b.1.1 b.1.2
  have s : SUb n (zor n v) := fun x hx q => (bo x hx).mpr (Or.inl q)
  refine ⟨r, fun w hw x hx q => ?_, fun x hx q => s x hx (j3 x hx q), ?_⟩
  · rcases (bo x hx).mp q with y | ⟨q', q1, q2, q3⟩
    · exact j2 w hw x hx y
    · exact hw q' x q1 hx (Or.inr (j2 w hw q' q1 q2)) q3
  · by_cases z : n = zor n v
    · refine Or.inl (fun a c ha hc h o => ?_)
      rcases h with h | h
      · subst h; exact s c hc (j3 c hc o)
      · rw [← z] at h; exact (bo c hc).mpr (Or.inr ⟨a, ha, h, o⟩)
    · have y := bn_lt j1 r s z
      rcases j4 with c | c
      · exfalso
        refine z (s.eq j1 r (fun x hx q => ?_))
        rcases (bo x hx).mp q with y | ⟨q', q1, q2, q3⟩
        · exact y
        · exact c q' x q1 hx (Or.inr q2) q3
      · exact Or.inr (by omega)
/-- the reference, behind so many rounds; within a round that began at n0 -/
def rJ (L : PH) (p : Nat) (k n : Int) : Prop := R8 n ∧ MIn L p n ∧ (CLs L p n ∨ k ≤ bnS n)
def rJ2 (L : PH) (p : Nat) (k n : Int) (x y : Nat) : Prop := ∃ n0, rJ L p k n0 ∧ SUb n0 n ∧ R8 n ∧ MIn L p n ∧ ∀ a b : Nat, b < 8 → (a < x ∨ (a = x ∧ b < y)) → (a = p ∨ bB n0 a = true) → owP L a b → bB n b = true
theorem rJ2.n {L : PH} {p : Nat} {k n : Int} {x y : Nat} (j : rJ2 L p k n x y) (hx : x < 8) (h : (x = p ∨ bB n x = true) → owP L x y → bB n y = true) : rJ2 L p k n x (y + 1) := by
  obtain ⟨n0, j1, j2, j3, j4, j5⟩ := j
  refine ⟨n0, j1, j2, j3, j4, fun a b hb q h1 h2 => ?_⟩
  by_cases z : a = x ∧ b = y
  · obtain ⟨z1, z2⟩ := z
    subst z1; subst z2
    exact h (h1.elim Or.inl (fun q => Or.inr (j2 _ hx q))) h2
  · exact j5 a b hb (by omega) h1 h2
theorem rJ2.fin {L : PH} (hw : W10 L) {p : Nat} {k n : Int} {x : Nat} (j : rJ2 L p k n x 0) (hx : L 0 4 ≤ (x : Int)) : rJ L p (k + 1) n := by
  obtain ⟨n0, ⟨i1, i2, i3⟩, j2, j3, j4, j5⟩ := j
  refine ⟨j3, j4, ?_⟩
  by_cases z : n0 = n
  · subst z
    refine Or.inl (fun a b ha hb h o => ?_)
    have q := ow_n hw ha hb o
    exact j5 a b hb (Or.inl (by omega)) h o
  · have y := bn_lt i1 j3 j2 z
    rcases i3 with c | c
    · exact absurd (j2.eq i1 j3 (j4 n0 c)) z
    · exact Or.inr (by omega)
theorem rJ.end {L : PH} {p : Nat} {k n : Int} (j : rJ L p k n) (hk : 8 ≤ k) : R8 n ∧ CLs L p n ∧ MIn L p n := by
  obtain ⟨j1, j2, j3⟩ := j
  refine ⟨j1, ?_, j2⟩
  rcases j3 with c | c
  · exact c
  · exact fun a b _ hb _ _ => bn_8 (by omega) b hb
theorem cJ.end {L : PH} {p : Nat} {k n : Int} (j : cJ L p k n) (hk : 8 ≤ k) : R8 n ∧ CLs L p n ∧ MIn L p n := by
  obtain ⟨j1, j2, j3, j4⟩ := j
  refine ⟨j1, ?_, j2⟩
  rcases j4 with c | c
  · exact c
  · have := bn_r j1.1 j1.2; omega
section PQ9
variable {sl : Nat} {si : Nat → Int} {h h1 h2 : PH} {a b c d e v w : Int}
end PQ9
end
section
/-! 45z.9r.must -/
/-! must -/
theorem BS.sk {v n : Int} {P : Nat → Prop} (a : BS v (fun x => (x : Int) < n ∧ P x)) (h : ¬ P n.toNat) : BS v (fun x => (x : Int) < n + 1 ∧ P x) := a.cc (fun x _ => ⟨fun q => ⟨by omega, q.2⟩, fun q => ⟨by
  by_cases z : x = n.toNat
  · subst z; exact absurd q.2 h
  · omega, q.2⟩⟩)
theorem BS.ad {v n : Int} {P : Nat → Prop} (a : BS v (fun x => (x : Int) < n ∧ P x)) (h0 : 0 ≤ n) (h1 : n < 8) (h : P n.toNat) : BS (zor v (zshl 1 n)) (fun x => (x : Int) < n + 1 ∧ P x) := (a.o1 h0 h1).cc (fun x _ => ⟨fun q => q.elim (fun y => ⟨by omega, y.2⟩) (fun y => by subst y; exact ⟨by omega, h⟩), fun q => by
  by_cases z : x = n.toNat
  · exact Or.inr z
  · exact Or.inl ⟨by omega, q.2⟩⟩)
/-- the way's length where a house more has salt -/
noncomputable def lvB (L : PH) (x f t : Nat) : Int := lvS (L 1 0).toNat (fun i j => bB (L 2 i) j = true) (fun j => bB (L 1 1) j = true ∨ j = x) f 7 t
def msP (L : PH) (f t x : Nat) : Prop := x ≠ f ∧ x ≠ t ∧ lvB L x f t = 1000000
def stQ (L : PH) (f t : Nat) (v : Int) : Prop := (WLn L f t = 1000000 → v = -1) ∧ (WLn L f t ≠ 1000000 → BS v (fun x => (x : Int) < L 1 0 ∧ msP L f t x))
theorem stQ.eq {L : PH} {f t : Nat} {v w : Int} (x : stQ L f t v) (y : stQ L f t w) : v = w := by
  by_cases z : WLn L f t = 1000000
  · rw [x.1 z, y.1 z]
  · exact (x.2 z).eq (y.2 z)
section PQ9
variable {sl : Nat} {si : Nat → Int} {h h1 h2 : PH} {a b c d e v w : Int}
end PQ9
end
section
/-! 45z.9s.bestsalt -/
/-! bestSalt -/
theorem RN9.s {h h' L : PH} (r : RN9 h L) (e : SA h h') : RN9 h' L := by
  obtain ⟨⟨a1, a2, a3, a4⟩, b, c, d, f⟩ := r
  exact ⟨⟨(e 0 (by omega)).trans a1, (e 1 (by omega)).trans a2, (e 2 (by omega)).trans a3, (e 3 (by omega)).trans a4⟩,
    fun i hi => ⟨(e _ (by omega)).trans (b i hi).1, (e _ (by omega)).trans (b i hi).2.1, (e _ (by omega)).trans (b i hi).2.2⟩,
    fun p hp => ⟨fun z => ⟨(e _ (by omega)).trans ((c p hp).1 z).1, (e _ (by omega)).trans ((c p hp).1 z).2⟩, (e _ (by omega)).trans (c p hp).2.1, (e _ (by omega)).trans (c p hp).2.2.1, (e _ (by omega)).trans (c p hp).2.2.2⟩,
    fun q hq => (e _ (by omega)).trans (d q hq),
    fun p hp => ⟨(e _ (by omega)).trans (f p hp).1, fun k hk z => (e _ (by omega)).trans ((f p hp).2 k hk z)⟩⟩
section PQ9
variable {sl : Nat} {si : Nat → Int} {h h1 h2 : PH} {a b c d e v w : Int}
end PQ9
end
