/-! THE HEAP OF THE MACHINE BY FORMS: types of the places, what is known of some -/
abbrev SEG : Type := List (Nat × List (Int × Int))
def seg_at : SEG → Nat → Option (Int × Int)
  | [], _ => none
  | s :: r, k => if k < s.1 then s.2[k % s.2.length]? else seg_at r (k - s.1)
def ty_at (T : Nat × SEG) (k : Nat) : Option (Int × Int) := seg_at T.2 (if T.1 = 0 then k else k % T.1)
abbrev TT : Type := List (Nat × SEG)
/-- the widest and the narrowest of ranges -/
abbrev JM : Type := (Int × Int) × (Int × Int)
noncomputable def jm1 (q : Int × Int) : JM := (q, q)
noncomputable def jm2 {β : Type} (a b : JM) (kk : JM → β) : β := i_fc (i_min a.1.1 b.1.1) (fun x => i_fc (i_max a.1.2 b.1.2) (fun y => i_fc (i_max a.2.1 b.2.1) (fun u => i_fc (i_min a.2.2 b.2.2) (fun v => kk ((x, y), (u, v))))))
def JmOk (q : Int × Int) (J : JM) : Prop := J.1.1 ≤ q.1 ∧ q.2 ≤ J.1.2 ∧ q.1 ≤ J.2.1 ∧ J.2.2 ≤ q.2
theorem jm1_ok (q : Int × Int) : JmOk q (jm1 q) := ⟨Int.le_refl _, Int.le_refl _, Int.le_refl _, Int.le_refl _⟩
theorem jm2_ok {β : Type} (a b : JM) (kk : JM → β) : ∃ J, jm2 a b kk = kk J ∧ (∀ q, JmOk q a → JmOk q J) ∧ (∀ q, JmOk q b → JmOk q J) := by
  unfold jm2
  rw [i_fc_eq, i_fc_eq, i_fc_eq, i_fc_eq]
  have m1 := i_min_ok a.1.1 b.1.1
  have m2 := i_max_ok a.1.2 b.1.2
  have m3 := i_max_ok a.2.1 b.2.1
  have m4 := i_min_ok a.2.2 b.2.2
  refine ⟨_, rfl, fun q h => ?_, fun q h => ?_⟩
  · obtain ⟨h1, h2, h3, h4⟩ := h
    unfold JmOk
    dsimp only
    omega
  · obtain ⟨h1, h2, h3, h4⟩ := h
    unfold JmOk
    dsimp only
    omega
/-- all of a pattern -/
noncomputable def pat_j {β : Type} (l : List (Int × Int)) : JM → (JM → β) → β := List.rec (motive := fun _ => JM → (JM → β) → β) (fun J kk => kk J) (fun q _ ih J kk => jm2 J (jm1 q) (fun J' => ih J' kk)) l
theorem pat_j_ok {β : Type} : ∀ (l : List (Int × Int)) (J : JM) (kk : JM → β), ∃ J', pat_j l J kk = kk J' ∧ (∀ q, JmOk q J → JmOk q J') ∧ ∀ q ∈ l, JmOk q J'
  | [], J, kk => ⟨J, rfl, fun _ h => h, fun _ h => by cases h⟩
  | q :: t, J, kk => by
    obtain ⟨J1, e1, e2, e3⟩ := jm2_ok J (jm1 q) (fun J' => pat_j t J' kk)
    obtain ⟨J2, f1, f2, f3⟩ := pat_j_ok t J1 kk
    refine ⟨J2, e1.trans f1, fun p hp => f2 p (e2 p hp), fun p hp => ?_⟩
    rcases List.mem_cons.mp hp with rfl | hp
    · exact f2 p (e3 p (jm1_ok p))
    · exact f3 p hp
/-- the ranges at the places from i to j; dv g: all these places are alike by g -/
noncomputable def seg_j {β : Type} (l : SEG) : (Nat → Bool) → Nat → Nat → (JM → Option β) → Option β := List.rec (motive := fun _ => (Nat → Bool) → Nat → Nat → (JM → Option β) → Option β) (fun _ _ _ _ => none) (fun s _ ih dv i j kk =>
    bif Nat.ble s.1 i then ax_fc (i - s.1) (fun i' => ax_fc (j - s.1) (fun j' => ih dv i' j' kk))
    else bif Nat.blt j s.1 then
      (bif dv s.2.length then ob (ax_nth s.2 (i % s.2.length)) (fun q => kk (jm1 q)) else lc s.2 (fun q t => pat_j t (jm1 q) kk))
    else ax_fc (j - s.1) (fun j' => ih (fun _ => false) 0 j' (fun J => pat_j s.2 J kk))) l
theorem seg_j_ok {β : Type} : ∀ (l : SEG) (dv : Nat → Bool) (i j : Nat) (kk : JM → Option β) (r : β), (∀ s ∈ l, s.2.length ≠ 0) → seg_j l dv i j kk = some r → ∃ J, kk J = some r ∧ ∀ k, i ≤ k → k ≤ j → (∀ g, dv g = true → (k - i) % g = 0) → ∃ q, seg_at l k = some q ∧ JmOk q J
  | [], dv, i, j, kk, r, _, h => by cases h
  | s :: t, dv, i, j, kk, r, hl, h => by
    have hl2 : ∀ s ∈ t, s.2.length ≠ 0 := fun s hs => hl s (List.mem_cons_of_mem _ hs)
    have h : (bif Nat.ble s.1 i then ax_fc (i - s.1) (fun i' => ax_fc (j - s.1) (fun j' => seg_j t dv i' j' kk))
      else bif Nat.blt j s.1 then
        (bif dv s.2.length then ob (ax_nth s.2 (i % s.2.length)) (fun q => kk (jm1 q)) else lc s.2 (fun q t => pat_j t (jm1 q) kk))
      else ax_fc (j - s.1) (fun j' => seg_j t (fun _ => false) 0 j' (fun J => pat_j s.2 J kk))) = some r := h
    have OUT : ∀ k, s.1 ≤ k → seg_at (s :: t) k = seg_at t (k - s.1) := fun k hk => by
      show (if k < s.1 then s.2[k % s.2.length]? else seg_at t (k - s.1)) = _
      rw [if_neg (by omega)]
    cases h1 : Nat.ble s.1 i with
    | true =>
      rw [h1] at h
      simp only [cond_true] at h
      rw [ax_fc_eq, ax_fc_eq] at h
      have b1 := bb_le h1
      obtain ⟨J, e1, e2⟩ := seg_j_ok t dv (i - s.1) (j - s.1) kk r hl2 h
      refine ⟨J, e1, fun k k1 k2 k3 => ?_⟩
      obtain ⟨q, q1, q2⟩ := e2 (k - s.1) (by omega) (by omega) (fun g hg => by rw [show k - s.1 - (i - s.1) = k - i by omega]; exact k3 g hg)
      exact ⟨q, by rw [OUT k (by omega)]; exact q1, q2⟩
    | false =>
      have b1 := bb_nle h1
      rw [h1] at h
      simp only [cond_false] at h
      have INS : ∀ k, k < s.1 → ∃ q, seg_at (s :: t) k = some q ∧ q ∈ s.2 := fun k hk => by
        have hlen := hl s List.mem_cons_self
        have hlt : k % s.2.length < s.2.length := Nat.mod_lt _ (by omega)
        refine ⟨s.2[k % s.2.length], ?_, List.getElem_mem hlt⟩
        show (if k < s.1 then s.2[k % s.2.length]? else seg_at t (k - s.1)) = _
        rw [if_pos hk, List.getElem?_eq_getElem hlt]
      cases h2 : Nat.blt j s.1 with
      | true =>
        rw [h2] at h
        simp only [cond_true] at h
        have b2 := bb_lt h2
        cases h3 : dv s.2.length with
        | true =>
          rw [h3] at h
          obtain ⟨q, eq, h4⟩ := ob_s (o := ax_nth s.2 (i % s.2.length)) h
          rw [ax_nth_eq] at eq
          refine ⟨_, h4, fun k k1 k2 k3 => ⟨q, ?_, jm1_ok q⟩⟩
          show (if k < s.1 then s.2[k % s.2.length]? else seg_at t (k - s.1)) = _
          rw [if_pos (by omega), show k = i + (k - i) by omega, Nat.add_mod, k3 _ h3, Nat.add_zero, Nat.mod_mod, eq]
        | false =>
          rw [h3] at h
          obtain ⟨q, u, e1, h4⟩ := lc_s (l := s.2) h
          obtain ⟨J, f1, f2, f3⟩ := pat_j_ok u (jm1 q) kk
          rw [f1] at h4
          refine ⟨J, h4, fun k k1 k2 _ => ?_⟩
          obtain ⟨p, p1, p2⟩ := INS k (by omega)
          refine ⟨p, p1, ?_⟩
          rw [e1] at p2
          rcases List.mem_cons.mp p2 with rfl | p2
          · exact f2 p (jm1_ok p)
          · exact f3 p p2
      | false =>
        rw [h2] at h
        simp only [cond_false] at h
        rw [ax_fc_eq] at h
        have b2 := bb_nlt h2
        obtain ⟨J, e1, e2⟩ := seg_j_ok t (fun _ => false) 0 (j - s.1) (fun J => pat_j s.2 J kk) r hl2 h
        obtain ⟨J', f1, f2, f3⟩ := pat_j_ok s.2 J kk
        have e1 : pat_j s.2 J kk = some r := e1
        rw [f1] at e1
        refine ⟨J', e1, fun k k1 k2 _ => ?_⟩
        by_cases hk : k < s.1
        · obtain ⟨p, p1, p2⟩ := INS k hk
          exact ⟨p, p1, f3 p p2⟩
        · obtain ⟨q, q1, q2⟩ := e2 (k - s.1) (by omega) (by omega) (fun g hg => by cases hg)
          exact ⟨q, by rw [OUT k (by omega)]; exact q1, f2 q q2⟩
/-- all terms of a form are alike by g -/
noncomputable def lf_dv (l : List (Nat × Int)) (g : Nat) : Bool := List.rec (motive := fun _ => Bool) true (fun q _ ih => i_z (q.2 % Int.ofNat g) && ih) l
theorem lf_dv_ok {ρ : List Int} {σ : SG} {g : Nat} : ∀ {l : List (Nat × Int)} {x : Int}, lf_dv l g = true → Lt ρ l x → ((g : Int) ∣ x) ∧ ((g : Int) ∣ lf_lot σ l)
  | [], x, _, hx => by have hx : x = 0 := hx; subst hx; exact ⟨Int.dvd_zero _, Int.dvd_zero _⟩
  | q :: t, x, h, hx => by
    have h : (i_z (q.2 % Int.ofNat g) && lf_dv t g) = true := h
    have w := bb_and h
    obtain ⟨z, y, a1, a2, a3⟩ := hx
    have ih := lf_dv_ok (σ := σ) w.2 a2
    have d : (g : Int) ∣ q.2 := Int.dvd_of_emod_eq_zero (i_z_ok w.1)
    refine ⟨by rw [a3]; exact Int.dvd_add (Int.dvd_mul_of_dvd_left d) ih.1, ?_⟩
    have e1 : lf_lot σ (q :: t) = bif i_nn q.2 then q.2 * (s_at σ q.1).1 + lf_lot σ t else q.2 * (s_at σ q.1).2 + lf_lot σ t := rfl
    rw [e1]
    cases i_nn q.2 with
    | true => exact Int.dvd_add (Int.dvd_mul_of_dvd_left d) ih.2
    | false => exact Int.dvd_add (Int.dvd_mul_of_dvd_left d) ih.2
/-- where the segment of a place ends -/
noncomputable def seg_e (l : SEG) : Nat → Nat := List.rec (motive := fun _ => Nat → Nat) (fun _ => 0) (fun s _ ih k => bif Nat.blt k s.1 then s.1 else ax_fc (k - s.1) (fun k => s.1 + ih k)) l
/-- the ranges at the places from lo to hi; less, if shown -/
noncomputable def ty_r {β : Type} (T : SEG) (N : NS) (I : LF) (dv : Nat → Bool) (lo hi : Nat) (kk : JM → Option β) : Option β :=
  ax_fc (seg_e T lo) (fun e => ax_fc (bif !(Nat.blt hi e) && lf_sc (-1) I (Int.ofNat e - 1) (pv2 N) then e - 1 else hi) (fun h => seg_j T dv lo h kk))
theorem ty_r_ok {β : Type} {ρ : List Int} {N : NS} (hN : Nk ρ N) {T : SEG} (hT : ∀ s ∈ T, s.2.length ≠ 0) {I : LF} {i : Int} (hI : Lv ρ I i) {dv : Nat → Bool} {lo hi : Nat} (h0 : 0 ≤ i) (h1 : lo ≤ i.toNat) (h2 : i.toNat ≤ hi) (hd : ∀ g, dv g = true → (i.toNat - lo) % g = 0) {kk : JM → Option β} {r : β} (h : ty_r T N I dv lo hi kk = some r) : ∃ J q, kk J = some r ∧ seg_at T i.toNat = some q ∧ JmOk q J := by
  unfold ty_r at h
  rw [ax_fc_eq, ax_fc_eq] at h
  have hh : i.toNat ≤ (bif !(Nat.blt hi (seg_e T lo)) && lf_sc (-1) I (Int.ofNat (seg_e T lo) - 1) (pv2 N) then seg_e T lo - 1 else hi) := by
    cases hc : (!(Nat.blt hi (seg_e T lo)) && lf_sc (-1) I (Int.ofNat (seg_e T lo) - 1) (pv2 N)) with
    | false => exact h2
    | true =>
      have w := bb_and hc
      obtain ⟨f, f1, f2⟩ := lf_sc_ok (-1) I (Int.ofNat (seg_e T lo) - 1) (pv2 N)
      have w2 := w.2
      rw [f1] at w2
      have a := pv2_ok hN w2 (f2 ρ _ hI)
      have : (Int.ofNat (seg_e T lo) : Int) = (seg_e T lo : Int) := rfl
      show i.toNat ≤ seg_e T lo - 1
      omega
  obtain ⟨J, e1, e2⟩ := seg_j_ok T _ _ _ kk r hT h
  obtain ⟨q, q1, q2⟩ := e2 i.toNat h1 hh hd
  exact ⟨J, q, e1, q1, q2⟩
/-- the ranges at the places that a form can name -/
noncomputable def ty_j {β : Type} (T : Nat × SEG) (N : NS) (I : LF) (kk : JM → Option β) : Option β :=
  i_fc (lf_lo N.1 I) (fun lo => i_fc (lf_hi N.1 I) (fun hi => gd (i_nn hi && Nat.beq T.1 0)
    (bif i_nn lo then ty_r T.2 N I (lf_dv I.2) lo.toNat hi.toNat kk else gd (pv2 N I) (ty_r T.2 N I (fun _ => false) 0 hi.toNat kk))))
theorem ty_j_ok {β : Type} {ρ : List Int} {N : NS} (hN : Nk ρ N) {T : Nat × SEG} (hT : ∀ s ∈ T.2, s.2.length ≠ 0) {I : LF} {i : Int} (hI : Lv ρ I i) {kk : JM → Option β} {r : β} (h : ty_j T N I kk = some r) : 0 ≤ i ∧ ∃ J q, kk J = some r ∧ ty_at T i.toNat = some q ∧ JmOk q J := by
  unfold ty_j at h
  rw [i_fc_eq, i_fc_eq] at h
  obtain ⟨g0, h⟩ := gd_s h
  have w := bb_and g0
  have n2 := i_nn_ok w.1
  have b := lf_b_ok hN.1 hI
  unfold ty_at
  rw [if_pos (bb_eq w.2)]
  cases hp : i_nn (lf_lo N.1 I) with
  | true =>
    rw [hp] at h
    simp only [cond_true] at h
    have n1 := i_nn_ok hp
    refine ⟨by omega, ?_⟩
    have DV : ∀ g, lf_dv I.2 g = true → (i.toNat - (lf_lo N.1 I).toNat) % g = 0 := fun g hg => by
      obtain ⟨y, a1, a2⟩ := hI
      have d := lf_dv_ok (σ := N.1) hg a1
      have e : ((i.toNat - (lf_lo N.1 I).toNat : Nat) : Int) = y - lf_lot N.1 I.2 := by
        unfold lf_lo at *
        omega
      have d2 : (g : Int) ∣ ((i.toNat - (lf_lo N.1 I).toNat : Nat) : Int) := by rw [e]; exact Int.dvd_sub d.1 d.2
      exact Nat.mod_eq_zero_of_dvd (Int.natCast_dvd_natCast.mp d2)
    exact ty_r_ok hN hT hI (by omega) (by omega) (by omega) DV h
  | false =>
    rw [hp] at h
    simp only [cond_false] at h
    obtain ⟨g1, h⟩ := gd_s h
    have i0 := pv2_ok hN g1 hI
    exact ⟨i0, ty_r_ok hN hT hI i0 (Nat.zero_le _) (by omega) (fun g hg => by cases hg) h⟩
/-! what is kept: cells' places that are known; rows that are good; pieces that are the same; places that were written; the sum of a row -/
abbrev CE : Type := Nat × LF × LF
abbrev GE : Type := Nat × LF
abbrev QE : Type := (Nat × LF) × (Nat × LF) × LF
abbrev WE : Type := Nat × Int × Int
abbrev MM : Type := List CE × List GE × List QE × List WE × List LF × List CE
/-- the script's length, its ints; what a call gives -/
abbrev LSc : Type := Nat × (Nat → Int) × (PH → Nat → Nat → Int → Prop)
/-- the values of a call that is remembered -/
def pxv (sp ad : Nat → Nat) (kd k : Nat) : List Value := if kd = 1 then [.ref (ad 169), .retAddr k] else [.ref (ad 169), .int (Int32.ofInt ((k / 4096 : Nat) : Int)), .int (Int32.ofInt ((k % 4096 : Nat) : Int))]
def PXd (sb : Nat → List Nat) (mq : Nat → Nat → Option MR) (dC : Nat → ClassId) (dI : Nat → Nat → Nat) (dA : Nat → ClassId) (sp : Nat → Nat) (H0 : Heap) (l : Launch) (ρ0 : List Nat) (ad : Nat → Nat) (rf : Nat → Nat → Option Nat) (sh : SHP) (h : PH) (c k : Nat) (x : Int) : Prop := ∃ C, mq (c / 1000 % 100) (c % 1000) = some C ∧ ∃ (pc' : Nat) (lv' : LVs) (y : Int32), (Wp0 sb dC dI dA sp H0 l ρ0 ad rf sh C 0 h (lvt sp (lv_args 0 (pxv sp ad (c / 100000) k))) [] (one pc' h (lvt sp lv') [.int y]) ∧ ZQ sb sp ρ0 ad sh C 0 h (lv_args 0 (pxv sp ad (c / 100000) k)) [] pc' h lv' [.int y]) ∧ (∃ ins, decode C.2.1 pc' = .ok (ins, 1) ∧ rokc C.2.2.2.1 ins [.int y]) ∧ y.toInt = x
def L6 (sp : Nat → Nat) (ρ0 : List Nat) (L : LSc) : Prop := ρ0[6]? = some (L.1 + 9223372036854775808) ∧ ∀ j, L.2.1 j = (sp (1000 + j) : Int) - 9223372036854775808
def LOK (sb : Nat → List Nat) (mq : Nat → Nat → Option MR) (dC : Nat → ClassId) (dI : Nat → Nat → Nat) (dA : Nat → ClassId) (sp : Nat → Nat) (H0 : Heap) (l : Launch) (ρ0 : List Nat) (ad : Nat → Nat) (rf : Nat → Nat → Option Nat) (sh : SHP) (L : LSc) : Prop := L6 sp ρ0 L ∧ L.2.2 = PXd sb mq dC dI dA sp H0 l ρ0 ad rf sh
/-- a table of rows: kind, ranges of the two numbers behind it -/
abbrev RT : Type := List (Nat × Int × (Int × Int) × (Int × Int))
/-- rows: their table, stride, the cell and the first place of kinds, firsts, seconds -/
abbrev GT : Type := List (Nat × Nat × (Nat × Nat) × (Nat × Nat) × (Nat × Nat))
abbrev TB : Type := SHP × TT × GT × RT × Nat
def Rok (rt : RT) (fm : Nat) (k a b : Int) : Prop := ∃ e ∈ rt, e.1 = fm ∧ e.2.1 = k ∧ e.2.2.1.1 ≤ a ∧ a ≤ e.2.2.1.2 ∧ e.2.2.2.1 ≤ b ∧ b ≤ e.2.2.2.2
def Gok (tb : TB) (h : PH) (id : Nat) (n : Int) : Prop := ∃ G, tb.2.2.1[id]? = some G ∧ ∀ k : Nat, (k : Int) < n → Rok tb.2.2.2.1 G.1 (h G.2.2.1.1 (G.2.2.1.2 + G.2.1 * k)) (h G.2.2.2.1.1 (G.2.2.2.1.2 + G.2.1 * k)) (h G.2.2.2.2.1 (G.2.2.2.2.2 + G.2.1 * k))
def Qok (h : PH) (c d : Nat) (i j n : Int) : Prop := 0 ≤ i ∧ 0 ≤ j ∧ ∀ k : Nat, (k : Int) < n → h c (i.toNat + k) = h d (j.toNat + k)
def sumr (g : Nat → Int) : Nat → Int
  | 0 => 0
  | n + 1 => sumr g n + g n
def Mk (tb : TB) (L : LSc) (ρ : List Int) (h0 h : PH) (m : MM) : Prop :=
  (∀ e ∈ m.1, ∃ i x, Lv ρ e.2.1 i ∧ 0 ≤ i ∧ Lv ρ e.2.2 x ∧ h e.1 i.toNat = x) ∧
  (∀ e ∈ m.2.1, ∃ n, Lv ρ e.2 n ∧ Gok tb h e.1 n) ∧
  (∀ e ∈ m.2.2.1, ∃ i j n, Lv ρ e.1.2 i ∧ Lv ρ e.2.1.2 j ∧ Lv ρ e.2.2 n ∧ Qok h e.1.1 e.2.1.1 i j n) ∧
  (∀ (c k : Nat), (∀ w ∈ m.2.2.2.1, ¬ (w.1 = c ∧ w.2.1 ≤ (k : Int) ∧ (k : Int) ≤ w.2.2)) → h c k = h0 c k) ∧
  (∀ f ∈ m.2.2.2.2.1, ∃ n, Lv ρ f n ∧ n = sumr (h tb.2.2.2.2) 80) ∧
  (∀ e ∈ m.2.2.2.2.2, ∃ i x, Lv ρ e.2.1 i ∧ 0 ≤ i ∧ Lv ρ e.2.2 x ∧ L.2.2 h e.1 i.toNat x)
/-- the types hold; the script's length is kept as that of a cell beyond all others -/
def Th (tb : TB) (L : LSc) (h : PH) : Prop := (∀ c T, tb.2.1[c]? = some T → (∀ s ∈ T.2, s.2.length ≠ 0) ∧ ∀ k q, ty_at T k = some q → q.1 ≤ h c k ∧ h c k ≤ q.2) ∧ h 999 0 = (L.1 : Int) ∧ ∀ k, k < L.1 → h 998 k = L.2.1 k
theorem Mk.mono {tb : TB} {L : LSc} {ρ ρ' : List Int} {h0 h : PH} {m : MM} (hs : Sb ρ ρ') (hm : Mk tb L ρ h0 h m) : Mk tb L ρ' h0 h m := by
  obtain ⟨a, b, c, d, e, f⟩ := hm
  refine ⟨fun q hq => ?_, fun q hq => ?_, fun q hq => ?_, d, fun q hq => ?_, fun q hq => ?_⟩
  · obtain ⟨i, x, z1, z2, z3, z4⟩ := a q hq
    exact ⟨i, x, z1.mono hs, z2, z3.mono hs, z4⟩
  · obtain ⟨n, z1, z2⟩ := b q hq
    exact ⟨n, z1.mono hs, z2⟩
  · obtain ⟨i, j, n, z1, z2, z3, z4⟩ := c q hq
    exact ⟨i, j, n, z1.mono hs, z2.mono hs, z3.mono hs, z4⟩
  · obtain ⟨n, z1, z2⟩ := e q hq
    exact ⟨n, z1.mono hs, z2⟩
  · obtain ⟨i, x, z1, z2, z3, z4⟩ := f q hq
    exact ⟨i, x, z1.mono hs, z2, z3.mono hs, z4⟩
/-- looked up among what is known -/
noncomputable def ca_fd (c : Nat) (I : LF) (l : List CE) : Option LF := List.rec (motive := fun _ => Option LF) none (fun e _ ih => bif Nat.beq e.1 c && lf_eq e.2.1 I then some e.2.2 else ih) l
theorem ca_fd_ok {c : Nat} {I v : LF} : ∀ {l : List CE}, ca_fd c I l = some v → (c, I, v) ∈ l
  | [], h => by cases h
  | e :: t, h => by
    have h : (bif Nat.beq e.1 c && lf_eq e.2.1 I then some e.2.2 else ca_fd c I t) = some v := h
    cases hb : (Nat.beq e.1 c && lf_eq e.2.1 I) with
    | true =>
      rw [hb] at h
      have w := bb_and hb
      have e1 := bb_eq w.1
      have e2 := lf_eq_ok w.2
      have e3 : e.2.2 = v := Option.some.inj h
      rw [← e1, ← e2, ← e3]
      exact List.mem_cons_self
    | false =>
      rw [hb] at h
      exact List.mem_cons_of_mem _ (ca_fd_ok h)
/-- a load: what is known, else something of the type -/
noncomputable def ld {β : Type} (tb : TB) (N : NS) (m : MM) (c : Nat) (I : LF) (kk : NS → MM → LF → Option β) : Option β :=
  match ca_fd c I m.1 with
  | some v => lf_nv N.1 v (fun v' => kk N m v')
  | none => ob (ax_nth tb.2.1 c) (fun T => ty_j T N I (fun J => nwv N J.1.1 J.1.2 (fun N' f => kk N' ((c, I, f) :: m.1, m.2) f)))
theorem ld_ok {β : Type} {tb : TB} {L : LSc} {ρ : List Int} {h0 h : PH} {N : NS} {m : MM} (hN : Nk ρ N) (hm : Mk tb L ρ h0 h m) (hT : Th tb L h) {c : Nat} {I : LF} {i : Int} (hI : Lv ρ I i) (h0i : 0 ≤ i) {kk : NS → MM → LF → Option β} {r : β} (hr : ld tb N m c I kk = some r) : ∃ N' m' f ρ', kk N' m' f = some r ∧ Sb ρ ρ' ∧ Nk ρ' N' ∧ Mk tb L ρ' h0 h m' ∧ Lv ρ' f (h c i.toNat) := by
  unfold ld at hr
  cases hc : ca_fd c I m.1 with
  | some v =>
    rw [hc] at hr
    obtain ⟨v', e1, e2⟩ := lf_nv_ok hN.1 v (fun v' => kk N m v')
    have hr : lf_nv N.1 v (fun v' => kk N m v') = some r := hr
    rw [e1] at hr
    obtain ⟨i', x, z1, z2, z3, z4⟩ := hm.1 _ (ca_fd_ok hc)
    have ei : i = i' := hI.fn z1
    subst ei
    exact ⟨N, m, v', ρ, hr, Sb.rf ρ, hN, hm, by rw [z4]; exact e2 x z3⟩
  | none =>
    rw [hc] at hr
    obtain ⟨T, t1, hr⟩ := ob_s (o := ax_nth tb.2.1 c) hr
    rw [ax_nth_eq] at t1
    obtain ⟨tn, tk⟩ := hT.1 c T t1
    obtain ⟨i0, J, q, j1, j2, j3⟩ := ty_j_ok hN tn hI hr
    have b := tk _ _ j2
    obtain ⟨N', f, e1, e2, e3, e4⟩ := nwv_ok hN (lo := J.1.1) (hi := J.1.2) (fun N' f => kk N' ((c, I, f) :: m.1, m.2) f) (z := h c i.toNat) (by have := j3.1; omega) (by have := j3.2.1; omega)
    rw [e1] at j1
    refine ⟨N', _, f, _, j1, e2, e3, ?_, e4⟩
    have hm' := hm.mono e2
    refine ⟨fun e he => ?_, hm'.2⟩
    rcases List.mem_cons.mp he with rfl | he
    · exact ⟨i, _, hI.mono e2, h0i, e4, rfl⟩
    · exact hm'.1 e he
