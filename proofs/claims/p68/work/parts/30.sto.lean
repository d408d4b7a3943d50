section
/-! 30.sto -/
/-! THE HEAP, 2: stores -/
noncomputable def apart (N : NS) (I J : LF) : Bool := lf_add (-1) J I (fun d => (lf_dv d.2 6 && !(i_z (d.1 % Int.ofNat 6))) || lf_sc (-1) d 0 (fun nd => pvn N d nd))
theorem apart_ok {ρ : List Int} {N : NS} (hN : Nk ρ N) {I J : LF} {i j : Int} (hI : Lv ρ I i) (hJ : Lv ρ J j) (h : apart N I J = true) : i ≠ j := by
  unfold apart at h
  obtain ⟨d, d1, d2⟩ := lf_add_ok (-1) J I (fun d => (lf_dv d.2 6 && !(i_z (d.1 % Int.ofNat 6))) || lf_sc (-1) d 0 (fun nd => pvn N d nd))
  rw [d1] at h
  have hd := d2 ρ _ _ hJ hI
  rcases (Bool.or_eq_true _ _).mp h with h | h
  · intro hij
    have w := bb_and h
    obtain ⟨u, a1, a2⟩ := hd
    have dv := (lf_dv_ok (σ := N.1) w.1 a1).1
    have e : d.1 = -u := by omega
    have d2 : ((6 : Nat) : Int) ∣ d.1 := by rw [e]; exact Int.dvd_neg.mpr dv
    have z : i_z (d.1 % Int.ofNat 6) = true := by
      have : d.1 % Int.ofNat 6 = 0 := Int.emod_eq_zero_of_dvd d2
      rw [this]
      rfl
    rw [z] at w
    exact absurd w.2 (by decide)
  obtain ⟨e, e1, e2⟩ := lf_sc_ok (-1) d 0 (fun nd => pvn N d nd)
  rw [e1] at h
  have he := e2 ρ _ hd
  have he' : Lv ρ e (-(-1 * j + i)) := by rw [show -(-1 * j + i) = -1 * (-1 * j + i) + 0 by omega]; exact he
  have := pvn_ok hN hd he' h
  omega
noncomputable def flt {α : Type} (p : α → Bool) (l : List α) : List α := List.rec (motive := fun _ => List α) [] (fun x _ ih => bif p x then x :: ih else ih) l
theorem flt_ok {α : Type} {p : α → Bool} {x : α} : ∀ {l : List α}, x ∈ flt p l → x ∈ l ∧ p x = true
  | [], h => by cases h
  | y :: t, h => by
    have h : x ∈ (bif p y then y :: flt p t else flt p t) := h
    cases hp : p y with
    | true =>
      rw [hp] at h
      rcases List.mem_cons.mp h with rfl | h
      · exact ⟨List.mem_cons_self, hp⟩
      · exact ⟨List.mem_cons_of_mem _ (flt_ok h).1, (flt_ok h).2⟩
    | false =>
      rw [hp] at h
      exact ⟨List.mem_cons_of_mem _ (flt_ok h).1, (flt_ok h).2⟩
/-- a column of rows isn't touched at I: rows below n -/
noncomputable def col_k (N : NS) (c : Nat) (I : LF) (s : Nat) (o : Nat × Nat) (n : LF) : Bool :=
  !(Nat.beq c o.1) || ((lf_dv I.2 s && !(i_z ((I.1 - Int.ofNat o.2) % Int.ofNat s))) || (i_nn (Int.ofNat o.2 - 1 - lf_hi N.1 I) || (Nat.ble 1 s && lf_add (-(Int.ofNat s)) n (I.1 - Int.ofNat o.2, I.2) (pv1 N))))
theorem col_k_ok {ρ : List Int} {N : NS} (hN : Nk ρ N) {c s : Nat} {I n : LF} {i y : Int} {o : Nat × Nat} (hI : Lv ρ I i) (h0 : 0 ≤ i) (hn : Lv ρ n y) (h : col_k N c I s o n = true) {k : Nat} (hk : (k : Int) < y) : ¬ (o.1 = c ∧ o.2 + s * k = i.toNat) := by
  intro hq
  unfold col_k at h
  have hm : ((s * k : Nat) : Int) = (s : Int) * (k : Int) := Int.natCast_mul s k
  rcases (Bool.or_eq_true _ _).mp h with h | h
  · rw [hq.1, Nat.beq_refl] at h
    cases h
  · rcases (Bool.or_eq_true _ _).mp h with h | h
    · have w := bb_and h
      obtain ⟨u, a1, a2⟩ := hI
      have d := (lf_dv_ok (σ := N.1) w.1 a1).1
      have e : I.1 - (o.2 : Int) = (s : Int) * k - u := by omega
      have d2 : (s : Int) ∣ I.1 - (o.2 : Int) := by rw [e]; exact Int.dvd_sub (Int.dvd_mul_right _ _) d
      have z : i_z ((I.1 - Int.ofNat o.2) % Int.ofNat s) = true := by
        have : (I.1 - Int.ofNat o.2) % Int.ofNat s = 0 := Int.emod_eq_zero_of_dvd d2
        rw [this]
        rfl
      rw [z] at w
      exact absurd w.2 (by decide)
    · rcases (Bool.or_eq_true _ _).mp h with h | h
      · have z := i_nn_ok h
        have b := lf_b_ok hN.1 hI
        have : (Int.ofNat o.2 : Int) = (o.2 : Int) := rfl
        omega
      · have hs := bb_le (bb_and h).1
        have h := (bb_and h).2
        obtain ⟨d, d1, d2⟩ := lf_add_ok (-(Int.ofNat s)) n (I.1 - Int.ofNat o.2, I.2) (pv1 N)
        rw [d1] at h
        have z := pv1_ok hN h (d2 ρ _ _ hn (hI.dec (Int.ofNat o.2)))
        have m : (s : Int) * ((k : Int) + 1) ≤ (s : Int) * y := Int.mul_le_mul_of_nonneg_left (by omega) (Int.natCast_nonneg s)
        rw [Int.mul_add] at m
        have e1 : -(Int.ofNat s) * y = -((s : Int) * y) := Int.neg_mul _ _
        have e2 : (Int.ofNat o.2 : Int) = (o.2 : Int) := rfl
        rw [e1, e2] at z
        omega
noncomputable def gf_k (tb : TB) (N : NS) (c : Nat) (I : LF) (e : GE) : Bool := match ax_nth tb.2.2.1 e.1 with
  | some G => col_k N c I G.2.1 G.2.2.1 e.2 && (col_k N c I G.2.1 G.2.2.2.1 e.2 && col_k N c I G.2.1 G.2.2.2.2 e.2)
  | none => false
theorem gf_k_ok {tb : TB} {ρ : List Int} {N : NS} (hN : Nk ρ N) {c : Nat} {I : LF} {i n x : Int} {e : GE} {h : PH} (hI : Lv ρ I i) (h0 : 0 ≤ i) (hn : Lv ρ e.2 n) (hG : Gok tb h e.1 n) (hk : gf_k tb N c I e = true) : Gok tb (uph h c i.toNat x) e.1 n := by
  obtain ⟨G, g1, g2⟩ := hG
  unfold gf_k at hk
  rw [ax_nth_eq, g1] at hk
  have w := bb_and hk
  have w2 := bb_and w.2
  refine ⟨G, g1, fun k hkn => ?_⟩
  have a := col_k_ok hN hI h0 hn w.1 hkn
  have b := col_k_ok hN hI h0 hn w2.1 hkn
  have d := col_k_ok hN hI h0 hn w2.2 hkn
  rw [uph_ne h x a, uph_ne h x b, uph_ne h x d]
  exact g2 k hkn
/-- a piece isn't touched at I -/
noncomputable def pc_k (N : NS) (c : Nat) (I : LF) (p : Nat × LF) (n : LF) : Bool :=
  !(Nat.beq c p.1) || (lf_add (-1) p.2 I (fun d => lf_add (-1) n d (pv1 N)) || lf_add (-1) I p.2 (fun d => pv1 N (d.1 - 1, d.2)))
theorem pc_k_ok {ρ : List Int} {N : NS} (hN : Nk ρ N) {c : Nat} {I n : LF} {i j y : Int} {p : Nat × LF} (hI : Lv ρ I i) (h0 : 0 ≤ i) (hj : Lv ρ p.2 j) (j0 : 0 ≤ j) (hn : Lv ρ n y) (h : pc_k N c I p n = true) {k : Nat} (hk : (k : Int) < y) : ¬ (p.1 = c ∧ j.toNat + k = i.toNat) := by
  intro hq
  unfold pc_k at h
  rcases (Bool.or_eq_true _ _).mp h with h | h
  · rw [hq.1, Nat.beq_refl] at h
    cases h
  · rcases (Bool.or_eq_true _ _).mp h with h | h
    · obtain ⟨d, d1, d2⟩ := lf_add_ok (-1) p.2 I (fun d => lf_add (-1) n d (pv1 N))
      rw [d1] at h
      obtain ⟨e, e1, e2⟩ := lf_add_ok (-1) n d (pv1 N)
      rw [e1] at h
      have z := pv1_ok hN h (e2 ρ _ _ hn (d2 ρ _ _ hj hI))
      omega
    · obtain ⟨d, d1, d2⟩ := lf_add_ok (-1) I p.2 (fun d => pv1 N (d.1 - 1, d.2))
      rw [d1] at h
      have z := pv1_ok hN h ((d2 ρ _ _ hI hj).dec 1)
      omega
noncomputable def eq_k (N : NS) (c : Nat) (I : LF) (e : QE) : Bool := pc_k N c I e.1 e.2.2 && pc_k N c I e.2.1 e.2.2
noncomputable def we_in (l : List WE) (w : WE) : Bool := List.rec (motive := fun _ => Bool) false (fun v _ ih => (Nat.beq v.1 w.1 && (i_le v.2.1 w.2.1 && i_le w.2.2 v.2.2)) || ih) l
theorem we_in_ok {w : WE} : ∀ {l : List WE}, we_in l w = true → ∃ v ∈ l, v.1 = w.1 ∧ v.2.1 ≤ w.2.1 ∧ w.2.2 ≤ v.2.2
  | [], h => by cases h
  | v :: t, h => by
    have h : ((Nat.beq v.1 w.1 && (i_le v.2.1 w.2.1 && i_le w.2.2 v.2.2)) || we_in t w) = true := h
    rcases (Bool.or_eq_true _ _).mp h with h | h
    · have a := bb_and h
      have b := bb_and a.2
      exact ⟨v, List.mem_cons_self, bb_eq a.1, i_le_ok b.1, i_le_ok b.2⟩
    · obtain ⟨v', a, b⟩ := we_in_ok h
      exact ⟨v', List.mem_cons_of_mem _ a, b⟩
noncomputable def we_ad {β : Type} (l : List WE) (c : Nat) (lo hi : Int) (kk : List WE → β) : β := i_fc lo (fun lo => i_fc hi (fun hi => bif we_in l (c, lo, hi) then kk l else kk ((c, lo, hi) :: l)))
theorem we_ad_ok {β : Type} (l : List WE) (c : Nat) (lo hi : Int) (kk : List WE → β) : ∃ l', we_ad l c lo hi kk = kk l' ∧ ∀ (d k : Nat), (∀ w ∈ l', ¬ (w.1 = d ∧ w.2.1 ≤ (k : Int) ∧ (k : Int) ≤ w.2.2)) → (∀ w ∈ l, ¬ (w.1 = d ∧ w.2.1 ≤ (k : Int) ∧ (k : Int) ≤ w.2.2)) ∧ ¬ (d = c ∧ lo ≤ (k : Int) ∧ (k : Int) ≤ hi) := by
  unfold we_ad
  rw [i_fc_eq, i_fc_eq]
  cases hb : we_in l (c, lo, hi) with
  | true =>
    refine ⟨l, rfl, fun d k hw => ⟨hw, fun q => ?_⟩⟩
    obtain ⟨v, v1, v2, v3, v4⟩ := we_in_ok hb
    refine hw v v1 ⟨v2.trans q.1.symm, ?_, ?_⟩
    · have v3 : v.2.1 ≤ lo := v3; omega
    · have v4 : hi ≤ v.2.2 := v4; omega
  | false =>
    refine ⟨_, rfl, fun d k hw => ⟨fun w hw' => hw w (List.mem_cons_of_mem _ hw'), fun q => ?_⟩⟩
    exact hw _ List.mem_cons_self ⟨q.1.symm, q.2⟩
/-- the sum of the row, behind a store -/
noncomputable def sm_s {β : Type} (tb : TB) (m : MM) (c : Nat) (I v : LF) (kk : List LF → β) : β :=
  bif Nat.beq c tb.2.2.2.2 then (match m.2.2.2.2.1 with
    | f :: _ => (match ca_fd c I m.1 with
      | some w => lf_add (-1) w v (fun d => lf_add 1 d f (fun g => kk [g]))
      | none => kk [])
    | [] => kk []) else kk m.2.2.2.2.1
theorem sumr_up (h : PH) (c i : Nat) (x : Int) : ∀ n, i < n → sumr (uph h c i x c) n = sumr (h c) n + (x - h c i)
  | 0, hn => by omega
  | n + 1, hn => by
    show sumr (uph h c i x c) n + uph h c i x c n = sumr (h c) n + h c n + _
    by_cases hi : i = n
    · subst hi
      have : ∀ m, m ≤ i → sumr (uph h c i x c) m = sumr (h c) m := by
        intro m
        induction m with
        | zero => intro _; rfl
        | succ m ih =>
          intro hm
          show sumr (uph h c i x c) m + uph h c i x c m = sumr (h c) m + h c m
          rw [ih (by omega), uph_ne h x (fun q => by omega)]
      rw [this i (Nat.le_refl i), uph_in]
      omega
    · rw [sumr_up h c i x n (by omega), uph_ne h x (fun q => hi q.2.symm)]
      omega
theorem sumr_ne (h : PH) (c c' i : Nat) (x : Int) (hc : c ≠ c') (n : Nat) : sumr (uph h c' i x c) n = sumr (h c) n := by
  induction n with
  | zero => rfl
  | succ n ih =>
    show sumr (uph h c' i x c) n + uph h c' i x c n = sumr (h c) n + h c n
    rw [ih, uph_ne h x (fun q => hc q.1)]
/-- the range at a place, quickly -/
noncomputable def sg_f (l : SEG) : Nat → Option (Int × Int) := List.rec (motive := fun _ => Nat → Option (Int × Int)) (fun _ => none) (fun s _ ih k => bif Nat.blt k s.1 then ax_nth s.2 (k % s.2.length) else ax_fc (k - s.1) ih) l
theorem sg_f_eq : ∀ (l : SEG) (k : Nat), sg_f l k = seg_at l k
  | [], k => rfl
  | s :: t, k => by
    show (bif Nat.blt k s.1 then ax_nth s.2 (k % s.2.length) else ax_fc (k - s.1) (sg_f t)) = if k < s.1 then s.2[k % s.2.length]? else seg_at t (k - s.1)
    cases h : Nat.blt k s.1 with
    | true => rw [if_pos (bb_lt h)]; exact ax_nth_eq _ _
    | false =>
      have := bb_nlt h
      rw [if_neg (by omega), ← sg_f_eq t]
      exact ax_fc_eq _ _
noncomputable def fit_q (a b : Option (Int × Int)) : Bool := match a with
  | none => false
  | some q' => (match b with
    | none => false
    | some q => i_le q.1 q'.1 && i_le q'.2 q.2)
noncomputable def all_r (p : Nat → Bool) (n : Nat) : Bool := Nat.rec (motive := fun _ => Bool) true (fun m ih => p m && ih) n
theorem all_r_ok {p : Nat → Bool} : ∀ {n : Nat}, all_r p n = true → ∀ k, k < n → p k = true
  | 0, _, k, hk => absurd hk (Nat.not_lt_zero k)
  | n + 1, h, k, hk => by
    have h : (p n && all_r p n) = true := h
    have w := bb_and h
    by_cases e : k = n
    · rw [e]; exact w.1
    · exact all_r_ok w.2 k (by omega)
/-- what stands d further on may stand here, at n places -/
noncomputable def fit_p (T : SEG) (lo n : Nat) (d : Int) : Bool := all_r (fun j => ax_fc (lo + j) (fun k => i_fc (Int.ofNat k + d) (fun z => i_nn z && fit_q (sg_f T z.toNat) (sg_f T k)))) n
/-- a value fits what may stand at I -/
noncomputable def fit_c (c : Nat) (T : SEG) (lo hi : Int) (I v : LF) (l : List CE) : Bool := List.rec (motive := fun _ => Bool) false (fun e _ ih => (Nat.beq e.1 c && (lf_eq e.2.2 v && lf_add (-1) I e.2.1 (fun d => cst d && (i_nn lo && (i_le (hi - lo) 600 && fit_p T lo.toNat (hi - lo + 1).toNat d.1))))) || ih) l
theorem fit_c_ok {c : Nat} {T : SEG} {lo hi : Int} {I v : LF} : ∀ {l : List CE}, fit_c c T lo hi I v l = true → ∃ e ∈ l, e.1 = c ∧ e.2.2 = v ∧ ∀ (ρ : List Int) (i j : Int), Lv ρ I i → Lv ρ e.2.1 j → lo ≤ i → i ≤ hi → ∃ q' q, seg_at T j.toNat = some q' ∧ seg_at T i.toNat = some q ∧ q.1 ≤ q'.1 ∧ q'.2 ≤ q.2
  | [], h => by cases h
  | e :: t, h => by
    have h : ((Nat.beq e.1 c && (lf_eq e.2.2 v && lf_add (-1) I e.2.1 (fun d => cst d && (i_nn lo && (i_le (hi - lo) 600 && fit_p T lo.toNat (hi - lo + 1).toNat d.1))))) || fit_c c T lo hi I v t) = true := h
    rcases (Bool.or_eq_true _ _).mp h with h | h
    · have a := bb_and h
      have b := bb_and a.2
      obtain ⟨d, d1, d2⟩ := lf_add_ok (-1) I e.2.1 (fun d => cst d && (i_nn lo && (i_le (hi - lo) 600 && fit_p T lo.toNat (hi - lo + 1).toNat d.1)))
      have b2 := b.2
      rw [d1] at b2
      have w := bb_and b2
      have w2 := bb_and w.2
      have w3 := bb_and w2.2
      refine ⟨e, List.mem_cons_self, bb_eq a.1, lf_eq_ok b.1, fun ρ i j hi1 hj h1 h2 => ?_⟩
      have hd := cst_ok w.1 (d2 ρ _ _ hi1 hj)
      have l0 := i_nn_ok w2.1
      have p := all_r_ok w3.2 (i.toNat - lo.toNat) (by omega)
      rw [ax_fc_eq, i_fc_eq] at p
      have p2 := bb_and p
      have e1 : lo.toNat + (i.toNat - lo.toNat) = i.toNat := by omega
      rw [e1] at p2
      have e2 : Int.ofNat i.toNat + d.1 = j := by
        have : (Int.ofNat i.toNat : Int) = i := Int.toNat_of_nonneg (by omega)
        rw [this]
        omega
      rw [e2, sg_f_eq, sg_f_eq] at p2
      have p3 := p2.2
      cases c1 : seg_at T j.toNat with
      | none => rw [c1] at p3; cases p3
      | some q' =>
        rw [c1] at p3
        cases c2 : seg_at T i.toNat with
        | none => rw [c2] at p3; cases p3
        | some q =>
          rw [c2] at p3
          have p4 := bb_and (a := i_le q.1 q'.1) (b := i_le q'.2 q.2) p3
          exact ⟨q', q, rfl, rfl, i_le_ok p4.1, i_le_ok p4.2⟩
    · obtain ⟨e', a, b⟩ := fit_c_ok h
      exact ⟨e', List.mem_cons_of_mem _ a, b⟩
noncomputable def stq {β : Type} (tb : TB) (N : NS) (m : MM) (c : Nat) (I v : LF) (kk : MM → Option β) : Option β :=
  gd (Nat.blt c 900) (ob (ax_nth tb.2.1 c) (fun T => ty_j T N I (fun J =>
    gd ((pv1 N (v.1 - J.2.1, v.2) && lf_sc (-1) v J.2.2 (pv1 N)) || (Nat.beq T.1 0 && fit_c c T.2 (lf_lo N.1 I) (lf_hi N.1 I) I v m.1))
      (we_ad m.2.2.2.1 c (lf_lo N.1 I) (lf_hi N.1 I) (fun wr => sm_s tb m c I v (fun sm => kk ((c, I, v) :: flt (fun e => !(Nat.beq e.1 c) || apart N I e.2.1) m.1, flt (gf_k tb N c I) m.2.1, flt (eq_k N c I) m.2.2.1, wr, sm, [])))))))
theorem stq_ok {β : Type} {tb : TB} {L : LSc} {ρ : List Int} {h0 h : PH} {N : NS} {m : MM} (hN : Nk ρ N) (hm : Mk tb L ρ h0 h m) (hT : Th tb L h) {c : Nat} {I v : LF} {i x : Int} (hI : Lv ρ I i) (hv : Lv ρ v x) (hi80 : c = tb.2.2.2.2 → i < 80) {kk : MM → Option β} {r : β} (hr : stq tb N m c I v kk = some r) : 0 ≤ i ∧ ∃ m', kk m' = some r ∧ Mk tb L ρ h0 (uph h c i.toNat x) m' ∧ Th tb L (uph h c i.toNat x) := by
  unfold stq at hr
  obtain ⟨g0, hr⟩ := gd_s hr
  obtain ⟨T, t1, hr⟩ := ob_s hr
  rw [ax_nth_eq] at t1
  obtain ⟨tn, tk⟩ := hT.1 c T t1
  obtain ⟨i0, J, q, hr, j2, j3⟩ := ty_j_ok hN tn hI hr
  obtain ⟨g1, hr⟩ := gd_s hr
  obtain ⟨wr, w1, w2⟩ := we_ad_ok m.2.2.2.1 c (lf_lo N.1 I) (lf_hi N.1 I) (fun wr => sm_s tb m c I v (fun sm => kk ((c, I, v) :: flt (fun e => !(Nat.beq e.1 c) || apart N I e.2.1) m.1, flt (gf_k tb N c I) m.2.1, flt (eq_k N c I) m.2.2.1, wr, sm, [])))
  rw [w1] at hr
  have hx : q.1 ≤ x ∧ x ≤ q.2 := by
    rcases (Bool.or_eq_true _ _).mp g1 with g | g
    · have a := bb_and g
      obtain ⟨d, d1, d2⟩ := lf_sc_ok (-1) v J.2.2 (pv1 N)
      have a2 := a.2
      rw [d1] at a2
      have z1 := pv1_ok hN a.1 (hv.dec J.2.1)
      have z2 := pv1_ok hN a2 (d2 ρ _ hv)
      have := j3.2.2.1
      have := j3.2.2.2
      omega
    · have a := bb_and g
      have hP : T.1 = 0 := bb_eq a.1
      obtain ⟨e, e1, e2, e3, e4⟩ := fit_c_ok a.2
      obtain ⟨j, y, z1, z2, z3, z4⟩ := hm.1 e e1
      have bi := lf_b_ok hN.1 hI
      obtain ⟨q', q2, s1, s2, s3, s4⟩ := e4 ρ i j hI z1 bi.1 bi.2
      rw [e3] at z3
      have exy : x = y := hv.fn z3
      unfold ty_at at j2
      rw [if_pos hP, s2] at j2
      cases j2
      have b := tk j.toNat q' (by unfold ty_at; rw [if_pos hP]; exact s1)
      rw [← e2] at b
      rw [exy, ← z4]
      omega
  refine ⟨i0, ?_⟩
  have hTh : Th tb L (uph h c i.toNat x) := by
    refine ⟨fun c' T' t' => ⟨(hT.1 c' T' t').1, fun k q' hq' => ?_⟩, ?_⟩
    · by_cases hck : c' = c ∧ k = i.toNat
      · obtain ⟨rfl, rfl⟩ := hck
        rw [uph_in]
        rw [t1] at t'
        cases t'
        rw [j2] at hq'
        cases hq'
        exact hx
      · rw [uph_ne h x hck]
        exact (hT.1 c' T' t').2 k q' hq'
    · exact ⟨by rw [uph_ne h x (fun z => by have := bb_lt g0; omega)]; exact hT.2.1, fun k hk => by rw [uph_ne h x (fun z => by have := bb_lt g0; omega)]; exact hT.2.2 k hk⟩
  have SM : ∃ sm, (sm_s tb m c I v (fun sm => kk ((c, I, v) :: flt (fun e => !(Nat.beq e.1 c) || apart N I e.2.1) m.1, flt (gf_k tb N c I) m.2.1, flt (eq_k N c I) m.2.2.1, wr, sm, [])) = kk ((c, I, v) :: flt (fun e => !(Nat.beq e.1 c) || apart N I e.2.1) m.1, flt (gf_k tb N c I) m.2.1, flt (eq_k N c I) m.2.2.1, wr, sm, [])) ∧ ∀ f ∈ sm, ∃ n, Lv ρ f n ∧ n = sumr (uph h c i.toNat x tb.2.2.2.2) 80 := by
    unfold sm_s
    cases hc : Nat.beq c tb.2.2.2.2 with
    | false =>
      refine ⟨m.2.2.2.2.1, rfl, fun f hf => ?_⟩
      obtain ⟨n, n1, n2⟩ := hm.2.2.2.2.1 f hf
      exact ⟨n, n1, by rw [sumr_ne h _ _ _ _ (fun z => bb_ne hc z.symm)]; exact n2⟩
    | true =>
      have ec := bb_eq hc
      simp only [cond_true]
      cases hs : m.2.2.2.2.1 with
      | nil => exact ⟨[], rfl, fun f hf => by cases hf⟩
      | cons f t =>
        dsimp only
        cases hw : ca_fd c I m.1 with
        | none => exact ⟨[], rfl, fun f hf => by cases hf⟩
        | some w =>
          dsimp only
          obtain ⟨d, d1, d2⟩ := lf_add_ok (-1) w v (fun d => lf_add 1 d f (fun g => kk ((c, I, v) :: flt (fun e => !(Nat.beq e.1 c) || apart N I e.2.1) m.1, flt (gf_k tb N c I) m.2.1, flt (eq_k N c I) m.2.2.1, wr, [g], [])))
          obtain ⟨g, e1, e2⟩ := lf_add_ok 1 d f (fun g => kk ((c, I, v) :: flt (fun e => !(Nat.beq e.1 c) || apart N I e.2.1) m.1, flt (gf_k tb N c I) m.2.1, flt (eq_k N c I) m.2.2.1, wr, [g], []))
          refine ⟨[g], d1.trans e1, fun f' hf' => ?_⟩
          obtain rfl := List.mem_singleton.mp hf'
          obtain ⟨n, n1, n2⟩ := hm.2.2.2.2.1 f (by rw [hs]; exact List.mem_cons_self)
          obtain ⟨i', y, z1, z2, z3, z4⟩ := hm.1 _ (ca_fd_ok hw)
          have ei : i = i' := hI.fn z1
          subst ei
          refine ⟨_, e2 ρ _ _ (d2 ρ _ _ z3 hv) n1, ?_⟩
          rw [← ec, sumr_up h c i.toNat x 80 (by have := hi80 ec; omega), ec, ← n2, ← ec]
          have z4 : h c i.toNat = y := z4
          omega
  obtain ⟨sm, s1, s2⟩ := SM
  rw [s1] at hr
  refine ⟨_, hr, ⟨fun e he => ?_, fun e he => ?_, fun e he => ?_, fun d k hw => ?_, s2, fun e he => by cases he⟩, hTh⟩
  · rcases List.mem_cons.mp he with rfl | he
    · exact ⟨i, x, hI, i0, hv, uph_in h c i.toNat x⟩
    · obtain ⟨e1, e2⟩ := flt_ok he
      obtain ⟨j, y, z1, z2, z3, z4⟩ := hm.1 e e1
      refine ⟨j, y, z1, z2, z3, ?_⟩
      rw [uph_ne h x (fun z => ?_)]
      · exact z4
      · rcases (Bool.or_eq_true _ _).mp e2 with e2 | e2
        · rw [z.1, Nat.beq_refl] at e2
          cases e2
        · have := apart_ok hN hI z1 e2
          omega
  · obtain ⟨e1, e2⟩ := flt_ok he
    obtain ⟨n, n1, n2⟩ := hm.2.1 e e1
    exact ⟨n, n1, gf_k_ok hN hI i0 n1 n2 e2⟩
  · obtain ⟨e1, e2⟩ := flt_ok he
    obtain ⟨a, b, n, z1, z2, z3, z4, z5, z6⟩ := hm.2.2.1 e e1
    have w := bb_and (show (pc_k N c I e.1 e.2.2 && pc_k N c I e.2.1 e.2.2) = true from e2)
    refine ⟨a, b, n, z1, z2, z3, z4, z5, fun k hk => ?_⟩
    have p1 := pc_k_ok hN hI i0 z1 z4 z3 w.1 hk
    have p2 := pc_k_ok hN hI i0 z2 z5 z3 w.2 hk
    rw [uph_ne h x p1, uph_ne h x p2]
    exact z6 k hk
  · obtain ⟨y1, y2⟩ := w2 d k hw
    rw [uph_ne h x (fun z => ?_)]
    · exact hm.2.2.2.1 d k y1
    · refine y2 ⟨z.1, ?_⟩
      have b := lf_b_ok hN.1 hI
      omega
end
section
/-! 31.cpy -/
/-! THE HEAP, 3: a piece copied; places that another one wrote -/
def uni (T : Nat × SEG) : Option (Nat × (Int × Int)) := match T with
  | (0, [(len, [q])]) => some (len, q)
  | _ => none
theorem uni_ok {T : Nat × SEG} {len : Nat} {q : Int × Int} (h : uni T = some (len, q)) : ∀ k, ty_at T k = if k < len then some q else none := by
  unfold uni at h
  split at h
  · cases h
    intro k
    show (if k < len then ([q] : List (Int × Int))[k % 1]? else seg_at [] (k - len)) = _
    rw [Nat.mod_one]
    rfl
  · cases h
noncomputable def gcell (c : Nat) (l : GT) : Bool := List.rec (motive := fun _ => Bool) false (fun G _ ih => Nat.beq c G.2.2.1.1 || (Nat.beq c G.2.2.2.1.1 || (Nat.beq c G.2.2.2.2.1 || ih))) l
noncomputable def gf_c (tb : TB) (c : Nat) (e : GE) : Bool := match ax_nth tb.2.2.1 e.1 with
  | some G => !(Nat.beq c G.2.2.1.1) && (!(Nat.beq c G.2.2.2.1.1) && !(Nat.beq c G.2.2.2.2.1))
  | none => false
theorem nbq {a b : Nat} (h : (!(Nat.beq a b)) = true) : a ≠ b := fun e => by
  subst e
  rw [Nat.beq_refl] at h
  cases h
noncomputable def cpq {β : Type} (tb : TB) (N : NS) (m : MM) (cs cd : Nat) (sq dp n : LF) (kk : MM → Option β) : Option β :=
  gd (Nat.blt cd 900) (ob (ax_nth tb.2.1 cs) (fun Ts => ob (ax_nth tb.2.1 cd) (fun Td => ob (uni Ts) (fun us => ob (uni Td) (fun ud => ob (ax_nth tb.1 cs) (fun s0 => ob (ax_nth tb.1 cd) (fun s1 =>
    gd (i_le ud.2.1 us.2.1 && (i_le us.2.2 ud.2.2 && (Nat.ble s0.2.1 us.1 && (pv1 N sq && (pv1 N dp && (pv1 N n && (lf_sc (-1) sq (Int.ofNat s0.2.1) (fun d => lf_add (-1) n d (pv1 N)) && lf_sc (-1) dp (Int.ofNat s1.2.1) (fun d => lf_add (-1) n d (pv1 N)))))))))
      (we_ad m.2.2.2.1 cd (lf_lo N.1 dp) (lf_hi N.1 dp + lf_hi N.1 n) (fun wr => kk (flt (fun e => !(Nat.beq e.1 cd)) m.1, flt (gf_c tb cd) m.2.1,
        (bif gcell cd tb.2.2.1 && !(Nat.beq cs cd) then ((cd, dp), (cs, sq), n) :: flt (fun e => !(Nat.beq e.1.1 cd) && !(Nat.beq e.2.1.1 cd)) m.2.2.1 else flt (fun e => !(Nat.beq e.1.1 cd) && !(Nat.beq e.2.1.1 cd)) m.2.2.1), wr, (bif Nat.beq cd tb.2.2.2.2 then [] else m.2.2.2.2.1), []))))))))))
theorem cph_ne {h : PH} {cs cd sp dp n c k : Nat} (q : ¬ (c = cd ∧ dp ≤ k ∧ k < dp + n)) : cph h cs cd sp dp n c k = h c k := if_neg q
theorem sumr_eq {f g : Nat → Int} (h : ∀ k, f k = g k) (n : Nat) : sumr f n = sumr g n := by
  rw [show f = g from funext h]
theorem cpq_ok {β : Type} {tb : TB} {L : LSc} {ρ : List Int} {h0 h : PH} {N : NS} {m : MM} (hN : Nk ρ N) (hm : Mk tb L ρ h0 h m) (hT : Th tb L h) {cs cd : Nat} {sq dp n : LF} {a b x : Int} (ha : Lv ρ sq a) (hb : Lv ρ dp b) (hn : Lv ρ n x) {kk : MM → Option β} {r : β} (hr : cpq tb N m cs cd sq dp n kk = some r) : ∃ s0 s1 m', tb.1[cs]? = some s0 ∧ tb.1[cd]? = some s1 ∧ 0 ≤ a ∧ 0 ≤ b ∧ 0 ≤ x ∧ a + x ≤ s0.2.1 ∧ b + x ≤ s1.2.1 ∧ kk m' = some r ∧ Mk tb L ρ h0 (cph h cs cd a.toNat b.toNat x.toNat) m' ∧ Th tb L (cph h cs cd a.toNat b.toNat x.toNat) := by
  unfold cpq at hr
  obtain ⟨g0, hr⟩ := gd_s hr
  obtain ⟨Ts, t1, hr⟩ := ob_s hr
  obtain ⟨Td, t2, hr⟩ := ob_s hr
  obtain ⟨us, u1, hr⟩ := ob_s hr
  obtain ⟨ud, u2, hr⟩ := ob_s hr
  obtain ⟨s0, s1, hr⟩ := ob_s hr
  obtain ⟨s2, s3, hr⟩ := ob_s hr
  obtain ⟨g1, hr⟩ := gd_s hr
  rw [ax_nth_eq] at t1 t2 s1 s3
  have w1 := bb_and g1
  have w2 := bb_and w1.2
  have w3 := bb_and w2.2
  have w4 := bb_and w3.2
  have w5 := bb_and w4.2
  have w6 := bb_and w5.2
  have w7 := bb_and w6.2
  have k1 := i_le_ok w1.1
  have k2 := i_le_ok w2.1
  have k3 := bb_le w3.1
  have k4 := pv1_ok hN w4.1 ha
  have k5 := pv1_ok hN w5.1 hb
  have k6 := pv1_ok hN w6.1 hn
  have k7 : a + x ≤ s0.2.1 := by
    obtain ⟨d, d1, d2⟩ := lf_sc_ok (-1) sq (Int.ofNat s0.2.1) (fun d => lf_add (-1) n d (pv1 N))
    obtain ⟨e, e1, e2⟩ := lf_add_ok (-1) n d (pv1 N)
    have z := w7.1
    rw [d1, e1] at z
    have z := pv1_ok hN z (e2 ρ _ _ hn (d2 ρ _ ha))
    have : (Int.ofNat s0.2.1 : Int) = (s0.2.1 : Int) := rfl
    omega
  have k8 : b + x ≤ s2.2.1 := by
    obtain ⟨d, d1, d2⟩ := lf_sc_ok (-1) dp (Int.ofNat s2.2.1) (fun d => lf_add (-1) n d (pv1 N))
    obtain ⟨e, e1, e2⟩ := lf_add_ok (-1) n d (pv1 N)
    have z := w7.2
    rw [d1, e1] at z
    have z := pv1_ok hN z (e2 ρ _ _ hn (d2 ρ _ hb))
    have : (Int.ofNat s2.2.1 : Int) = (s2.2.1 : Int) := rfl
    omega
  obtain ⟨wr, v1, v2⟩ := we_ad_ok m.2.2.2.1 cd (lf_lo N.1 dp) (lf_hi N.1 dp + lf_hi N.1 n) (fun wr => kk (flt (fun e => !(Nat.beq e.1 cd)) m.1, flt (gf_c tb cd) m.2.1,
        (bif gcell cd tb.2.2.1 && !(Nat.beq cs cd) then ((cd, dp), (cs, sq), n) :: flt (fun e => !(Nat.beq e.1.1 cd) && !(Nat.beq e.2.1.1 cd)) m.2.2.1 else flt (fun e => !(Nat.beq e.1.1 cd) && !(Nat.beq e.2.1.1 cd)) m.2.2.1), wr, (bif Nat.beq cd tb.2.2.2.2 then [] else m.2.2.2.2.1), []))
  rw [v1] at hr
  have hCD : ∀ c k, c ≠ cd → cph h cs cd a.toNat b.toNat x.toNat c k = h c k := fun c k hc => cph_ne (fun z => hc z.1)
  have OLDQ : ∀ e ∈ flt (fun e : QE => !(Nat.beq e.1.1 cd) && !(Nat.beq e.2.1.1 cd)) m.2.2.1, ∃ i j n, Lv ρ e.1.2 i ∧ Lv ρ e.2.1.2 j ∧ Lv ρ e.2.2 n ∧ Qok (cph h cs cd a.toNat b.toNat x.toNat) e.1.1 e.2.1.1 i j n := fun e he => by
    obtain ⟨e1, e2⟩ := flt_ok he
    have y := bb_and e2
    obtain ⟨i, j, n, z1, z2, z3, z4, z5, z6⟩ := hm.2.2.1 e e1
    refine ⟨i, j, n, z1, z2, z3, z4, z5, fun k hk => ?_⟩
    rw [hCD _ _ (nbq y.1), hCD _ _ (nbq y.2)]
    exact z6 k hk
  refine ⟨s0, s2, _, s1, s3, k4, k5, k6, k7, k8, hr, ⟨fun e he => ?_, fun e he => ?_, ?_, fun d k hw => ?_, fun f hf => ?_, fun e he => by cases he⟩, ⟨fun c T t => ⟨(hT.1 c T t).1, fun k q hq => ?_⟩, ?_⟩⟩
  · obtain ⟨e1, e2⟩ := flt_ok he
    obtain ⟨i, y, z1, z2, z3, z4⟩ := hm.1 e e1
    exact ⟨i, y, z1, z2, z3, by rw [hCD _ _ (nbq e2)]; exact z4⟩
  · obtain ⟨e1, e2⟩ := flt_ok he
    obtain ⟨y, y1, G, y2, y3⟩ := hm.2.1 e e1
    unfold gf_c at e2
    rw [ax_nth_eq, y2] at e2
    have z := bb_and e2
    have z2 := bb_and z.2
    refine ⟨y, y1, G, y2, fun k hk => ?_⟩
    rw [hCD _ _ (fun q => nbq z.1 q.symm), hCD _ _ (fun q => nbq z2.1 q.symm), hCD _ _ (fun q => nbq z2.2 q.symm)]
    exact y3 k hk
  · show ∀ e ∈ (bif gcell cd tb.2.2.1 && !(Nat.beq cs cd) then _ else _), _
    cases hg : (gcell cd tb.2.2.1 && !(Nat.beq cs cd)) with
    | false => exact OLDQ
    | true =>
      intro e he
      rcases List.mem_cons.mp he with rfl | he
      · refine ⟨b, a, x, hb, ha, hn, k5, k4, fun k hk => ?_⟩
        show cph h cs cd a.toNat b.toNat x.toNat cd (b.toNat + k) = cph h cs cd a.toNat b.toNat x.toNat cs (a.toNat + k)
        rw [hCD cs _ (nbq (bb_and hg).2)]
        unfold cph
        rw [if_pos ⟨rfl, by omega, by omega⟩, Nat.add_sub_cancel_left]
      · exact OLDQ e he
  · obtain ⟨y1, y2⟩ := v2 d k hw
    rw [cph_ne (fun z => y2 ⟨z.1, ?_⟩)]
    · exact hm.2.2.2.1 d k y1
    · have b1 := lf_b_ok hN.1 hb
      have b2 := lf_b_ok hN.1 hn
      omega
  · have hf : f ∈ (bif Nat.beq cd tb.2.2.2.2 then [] else m.2.2.2.2.1) := hf
    cases hc : Nat.beq cd tb.2.2.2.2 with
    | true => rw [hc] at hf; cases hf
    | false =>
      rw [hc] at hf
      obtain ⟨y, y1, y2⟩ := hm.2.2.2.2.1 f hf
      exact ⟨y, y1, by rw [y2]; exact sumr_eq (fun k => (hCD _ k (fun z => bb_ne hc z.symm)).symm) 80⟩
  · by_cases hck : c = cd ∧ b.toNat ≤ k ∧ k < b.toNat + x.toNat
    · obtain ⟨rfl, h1, h2⟩ := hck
      rw [t2] at t
      cases t
      rw [uni_ok u2] at hq
      split at hq
      · cases hq
        unfold cph
        rw [if_pos ⟨rfl, h1, h2⟩]
        have z := (hT.1 cs Ts t1).2 (a.toNat + (k - b.toNat)) us.2 (by rw [uni_ok u1, if_pos (by omega)])
        omega
      · cases hq
    · rw [cph_ne hck]
      exact (hT.1 c T t).2 k q hq
  · exact ⟨by rw [hCD _ _ (by have := bb_lt g0; omega)]; exact hT.2.1, fun k hk => by rw [hCD _ _ (by have := bb_lt g0; omega)]; exact hT.2.2 k hk⟩
def isnil {α : Type} (l : List α) : Bool := match l with
  | [] => true
  | _ => false
/-! what stays, if the places W were written -/
def Wout (W : List WE) (c k : Nat) : Prop := ∀ w ∈ W, ¬ (w.1 = c ∧ w.2.1 ≤ (k : Int) ∧ (k : Int) ≤ w.2.2)
noncomputable def alls {α : Type} (p : α → Bool) (l : List α) : Bool := List.rec (motive := fun _ => Bool) true (fun x _ ih => p x && ih) l
theorem alls_ok {α : Type} {p : α → Bool} : ∀ {l : List α}, alls p l = true → ∀ x ∈ l, p x = true
  | [], _, x, hx => by cases hx
  | y :: t, h, x, hx => by
    have h : (p y && alls p t) = true := h
    have w := bb_and h
    rcases List.mem_cons.mp hx with rfl | hx
    · exact w.1
    · exact alls_ok w.2 x hx
/-- the places from lo to hi of a cell aren't among W -/
noncomputable def w_cl (W : List WE) (c : Nat) (lo hi : Int) : Bool := alls (fun w => !(Nat.beq w.1 c) || (i_nn (w.2.1 - 1 - hi) || i_nn (lo - 1 - w.2.2))) W
theorem w_cl_ok {W : List WE} {c k : Nat} {lo hi : Int} (h : w_cl W c lo hi = true) (h1 : lo ≤ (k : Int)) (h2 : (k : Int) ≤ hi) : Wout W c k := by
  intro w hw q
  have z := alls_ok h w hw
  rcases (Bool.or_eq_true _ _).mp z with z | z
  · exact nbq z q.1
  · rcases (Bool.or_eq_true _ _).mp z with z | z
    · have := i_nn_ok z; omega
    · have := i_nn_ok z; omega
noncomputable def ca_w (W : List WE) (N : NS) (e : CE) : Bool := i_fc (lf_lo N.1 e.2.1) (fun lo => i_fc (lf_hi N.1 e.2.1) (fun hi => w_cl W e.1 lo hi))
noncomputable def col_w (W : List WE) (s : Nat) (o : Nat × Nat) (n : Int) : Bool := w_cl W o.1 (Int.ofNat o.2) (Int.ofNat o.2 + Int.ofNat s * n)
noncomputable def gf_w (tb : TB) (W : List WE) (N : NS) (e : GE) : Bool := match ax_nth tb.2.2.1 e.1 with
  | some G => i_fc (lf_hi N.1 e.2) (fun n => col_w W G.2.1 G.2.2.1 n && (col_w W G.2.1 G.2.2.2.1 n && col_w W G.2.1 G.2.2.2.2 n))
  | none => false
noncomputable def eq_w (W : List WE) (N : NS) (e : QE) : Bool := i_fc (lf_hi N.1 e.2.2) (fun n => w_cl W e.1.1 (lf_lo N.1 e.1.2) (lf_hi N.1 e.1.2 + n) && w_cl W e.2.1.1 (lf_lo N.1 e.2.1.2) (lf_hi N.1 e.2.1.2 + n))
noncomputable def we_ads {β : Type} (l : List WE) (W : List WE) : (List WE → β) → β := List.rec (motive := fun _ => (List WE → β) → β) (fun kk => kk l) (fun w _ ih kk => ih (fun l' => we_ad l' w.1 w.2.1 w.2.2 kk)) W
theorem we_ads_ok {β : Type} (l : List WE) : ∀ (W : List WE) (kk : List WE → β), ∃ l', we_ads l W kk = kk l' ∧ ∀ (d k : Nat), Wout l' d k → Wout l d k ∧ Wout W d k
  | [], kk => ⟨l, rfl, fun d k h => ⟨h, fun w hw => by cases hw⟩⟩
  | w :: t, kk => by
    obtain ⟨l1, e1, e2⟩ := we_ads_ok l t (fun l' => we_ad l' w.1 w.2.1 w.2.2 kk)
    obtain ⟨l2, f1, f2⟩ := we_ad_ok l1 w.1 w.2.1 w.2.2 kk
    refine ⟨l2, e1.trans f1, fun d k h => ?_⟩
    obtain ⟨a, b⟩ := f2 d k h
    obtain ⟨c1, c2⟩ := e2 d k a
    refine ⟨c1, fun v hv => ?_⟩
    rcases List.mem_cons.mp hv with rfl | hv
    · exact fun q => b ⟨q.1.symm, q.2⟩
    · exact c2 v hv
noncomputable def keepW {β : Type} (tb : TB) (W : List WE) (N : NS) (m : MM) (kk : MM → β) : β := we_ads m.2.2.2.1 W (fun wr => kk (flt (ca_w W N) m.1, flt (gf_w tb W N) m.2.1, flt (eq_w W N) m.2.2.1, wr, (bif w_cl W tb.2.2.2.2 0 79 then m.2.2.2.2.1 else []), (bif isnil W then m.2.2.2.2.2 else [])))
theorem keepW_ok {β : Type} {tb : TB} {L : LSc} {ρ : List Int} {h0 h h' : PH} {N : NS} {m : MM} {W : List WE} (hN : Nk ρ N) (hm : Mk tb L ρ h0 h m) (hW : ∀ c k, Wout W c k → h' c k = h c k) (kk : MM → β) : ∃ m', keepW tb W N m kk = kk m' ∧ Mk tb L ρ h0 h' m' := by
  unfold keepW
  obtain ⟨wr, w1, w2⟩ := we_ads_ok m.2.2.2.1 W (fun wr => kk (flt (ca_w W N) m.1, flt (gf_w tb W N) m.2.1, flt (eq_w W N) m.2.2.1, wr, (bif w_cl W tb.2.2.2.2 0 79 then m.2.2.2.2.1 else []), (bif isnil W then m.2.2.2.2.2 else [])))
  refine ⟨_, w1, fun e he => ?_, fun e he => ?_, fun e he => ?_, fun d k hw => ?_, fun f hf => ?_, fun e he => ?_⟩
  · obtain ⟨e1, e2⟩ := flt_ok he
    obtain ⟨i, y, z1, z2, z3, z4⟩ := hm.1 e e1
    unfold ca_w at e2
    rw [i_fc_eq, i_fc_eq] at e2
    have b := lf_b_ok hN.1 z1
    exact ⟨i, y, z1, z2, z3, by rw [hW _ _ (w_cl_ok e2 (by omega) (by omega))]; exact z4⟩
  · obtain ⟨e1, e2⟩ := flt_ok he
    obtain ⟨y, y1, G, y2, y3⟩ := hm.2.1 e e1
    unfold gf_w at e2
    rw [ax_nth_eq, y2] at e2
    have e2 : i_fc (lf_hi N.1 e.2) (fun n => col_w W G.2.1 G.2.2.1 n && (col_w W G.2.1 G.2.2.2.1 n && col_w W G.2.1 G.2.2.2.2 n)) = true := e2
    rw [i_fc_eq] at e2
    have z := bb_and e2
    have z2 := bb_and z.2
    have b := lf_b_ok hN.1 y1
    have CO : ∀ (o : Nat × Nat) (k : Nat), col_w W G.2.1 o (lf_hi N.1 e.2) = true → (k : Int) < y → h' o.1 (o.2 + G.2.1 * k) = h o.1 (o.2 + G.2.1 * k) := fun o k hc hk => by
      apply hW
      have m1 : (G.2.1 : Int) * (k : Int) ≤ (G.2.1 : Int) * lf_hi N.1 e.2 := Int.mul_le_mul_of_nonneg_left (by omega) (Int.natCast_nonneg _)
      have m2 : ((o.2 + G.2.1 * k : Nat) : Int) = (o.2 : Int) + (G.2.1 : Int) * (k : Int) := by rw [Int.natCast_add, Int.natCast_mul]
      have m3 : 0 ≤ (G.2.1 : Int) * (k : Int) := Int.mul_nonneg (Int.natCast_nonneg _) (Int.natCast_nonneg _)
      refine w_cl_ok hc ?_ ?_
      · show (o.2 : Int) ≤ _; omega
      · show _ ≤ (o.2 : Int) + (G.2.1 : Int) * lf_hi N.1 e.2; omega
    refine ⟨y, y1, G, y2, fun k hk => ?_⟩
    rw [CO _ k z.1 hk, CO _ k z2.1 hk, CO _ k z2.2 hk]
    exact y3 k hk
  · obtain ⟨e1, e2⟩ := flt_ok he
    obtain ⟨i, j, n, z1, z2, z3, z4, z5, z6⟩ := hm.2.2.1 e e1
    unfold eq_w at e2
    rw [i_fc_eq] at e2
    have y := bb_and e2
    have b1 := lf_b_ok hN.1 z1
    have b2 := lf_b_ok hN.1 z2
    have b3 := lf_b_ok hN.1 z3
    refine ⟨i, j, n, z1, z2, z3, z4, z5, fun k hk => ?_⟩
    rw [hW _ _ (w_cl_ok y.1 (k := i.toNat + k) (by omega) (by omega)), hW _ _ (w_cl_ok y.2 (k := j.toNat + k) (by omega) (by omega))]
    exact z6 k hk
  · obtain ⟨a, b⟩ := w2 d k hw
    rw [hW d k b]
    exact hm.2.2.2.1 d k a
  · have hf : f ∈ (bif w_cl W tb.2.2.2.2 0 79 then m.2.2.2.2.1 else []) := hf
    cases hc : w_cl W tb.2.2.2.2 0 79 with
    | false => rw [hc] at hf; cases hf
    | true =>
      rw [hc] at hf
      obtain ⟨y, y1, y2⟩ := hm.2.2.2.2.1 f hf
      refine ⟨y, y1, ?_⟩
      rw [y2]
      have : ∀ n, n ≤ 80 → sumr (h tb.2.2.2.2) n = sumr (h' tb.2.2.2.2) n := by
        intro n
        induction n with
        | zero => intro _; rfl
        | succ n ih =>
          intro hn
          show sumr (h tb.2.2.2.2) n + h tb.2.2.2.2 n = sumr (h' tb.2.2.2.2) n + h' tb.2.2.2.2 n
          rw [ih (by omega), hW _ n (w_cl_ok hc (by omega) (by omega))]
      exact this 80 (Nat.le_refl 80)
  · have he : e ∈ (bif isnil W then m.2.2.2.2.2 else []) := he
    cases W with
    | cons a b => cases he
    | nil =>
      have hh : h' = h := funext (fun c => funext (fun k => hW c k (fun w hw => by cases hw)))
      rw [hh]
      exact hm.2.2.2.2.2 e he
end
section
/-! 32.sub -/
/-! STATES by forms; one state says what another one asks -/
abbrev V2 : Type := Nat × LF
abbrev L2 : Type := List (Nat × V2)
abbrev AT : Type := NS × MM × L2 × List V2
abbrev ST : Type := SG × List LF × List LF × List CE × List GE × List QE × List LF × L2 × List V2
def Vk (sp ad : Nat → Nat) (ρ : List Int) (v : V2) (V : Value) : Prop := match v.1 with
  | 0 => ∃ x : Int32, V = .int x ∧ Lv ρ v.2 x.toInt
  | 1 => ∃ x : Int64, V = .long x ∧ Lv ρ v.2 x.toInt
  | 2 => V = .ref (ad v.2.1.toNat)
  | 6 => V = .retAddr v.2.1.toNat
  | 7 => V.category = 1
  | _ => False
def Sk (sp ad : Nat → Nat) (ρ : List Int) : List V2 → List Value → Prop
  | [], [] => True
  | v :: r, V :: R => Vk sp ad ρ v V ∧ Sk sp ad ρ r R
  | _, _ => False
def Lk (sp ad : Nat → Nat) (ρ : List Int) : L2 → LVs → Prop
  | [], [] => True
  | v :: r, V :: R => (v.1 = V.1 ∧ Vk sp ad ρ v.2 V.2) ∧ Lk sp ad ρ r R
  | _, _ => False
theorem Vk.mono {sp ad : Nat → Nat} {ρ ρ' : List Int} (hs : Sb ρ ρ') {v : V2} {V : Value} (h : Vk sp ad ρ v V) : Vk sp ad ρ' v V := by
  obtain ⟨t, f⟩ := v
  unfold Vk at h ⊢
  split at h
  · obtain ⟨x, a, b⟩ := h; exact ⟨x, a, b.mono hs⟩
  · obtain ⟨x, a, b⟩ := h; exact ⟨x, a, b.mono hs⟩
  · exact h
  · exact h
  · exact h
  · exact h.elim
theorem Sk.mono {sp ad : Nat → Nat} {ρ ρ' : List Int} (hs : Sb ρ ρ') : ∀ {st : List V2} {ST : List Value}, Sk sp ad ρ st ST → Sk sp ad ρ' st ST
  | [], [], _ => trivial
  | _ :: _, _ :: _, h => ⟨h.1.mono hs, Sk.mono hs h.2⟩
theorem Lk.mono {sp ad : Nat → Nat} {ρ ρ' : List Int} (hs : Sb ρ ρ') : ∀ {lv : L2} {LV : LVs}, Lk sp ad ρ lv LV → Lk sp ad ρ' lv LV
  | [], [], _ => trivial
  | _ :: _, _ :: _, h => ⟨⟨h.1.1, h.1.2.mono hs⟩, Lk.mono hs h.2⟩
theorem Sk.cons {sp ad : Nat → Nat} {ρ : List Int} {v : V2} {r : List V2} {ST : List Value} (h : Sk sp ad ρ (v :: r) ST) : ∃ V R, ST = V :: R ∧ Vk sp ad ρ v V ∧ Sk sp ad ρ r R := by
  cases ST with
  | nil => exact h.elim
  | cons V R => exact ⟨V, R, rfl, h.1, h.2⟩
theorem Sk.nil {sp ad : Nat → Nat} {ρ : List Int} {ST : List Value} (h : Sk sp ad ρ [] ST) : ST = [] := by
  cases ST with
  | nil => rfl
  | cons V R => exact h.elim
/-- int, long, by the tag -/
theorem Vk.i {sp ad : Nat → Nat} {ρ : List Int} {v : V2} {V : Value} (h : Vk sp ad ρ v V) (ht : Nat.beq v.1 0 = true) : ∃ x : Int32, V = .int x ∧ Lv ρ v.2 x.toInt := by
  obtain ⟨t, f⟩ := v
  have : t = 0 := bb_eq ht
  subst this
  exact h
theorem Vk.l {sp ad : Nat → Nat} {ρ : List Int} {v : V2} {V : Value} (h : Vk sp ad ρ v V) (ht : Nat.beq v.1 1 = true) : ∃ x : Int64, V = .long x ∧ Lv ρ v.2 x.toInt := by
  obtain ⟨t, f⟩ := v
  have : t = 1 := bb_eq ht
  subst this
  exact h
theorem Vk.r {sp ad : Nat → Nat} {ρ : List Int} {v : V2} {V : Value} (h : Vk sp ad ρ v V) (ht : Nat.beq v.1 2 = true) : V = .ref (ad v.2.1.toNat) := by
  obtain ⟨t, f⟩ := v
  have : t = 2 := bb_eq ht
  subst this
  exact h
theorem Vk.s {sp ad : Nat → Nat} {ρ : List Int} {v : V2} {V : Value} (h : Vk sp ad ρ v V) (ht : Nat.beq v.1 6 = true) : V = .retAddr v.2.1.toNat := by
  obtain ⟨t, f⟩ := v
  have : t = 6 := bb_eq ht
  subst this
  exact h
theorem Vk.cat {sp ad : Nat → Nat} {ρ : List Int} {v : V2} {V : Value} (h : Vk sp ad ρ v V) : V.category = if Nat.beq v.1 1 = true then 2 else 1 := by
  obtain ⟨t, f⟩ := v
  unfold Vk at h
  split at h
  · next e => obtain ⟨x, rfl, -⟩ := h; have e : t = 0 := e; subst e; rfl
  · next e => obtain ⟨x, rfl, -⟩ := h; have e : t = 1 := e; subst e; rfl
  · next e => subst h; have e : t = 2 := e; subst e; rfl
  · next e => subst h; have e : t = 6 := e; subst e; rfl
  · next e => have e : t = 7 := e; subst e; exact h
  · exact h.elim
/-- what a local is -/
noncomputable def lk2 (lv : L2) (i : Nat) : Option V2 := List.rec (motive := fun _ => Option V2) none (fun q _ ih => bif Nat.beq q.1 i then some q.2 else ih) lv
theorem lk2_ok {sp ad : Nat → Nat} {ρ : List Int} {i : Nat} {v : V2} : ∀ {lv : L2} {LV : LVs}, Lk sp ad ρ lv LV → lk2 lv i = some v → ∃ V, (i, V) ∈ LV ∧ Vk sp ad ρ v V
  | [], [], _, hk => by cases hk
  | q :: r, V :: R, h, hk => by
    have hk : (bif Nat.beq q.1 i then some q.2 else lk2 r i) = some v := hk
    cases hb : Nat.beq q.1 i with
    | true =>
      rw [hb] at hk
      cases hk
      have e : q.1 = i := bb_eq hb
      exact ⟨V.2, by rw [← e, h.1.1]; exact List.mem_cons_self, h.1.2⟩
    | false =>
      rw [hb] at hk
      obtain ⟨V', m1, m2⟩ := lk2_ok h.2 hk
      exact ⟨V', List.mem_cons_of_mem _ m1, m2⟩
def Ga (tb : TB) (L : LSc) (sp ad : Nat → Nat) (ρ : List Int) (h0 h : PH) (A : AT) (LV : LVs) (SV : List Value) : Prop := Nk ρ A.1 ∧ Mk tb L ρ h0 h A.2.1 ∧ Th tb L h ∧ Lk sp ad ρ A.2.2.1 LV ∧ Sk sp ad ρ A.2.2.2 SV
/-- a template as a state -/
def tA (T : ST) : AT := ((T.1, T.2.1, T.2.2.1), (T.2.2.2.1, T.2.2.2.2.1, T.2.2.2.2.2.1, [], T.2.2.2.2.2.2.1, []), T.2.2.2.2.2.2.2.1, T.2.2.2.2.2.2.2.2)
/-- an end of a unit as a state: its unknowns come behind the template's -/
def tO (σ : SG) (W : List WE) (o : ST) : AT := ((σ ++ o.1, o.2.1, o.2.2.1), (o.2.2.2.1, o.2.2.2.2.1, o.2.2.2.2.2.1, W, o.2.2.2.2.2.2.1, []), o.2.2.2.2.2.2.2.1, o.2.2.2.2.2.2.2.2)
/-! unknowns put in place of others -/
noncomputable def nthf (mu : List LF) (k : Nat) : LF := match ax_nth mu k with
  | some f => f
  | none => (0, [])
noncomputable def lf_sb {β : Type} (mu : List LF) (n b : Nat) (l : List (Nat × Int)) : LF → (LF → β) → β := List.rec (motive := fun _ => LF → (LF → β) → β) (fun acc kk => kk acc) (fun q _ ih acc kk => bif Nat.blt q.1 n then lf_add q.2 (nthf mu q.1) acc (fun acc' => ih acc' kk) else ax_fc (b + (q.1 - n)) (fun j => lf_add q.2 (0, [(j, 1)]) acc (fun acc' => ih acc' kk))) l
noncomputable def sbf {β : Type} (mu : List LF) (n b : Nat) (f : LF) (kk : LF → β) : β := lf_sb mu n b f.2 (f.1, []) kk
def Mu (ρA : List Int) (mu : List LF) (ρT : List Int) : Prop := mu.length = ρT.length ∧ ∀ (k : Nat) (z : Int), ρT[k]? = some z → ∃ f, mu[k]? = some f ∧ Lv ρA f z
theorem lf_sb_ok {β : Type} (mu : List LF) (n b : Nat) : ∀ (l : List (Nat × Int)) (acc : LF) (kk : LF → β), ∃ g, lf_sb mu n b l acc kk = kk g ∧ ∀ (ρA ρT e : List Int) (x y : Int), Mu ρA mu ρT → n = ρT.length → b = ρA.length → Lt (ρT ++ e) l x → Lv (ρA ++ e) acc y → Lv (ρA ++ e) g (x + y)
  | [], acc, kk => ⟨acc, rfl, fun ρA ρT e x y _ _ _ hx hy => by have hx : x = 0 := hx; rw [hx, Int.zero_add]; exact hy⟩
  | q :: t, acc, kk => by
    show ∃ g, (bif Nat.blt q.1 n then lf_add q.2 (nthf mu q.1) acc (fun acc' => lf_sb mu n b t acc' kk) else ax_fc (b + (q.1 - n)) (fun j => lf_add q.2 (0, [(j, 1)]) acc (fun acc' => lf_sb mu n b t acc' kk))) = kk g ∧ _
    cases hb : Nat.blt q.1 n with
    | true =>
      have lt := bb_lt hb
      obtain ⟨a1, e1, e2⟩ := lf_add_ok q.2 (nthf mu q.1) acc (fun acc' => lf_sb mu n b t acc' kk)
      obtain ⟨g, e3, e4⟩ := lf_sb_ok mu n b t a1 kk
      refine ⟨g, e1.trans e3, fun ρA ρT e x y hM hn hb2 hx hy => ?_⟩
      obtain ⟨z, u, c1, c2, c3⟩ := hx
      rw [List.getElem?_append_left (by omega)] at c1
      obtain ⟨f, f1, f2⟩ := hM.2 _ z c1
      have hf : nthf mu q.1 = f := by unfold nthf; rw [ax_nth_eq, f1]
      have := e4 ρA ρT e u _ hM hn hb2 c2 (e2 (ρA ++ e) z y (by rw [hf]; exact f2.mono (Sb.app _ _)) hy)
      rw [c3, show q.2 * z + u + y = u + (q.2 * z + y) by omega]
      exact this
    | false =>
      have ge := bb_nlt hb
      simp only [cond_false]
      rw [ax_fc_eq]
      obtain ⟨a1, e1, e2⟩ := lf_add_ok q.2 (0, [(b + (q.1 - n), 1)]) acc (fun acc' => lf_sb mu n b t acc' kk)
      obtain ⟨g, e3, e4⟩ := lf_sb_ok mu n b t a1 kk
      refine ⟨g, e1.trans e3, fun ρA ρT e x y hM hn hb2 hx hy => ?_⟩
      obtain ⟨z, u, c1, c2, c3⟩ := hx
      rw [List.getElem?_append_right (by omega)] at c1
      have hz : Lv (ρA ++ e) (0, [(b + (q.1 - n), 1)]) z := Lv.v (by
        rw [List.getElem?_append_right (by omega), hb2, Nat.add_sub_cancel_left, hn]
        exact c1)
      have := e4 ρA ρT e u _ hM hn hb2 c2 (e2 (ρA ++ e) z y hz hy)
      rw [c3, show q.2 * z + u + y = u + (q.2 * z + y) by omega]
      exact this
theorem sbf_ok {β : Type} (mu : List LF) (n b : Nat) (f : LF) (kk : LF → β) : ∃ g, sbf mu n b f kk = kk g ∧ ∀ (ρA ρT e : List Int) (x : Int), Mu ρA mu ρT → n = ρT.length → b = ρA.length → Lv (ρT ++ e) f x → Lv (ρA ++ e) g x := by
  obtain ⟨g, e1, e2⟩ := lf_sb_ok mu n b f.2 (f.1, []) kk
  refine ⟨g, e1, fun ρA ρT e x hM hn hb hx => ?_⟩
  obtain ⟨y, a1, a2⟩ := hx
  have := e2 ρA ρT e y f.1 hM hn hb a1 (Lv.c _ f.1)
  rw [a2, Int.add_comm]
  exact this
/-- all unknowns of a form are below n: it has a value -/
noncomputable def lf_wf (n : Nat) (f : LF) : Bool := alls (fun q => Nat.blt q.1 n) f.2
theorem lt_ex {ρ : List Int} : ∀ (l : List (Nat × Int)), (∀ q ∈ l, q.1 < ρ.length) → ∃ x, Lt ρ l x
  | [], _ => ⟨0, rfl⟩
  | q :: t, h => by
    obtain ⟨x, hx⟩ := lt_ex t (fun p hp => h p (List.mem_cons_of_mem _ hp))
    have hl := h q List.mem_cons_self
    exact ⟨q.2 * ρ[q.1] + x, ρ[q.1], x, List.getElem?_eq_getElem hl, hx, rfl⟩
theorem lf_wf_ok {n : Nat} {f : LF} {ρ : List Int} (h : lf_wf n f = true) (hn : n ≤ ρ.length) : ∃ x, Lv ρ f x := by
  obtain ⟨x, hx⟩ := lt_ex (ρ := ρ) f.2 (fun q hq => by have := bb_lt (alls_ok h q hq); omega)
  exact ⟨f.1 + x, x, hx, rfl⟩
/-- a form over the template's unknowns, and what it is here -/
theorem sbk {β : Type} {mu : List LF} {n : Nat} {f : LF} {ρA ρT : List Int} (hM : Mu ρA mu ρT) (hn : n = ρT.length) (hw : lf_wf n f = true) (kk : LF → β) : ∃ g x, sbf mu n 0 f kk = kk g ∧ Lv ρT f x ∧ Lv ρA g x := by
  obtain ⟨x, hx⟩ := lf_wf_ok (ρ := ρT) hw (by omega)
  -- the number of unknowns here doesn't matter: there are none beyond
  have key : ∀ (l : List (Nat × Int)) (acc : LF) (kk : LF → β), (∀ q ∈ l, q.1 < n) → ∃ g, lf_sb mu n 0 l acc kk = kk g ∧ ∀ x y, Lt ρT l x → Lv ρA acc y → Lv ρA g (x + y) := by
    intro l
    induction l with
    | nil => exact fun acc kk _ => ⟨acc, rfl, fun x y hx hy => by have hx : x = 0 := hx; rw [hx, Int.zero_add]; exact hy⟩
    | cons q t ih =>
      intro acc kk hq
      have lt := hq q List.mem_cons_self
      obtain ⟨a1, e1, e2⟩ := lf_add_ok q.2 (nthf mu q.1) acc (fun acc' => lf_sb mu n 0 t acc' kk)
      obtain ⟨g, e3, e4⟩ := ih a1 kk (fun p hp => hq p (List.mem_cons_of_mem _ hp))
      refine ⟨g, ?_, fun x y hx hy => ?_⟩
      · show (bif Nat.blt q.1 n then lf_add q.2 (nthf mu q.1) acc (fun acc' => lf_sb mu n 0 t acc' kk) else _) = _
        rw [show Nat.blt q.1 n = true from Nat.ble_eq_true_of_le lt]
        exact e1.trans e3
      · obtain ⟨z, u, c1, c2, c3⟩ := hx
        obtain ⟨f, f1, f2⟩ := hM.2 _ z c1
        have hf : nthf mu q.1 = f := by unfold nthf; rw [ax_nth_eq, f1]
        have := e4 u _ c2 (e2 ρA z y (by rw [hf]; exact f2) hy)
        rw [c3, show q.2 * z + u + y = u + (q.2 * z + y) by omega]
        exact this
  obtain ⟨g, e1, e2⟩ := key f.2 (f.1, []) kk (fun q hq => bb_lt (alls_ok hw q hq))
  obtain ⟨y, a1, a2⟩ := id hx
  refine ⟨g, x, e1, hx, ?_⟩
  rw [a2, Int.add_comm]
  exact e2 y f.1 a1 (Lv.c ρA f.1)
/-- shown to be the same -/
noncomputable def eqv (N : NS) (f g : LF) : Bool := lf_add (-1) g f (fun d => (cst d && i_z d.1) || (pv1 N d && lf_sc (-1) d 0 (pv1 N)))
theorem eqv_ok {ρ : List Int} {N : NS} (hN : Nk ρ N) {f g : LF} {x y : Int} (hf : Lv ρ f x) (hg : Lv ρ g y) (h : eqv N f g = true) : x = y := by
  unfold eqv at h
  obtain ⟨d, d1, d2⟩ := lf_add_ok (-1) g f (fun d => (cst d && i_z d.1) || (pv1 N d && lf_sc (-1) d 0 (pv1 N)))
  rw [d1] at h
  have hd := d2 ρ _ _ hg hf
  rcases (Bool.or_eq_true _ _).mp h with h | h
  · have w := bb_and h
    have := cst_ok w.1 hd
    have := i_z_ok w.2
    omega
  · have w := bb_and h
    obtain ⟨e, e1, e2⟩ := lf_sc_ok (-1) d 0 (pv1 N)
    have w2 := w.2
    rw [e1] at w2
    have := pv1_ok hN w.1 hd
    have := pv1_ok hN w2 (e2 ρ _ hd)
    omega
noncomputable def anys {α : Type} (p : α → Bool) (l : List α) : Bool := List.rec (motive := fun _ => Bool) false (fun x _ ih => p x || ih) l
theorem anys_ok {α : Type} {p : α → Bool} : ∀ {l : List α}, anys p l = true → ∃ x ∈ l, p x = true
  | [], h => by cases h
  | y :: t, h => by
    have h : (p y || anys p t) = true := h
    rcases (Bool.or_eq_true _ _).mp h with h | h
    · exact ⟨y, List.mem_cons_self, h⟩
    · obtain ⟨x, a, b⟩ := anys_ok h
      exact ⟨x, List.mem_cons_of_mem _ a, b⟩
noncomputable def sb_rg (N : NS) (σ : SG) : List LF → Bool := List.rec (motive := fun _ => List LF → Bool) (fun mu => List.rec (motive := fun _ => Bool) true (fun _ _ _ => false) mu) (fun q _ ih mu => List.rec (motive := fun _ => Bool) false (fun f t _ => pv2 N (f.1 - q.1, f.2) && (lf_sc (-1) f q.2 (pv2 N) && ih t)) mu) σ
theorem sb_rg_ok {ρ : List Int} {N : NS} (hN : Nk ρ N) : ∀ {σ : SG} {mu : List LF} {ρT : List Int}, sb_rg N σ mu = true → Mu ρ mu ρT → Sr ρT σ
  | [], [], ρT, _, hM => ⟨by rw [← hM.1]; rfl, fun k z hz => by have := hM.1; have h2 := (List.getElem?_eq_some_iff.mp hz).1; simp at this; omega⟩
  | [], _ :: _, _, h, _ => by cases h
  | _ :: _, [], _, h, _ => by cases h
  | q :: t, f :: mu, [], h, hM => by have := hM.1; simp at this
  | q :: t, f :: mu, z :: ρT, h, hM => by
    have h : (pv2 N (f.1 - q.1, f.2) && (lf_sc (-1) f q.2 (pv2 N) && sb_rg N t mu)) = true := h
    have w := bb_and h
    have w2 := bb_and w.2
    have hM2 : Mu ρ mu ρT := ⟨by have := hM.1; simp at this; exact this, fun k y hy => hM.2 (k + 1) y (by simpa using hy)⟩
    have ih := sb_rg_ok hN w2.2 hM2
    obtain ⟨f', f1, f2⟩ := hM.2 0 z rfl
    have f1 : some f = some f' := f1
    cases f1
    obtain ⟨e, e1, e2⟩ := lf_sc_ok (-1) f q.2 (pv2 N)
    have w3 := w2.1
    rw [e1] at w3
    have z1 := pv2_ok hN w.1 (f2.dec q.1)
    have z2 := pv2_ok hN w3 (e2 ρ _ f2)
    refine ⟨by simp [ih.1], fun k y hy => ?_⟩
    cases k with
    | zero =>
      have hy : some z = some y := hy
      cases hy
      exact ⟨q, rfl, by omega, by omega⟩
    | succ k => exact ih.2 k y (by simpa using hy)
end
section
/-! 33.sub2 -/
/-! one state says what another one asks, 2: rows, pieces, locals -/
/-- three numbers are those of a good row -/
noncomputable def rowm (rt : RT) (N : NS) (fm : Nat) (vk va vb : LF) : Bool := anys (fun e => Nat.beq e.1 fm && (pv1 N (vk.1 - e.2.1, vk.2) && (lf_sc (-1) vk e.2.1 (pv1 N) && (pv1 N (va.1 - e.2.2.1.1, va.2) && (lf_sc (-1) va e.2.2.1.2 (pv1 N) && (pv1 N (vb.1 - e.2.2.2.1, vb.2) && lf_sc (-1) vb e.2.2.2.2 (pv1 N))))))) rt
/-- the row g of the rows id is good, by what is known -/
noncomputable def rowck (tb : TB) (N : NS) (m : MM) (G : Nat × Nat × (Nat × Nat) × (Nat × Nat) × (Nat × Nat)) (g : LF) : Bool :=
  pv1 N g && lf_sc (Int.ofNat G.2.1) g (Int.ofNat G.2.2.1.2) (fun I => match ca_fd G.2.2.1.1 I m.1 with
    | none => false
    | some vk => lf_sc (Int.ofNat G.2.1) g (Int.ofNat G.2.2.2.1.2) (fun I2 => match ca_fd G.2.2.2.1.1 I2 m.1 with
      | none => false
      | some va => lf_sc (Int.ofNat G.2.1) g (Int.ofNat G.2.2.2.2.2) (fun I3 => match ca_fd G.2.2.2.2.1 I3 m.1 with
        | none => false
        | some vb => rowm tb.2.2.2.1 N G.1 vk va vb)))
theorem ca_at {tb : TB} {L : LSc} {ρ : List Int} {h0 h : PH} {m : MM} (hm : Mk tb L ρ h0 h m) {c : Nat} {I v : LF} {i : Int} (hI : Lv ρ I i) (hc : ca_fd c I m.1 = some v) : 0 ≤ i ∧ Lv ρ v (h c i.toNat) := by
  obtain ⟨i', x, z1, z2, z3, z4⟩ := hm.1 _ (ca_fd_ok hc)
  have : i = i' := hI.fn z1
  subst this
  exact ⟨z2, by rw [z4]; exact z3⟩
theorem rowck_ok {tb : TB} {L : LSc} {ρ : List Int} {h0 h : PH} {N : NS} {m : MM} (hN : Nk ρ N) (hm : Mk tb L ρ h0 h m) {G : Nat × Nat × (Nat × Nat) × (Nat × Nat) × (Nat × Nat)} {g : LF} {x : Int} (hg : Lv ρ g x) (hr : rowck tb N m G g = true) : 0 ≤ x ∧ Rok tb.2.2.2.1 G.1 (h G.2.2.1.1 (G.2.2.1.2 + G.2.1 * x.toNat)) (h G.2.2.2.1.1 (G.2.2.2.1.2 + G.2.1 * x.toNat)) (h G.2.2.2.2.1 (G.2.2.2.2.2 + G.2.1 * x.toNat)) := by
  unfold rowck at hr
  have w := bb_and hr
  have x0 := pv1_ok hN w.1 hg
  refine ⟨x0, ?_⟩
  have PL : ∀ o : Nat, (Int.ofNat G.2.1 * x + Int.ofNat o).toNat = o + G.2.1 * x.toNat := fun o => by
    have e : Int.ofNat G.2.1 * x + Int.ofNat o = ((o + G.2.1 * x.toNat : Nat) : Int) := by
      rw [Int.natCast_add, Int.natCast_mul, Int.toNat_of_nonneg x0]
      show (G.2.1 : Int) * x + (o : Int) = _
      omega
    rw [e]
    rfl
  obtain ⟨I1, a1, a2⟩ := lf_sc_ok (Int.ofNat G.2.1) g (Int.ofNat G.2.2.1.2) (fun I => match ca_fd G.2.2.1.1 I m.1 with
    | none => false
    | some vk => lf_sc (Int.ofNat G.2.1) g (Int.ofNat G.2.2.2.1.2) (fun I2 => match ca_fd G.2.2.2.1.1 I2 m.1 with
      | none => false
      | some va => lf_sc (Int.ofNat G.2.1) g (Int.ofNat G.2.2.2.2.2) (fun I3 => match ca_fd G.2.2.2.2.1 I3 m.1 with
        | none => false
        | some vb => rowm tb.2.2.2.1 N G.1 vk va vb)))
  have k1 := w.2
  rw [a1] at k1
  try dsimp only at k1
  cases c1 : ca_fd G.2.2.1.1 I1 m.1 with
  | none => rw [c1] at k1; cases k1
  | some vk =>
    rw [c1] at k1
    try dsimp only at k1
    obtain ⟨I2, b1, b2⟩ := lf_sc_ok (Int.ofNat G.2.1) g (Int.ofNat G.2.2.2.1.2) (fun I2 => match ca_fd G.2.2.2.1.1 I2 m.1 with
      | none => false
      | some va => lf_sc (Int.ofNat G.2.1) g (Int.ofNat G.2.2.2.2.2) (fun I3 => match ca_fd G.2.2.2.2.1 I3 m.1 with
        | none => false
        | some vb => rowm tb.2.2.2.1 N G.1 vk va vb))
    rw [b1] at k1
    try dsimp only at k1
    cases c2 : ca_fd G.2.2.2.1.1 I2 m.1 with
    | none => rw [c2] at k1; cases k1
    | some va =>
      rw [c2] at k1
      try dsimp only at k1
      obtain ⟨I3, d1, d2⟩ := lf_sc_ok (Int.ofNat G.2.1) g (Int.ofNat G.2.2.2.2.2) (fun I3 => match ca_fd G.2.2.2.2.1 I3 m.1 with
        | none => false
        | some vb => rowm tb.2.2.2.1 N G.1 vk va vb)
      rw [d1] at k1
      try dsimp only at k1
      cases c3 : ca_fd G.2.2.2.2.1 I3 m.1 with
      | none => rw [c3] at k1; cases k1
      | some vb =>
        rw [c3] at k1
        try dsimp only at k1
        have v1 := (ca_at hm (a2 ρ _ hg) c1).2
        have v2 := (ca_at hm (b2 ρ _ hg) c2).2
        have v3 := (ca_at hm (d2 ρ _ hg) c3).2
        rw [PL] at v1 v2 v3
        obtain ⟨e, e1, e2⟩ := anys_ok k1
        have y1 := bb_and e2
        have y2 := bb_and y1.2
        have y3 := bb_and y2.2
        have y4 := bb_and y3.2
        have y5 := bb_and y4.2
        have y6 := bb_and y5.2
        have LO : ∀ (v : LF) (z n : Int), pv1 N (v.1 - n, v.2) = true → Lv ρ v z → n ≤ z := fun v z n q hv => by have := pv1_ok hN q (hv.dec n); omega
        have HI : ∀ (v : LF) (z n : Int), lf_sc (-1) v n (pv1 N) = true → Lv ρ v z → z ≤ n := fun v z n q hv => by
          obtain ⟨f, f1, f2⟩ := lf_sc_ok (-1) v n (pv1 N)
          rw [f1] at q
          have := pv1_ok hN q (f2 ρ _ hv)
          omega
        have r1 := LO _ _ _ y2.1 v1
        have r2 := HI _ _ _ y3.1 v1
        exact ⟨e, e1, bb_eq y1.1, by omega, LO _ _ _ y4.1 v2, HI _ _ _ y5.1 v2, LO _ _ _ y6.1 v3, HI _ _ _ y6.2 v3⟩
/-- a column of one is the same as that of another, by a piece -/
noncomputable def colq (N : NS) (m : MM) (o1 o2 : Nat × Nat) (s : Nat) (f : LF) : Bool := anys (fun e => Nat.beq e.1.1 o1.1 && (Nat.beq e.2.1.1 o2.1 && (cst e.1.2 && (cst e.2.1.2 && (i_eq (Int.ofNat o1.2 - e.1.2.1) (Int.ofNat o2.2 - e.2.1.2.1) && (i_nn (Int.ofNat o1.2 - e.1.2.1) && lf_add (-(Int.ofNat s)) f (e.2.2.1 - (Int.ofNat o1.2 - e.1.2.1 - (Int.ofNat s - 1)), e.2.2.2) (pv1 N))))))) m.2.2.1
theorem colq_ok {tb : TB} {L : LSc} {ρ : List Int} {h0 h : PH} {N : NS} {m : MM} (hN : Nk ρ N) (hm : Mk tb L ρ h0 h m) {o1 o2 : Nat × Nat} {s : Nat} {f : LF} {x : Int} (hf : Lv ρ f x) (hs : 1 ≤ s) (hq : colq N m o1 o2 s f = true) {k : Nat} (hk : (k : Int) < x) : h o1.1 (o1.2 + s * k) = h o2.1 (o2.2 + s * k) := by
  obtain ⟨e, e1, e2⟩ := anys_ok hq
  have y1 := bb_and e2
  have y2 := bb_and y1.2
  have y3 := bb_and y2.2
  have y4 := bb_and y3.2
  have y5 := bb_and y4.2
  have y6 := bb_and y5.2
  obtain ⟨i, j, n, z1, z2, z3, z4, z5, z6⟩ := hm.2.2.1 e e1
  have ei := cst_ok y3.1 z1
  have ej := cst_ok y4.1 z2
  have q1 := i_eq_ok y5.1
  have q2 := i_nn_ok y6.1
  obtain ⟨d, d1, d2⟩ := lf_add_ok (-(Int.ofNat s)) f (e.2.2.1 - (Int.ofNat o1.2 - e.1.2.1 - (Int.ofNat s - 1)), e.2.2.2) (pv1 N)
  have y7 := y6.2
  rw [d1] at y7
  have z := pv1_ok hN y7 (d2 ρ _ _ hf (z3.dec (Int.ofNat o1.2 - e.1.2.1 - (Int.ofNat s - 1))))
  have m1 : (s : Int) * ((k : Int) + 1) ≤ (s : Int) * x := Int.mul_le_mul_of_nonneg_left (by omega) (Int.natCast_nonneg s)
  rw [Int.mul_add] at m1
  have e3 : -(Int.ofNat s) * x = -((s : Int) * x) := Int.neg_mul _ _
  rw [e3] at z
  have o1e : (Int.ofNat o1.2 : Int) = (o1.2 : Int) := rfl
  have o2e : (Int.ofNat o2.2 : Int) = (o2.2 : Int) := rfl
  have s1e : (Int.ofNat s : Int) = (s : Int) := rfl
  rw [o1e] at q1 q2 z
  rw [s1e] at z
  rw [o2e] at q1
  have mk : ((s * k : Nat) : Int) = (s : Int) * (k : Int) := Int.natCast_mul s k
  have r := z6 (((o1.2 : Int) - e.1.2.1).toNat + s * k) (by
    rw [Int.natCast_add, Int.toNat_of_nonneg q2]
    omega)
  rw [← bb_eq y1.1, ← bb_eq y2.1]
  have p1 : o1.2 + s * k = i.toNat + (((o1.2 : Int) - e.1.2.1).toNat + s * k) := by omega
  have p2 : o2.2 + s * k = j.toNat + (((o1.2 : Int) - e.1.2.1).toNat + s * k) := by omega
  rw [p1, p2]
  exact r
noncomputable def gpr (tb : TB) (N : NS) (m : MM) (id : Nat) (f : LF) : Bool := match ax_nth tb.2.2.1 id with
  | none => false
  | some G => lf_sc (-1) f 0 (pv1 N) || (anys (fun e => (Nat.beq e.1 id && (lf_add (-1) f e.2 (pv1 N) || (lf_add (-1) f (e.2.1 + 1, e.2.2) (pv1 N) && rowck tb N m G e.2))) || (match ax_nth tb.2.2.1 e.1 with
      | none => false
      | some G2 => Nat.beq G.1 G2.1 && (Nat.beq G.2.1 G2.2.1 && (Nat.ble 1 G.2.1 && (lf_add (-1) f e.2 (pv1 N) && (colq N m G.2.2.1 G2.2.2.1 G.2.1 f && (colq N m G.2.2.2.1 G2.2.2.2.1 G.2.1 f && colq N m G.2.2.2.2 G2.2.2.2.2 G.2.1 f))))))) m.2.1)
theorem gpr_ok {tb : TB} {L : LSc} {ρ : List Int} {h0 h : PH} {N : NS} {m : MM} (hN : Nk ρ N) (hm : Mk tb L ρ h0 h m) {id : Nat} {f : LF} {x : Int} (hf : Lv ρ f x) (hg : gpr tb N m id f = true) : Gok tb h id x := by
  unfold gpr at hg
  rw [ax_nth_eq] at hg
  cases hG : tb.2.2.1[id]? with
  | none => rw [hG] at hg; cases hg
  | some G =>
    rw [hG] at hg
    try dsimp only at hg
    refine ⟨G, hG, ?_⟩
    rcases (Bool.or_eq_true _ _).mp hg with hg | hg
    · obtain ⟨d, d1, d2⟩ := lf_sc_ok (-1) f 0 (pv1 N)
      rw [d1] at hg
      have := pv1_ok hN hg (d2 ρ _ hf)
      intro k hk
      omega
    · obtain ⟨e, e1, e2⟩ := anys_ok hg
      obtain ⟨n, n1, G2, g1, g2⟩ := hm.2.1 e e1
      rcases (Bool.or_eq_true _ _).mp e2 with e2 | e2
      · have w := bb_and e2
        have ei := bb_eq w.1
        rw [ei, hG] at g1
        cases g1
        rcases (Bool.or_eq_true _ _).mp w.2 with w2 | w2
        · obtain ⟨d, d1, d2⟩ := lf_add_ok (-1) f e.2 (pv1 N)
          rw [d1] at w2
          have := pv1_ok hN w2 (d2 ρ _ _ hf n1)
          exact fun k hk => g2 k (by omega)
        · have w3 := bb_and w2
          obtain ⟨d, d1, d2⟩ := lf_add_ok (-1) f (e.2.1 + 1, e.2.2) (pv1 N)
          have w4 := w3.1
          rw [d1] at w4
          have n1' : Lv ρ (e.2.1 + 1, e.2.2) (n + 1) := by
            obtain ⟨y, a, b⟩ := n1
            exact ⟨y, a, by show n + 1 = e.2.1 + 1 + y; omega⟩
          have := pv1_ok hN w4 (d2 ρ _ _ hf n1')
          have rr := rowck_ok hN hm n1 w3.2
          intro k hk
          by_cases hkn : (k : Int) < n
          · exact g2 k hkn
          · have : k = n.toNat := by omega
            rw [this]
            exact rr.2
      · rw [ax_nth_eq, g1] at e2
        try dsimp only at e2
        have w1 := bb_and e2
        have w2 := bb_and w1.2
        have w3 := bb_and w2.2
        have w4 := bb_and w3.2
        have w5 := bb_and w4.2
        have w6 := bb_and w5.2
        obtain ⟨d, d1, d2⟩ := lf_add_ok (-1) f e.2 (pv1 N)
        have w7 := w4.1
        rw [d1] at w7
        have := pv1_ok hN w7 (d2 ρ _ _ hf n1)
        intro k hk
        rw [colq_ok hN hm hf (bb_le w3.1) w5.1 hk, colq_ok hN hm hf (bb_le w3.1) w6.1 hk, colq_ok hN hm hf (bb_le w3.1) w6.2 hk, bb_eq w1.1, bb_eq w2.1]
        exact g2 k (by omega)
/-- a piece is the same as another, by what is known -/
noncomputable def qpr (N : NS) (m : MM) (p q : Nat × LF) (n : LF) : Bool :=
  (lf_sc (-1) n 0 (pv1 N) && (pv1 N p.2 && pv1 N q.2)) || anys (fun e => Nat.beq e.1.1 p.1 && (Nat.beq e.2.1.1 q.1 && (eqv N e.1.2 p.2 && (eqv N e.2.1.2 q.2 && (lf_add (-1) n e.2.2 (pv1 N) || (pv1 N e.2.2 && (lf_add (-1) n (e.2.2.1 + 1, e.2.2.2) (pv1 N) && lf_add 1 e.2.2 e.1.2 (fun I => lf_add 1 e.2.2 e.2.1.2 (fun J => match ca_fd p.1 I m.1 with
    | none => false
    | some v => (match ca_fd q.1 J m.1 with
      | none => false
      | some w => eqv N v w)))))))))) m.2.2.1
theorem qpr_ok {tb : TB} {L : LSc} {ρ : List Int} {h0 h : PH} {N : NS} {m : MM} (hN : Nk ρ N) (hm : Mk tb L ρ h0 h m) {p q : Nat × LF} {n : LF} {i j x : Int} (hi : Lv ρ p.2 i) (hj : Lv ρ q.2 j) (hn : Lv ρ n x) (hq : qpr N m p q n = true) : Qok h p.1 q.1 i j x := by
  unfold qpr at hq
  rcases (Bool.or_eq_true _ _).mp hq with hq | hq
  · have w := bb_and hq
    have w2 := bb_and w.2
    obtain ⟨d, d1, d2⟩ := lf_sc_ok (-1) n 0 (pv1 N)
    have w3 := w.1
    rw [d1] at w3
    have := pv1_ok hN w3 (d2 ρ _ hn)
    exact ⟨pv1_ok hN w2.1 hi, pv1_ok hN w2.2 hj, fun k hk => by omega⟩
  · obtain ⟨e, e1, e2⟩ := anys_ok hq
    have w1 := bb_and e2
    have w2 := bb_and w1.2
    have w3 := bb_and w2.2
    have w4 := bb_and w3.2
    obtain ⟨i', j', y, z1, z2, z3, z4, z5, z6⟩ := hm.2.2.1 e e1
    have ei : i' = i := eqv_ok hN z1 hi w3.1
    have ej : j' = j := eqv_ok hN z2 hj w4.1
    subst ei
    subst ej
    have c1 := bb_eq w1.1
    have c2 := bb_eq w2.1
    rw [c1, c2] at z6
    refine ⟨z4, z5, ?_⟩
    rcases (Bool.or_eq_true _ _).mp w4.2 with w5 | w5
    · obtain ⟨d, d1, d2⟩ := lf_add_ok (-1) n e.2.2 (pv1 N)
      rw [d1] at w5
      have := pv1_ok hN w5 (d2 ρ _ _ hn z3)
      exact fun k hk => z6 k (by omega)
    · have w6 := bb_and w5
      have w7 := bb_and w6.2
      have y0 := pv1_ok hN w6.1 z3
      obtain ⟨d, d1, d2⟩ := lf_add_ok (-1) n (e.2.2.1 + 1, e.2.2.2) (pv1 N)
      have w8 := w7.1
      rw [d1] at w8
      have z3' : Lv ρ (e.2.2.1 + 1, e.2.2.2) (y + 1) := by
        obtain ⟨u, a, b⟩ := z3
        exact ⟨u, a, by show y + 1 = e.2.2.1 + 1 + u; omega⟩
      have := pv1_ok hN w8 (d2 ρ _ _ hn z3')
      obtain ⟨I, i1, i2⟩ := lf_add_ok 1 e.2.2 e.1.2 (fun I => lf_add 1 e.2.2 e.2.1.2 (fun J => match ca_fd p.1 I m.1 with
        | none => false
        | some v => (match ca_fd q.1 J m.1 with
          | none => false
          | some w => eqv N v w)))
      have w9 := w7.2
      rw [i1] at w9
      obtain ⟨J, j1, j2⟩ := lf_add_ok 1 e.2.2 e.2.1.2 (fun J => match ca_fd p.1 I m.1 with
        | none => false
        | some v => (match ca_fd q.1 J m.1 with
          | none => false
          | some w => eqv N v w))
      rw [j1] at w9
      try dsimp only at w9
      intro k hk
      by_cases hky : (k : Int) < y
      · exact z6 k hky
      · cases c3 : ca_fd p.1 I m.1 with
        | none => rw [c3] at w9; cases w9
        | some v =>
          rw [c3] at w9
          try dsimp only at w9
          cases c4 : ca_fd q.1 J m.1 with
          | none => rw [c4] at w9; cases w9
          | some w =>
            rw [c4] at w9
            try dsimp only at w9
            have v1 := (ca_at hm (i2 ρ _ _ z3 z1) c3).2
            have v2 := (ca_at hm (j2 ρ _ _ z3 z2) c4).2
            have r := eqv_ok hN v1 v2 w9
            rw [show i'.toNat + k = (1 * y + i').toNat by omega, show j'.toNat + k = (1 * y + j').toNat by omega]
            exact r
noncomputable def v_eq (N : NS) (mu : List LF) (n : Nat) (t w : V2) : Bool := Nat.beq t.1 w.1 && (bif Nat.ble t.1 1 then sbf mu n 0 t.2 (fun f => eqv N w.2 f) else lf_eq t.2 w.2)
theorem v_eq_ok {sp ad : Nat → Nat} {ρ ρT : List Int} {N : NS} (hN : Nk ρ N) {mu : List LF} {n : Nat} (hM : Mu ρ mu ρT) (hn : n = ρT.length) {t w : V2} (hw : lf_wf n t.2 = true) {V : Value} (hV : Vk sp ad ρ w V) (h : v_eq N mu n t w = true) : Vk sp ad ρT t V := by
  have a := bb_and h
  have e := bb_eq a.1
  have b := a.2
  obtain ⟨tt, tf⟩ := t
  obtain ⟨wt, wf⟩ := w
  have e : tt = wt := e
  subst e
  cases hb : Nat.ble tt 1 with
  | true =>
    rw [hb] at b
    obtain ⟨g, x, g1, g2, g3⟩ := sbk hM hn hw (fun f => eqv N wf f)
    have b2 : eqv N wf g = true := by
      have b3 : sbf mu n 0 tf (fun f => eqv N wf f) = true := b
      rw [g1] at b3
      exact b3
    rcases (show tt = 0 ∨ tt = 1 by have := bb_le hb; omega) with rfl | rfl
    · obtain ⟨y, y1, y2⟩ := hV
      have := eqv_ok hN y2 g3 b2
      exact ⟨y, y1, by show Lv ρT tf y.toInt; rw [this]; exact g2⟩
    · obtain ⟨y, y1, y2⟩ := hV
      have := eqv_ok hN y2 g3 b2
      exact ⟨y, y1, by show Lv ρT tf y.toInt; rw [this]; exact g2⟩
  | false =>
    rw [hb] at b
    have b : lf_eq tf wf = true := b
    have := lf_eq_ok b
    subst this
    have n2 := bb_nle hb
    unfold Vk at hV ⊢
    split at hV
    · next e => have e : tt = 0 := e; omega
    · next e => have e : tt = 1 := e; omega
    · next e => have e : tt = 2 := e; subst e; exact hV
    · next e => have e : tt = 6 := e; subst e; exact hV
    · next e => have e : tt = 7 := e; subst e; exact hV
    · exact hV.elim
noncomputable def sb_lv (N : NS) (mu : List LF) (n : Nat) (lv : L2) (l : L2) : Bool := alls (fun t => match lk2 lv t.1 with
  | some w => v_eq N mu n t.2 w
  | none => false) l
noncomputable def sb_st (N : NS) (mu : List LF) (n : Nat) (l : List V2) : List V2 → Bool := List.rec (motive := fun _ => List V2 → Bool) (fun s => List.rec (motive := fun _ => Bool) true (fun _ _ _ => false) s) (fun t _ ih s => List.rec (motive := fun _ => Bool) false (fun w r _ => v_eq N mu n t w && ih r) s) l
theorem sb_lv_ok {sp ad : Nat → Nat} {ρ ρT : List Int} {N : NS} (hN : Nk ρ N) {mu : List LF} {n : Nat} (hM : Mu ρ mu ρT) (hn : n = ρT.length) {lv : L2} {LV : LVs} (hL : Lk sp ad ρ lv LV) : ∀ {l : L2}, (∀ t ∈ l, lf_wf n t.2.2 = true) → sb_lv N mu n lv l = true → ∃ LV', (∀ q ∈ LV', q ∈ LV) ∧ Lk sp ad ρT l LV'
  | [], _, _ => ⟨[], (fun q hq => by cases hq), trivial⟩
  | t :: r, hw, h => by
    have h : ((match lk2 lv t.1 with | some w => v_eq N mu n t.2 w | none => false) && sb_lv N mu n lv r) = true := h
    have a := bb_and h
    obtain ⟨LV', b1, b2⟩ := sb_lv_ok hN hM hn hL (fun t ht => hw t (List.mem_cons_of_mem _ ht)) a.2
    have a1 := a.1
    cases hk : lk2 lv t.1 with
    | none => rw [hk] at a1; cases a1
    | some w =>
      rw [hk] at a1
      obtain ⟨V, v1, v2⟩ := lk2_ok hL hk
      exact ⟨(t.1, V) :: LV', fun q hq => by
        rcases List.mem_cons.mp hq with rfl | hq
        · exact v1
        · exact b1 q hq, ⟨⟨rfl, v_eq_ok hN hM hn (hw t List.mem_cons_self) v2 a1⟩, b2⟩⟩
theorem sb_st_ok {sp ad : Nat → Nat} {ρ ρT : List Int} {N : NS} (hN : Nk ρ N) {mu : List LF} {n : Nat} (hM : Mu ρ mu ρT) (hn : n = ρT.length) : ∀ {l st : List V2} {SV : List Value}, Sk sp ad ρ st SV → (∀ t ∈ l, lf_wf n t.2 = true) → sb_st N mu n l st = true → Sk sp ad ρT l SV
  | [], [], [], _, _, _ => trivial
  | [], _ :: _, _, _, _, h => by cases h
  | _ :: _, [], _, _, _, h => by cases h
  | t :: r, w :: s, SV, hS, hw, h => by
    obtain ⟨V, R, rfl, h1, h2⟩ := hS.cons
    have h : (v_eq N mu n t w && sb_st N mu n r s) = true := h
    have a := bb_and h
    exact ⟨v_eq_ok hN hM hn (hw t List.mem_cons_self) h1 a.1, sb_st_ok hN hM hn h2 (fun t ht => hw t (List.mem_cons_of_mem _ ht)) a.2⟩
noncomputable def ce_wf (n : Nat) (e : CE) : Bool := lf_wf n e.2.1 && lf_wf n e.2.2
noncomputable def st_wf (n : Nat) (T : ST) : Bool := alls (lf_wf n) T.2.1 && (alls (lf_wf n) T.2.2.1 && (alls (ce_wf n) T.2.2.2.1 && (alls (fun e => lf_wf n e.2) T.2.2.2.2.1 && (alls (fun e => lf_wf n e.1.2 && (lf_wf n e.2.1.2 && lf_wf n e.2.2)) T.2.2.2.2.2.1 && (alls (lf_wf n) T.2.2.2.2.2.2.1 && (alls (fun t => lf_wf n t.2.2) T.2.2.2.2.2.2.2.1 && alls (fun t => lf_wf n t.2) T.2.2.2.2.2.2.2.2))))))
/-- the state A says all that T asks (but for the ranges), T's unknowns being mu -/
noncomputable def sub (tb : TB) (N : NS) (m : MM) (lv : L2) (st : List V2) (mu : List LF) (n : Nat) (T : ST) : Bool :=
  sb_lv N mu n lv T.2.2.2.2.2.2.2.1 && (sb_st N mu n T.2.2.2.2.2.2.2.2 st && (alls (fun f => sbf mu n 0 f (pv2 N)) T.2.1 && (alls (fun f => sbf mu n 0 f (fun d => lf_sc (-1) d 0 (fun nd => pvn N d nd))) T.2.2.1 &&
  (alls (fun e => sbf mu n 0 e.2.1 (fun I => match ca_fd e.1 I m.1 with
    | some v => sbf mu n 0 e.2.2 (fun w => eqv N v w)
    | none => false)) T.2.2.2.1 && (alls (fun e => sbf mu n 0 e.2 (fun f => gpr tb N m e.1 f)) T.2.2.2.2.1 && (alls (fun e => sbf mu n 0 e.1.2 (fun p => sbf mu n 0 e.2.1.2 (fun q => sbf mu n 0 e.2.2 (fun k => qpr N m (e.1.1, p) (e.2.1.1, q) k)))) T.2.2.2.2.2.1 &&
  alls (fun f => match m.2.2.2.2.1 with
    | g :: _ => sbf mu n 0 f (fun w => eqv N g w)
    | [] => false) T.2.2.2.2.2.2.1))))))
theorem sub_ok {tb : TB} {L : LSc} {sp ad : Nat → Nat} {ρ ρT : List Int} {h0 h : PH} {N : NS} {m : MM} {lv : L2} {st : List V2} {LV : LVs} {SV : List Value} (hG : Ga tb L sp ad ρ h0 h (N, m, lv, st) LV SV) {mu : List LF} {n : Nat} (hM : Mu ρ mu ρT) (hn : n = ρT.length) {T : ST} {σ : SG} {W : List WE} (hσ : Sr ρT σ) (hW : ∀ c k, Wout W c k → h c k = h0 c k) (hw : st_wf n T = true) (hs : sub tb N m lv st mu n T = true) : ∃ LV', (∀ q ∈ LV', q ∈ LV) ∧ Ga tb L sp ad ρT h0 h ((σ, T.2.1, T.2.2.1), (T.2.2.2.1, T.2.2.2.2.1, T.2.2.2.2.2.1, W, T.2.2.2.2.2.2.1, []), T.2.2.2.2.2.2.2.1, T.2.2.2.2.2.2.2.2) LV' SV := by
  obtain ⟨hN, hm, hT, hL, hS⟩ := hG
  have w1 := bb_and hw
  have w2 := bb_and w1.2
  have w3 := bb_and w2.2
  have w4 := bb_and w3.2
  have w5 := bb_and w4.2
  have w6 := bb_and w5.2
  have w7 := bb_and w6.2
  have s1 := bb_and hs
  have s2 := bb_and s1.2
  have s3 := bb_and s2.2
  have s4 := bb_and s3.2
  have s5 := bb_and s4.2
  have s6 := bb_and s5.2
  have s7 := bb_and s6.2
  obtain ⟨LV', v1, v2⟩ := sb_lv_ok hN hM hn hL (alls_ok w7.1) s1.1
  refine ⟨LV', v1, ⟨hσ, fun f hf => ?_, fun f hf => ?_⟩, ⟨fun e he => ?_, fun e he => ?_, fun e he => ?_, hW, fun f hf => ?_, fun e he => by cases he⟩, hT, v2, sb_st_ok hN hM hn hS (alls_ok w7.2) s2.1⟩
  · obtain ⟨g, x, g1, g2, g3⟩ := sbk hM hn (alls_ok w1.1 f hf) (pv2 N)
    have z := alls_ok s3.1 f hf
    rw [g1] at z
    exact ⟨x, g2, pv2_ok hN z g3⟩
  · obtain ⟨g, x, g1, g2, g3⟩ := sbk hM hn (alls_ok w2.1 f hf) (fun d => lf_sc (-1) d 0 (fun nd => pvn N d nd))
    have z := alls_ok s4.1 f hf
    rw [g1] at z
    obtain ⟨nd, d1, d2⟩ := lf_sc_ok (-1) g 0 (fun nd => pvn N g nd)
    rw [d1] at z
    have hnd := d2 ρ _ g3
    rw [show -1 * x + 0 = -x by omega] at hnd
    exact ⟨x, g2, pvn_ok hN g3 hnd z⟩
  · have we := bb_and (alls_ok w3.1 e he)
    obtain ⟨I, i, g1, g2, g3⟩ := sbk hM hn we.1 (fun I => match ca_fd e.1 I m.1 with
      | some v => sbf mu n 0 e.2.2 (fun w => eqv N v w)
      | none => false)
    have z := alls_ok s5.1 e he
    rw [g1] at z
    try dsimp only at z
    cases hc : ca_fd e.1 I m.1 with
    | none => rw [hc] at z; cases z
    | some v =>
      rw [hc] at z
      try dsimp only at z
      obtain ⟨w, x, k1, k2, k3⟩ := sbk hM hn we.2 (fun w => eqv N v w)
      rw [k1] at z
      have y := ca_at hm g3 hc
      have := eqv_ok hN y.2 k3 z
      exact ⟨i, x, g2, y.1, k2, this⟩
  · obtain ⟨g, x, g1, g2, g3⟩ := sbk hM hn (alls_ok w4.1 e he) (fun f => gpr tb N m e.1 f)
    have z := alls_ok s6.1 e he
    rw [g1] at z
    exact ⟨x, g2, gpr_ok hN hm g3 z⟩
  · have we := bb_and (alls_ok w5.1 e he)
    have we2 := bb_and we.2
    have z := alls_ok s7.1 e he
    obtain ⟨p, i, p1, p2, p3⟩ := sbk hM hn we.1 (fun p => sbf mu n 0 e.2.1.2 (fun q => sbf mu n 0 e.2.2 (fun k => qpr N m (e.1.1, p) (e.2.1.1, q) k)))
    rw [p1] at z
    obtain ⟨q, j, q1, q2, q3⟩ := sbk hM hn we2.1 (fun q => sbf mu n 0 e.2.2 (fun k => qpr N m (e.1.1, p) (e.2.1.1, q) k))
    rw [q1] at z
    obtain ⟨k, x, k1, k2, k3⟩ := sbk hM hn we2.2 (fun k => qpr N m (e.1.1, p) (e.2.1.1, q) k)
    rw [k1] at z
    exact ⟨i, j, x, p2, q2, k2, qpr_ok hN hm (p := (e.1.1, p)) (q := (e.2.1.1, q)) p3 q3 k3 z⟩
  · have z := alls_ok s7.2 f hf
    cases hsm : m.2.2.2.2.1 with
    | nil => rw [hsm] at z; cases z
    | cons g t =>
      rw [hsm] at z
      try dsimp only at z
      obtain ⟨w, x, k1, k2, k3⟩ := sbk hM hn (alls_ok w6.1 f hf) (fun w => eqv N g w)
      rw [k1] at z
      obtain ⟨y, y1, y2⟩ := hm.2.2.2.2.1 g (by rw [hsm]; exact List.mem_cons_self)
      have := eqv_ok hN y1 k3 z
      exact ⟨x, k2, by rw [← this]; exact y2⟩
end
section
/-! 34.uni -/
/-! UNITS: what a template's unknowns are here; what an end of a unit gives -/
abbrev SRC : Type := Nat × Nat × LF
abbrev ON : Type := Nat × Nat × List SRC × ST
abbrev UN : Type := List SRC × ST × List ON × List WE × LF × List Nat
/-- the range of the sum of the row -/
noncomputable def sm_r (tb : TB) : Option (Int × Int) := ob (ax_nth tb.2.1 tb.2.2.2.2) (fun T => ob (uni T) (fun u => gd (Nat.ble 80 u.1) (some (80 * u.2.1, 80 * u.2.2))))
theorem sm_r_ok {tb : TB} {L : LSc} {h : PH} (hT : Th tb L h) {q : Int × Int} (hq : sm_r tb = some q) : q.1 ≤ sumr (h tb.2.2.2.2) 80 ∧ sumr (h tb.2.2.2.2) 80 ≤ q.2 := by
  unfold sm_r at hq
  obtain ⟨T, t1, hq⟩ := ob_s hq
  obtain ⟨u, u1, hq⟩ := ob_s hq
  obtain ⟨g0, hq⟩ := gd_s hq
  cases hq
  rw [ax_nth_eq] at t1
  have hb : ∀ k, k < 80 → u.2.1 ≤ h tb.2.2.2.2 k ∧ h tb.2.2.2.2 k ≤ u.2.2 := fun k hk => (hT.1 _ T t1).2 k u.2 (by rw [uni_ok (len := u.1) (q := u.2) u1, if_pos (by have := bb_le g0; omega)])
  have : ∀ n : Nat, n ≤ 80 → (n : Int) * u.2.1 ≤ sumr (h tb.2.2.2.2) n ∧ sumr (h tb.2.2.2.2) n ≤ (n : Int) * u.2.2 := by
    intro n
    induction n with
    | zero => intro _; exact ⟨by simp [sumr], by simp [sumr]⟩
    | succ n ih =>
      intro hn
      have i := ih (by omega)
      have b := hb n (by omega)
      have e : sumr (h tb.2.2.2.2) (n + 1) = sumr (h tb.2.2.2.2) n + h tb.2.2.2.2 n := rfl
      rw [e, Int.natCast_add, Int.add_mul, Int.add_mul]
      omega
  exact this 80 (Nat.le_refl 80)
noncomputable def sm_b {β : Type} (tb : TB) (N : NS) (m : MM) (kk : NS → MM → LF → Option β) : Option β := match m.2.2.2.2.1 with
  | f :: _ => ob (sm_r tb) (fun q => asm N (f.1 - q.1, f.2) none (fun N' => kk N' m f))
  | [] => ob (sm_r tb) (fun q => nwv N q.1 q.2 (fun N' f => kk N' (m.1, m.2.1, m.2.2.1, m.2.2.2.1, [f], m.2.2.2.2.2) f))
noncomputable def bds {β : Type} (tb : TB) (bk : Bool) (src : List SRC) : NS → MM → L2 → List V2 → List LF → (NS → MM → List LF → Option β) → Option β := List.rec (motive := fun _ => NS → MM → L2 → List V2 → List LF → (NS → MM → List LF → Option β) → Option β) (fun N m _ _ mu kk => kk N m mu) (fun s _ ih N m lv st mu kk =>
    bif Nat.ble s.1 1 then (bif Nat.beq s.1 0 then ob (lk2 lv s.2.1) (fun v => gd (Nat.ble v.1 1) (lf_nv N.1 v.2 (fun f => ih N m lv st (mu ++ [f]) kk)))
      else gd (lf_wf mu.length s.2.2) (sbf mu mu.length 0 s.2.2 (fun I => gd (pv1 N I) (ld tb N m s.2.1 I (fun N' m' f => ih N' m' lv st (mu ++ [f]) kk)))))
    else bif Nat.beq s.1 2 then (bif bk then ih N m lv st (mu ++ [(0, [(mu.length, 1)])]) kk else ob (ax_nth mu s.2.1) (fun f => ih N m lv st (mu ++ [f]) kk))
    else bif Nat.beq s.1 3 then ob (ax_nth st s.2.1) (fun v => gd (Nat.ble v.1 1) (lf_nv N.1 v.2 (fun f => ih N m lv st (mu ++ [f]) kk)))
    else bif Nat.beq s.1 4 then sm_b tb N m (fun N' m' f => ih N' m' lv st (mu ++ [f]) kk)
    else ld tb N m s.2.1 (Int.ofNat s.2.2.1.toNat, []) (fun N' m' f => lc s.2.2.2 (fun q _ => ob (ax_nth mu q.1) (fun g => lf_add (-1) g f (fun d => ih N' m' lv st (mu ++ [d]) kk))))) src
theorem Sb.len {α : Type} {ρ ρ1 : List α} (hs : Sb ρ ρ1) : ρ.length ≤ ρ1.length := by
  by_cases q : ρ.length = 0
  · rw [q]; exact Nat.zero_le _
  · have hx : ρ[ρ.length - 1]? = some ρ[ρ.length - 1] := List.getElem?_eq_getElem (by omega)
    have := (List.getElem?_eq_some_iff.mp (hs _ _ hx)).1
    omega
theorem Mu.mono {ρ ρ' ρT : List Int} {mu : List LF} (hs : Sb ρ ρ') (h : Mu ρ mu ρT) : Mu ρ' mu ρT := ⟨h.1, fun k z hz => by obtain ⟨f, a, b⟩ := h.2 k z hz; exact ⟨f, a, b.mono hs⟩⟩
theorem Mu.app {ρ ρT : List Int} {mu : List LF} (h : Mu ρ mu ρT) {f : LF} {z : Int} (hf : Lv ρ f z) : Mu ρ (mu ++ [f]) (ρT ++ [z]) := by
  refine ⟨by simp [h.1], fun k y hy => ?_⟩
  by_cases hk : k < ρT.length
  · rw [List.getElem?_append_left hk] at hy
    obtain ⟨g, a, b⟩ := h.2 k y hy
    exact ⟨g, by rw [List.getElem?_append_left (by rw [h.1]; exact hk)]; exact a, b⟩
  · rw [List.getElem?_append_right (by omega)] at hy
    have hz : k - ρT.length < 1 := (List.getElem?_eq_some_iff.mp hy).1
    have hk0 : k = ρT.length := by omega
    subst hk0
    simp at hy
    subst hy
    exact ⟨f, by rw [← h.1]; simp, hf⟩
theorem Vk.n {sp ad : Nat → Nat} {ρ : List Int} {v : V2} {V : Value} (h : Vk sp ad ρ v V) (ht : Nat.ble v.1 1 = true) : ∃ x, Lv ρ v.2 x := by
  have := bb_le ht
  rcases (show v.1 = 0 ∨ v.1 = 1 by omega) with e | e
  · obtain ⟨x, -, a⟩ := h.i (by rw [e]; rfl); exact ⟨_, a⟩
  · obtain ⟨x, -, a⟩ := h.l (by rw [e]; rfl); exact ⟨_, a⟩
theorem Sk.nth {sp ad : Nat → Nat} {ρ : List Int} {v : V2} : ∀ {st : List V2} {SV : List Value} {k : Nat}, Sk sp ad ρ st SV → st[k]? = some v → ∃ V, Vk sp ad ρ v V
  | [], [], _, _, h => by simp at h
  | w :: r, V :: R, 0, hS, h => by simp at h; subst h; exact ⟨V, hS.1⟩
  | w :: r, V :: R, k + 1, hS, h => Sk.nth (k := k) hS.2 (by simpa using h)
theorem bds_ok {β : Type} {tb : TB} {L : LSc} {sp ad : Nat → Nat} {h0 h : PH} {bk : Bool} : ∀ (src : List SRC) {ρ : List Int} {N : NS} {m : MM} {lv : L2} {st : List V2} {LV : LVs} {SV : List Value} {mu : List LF} {ρT : List Int} {kk : NS → MM → List LF → Option β} {r : β}, Ga tb L sp ad ρ h0 h (N, m, lv, st) LV SV → Mu ρ mu ρT → (bk = true → src.length + mu.length ≤ ρ.length) → bds tb bk src N m lv st mu kk = some r → ∃ N' m' mu' ρ' ρT', kk N' m' mu' = some r ∧ Sb ρ ρ' ∧ Ga tb L sp ad ρ' h0 h (N', m', lv, st) LV SV ∧ Mu ρ' mu' ρT' ∧ ρT'.length = ρT.length + src.length ∧ Sb mu mu'
  | [], ρ, N, m, lv, st, LV, SV, mu, ρT, kk, r, hG, hM, _, hr => ⟨N, m, mu, ρ, ρT, hr, Sb.rf ρ, hG, hM, rfl, Sb.rf mu⟩
  | s :: t, ρ, N, m, lv, st, LV, SV, mu, ρT, kk, r, hG, hM, hbk, hr => by
    have hr : (bif Nat.ble s.1 1 then (bif Nat.beq s.1 0 then ob (lk2 lv s.2.1) (fun v => gd (Nat.ble v.1 1) (lf_nv N.1 v.2 (fun f => bds tb bk t N m lv st (mu ++ [f]) kk)))
      else gd (lf_wf mu.length s.2.2) (sbf mu mu.length 0 s.2.2 (fun I => gd (pv1 N I) (ld tb N m s.2.1 I (fun N' m' f => bds tb bk t N' m' lv st (mu ++ [f]) kk)))))
    else bif Nat.beq s.1 2 then (bif bk then bds tb bk t N m lv st (mu ++ [(0, [(mu.length, 1)])]) kk else ob (ax_nth mu s.2.1) (fun f => bds tb bk t N m lv st (mu ++ [f]) kk))
    else bif Nat.beq s.1 3 then ob (ax_nth st s.2.1) (fun v => gd (Nat.ble v.1 1) (lf_nv N.1 v.2 (fun f => bds tb bk t N m lv st (mu ++ [f]) kk)))
    else bif Nat.beq s.1 4 then sm_b tb N m (fun N' m' f => bds tb bk t N' m' lv st (mu ++ [f]) kk)
    else ld tb N m s.2.1 (Int.ofNat s.2.2.1.toNat, []) (fun N' m' f => lc s.2.2.2 (fun q _ => ob (ax_nth mu q.1) (fun g => lf_add (-1) g f (fun d => bds tb bk t N' m' lv st (mu ++ [d]) kk))))) = some r := hr
    -- one more, and the rest
    have STEP : ∀ {ρ1 : List Int} {N1 : NS} {m1 : MM} {f : LF} {z : Int}, Sb ρ ρ1 → Ga tb L sp ad ρ1 h0 h (N1, m1, lv, st) LV SV → Lv ρ1 f z → bds tb bk t N1 m1 lv st (mu ++ [f]) kk = some r → ∃ N' m' mu' ρ' ρT', kk N' m' mu' = some r ∧ Sb ρ ρ' ∧ Ga tb L sp ad ρ' h0 h (N', m', lv, st) LV SV ∧ Mu ρ' mu' ρT' ∧ ρT'.length = ρT.length + (s :: t).length ∧ Sb mu mu' := fun hs hG1 hf hr1 => by
      obtain ⟨N', m', mu', ρ', ρT', a1, a2, a3, a4, a5, a6⟩ := bds_ok t hG1 ((hM.mono hs).app hf) (fun hb => by
        have := hbk hb
        have hl := hs.len
        rw [List.length_append, List.length_singleton]
        simp only [List.length_cons] at this
        omega) hr1
      exact ⟨N', m', mu', ρ', ρT', a1, hs.tr a2, a3, a4, by rw [a5, List.length_append, List.length_singleton, List.length_cons]; omega, (Sb.app _ _).tr a6⟩
    obtain ⟨hN, hm, hT, hL, hS⟩ := id hG
    cases h1 : Nat.ble s.1 1 with
    | true =>
      rw [h1] at hr
      simp only [cond_true] at hr
      cases h2 : Nat.beq s.1 0 with
      | true =>
        rw [h2] at hr
        obtain ⟨v, v1, hr⟩ := ob_s (o := lk2 lv s.2.1) hr
        obtain ⟨g1, hr⟩ := gd_s hr
        obtain ⟨f, f1, f2⟩ := lf_nv_ok hN.1 v.2 (fun f => bds tb bk t N m lv st (mu ++ [f]) kk)
        rw [f1] at hr
        obtain ⟨V, V1, V2⟩ := lk2_ok hL v1
        obtain ⟨x, hx⟩ := V2.n g1
        exact STEP (Sb.rf ρ) hG (f2 x hx) hr
      | false =>
        rw [h2] at hr
        obtain ⟨g1, hr⟩ := gd_s (b := lf_wf mu.length s.2.2) hr
        obtain ⟨I, i, g2, g3, g4⟩ := sbk hM hM.1 g1 (fun I => gd (pv1 N I) (ld tb N m s.2.1 I (fun N' m' f => bds tb bk t N' m' lv st (mu ++ [f]) kk)))
        rw [g2] at hr
        obtain ⟨g5, hr⟩ := gd_s hr
        obtain ⟨N1, m1, f, ρ1, e1, e2, e3, e4, e5⟩ := ld_ok hN hm hT g4 (pv1_ok hN g5 g4) hr
        exact STEP e2 ⟨e3, e4, hT, hL.mono e2, hS.mono e2⟩ e5 e1
    | false =>
      rw [h1] at hr
      simp only [cond_false] at hr
      cases h2 : Nat.beq s.1 2 with
      | true =>
        rw [h2] at hr
        simp only [cond_true] at hr
        cases hb : bk with
        | true =>
          rw [hb] at hr
          simp only [cond_true] at hr
          have hl := hbk hb
          simp only [List.length_cons] at hl
          have hk : mu.length < ρ.length := by omega
          rw [← hb] at hr
          exact STEP (Sb.rf ρ) hG (Lv.v (List.getElem?_eq_getElem hk)) hr
        | false =>
          rw [hb] at hr
          simp only [cond_false] at hr
          obtain ⟨f, f1, hr⟩ := ob_s hr
          rw [ax_nth_eq] at f1
          have hk := (List.getElem?_eq_some_iff.mp f1).1
          rw [hM.1] at hk
          obtain ⟨f', a, b⟩ := hM.2 s.2.1 _ (List.getElem?_eq_getElem hk)
          rw [f1] at a
          cases a
          rw [← hb] at hr
          exact STEP (Sb.rf ρ) hG b hr
      | false =>
        rw [h2] at hr
        simp only [cond_false] at hr
        cases h3 : Nat.beq s.1 3 with
        | true =>
          rw [h3] at hr
          obtain ⟨v, v1, hr⟩ := ob_s (o := ax_nth st s.2.1) hr
          obtain ⟨g1, hr⟩ := gd_s hr
          rw [ax_nth_eq] at v1
          obtain ⟨f, f1, f2⟩ := lf_nv_ok hN.1 v.2 (fun f => bds tb bk t N m lv st (mu ++ [f]) kk)
          rw [f1] at hr
          obtain ⟨V, V2⟩ := Sk.nth hS v1
          obtain ⟨x, hx⟩ := V2.n g1
          exact STEP (Sb.rf ρ) hG (f2 x hx) hr
        | false =>
          rw [h3] at hr
          simp only [cond_false] at hr
          cases h4 : Nat.beq s.1 4 with
          | true =>
            rw [h4] at hr
            simp only [cond_true] at hr
            unfold sm_b at hr
            cases hs : m.2.2.2.2.1 with
            | cons f l =>
              rw [hs] at hr
              obtain ⟨n, n1, n2⟩ := hm.2.2.2.2.1 f (by rw [hs]; exact List.mem_cons_self)
              obtain ⟨q, q1, hr⟩ := ob_s (o := sm_r tb) hr
              have b := sm_r_ok hT q1
              obtain ⟨N1, a1, a2⟩ := asm_ok hN (n1.dec q.1) (by omega) hr
              exact STEP (Sb.rf ρ) ⟨a2, hm, hT, hL, hS⟩ n1 a1
            | nil =>
              rw [hs] at hr
              obtain ⟨q, q1, hr⟩ := ob_s (o := sm_r tb) hr
              have b := sm_r_ok hT q1
              obtain ⟨N1, f, e1, e2, e3, e4⟩ := nwv_ok hN (fun N' f => bds tb bk t N' (m.1, m.2.1, m.2.2.1, m.2.2.2.1, [f], m.2.2.2.2.2) lv st (mu ++ [f]) kk) b.1 b.2
              have hr : nwv N q.1 q.2 (fun N' f => bds tb bk t N' (m.1, m.2.1, m.2.2.1, m.2.2.2.1, [f], m.2.2.2.2.2) lv st (mu ++ [f]) kk) = some r := hr
              rw [e1] at hr
              have hm' := hm.mono e2
              exact STEP (m1 := (m.1, m.2.1, m.2.2.1, m.2.2.2.1, [f], m.2.2.2.2.2)) e2 ⟨e3, ⟨hm'.1, hm'.2.1, hm'.2.2.1, hm'.2.2.2.1, fun g hg => by obtain rfl := List.mem_singleton.mp hg; exact ⟨_, e4, rfl⟩, hm'.2.2.2.2.2⟩, hT, hL.mono e2, hS.mono e2⟩ e4 hr
          | false =>
            rw [h4] at hr
            simp only [cond_false] at hr
            obtain ⟨N1, m1, f, ρ1, e1, e2, e3, e4, e5⟩ := ld_ok hN hm hT (Lv.c ρ (Int.ofNat s.2.2.1.toNat)) (Int.natCast_nonneg _) hr
            obtain ⟨q, qt, eq1, e1a⟩ := lc_s e1
            obtain ⟨g, g1, e1b⟩ := ob_s e1a
            rw [ax_nth_eq] at g1
            have hk := (List.getElem?_eq_some_iff.mp g1).1
            rw [hM.1] at hk
            obtain ⟨f', a, b⟩ := hM.2 q.1 _ (List.getElem?_eq_getElem hk)
            rw [g1] at a
            cases a
            obtain ⟨d, d1, d2⟩ := lf_add_ok (-1) g f (fun d => bds tb bk t N1 m1 lv st (mu ++ [d]) kk)
            rw [d1] at e1b
            exact STEP e2 ⟨e3, e4, hT, hL.mono e2, hS.mono e2⟩ (d2 ρ1 _ _ (b.mono e2) e5) e1b
/-! an end of a unit, here -/
noncomputable def mpk {α β : Type} (f : α → (α → β) → β) (l : List α) : (List α → β) → β := List.rec (motive := fun _ => (List α → β) → β) (fun kk => kk []) (fun x _ ih kk => f x (fun y => ih (fun r => kk (y :: r)))) l
def F2 {α : Type} (R : α → α → Prop) : List α → List α → Prop
  | [], [] => True
  | x :: l, y :: r => R x y ∧ F2 R l r
  | _, _ => False
theorem F2.mem {α : Type} {R : α → α → Prop} : ∀ {l r : List α}, F2 R l r → ∀ y ∈ r, ∃ x ∈ l, R x y
  | [], [], _, y, hy => by cases hy
  | x :: l, z :: r, h, y, hy => by
    rcases List.mem_cons.mp hy with rfl | hy
    · exact ⟨x, List.mem_cons_self, h.1⟩
    · obtain ⟨x', a, b⟩ := F2.mem h.2 y hy
      exact ⟨x', List.mem_cons_of_mem _ a, b⟩
  | [], _ :: _, h, _, _ => h.elim
  | _ :: _, [], h, _, _ => h.elim
theorem mpk_ok {α β : Type} {f : α → (α → β) → β} {R : α → α → Prop} (hf : ∀ x kk, ∃ y, f x kk = kk y ∧ R x y) : ∀ (l : List α) (kk : List α → β), ∃ l', mpk f l kk = kk l' ∧ F2 R l l'
  | [], kk => ⟨[], rfl, trivial⟩
  | x :: t, kk => by
    obtain ⟨y, e1, e2⟩ := hf x (fun y => mpk f t (fun r => kk (y :: r)))
    obtain ⟨l', e3, e4⟩ := mpk_ok hf t (fun r => kk (y :: r))
    exact ⟨y :: l', e1.trans e3, e2, e4⟩
/-- a form's value is kept -/
def Lr (mu : List LF) (n b : Nat) (f g : LF) : Prop := ∀ (ρA ρT e : List Int) (x : Int), Mu ρA mu ρT → n = ρT.length → b = ρA.length → Lv (ρT ++ e) f x → Lv (ρA ++ e) g x
theorem sbf_r {β : Type} (mu : List LF) (n b : Nat) (f : LF) (kk : LF → β) : ∃ g, sbf mu n b f kk = kk g ∧ Lr mu n b f g := sbf_ok mu n b f kk
noncomputable def sb_ce {β : Type} (mu : List LF) (n b : Nat) (e : CE) (kk : CE → β) : β := sbf mu n b e.2.1 (fun I => sbf mu n b e.2.2 (fun v => kk (e.1, I, v)))
noncomputable def sb_ge {β : Type} (mu : List LF) (n b : Nat) (e : GE) (kk : GE → β) : β := sbf mu n b e.2 (fun I => kk (e.1, I))
noncomputable def sb_qe {β : Type} (mu : List LF) (n b : Nat) (e : QE) (kk : QE → β) : β := sbf mu n b e.1.2 (fun I => sbf mu n b e.2.1.2 (fun J => sbf mu n b e.2.2 (fun k => kk ((e.1.1, I), (e.2.1.1, J), k))))
noncomputable def sb_v {β : Type} (mu : List LF) (n b : Nat) (v : V2) (kk : V2 → β) : β := bif Nat.ble v.1 1 then sbf mu n b v.2 (fun I => kk (v.1, I)) else kk v
noncomputable def sb_l {β : Type} (mu : List LF) (n b : Nat) (v : Nat × V2) (kk : Nat × V2 → β) : β := sb_v mu n b v.2 (fun w => kk (v.1, w))
/-- an end of a unit, put here -/
noncomputable def ap {β : Type} (tb : TB) (N : NS) (m : MM) (mu : List LF) (W : List WE) (o : ST) (kk : NS → MM → L2 → List V2 → Option β) : Option β := ax_fc mu.length (fun n => ax_fc N.1.length (fun b =>
    mpk (sbf mu n b) o.2.1 (fun fc => mpk (sbf mu n b) o.2.2.1 (fun ne => mpk (sb_ce mu n b) o.2.2.2.1 (fun ca => mpk (sb_ge mu n b) o.2.2.2.2.1 (fun gf => mpk (sb_qe mu n b) o.2.2.2.2.2.1 (fun eq => mpk (sbf mu n b) o.2.2.2.2.2.2.1 (fun sm => mpk (sb_l mu n b) o.2.2.2.2.2.2.2.1 (fun lv => mpk (sb_v mu n b) o.2.2.2.2.2.2.2.2 (fun st =>
      keepW tb W N m (fun m' => kk (N.1 ++ o.1, fc ++ N.2.1, ne ++ N.2.2) (ca ++ m'.1, gf ++ m'.2.1, eq ++ m'.2.2.1, m'.2.2.2.1, (bif isnil sm then m'.2.2.2.2.1 else sm), m'.2.2.2.2.2) lv st)))))))))))
theorem F2.lk {sp ad : Nat → Nat} {ρ ρ' : List Int} {R : Nat × V2 → Nat × V2 → Prop} (hR : ∀ x y, R x y → x.1 = y.1 ∧ ∀ V, Vk sp ad ρ x.2 V → Vk sp ad ρ' y.2 V) : ∀ {l r : L2} {LV : LVs}, F2 R l r → Lk sp ad ρ l LV → Lk sp ad ρ' r LV
  | [], [], [], _, _ => trivial
  | x :: l, y :: r, V :: LV, h, hL => ⟨⟨(hR x y h.1).1.symm.trans hL.1.1, (hR x y h.1).2 _ hL.1.2⟩, F2.lk hR h.2 hL.2⟩
theorem F2.sk {sp ad : Nat → Nat} {ρ ρ' : List Int} {R : V2 → V2 → Prop} (hR : ∀ x y, R x y → ∀ V, Vk sp ad ρ x V → Vk sp ad ρ' y V) : ∀ {l r : List V2} {SV : List Value}, F2 R l r → Sk sp ad ρ l SV → Sk sp ad ρ' r SV
  | [], [], [], _, _ => trivial
  | x :: l, y :: r, V :: SV, h, hL => ⟨hR x y h.1 _ hL.1, F2.sk hR h.2 hL.2⟩
def Vr (mu : List LF) (n b : Nat) (x y : V2) : Prop := x.1 = y.1 ∧ (Nat.ble x.1 1 = true → Lr mu n b x.2 y.2) ∧ (Nat.ble x.1 1 = false → x = y)
theorem sb_v_r {β : Type} (mu : List LF) (n b : Nat) (v : V2) (kk : V2 → β) : ∃ w, sb_v mu n b v kk = kk w ∧ Vr mu n b v w := by
  unfold sb_v
  cases h : Nat.ble v.1 1 with
  | true =>
    obtain ⟨g, e1, e2⟩ := sbf_r mu n b v.2 (fun I => kk (v.1, I))
    exact ⟨(v.1, g), e1, rfl, fun _ => e2, fun q => by rw [h] at q; cases q⟩
  | false => exact ⟨v, rfl, rfl, (fun q => by rw [h] at q; cases q), fun _ => rfl⟩
theorem Vr.ok {sp ad : Nat → Nat} {mu : List LF} {n b : Nat} {x y : V2} (h : Vr mu n b x y) {ρA ρT e : List Int} (hM : Mu ρA mu ρT) (hn : n = ρT.length) (hb : b = ρA.length) (V : Value) (hV : Vk sp ad (ρT ++ e) x V) : Vk sp ad (ρA ++ e) y V := by
  obtain ⟨h1, h2, h3⟩ := h
  obtain ⟨t, f⟩ := x
  obtain ⟨t', g⟩ := y
  have h1 : t = t' := h1
  subst h1
  cases hb2 : Nat.ble t 1 with
  | true =>
    have hl := h2 hb2
    rcases (show t = 0 ∨ t = 1 by have := bb_le hb2; omega) with rfl | rfl
    · obtain ⟨x, a, c⟩ := hV
      exact ⟨x, a, hl ρA ρT e _ hM hn hb c⟩
    · obtain ⟨x, a, c⟩ := hV
      exact ⟨x, a, hl ρA ρT e _ hM hn hb c⟩
  | false =>
    have := h3 hb2
    have : f = g := congrArg Prod.snd this
    subst this
    have n2 := bb_nle hb2
    unfold Vk at hV ⊢
    split at hV
    · next e => have e : t = 0 := e; omega
    · next e => have e : t = 1 := e; omega
    · next e => have e : t = 2 := e; subst e; exact hV
    · next e => have e : t = 6 := e; subst e; exact hV
    · next e => have e : t = 7 := e; subst e; exact hV
    · exact hV.elim
theorem Sr.app2 {ρ ρT e : List Int} {σ σT σo : SG} (h : Sr ρ σ) (hT : ρT.length = σT.length) (h2 : Sr (ρT ++ e) (σT ++ σo)) : Sr (ρ ++ e) (σ ++ σo) := by
  have hl := h2.1
  rw [List.length_append, List.length_append] at hl
  refine ⟨by rw [List.length_append, List.length_append, h.1]; omega, fun k z hz => ?_⟩
  by_cases hk : k < ρ.length
  · rw [List.getElem?_append_left hk] at hz
    obtain ⟨q, a, b⟩ := h.2 k z hz
    exact ⟨q, by rw [List.getElem?_append_left (by rw [← h.1]; exact hk)]; exact a, b⟩
  · rw [List.getElem?_append_right (by omega)] at hz
    obtain ⟨q, a, b⟩ := h2.2 (ρT.length + (k - ρ.length)) z (by rw [List.getElem?_append_right (by omega), Nat.add_sub_cancel_left]; exact hz)
    rw [List.getElem?_append_right (by omega)] at a
    exact ⟨q, by rw [List.getElem?_append_right (by have := h.1; omega), ← h.1]; rw [show ρT.length + (k - ρ.length) - σT.length = k - ρ.length by omega] at a; exact a, b⟩
theorem ap_ok {β : Type} {tb : TB} {L : LSc} {sp ad : Nat → Nat} {ρ ρT e : List Int} {h0 h h' : PH} {N : NS} {m : MM} {mu : List LF} {W : List WE} {o : ST} {σT : SG} {LV' : LVs} {SV' : List Value} (hN : Nk ρ N) (hm : Mk tb L ρ h0 h m) (hM : Mu ρ mu ρT) (hσ : ρT.length = σT.length) (hO : Ga tb L sp ad (ρT ++ e) h h' (tO σT W o) LV' SV') {kk : NS → MM → L2 → List V2 → Option β} {r : β} (hr : ap tb N m mu W o kk = some r) : ∃ N' m' lv' st', kk N' m' lv' st' = some r ∧ Ga tb L sp ad (ρ ++ e) h0 h' (N', m', lv', st') LV' SV' := by
  unfold ap at hr
  rw [ax_fc_eq, ax_fc_eq] at hr
  obtain ⟨oN, om, oT, oL, oS⟩ := hO
  have hn := hM.1
  have hb : N.1.length = ρ.length := hN.1.1.symm
  obtain ⟨fc, a1, a2⟩ := mpk_ok (sbf_r mu mu.length N.1.length) o.2.1 (fun fc => mpk (sbf mu mu.length N.1.length) o.2.2.1 (fun ne => mpk (sb_ce mu mu.length N.1.length) o.2.2.2.1 (fun ca => mpk (sb_ge mu mu.length N.1.length) o.2.2.2.2.1 (fun gf => mpk (sb_qe mu mu.length N.1.length) o.2.2.2.2.2.1 (fun eq => mpk (sbf mu mu.length N.1.length) o.2.2.2.2.2.2.1 (fun sm => mpk (sb_l mu mu.length N.1.length) o.2.2.2.2.2.2.2.1 (fun lv => mpk (sb_v mu mu.length N.1.length) o.2.2.2.2.2.2.2.2 (fun st =>
      keepW tb W N m (fun m' => kk (N.1 ++ o.1, fc ++ N.2.1, ne ++ N.2.2) (ca ++ m'.1, gf ++ m'.2.1, eq ++ m'.2.2.1, m'.2.2.2.1, (bif isnil sm then m'.2.2.2.2.1 else sm), m'.2.2.2.2.2) lv st)))))))))
  rw [a1] at hr
  obtain ⟨ne, b1, b2⟩ := mpk_ok (sbf_r mu mu.length N.1.length) o.2.2.1 (fun ne => mpk (sb_ce mu mu.length N.1.length) o.2.2.2.1 (fun ca => mpk (sb_ge mu mu.length N.1.length) o.2.2.2.2.1 (fun gf => mpk (sb_qe mu mu.length N.1.length) o.2.2.2.2.2.1 (fun eq => mpk (sbf mu mu.length N.1.length) o.2.2.2.2.2.2.1 (fun sm => mpk (sb_l mu mu.length N.1.length) o.2.2.2.2.2.2.2.1 (fun lv => mpk (sb_v mu mu.length N.1.length) o.2.2.2.2.2.2.2.2 (fun st =>
      keepW tb W N m (fun m' => kk (N.1 ++ o.1, fc ++ N.2.1, ne ++ N.2.2) (ca ++ m'.1, gf ++ m'.2.1, eq ++ m'.2.2.1, m'.2.2.2.1, (bif isnil sm then m'.2.2.2.2.1 else sm), m'.2.2.2.2.2) lv st))))))))
  rw [b1] at hr
  obtain ⟨ca, c1, c2⟩ := mpk_ok (R := fun x y => x.1 = y.1 ∧ Lr mu mu.length N.1.length x.2.1 y.2.1 ∧ Lr mu mu.length N.1.length x.2.2 y.2.2) (f := sb_ce mu mu.length N.1.length) (fun x kk => by
    obtain ⟨I, i1, i2⟩ := sbf_r mu mu.length N.1.length x.2.1 (fun I => sbf mu mu.length N.1.length x.2.2 (fun v => kk (x.1, I, v)))
    obtain ⟨v, v1, v2⟩ := sbf_r mu mu.length N.1.length x.2.2 (fun v => kk (x.1, I, v))
    exact ⟨(x.1, I, v), i1.trans v1, rfl, i2, v2⟩) o.2.2.2.1 (fun ca => mpk (sb_ge mu mu.length N.1.length) o.2.2.2.2.1 (fun gf => mpk (sb_qe mu mu.length N.1.length) o.2.2.2.2.2.1 (fun eq => mpk (sbf mu mu.length N.1.length) o.2.2.2.2.2.2.1 (fun sm => mpk (sb_l mu mu.length N.1.length) o.2.2.2.2.2.2.2.1 (fun lv => mpk (sb_v mu mu.length N.1.length) o.2.2.2.2.2.2.2.2 (fun st =>
      keepW tb W N m (fun m' => kk (N.1 ++ o.1, fc ++ N.2.1, ne ++ N.2.2) (ca ++ m'.1, gf ++ m'.2.1, eq ++ m'.2.2.1, m'.2.2.2.1, (bif isnil sm then m'.2.2.2.2.1 else sm), m'.2.2.2.2.2) lv st)))))))
  rw [c1] at hr
  obtain ⟨gf, d1, d2⟩ := mpk_ok (R := fun x y => x.1 = y.1 ∧ Lr mu mu.length N.1.length x.2 y.2) (f := sb_ge mu mu.length N.1.length) (fun x kk => by
    obtain ⟨I, i1, i2⟩ := sbf_r mu mu.length N.1.length x.2 (fun I => kk (x.1, I))
    exact ⟨(x.1, I), i1, rfl, i2⟩) o.2.2.2.2.1 (fun gf => mpk (sb_qe mu mu.length N.1.length) o.2.2.2.2.2.1 (fun eq => mpk (sbf mu mu.length N.1.length) o.2.2.2.2.2.2.1 (fun sm => mpk (sb_l mu mu.length N.1.length) o.2.2.2.2.2.2.2.1 (fun lv => mpk (sb_v mu mu.length N.1.length) o.2.2.2.2.2.2.2.2 (fun st =>
      keepW tb W N m (fun m' => kk (N.1 ++ o.1, fc ++ N.2.1, ne ++ N.2.2) (ca ++ m'.1, gf ++ m'.2.1, eq ++ m'.2.2.1, m'.2.2.2.1, (bif isnil sm then m'.2.2.2.2.1 else sm), m'.2.2.2.2.2) lv st))))))
  rw [d1] at hr
  obtain ⟨eq, q1, q2⟩ := mpk_ok (R := fun x y => (x.1.1 = y.1.1 ∧ x.2.1.1 = y.2.1.1) ∧ Lr mu mu.length N.1.length x.1.2 y.1.2 ∧ Lr mu mu.length N.1.length x.2.1.2 y.2.1.2 ∧ Lr mu mu.length N.1.length x.2.2 y.2.2) (f := sb_qe mu mu.length N.1.length) (fun x kk => by
    obtain ⟨I, i1, i2⟩ := sbf_r mu mu.length N.1.length x.1.2 (fun I => sbf mu mu.length N.1.length x.2.1.2 (fun J => sbf mu mu.length N.1.length x.2.2 (fun k => kk ((x.1.1, I), (x.2.1.1, J), k))))
    obtain ⟨J, j1, j2⟩ := sbf_r mu mu.length N.1.length x.2.1.2 (fun J => sbf mu mu.length N.1.length x.2.2 (fun k => kk ((x.1.1, I), (x.2.1.1, J), k)))
    obtain ⟨k, k1, k2⟩ := sbf_r mu mu.length N.1.length x.2.2 (fun k => kk ((x.1.1, I), (x.2.1.1, J), k))
    exact ⟨((x.1.1, I), (x.2.1.1, J), k), i1.trans (j1.trans k1), ⟨rfl, rfl⟩, i2, j2, k2⟩) o.2.2.2.2.2.1 (fun eq => mpk (sbf mu mu.length N.1.length) o.2.2.2.2.2.2.1 (fun sm => mpk (sb_l mu mu.length N.1.length) o.2.2.2.2.2.2.2.1 (fun lv => mpk (sb_v mu mu.length N.1.length) o.2.2.2.2.2.2.2.2 (fun st =>
      keepW tb W N m (fun m' => kk (N.1 ++ o.1, fc ++ N.2.1, ne ++ N.2.2) (ca ++ m'.1, gf ++ m'.2.1, eq ++ m'.2.2.1, m'.2.2.2.1, (bif isnil sm then m'.2.2.2.2.1 else sm), m'.2.2.2.2.2) lv st)))))
  rw [q1] at hr
  obtain ⟨sm, s1, s2⟩ := mpk_ok (sbf_r mu mu.length N.1.length) o.2.2.2.2.2.2.1 (fun sm => mpk (sb_l mu mu.length N.1.length) o.2.2.2.2.2.2.2.1 (fun lv => mpk (sb_v mu mu.length N.1.length) o.2.2.2.2.2.2.2.2 (fun st =>
      keepW tb W N m (fun m' => kk (N.1 ++ o.1, fc ++ N.2.1, ne ++ N.2.2) (ca ++ m'.1, gf ++ m'.2.1, eq ++ m'.2.2.1, m'.2.2.2.1, (bif isnil sm then m'.2.2.2.2.1 else sm), m'.2.2.2.2.2) lv st))))
  rw [s1] at hr
  obtain ⟨lv, l1, l2⟩ := mpk_ok (R := fun x y => x.1 = y.1 ∧ Vr mu mu.length N.1.length x.2 y.2) (f := sb_l mu mu.length N.1.length) (fun x kk => by
    obtain ⟨w, w1, w2⟩ := sb_v_r mu mu.length N.1.length x.2 (fun w => kk (x.1, w))
    exact ⟨(x.1, w), w1, rfl, w2⟩) o.2.2.2.2.2.2.2.1 (fun lv => mpk (sb_v mu mu.length N.1.length) o.2.2.2.2.2.2.2.2 (fun st =>
      keepW tb W N m (fun m' => kk (N.1 ++ o.1, fc ++ N.2.1, ne ++ N.2.2) (ca ++ m'.1, gf ++ m'.2.1, eq ++ m'.2.2.1, m'.2.2.2.1, (bif isnil sm then m'.2.2.2.2.1 else sm), m'.2.2.2.2.2) lv st)))
  rw [l1] at hr
  obtain ⟨st, t1, t2⟩ := mpk_ok (sb_v_r mu mu.length N.1.length) o.2.2.2.2.2.2.2.2 (fun st =>
      keepW tb W N m (fun m' => kk (N.1 ++ o.1, fc ++ N.2.1, ne ++ N.2.2) (ca ++ m'.1, gf ++ m'.2.1, eq ++ m'.2.2.1, m'.2.2.2.1, (bif isnil sm then m'.2.2.2.2.1 else sm), m'.2.2.2.2.2) lv st))
  rw [t1] at hr
  have hW : ∀ c k, Wout W c k → h' c k = h c k := fun c k hw => om.2.2.2.1 c k hw
  obtain ⟨m', k1, k2⟩ := keepW_ok (h' := h') hN hm hW (fun m' => kk (N.1 ++ o.1, fc ++ N.2.1, ne ++ N.2.2) (ca ++ m'.1, gf ++ m'.2.1, eq ++ m'.2.2.1, m'.2.2.2.1, (bif isnil sm then m'.2.2.2.2.1 else sm), m'.2.2.2.2.2) lv st)
  rw [k1] at hr
  have k3 := k2.mono (Sb.app ρ e)
  refine ⟨_, _, _, _, hr, ⟨hN.1.app2 hσ oN.1, fun f hf => ?_, fun f hf => ?_⟩, ⟨fun c hc => ?_, fun c hc => ?_, fun c hc => ?_, k3.2.2.2.1, fun f hf => ?_, k3.2.2.2.2.2⟩, oT, ?_, ?_⟩
  · rcases List.mem_append.mp hf with hf | hf
    · obtain ⟨x, x1, x2⟩ := F2.mem a2 f hf
      obtain ⟨y, y1, y2⟩ := oN.2.1 x x1
      exact ⟨y, x2 ρ ρT e y hM hn hb y1, y2⟩
    · obtain ⟨y, y1, y2⟩ := hN.2.1 f hf
      exact ⟨y, y1.mono (Sb.app ρ e), y2⟩
  · rcases List.mem_append.mp hf with hf | hf
    · obtain ⟨x, x1, x2⟩ := F2.mem b2 f hf
      obtain ⟨y, y1, y2⟩ := oN.2.2 x x1
      exact ⟨y, x2 ρ ρT e y hM hn hb y1, y2⟩
    · obtain ⟨y, y1, y2⟩ := hN.2.2 f hf
      exact ⟨y, y1.mono (Sb.app ρ e), y2⟩
  · rcases List.mem_append.mp hc with hc | hc
    · obtain ⟨x, x1, x2, x3, x4⟩ := F2.mem c2 c hc
      obtain ⟨i, y, z1, z2, z3, z4⟩ := om.1 x x1
      exact ⟨i, y, x3 ρ ρT e i hM hn hb z1, z2, x4 ρ ρT e y hM hn hb z3, by rw [← x2]; exact z4⟩
    · exact k3.1 c hc
  · rcases List.mem_append.mp hc with hc | hc
    · obtain ⟨x, x1, x2, x3⟩ := F2.mem d2 c hc
      obtain ⟨y, z1, z2⟩ := om.2.1 x x1
      exact ⟨y, x3 ρ ρT e y hM hn hb z1, by rw [← x2]; exact z2⟩
    · exact k3.2.1 c hc
  · rcases List.mem_append.mp hc with hc | hc
    · obtain ⟨x, x1, ⟨x2, x2'⟩, x3, x4, x5⟩ := F2.mem q2 c hc
      obtain ⟨i, j, y, z1, z2, z3, z4⟩ := om.2.2.1 x x1
      exact ⟨i, j, y, x3 ρ ρT e i hM hn hb z1, x4 ρ ρT e j hM hn hb z2, x5 ρ ρT e y hM hn hb z3, by rw [← x2, ← x2']; exact z4⟩
    · exact k3.2.2.1 c hc
  · have hf : f ∈ (bif isnil sm then m'.2.2.2.2.1 else sm) := hf
    cases hs : sm with
    | nil =>
      rw [hs] at hf
      exact k3.2.2.2.2.1 f hf
    | cons g t =>
      rw [hs] at hf
      have hf : f ∈ sm := by rw [hs]; exact hf
      obtain ⟨x, x1, x2⟩ := F2.mem s2 f hf
      obtain ⟨y, y1, y2⟩ := om.2.2.2.2.1 x x1
      exact ⟨y, x2 ρ ρT e y hM hn hb y1, y2⟩
  · exact F2.lk (fun x y hxy => ⟨hxy.1, fun V hV => hxy.2.ok hM hn hb V hV⟩) l2 oL
  · exact F2.sk (fun x y hxy V hV => hxy.ok hM hn hb V hV) t2 oS
end
section
/-! 35.mac -/
/-! THE MACHINE BY FORMS, 1: rows that are good, read -/
abbrev J3 : Type := (Int × Int) × (Int × Int) × (Int × Int)
noncomputable def jn {β : Type} (a b : Int × Int) (kk : Int × Int → β) : β := i_fc (i_min a.1 b.1) (fun x => i_fc (i_max a.2 b.2) (fun y => kk (x, y)))
/-- may the kind v be the entry's -/
noncomputable def rt_m (N : NS) (fm : Nat) (v : LF) (e : Nat × Int × (Int × Int) × (Int × Int)) : Bool := Nat.beq e.1 fm && (i_le (lf_lo N.1 v) e.2.1 && (i_le e.2.1 (lf_hi N.1 v) && lf_sc (-1) v e.2.1 (fun nd => !(pvn N (v.1 - e.2.1, v.2) nd))))
noncomputable def rt_j {β : Type} (N : NS) (fm : Nat) (v : LF) (l : RT) : Option J3 → (Option J3 → β) → β := List.rec (motive := fun _ => Option J3 → (Option J3 → β) → β) (fun a kk => kk a) (fun e _ ih a kk => bif rt_m N fm v e then (match a with
    | none => ih (some ((e.2.1, e.2.1), e.2.2.1, e.2.2.2)) kk
    | some J => jn J.1 (e.2.1, e.2.1) (fun x => jn J.2.1 e.2.2.1 (fun y => jn J.2.2 e.2.2.2 (fun z => ih (some (x, y, z)) kk)))) else ih a kk) l
def J3in (J : J3) (k a b : Int) : Prop := (J.1.1 ≤ k ∧ k ≤ J.1.2) ∧ (J.2.1.1 ≤ a ∧ a ≤ J.2.1.2) ∧ (J.2.2.1 ≤ b ∧ b ≤ J.2.2.2)
theorem jn_ok {β : Type} (a b : Int × Int) (kk : Int × Int → β) : ∃ q, jn a b kk = kk q ∧ ∀ x, (a.1 ≤ x ∧ x ≤ a.2) ∨ (b.1 ≤ x ∧ x ≤ b.2) → q.1 ≤ x ∧ x ≤ q.2 := by
  unfold jn
  rw [i_fc_eq, i_fc_eq]
  have m1 := i_min_ok a.1 b.1
  have m2 := i_max_ok a.2 b.2
  refine ⟨_, rfl, fun x hx => ?_⟩
  dsimp only
  omega
theorem rt_j_ok {β : Type} {N : NS} {fm : Nat} {v : LF} : ∀ (l : RT) (a : Option J3) (kk : Option J3 → β), ∃ a', rt_j N fm v l a kk = kk a' ∧ (∀ J k x y, a = some J → J3in J k x y → ∃ J', a' = some J' ∧ J3in J' k x y) ∧ ∀ e ∈ l, rt_m N fm v e = true → ∀ x y, e.2.2.1.1 ≤ x → x ≤ e.2.2.1.2 → e.2.2.2.1 ≤ y → y ≤ e.2.2.2.2 → ∃ J', a' = some J' ∧ J3in J' e.2.1 x y
  | [], a, kk => ⟨a, rfl, fun J k x y h1 h2 => ⟨J, h1, h2⟩, fun e he => by cases he⟩
  | e :: t, a, kk => by
    cases hm : rt_m N fm v e with
    | false =>
      obtain ⟨a', e1, e2, e3⟩ := rt_j_ok t a kk
      refine ⟨a', ?_, e2, fun e' he' hm' => ?_⟩
      · show (bif rt_m N fm v e then _ else rt_j N fm v t a kk) = _
        rw [hm]
        exact e1
      · rcases List.mem_cons.mp he' with rfl | he'
        · rw [hm] at hm'; cases hm'
        · exact e3 e' he' hm'
    | true =>
      cases a with
      | none =>
        obtain ⟨a', e1, e2, e3⟩ := rt_j_ok t (some ((e.2.1, e.2.1), e.2.2.1, e.2.2.2)) kk
        refine ⟨a', ?_, (fun J k x y h1 => by cases h1), fun e' he' hm' x y x1 x2 x3 x4 => ?_⟩
        · show (bif rt_m N fm v e then rt_j N fm v t (some ((e.2.1, e.2.1), e.2.2.1, e.2.2.2)) kk else _) = _
          rw [hm]
          exact e1
        · rcases List.mem_cons.mp he' with rfl | he'
          · exact e2 _ _ x y rfl ⟨⟨Int.le_refl _, Int.le_refl _⟩, ⟨x1, x2⟩, ⟨x3, x4⟩⟩
          · exact e3 e' he' hm' x y x1 x2 x3 x4
      | some J0 =>
        obtain ⟨p, p1, p2⟩ := jn_ok J0.1 (e.2.1, e.2.1) (fun x => jn J0.2.1 e.2.2.1 (fun y => jn J0.2.2 e.2.2.2 (fun z => rt_j N fm v t (some (x, y, z)) kk)))
        obtain ⟨q, q1, q2⟩ := jn_ok J0.2.1 e.2.2.1 (fun y => jn J0.2.2 e.2.2.2 (fun z => rt_j N fm v t (some (p, y, z)) kk))
        obtain ⟨s, s1, s2⟩ := jn_ok J0.2.2 e.2.2.2 (fun z => rt_j N fm v t (some (p, q, z)) kk)
        obtain ⟨a', e1, e2, e3⟩ := rt_j_ok t (some (p, q, s)) kk
        refine ⟨a', ?_, fun J k x y h1 h2 => ?_, fun e' he' hm' x y x1 x2 x3 x4 => ?_⟩
        · show (bif rt_m N fm v e then jn J0.1 (e.2.1, e.2.1) (fun x => jn J0.2.1 e.2.2.1 (fun y => jn J0.2.2 e.2.2.2 (fun z => rt_j N fm v t (some (x, y, z)) kk))) else _) = _
          rw [hm]
          exact p1.trans (q1.trans (s1.trans e1))
        · cases h1
          exact e2 _ k x y rfl ⟨p2 k (Or.inl h2.1), q2 x (Or.inl h2.2.1), s2 y (Or.inl h2.2.2)⟩
        · rcases List.mem_cons.mp he' with rfl | he'
          · exact e2 _ _ x y rfl ⟨p2 _ (Or.inr ⟨Int.le_refl _, Int.le_refl _⟩), q2 x (Or.inr ⟨x1, x2⟩), s2 y (Or.inr ⟨x3, x4⟩)⟩
          · exact e3 e' he' hm' x y x1 x2 x3 x4
/-- a form is within a range, from now on -/
noncomputable def asr {β : Type} (N : NS) (v : LF) (q : Int × Int) (pr : Option β) (kk : NS → Option β) : Option β := asm N (v.1 - q.1, v.2) pr (fun N1 => lf_sc (-1) v q.2 (fun f => asm N1 f pr kk))
theorem asr_ok {β : Type} {ρ : List Int} {N : NS} (hN : Nk ρ N) {v : LF} {x : Int} (hv : Lv ρ v x) {q : Int × Int} (h1 : q.1 ≤ x) (h2 : x ≤ q.2) {pr : Option β} {kk : NS → Option β} {r : β} (h : asr N v q pr kk = some r) : ∃ N', kk N' = some r ∧ Nk ρ N' := by
  unfold asr at h
  obtain ⟨N1, a1, a2⟩ := asm_ok hN (hv.dec q.1) (by omega) h
  obtain ⟨f, f1, f2⟩ := lf_sc_ok (-1) v q.2 (fun f => asm N1 f pr kk)
  rw [f1] at a1
  exact asm_ok a2 (f2 ρ _ hv) (by omega) a1
/-- the row of a place -/
def qof (s o : Nat) (I : LF) : LF := ((I.1 - Int.ofNat o) / Int.ofNat s, I.2.map (fun t => (t.1, t.2 / Int.ofNat s)))
/-- one row of good rows: its numbers -/
noncomputable def rf1 {β : Type} (tb : TB) (G : Nat × Nat × (Nat × Nat) × (Nat × Nat) × (Nat × Nat)) (n : LF) (e : CE) (N : NS) (m : MM) (pr : Option β) (kk : NS → Option β) : Option β :=
  bif Nat.beq e.1 G.2.2.1.1 && (lf_wf N.1.length (qof G.2.1 G.2.2.1.2 e.2.1) && (lf_sc (Int.ofNat G.2.1) (qof G.2.1 G.2.2.1.2 e.2.1) (Int.ofNat G.2.2.1.2) (fun I => lf_eq I e.2.1) && (pv1 N (qof G.2.1 G.2.2.1.2 e.2.1) && lf_add (-1) (qof G.2.1 G.2.2.1.2 e.2.1) (n.1 - 1, n.2) (pv1 N)))) then
    rt_j N G.1 e.2.2 tb.2.2.2.1 none (fun J => match J with
      | none => kk N
      | some J => asr N e.2.2 J.1 pr (fun N1 => lf_sc (Int.ofNat G.2.1) (qof G.2.1 G.2.2.1.2 e.2.1) (Int.ofNat G.2.2.2.1.2) (fun I2 => lf_sc (Int.ofNat G.2.1) (qof G.2.1 G.2.2.1.2 e.2.1) (Int.ofNat G.2.2.2.2.2) (fun I3 =>
        (match ca_fd G.2.2.2.1.1 I2 m.1 with
          | none => (match ca_fd G.2.2.2.2.1 I3 m.1 with
            | none => kk N1
            | some vb => asr N1 vb J.2.2 pr kk)
          | some va => asr N1 va J.2.1 pr (fun N2 => match ca_fd G.2.2.2.2.1 I3 m.1 with
            | none => kk N2
            | some vb => asr N2 vb J.2.2 pr kk))))))
  else kk N
theorem rf1_ok {β : Type} {tb : TB} {L : LSc} {ρ : List Int} {h0 h : PH} {N : NS} {m : MM} (hN : Nk ρ N) (hm : Mk tb L ρ h0 h m) {G : Nat × Nat × (Nat × Nat) × (Nat × Nat) × (Nat × Nat)} {n : LF} {y : Int} (hn : Lv ρ n y) (hG : ∀ k : Nat, (k : Int) < y → Rok tb.2.2.2.1 G.1 (h G.2.2.1.1 (G.2.2.1.2 + G.2.1 * k)) (h G.2.2.2.1.1 (G.2.2.2.1.2 + G.2.1 * k)) (h G.2.2.2.2.1 (G.2.2.2.2.2 + G.2.1 * k))) {e : CE} (he : e ∈ m.1) {pr : Option β} {kk : NS → Option β} {r : β} (hr : rf1 tb G n e N m pr kk = some r) : ∃ N', kk N' = some r ∧ Nk ρ N' := by
  unfold rf1 at hr
  cases hc : (Nat.beq e.1 G.2.2.1.1 && (lf_wf N.1.length (qof G.2.1 G.2.2.1.2 e.2.1) && (lf_sc (Int.ofNat G.2.1) (qof G.2.1 G.2.2.1.2 e.2.1) (Int.ofNat G.2.2.1.2) (fun I => lf_eq I e.2.1) && (pv1 N (qof G.2.1 G.2.2.1.2 e.2.1) && lf_add (-1) (qof G.2.1 G.2.2.1.2 e.2.1) (n.1 - 1, n.2) (pv1 N))))) with
  | false => rw [hc] at hr; exact ⟨N, hr, hN⟩
  | true =>
    rw [hc] at hr
    simp only [cond_true] at hr
    have w1 := bb_and hc
    have w2 := bb_and w1.2
    have w3 := bb_and w2.2
    have w4 := bb_and w3.2
    generalize qof G.2.1 G.2.2.1.2 e.2.1 = q at hr w2 w3 w4
    obtain ⟨x, hx⟩ := lf_wf_ok (ρ := ρ) w2.1 (by rw [hN.1.1]; exact Nat.le_refl _)
    have x0 := pv1_ok hN w4.1 hx
    obtain ⟨d, d1, d2⟩ := lf_add_ok (-1) q (n.1 - 1, n.2) (pv1 N)
    have w5 := w4.2
    rw [d1] at w5
    have x1 := pv1_ok hN w5 (d2 ρ _ _ hx (hn.dec 1))
    have PL : ∀ o : Nat, (Int.ofNat G.2.1 * x + Int.ofNat o).toNat = o + G.2.1 * x.toNat := fun o => by
      have e : Int.ofNat G.2.1 * x + Int.ofNat o = ((o + G.2.1 * x.toNat : Nat) : Int) := by
        rw [Int.natCast_add, Int.natCast_mul, Int.toNat_of_nonneg x0]
        show (G.2.1 : Int) * x + (o : Int) = _
        omega
      rw [e]
      rfl
    obtain ⟨I, i1, i2⟩ := lf_sc_ok (Int.ofNat G.2.1) q (Int.ofNat G.2.2.1.2) (fun I => lf_eq I e.2.1)
    have w6 := w3.1
    rw [i1] at w6
    have eI := lf_eq_ok w6
    obtain ⟨i, z, z1, z2, z3, z4⟩ := hm.1 e he
    have hi := i2 ρ _ hx
    rw [eI] at hi
    have ei := z1.fn hi
    rw [ei, bb_eq w1.1, PL] at z4
    obtain ⟨e0, f1, f2, f3, f4, f5, f6, f7⟩ := hG x.toNat (by omega)
    rw [z4] at f3
    have hmay : rt_m N G.1 e.2.2 e0 = true := by
      unfold rt_m
      have b := lf_b_ok hN.1 z3
      rw [show Nat.beq e0.1 G.1 = true from by rw [f2]; exact Nat.beq_refl _]
      have LE : ∀ a b : Int, a ≤ b → i_le a b = true := fun a b hab => by
        cases hh : i_le a b with
        | true => rfl
        | false => have := i_le_no hh; omega
      rw [LE _ _ (show lf_lo N.1 e.2.2 ≤ e0.2.1 by omega), LE _ _ (show e0.2.1 ≤ lf_hi N.1 e.2.2 by omega)]
      obtain ⟨nd, n1, n2⟩ := lf_sc_ok (-1) e.2.2 e0.2.1 (fun nd => !(pvn N (e.2.2.1 - e0.2.1, e.2.2.2) nd))
      rw [n1]
      cases hp : pvn N (e.2.2.1 - e0.2.1, e.2.2.2) nd with
      | false => rfl
      | true =>
        exfalso
        have hnd := n2 ρ _ z3
        rw [show -1 * z + e0.2.1 = -(z - e0.2.1) by omega] at hnd
        exact pvn_ok hN (z3.dec e0.2.1) hnd hp (by omega)
    obtain ⟨J, j1, -, j3⟩ := rt_j_ok (N := N) (fm := G.1) (v := e.2.2) tb.2.2.2.1 none (fun J => match J with
      | none => kk N
      | some J => asr N e.2.2 J.1 pr (fun N1 => lf_sc (Int.ofNat G.2.1) q (Int.ofNat G.2.2.2.1.2) (fun I2 => lf_sc (Int.ofNat G.2.1) q (Int.ofNat G.2.2.2.2.2) (fun I3 =>
        (match ca_fd G.2.2.2.1.1 I2 m.1 with
          | none => (match ca_fd G.2.2.2.2.1 I3 m.1 with
            | none => kk N1
            | some vb => asr N1 vb J.2.2 pr kk)
          | some va => asr N1 va J.2.1 pr (fun N2 => match ca_fd G.2.2.2.2.1 I3 m.1 with
            | none => kk N2
            | some vb => asr N2 vb J.2.2 pr kk))))))
    rw [j1] at hr
    obtain ⟨J', k1, k2⟩ := j3 e0 f1 hmay _ _ f4 f5 f6 f7
    rw [k1] at hr
    dsimp only at hr
    obtain ⟨N1, a1, a2⟩ := asr_ok hN z3 (by have := k2.1.1; omega) (by have := k2.1.2; omega) hr
    obtain ⟨I2, b1, b2⟩ := lf_sc_ok (Int.ofNat G.2.1) q (Int.ofNat G.2.2.2.1.2) (fun I2 => lf_sc (Int.ofNat G.2.1) q (Int.ofNat G.2.2.2.2.2) (fun I3 =>
        (match ca_fd G.2.2.2.1.1 I2 m.1 with
          | none => (match ca_fd G.2.2.2.2.1 I3 m.1 with
            | none => kk N1
            | some vb => asr N1 vb J'.2.2 pr kk)
          | some va => asr N1 va J'.2.1 pr (fun N2 => match ca_fd G.2.2.2.2.1 I3 m.1 with
            | none => kk N2
            | some vb => asr N2 vb J'.2.2 pr kk))))
    rw [b1] at a1
    obtain ⟨I3, c1, c2⟩ := lf_sc_ok (Int.ofNat G.2.1) q (Int.ofNat G.2.2.2.2.2) (fun I3 =>
        (match ca_fd G.2.2.2.1.1 I2 m.1 with
          | none => (match ca_fd G.2.2.2.2.1 I3 m.1 with
            | none => kk N1
            | some vb => asr N1 vb J'.2.2 pr kk)
          | some va => asr N1 va J'.2.1 pr (fun N2 => match ca_fd G.2.2.2.2.1 I3 m.1 with
            | none => kk N2
            | some vb => asr N2 vb J'.2.2 pr kk)))
    rw [c1] at a1
    have VB : ∀ {N2 : NS}, Nk ρ N2 → (match ca_fd G.2.2.2.2.1 I3 m.1 with | none => kk N2 | some vb => asr N2 vb J'.2.2 pr kk) = some r → ∃ N', kk N' = some r ∧ Nk ρ N' := fun hN2 hr2 => by
      cases hcb : ca_fd G.2.2.2.2.1 I3 m.1 with
      | none => rw [hcb] at hr2; exact ⟨_, hr2, hN2⟩
      | some vb =>
        rw [hcb] at hr2
        have v3 := (ca_at hm (c2 ρ _ hx) hcb).2
        rw [PL] at v3
        exact asr_ok hN2 v3 k2.2.2.1 k2.2.2.2 hr2
    cases hca : ca_fd G.2.2.2.1.1 I2 m.1 with
    | none => rw [hca] at a1; exact VB a2 a1
    | some va =>
      rw [hca] at a1
      have v2 := (ca_at hm (b2 ρ _ hx) hca).2
      rw [PL] at v2
      obtain ⟨N2, g1, g2⟩ := asr_ok a2 v2 k2.2.1.1 k2.2.1.2 a1
      exact VB g2 g1
noncomputable def rf_c {β : Type} (tb : TB) (G : Nat × Nat × (Nat × Nat) × (Nat × Nat) × (Nat × Nat)) (n : LF) (m : MM) (pr : Option β) (l : List CE) : NS → (NS → Option β) → Option β := List.rec (motive := fun _ => NS → (NS → Option β) → Option β) (fun N kk => kk N) (fun e _ ih N kk => rf1 tb G n e N m pr (fun N' => ih N' kk)) l
noncomputable def rf_g {β : Type} (tb : TB) (m : MM) (pr : Option β) (l : List GE) : NS → (NS → Option β) → Option β := List.rec (motive := fun _ => NS → (NS → Option β) → Option β) (fun N kk => kk N) (fun g _ ih N kk => match ax_nth tb.2.2.1 g.1 with
  | none => ih N kk
  | some G => rf_c tb G g.2 m pr m.1 N (fun N' => ih N' kk)) l
noncomputable def rfn {β : Type} (tb : TB) (N : NS) (m : MM) (pr : Option β) (kk : NS → Option β) : Option β := rf_g tb m pr m.2.1 N kk
theorem rf_c_ok {β : Type} {tb : TB} {L : LSc} {ρ : List Int} {h0 h : PH} {m : MM} (hm : Mk tb L ρ h0 h m) {G : Nat × Nat × (Nat × Nat) × (Nat × Nat) × (Nat × Nat)} {n : LF} {y : Int} (hn : Lv ρ n y) (hG : ∀ k : Nat, (k : Int) < y → Rok tb.2.2.2.1 G.1 (h G.2.2.1.1 (G.2.2.1.2 + G.2.1 * k)) (h G.2.2.2.1.1 (G.2.2.2.1.2 + G.2.1 * k)) (h G.2.2.2.2.1 (G.2.2.2.2.2 + G.2.1 * k))) {pr : Option β} : ∀ (l : List CE) {N : NS} {kk : NS → Option β} {r : β}, (∀ e ∈ l, e ∈ m.1) → Nk ρ N → rf_c tb G n m pr l N kk = some r → ∃ N', kk N' = some r ∧ Nk ρ N'
  | [], N, kk, r, _, hN, hr => ⟨N, hr, hN⟩
  | e :: t, N, kk, r, hl, hN, hr => by
    have hr : rf1 tb G n e N m pr (fun N' => rf_c tb G n m pr t N' kk) = some r := hr
    obtain ⟨N1, a1, a2⟩ := rf1_ok hN hm hn hG (hl e List.mem_cons_self) hr
    exact rf_c_ok hm hn hG t (fun e he => hl e (List.mem_cons_of_mem _ he)) a2 a1
theorem rf_g_ok {β : Type} {tb : TB} {L : LSc} {ρ : List Int} {h0 h : PH} {m : MM} (hm : Mk tb L ρ h0 h m) {pr : Option β} : ∀ (l : List GE) {N : NS} {kk : NS → Option β} {r : β}, (∀ e ∈ l, e ∈ m.2.1) → Nk ρ N → rf_g tb m pr l N kk = some r → ∃ N', kk N' = some r ∧ Nk ρ N'
  | [], N, kk, r, _, hN, hr => ⟨N, hr, hN⟩
  | g :: t, N, kk, r, hl, hN, hr => by
    have hl2 : ∀ e ∈ t, e ∈ m.2.1 := fun e he => hl e (List.mem_cons_of_mem _ he)
    have hr : (match ax_nth tb.2.2.1 g.1 with | none => rf_g tb m pr t N kk | some G => rf_c tb G g.2 m pr m.1 N (fun N' => rf_g tb m pr t N' kk)) = some r := hr
    obtain ⟨y, y1, G, y2, y3⟩ := hm.2.1 g (hl g List.mem_cons_self)
    rw [ax_nth_eq, y2] at hr
    obtain ⟨N1, a1, a2⟩ := rf_c_ok hm y1 y3 m.1 (fun _ he => he) hN hr
    exact rf_g_ok hm t hl2 a2 a1
theorem rfn_ok {β : Type} {tb : TB} {L : LSc} {ρ : List Int} {h0 h : PH} {N : NS} {m : MM} (hN : Nk ρ N) (hm : Mk tb L ρ h0 h m) {pr : Option β} {kk : NS → Option β} {r : β} (hr : rfn tb N m pr kk = some r) : ∃ N', kk N' = some r ∧ Nk ρ N' := rf_g_ok hm m.2.1 (fun _ he => he) hN hr
end
section
/-! 36.run -/
/-! THE MACHINE BY FORMS, 2: its steps -/
abbrev CT : Type := (Nat × Nat) × (Nat × Nat × Nat) × List (Nat × Nat) × List (Nat × Nat)
abbrev O2 : Type := Nat × Nat × AT
abbrev R2 : Type := Option (List O2)
abbrev GO2 : Type := MR → CT → Nat → List ME → NS → MM → L2 → List V2 → R2
abbrev TU : Type := Nat → Nat → List (Nat × Nat) × List (Nat × Nat)
abbrev UL : Type := List ((Nat × Nat × Nat) × UN)
noncomputable def um (tb : TB) (U : UN) (N : NS) (m : MM) (lv : L2) (st : List V2) : Option (NS × MM × List LF) := bds tb false U.1 N m lv st [] (fun N' m' mu => ax_fc U.2.1.1.length (fun n => gd (sub tb N' m' lv st mu n U.2.1 && sb_rg N' U.2.1.1 mu) (some (N', m', mu))))
noncomputable def uf (tb : TB) (a b pc : Nat) (N : NS) (m : MM) (lv : L2) (st : List V2) (l : UL) : Option (UN × NS × MM × List LF) := List.rec (motive := fun _ => Option (UN × NS × MM × List LF)) none (fun e _ ih => bif Nat.beq e.1.1 a && (Nat.beq e.1.2.1 b && Nat.beq e.1.2.2 pc) then (match um tb e.2 N m lv st with
  | some q => some (e.2, q)
  | none => ih) else ih) l
noncomputable def x_os (tb : TB) (N : NS) (m : MM) (mu : List LF) (W : List WE) (go : Nat → Nat → NS → MM → L2 → List V2 → R2) (l : List ON) : R2 := List.rec (motive := fun _ => R2) (some []) (fun o _ ih => two2 (ap tb N m mu W o.2.2.2 (go o.1 o.2.1)) ih) l
noncomputable def at2 (l : List (Nat × Nat)) (k : Nat) : Option Nat := List.rec (motive := fun _ => Option Nat) none (fun q _ ih => bif Nat.beq q.1 k then some q.2 else ih) l
noncomputable def al2 (l : List R2) : R2 := List.rec (motive := fun _ => R2) (some []) (fun x _ ih => two2 x ih) l
/-- an unknown, number by number -/
noncomputable def spl (N : NS) (x : Nat) (go : NS → R2) : R2 := i_fc (s_at N.1 x).1 (fun lo => i_fc (s_at N.1 x).2 (fun hi => gd (i_le (hi - lo) 300 && i_le lo hi) (al2 ((List.range (hi - lo + 1).toNat).map (fun d => i_fc (lo + Int.ofNat d) (fun v => ax_set N.1 x (v, v) (fun σ => go (σ, N.2.1, N.2.2))))))))
noncomputable def i32 (n : Nat) : Int := bif Nat.blt n 2147483648 then Int.ofNat n else Int.negSucc (4294967295 - n)
noncomputable def i64 (n : Nat) : Int := bif Nat.blt n 9223372036854775808 then Int.ofNat n else Int.negSucc (18446744073709551615 - n)
noncomputable def x_psh (lk : List Nat) (kk : V2 → R2) : R2 := lc lk (fun t lk => lc lk (fun n _ =>
    bif Nat.beq t 0 then gd (Nat.blt n 4294967296) (i_fc (i32 n) (fun z => kk (0, (z, []))))
    else bif Nat.beq t 1 then gd (Nat.blt n 18446744073709551616) (i_fc (i64 n) (fun z => kk (1, (z, [])))) else gd (Nat.beq t 6) (kk (6, (Int.ofNat n, [])))))
noncomputable def x_ld (tg : Nat → Bool) (N : NS) (lv : L2) (lk : List Nat) (kk : V2 → R2) : R2 := lc lk (fun i _ => ob (lk2 lv i) (fun v => gd (tg v.1) (bif Nat.ble v.1 1 then lf_nv N.1 v.2 (fun f => kk (v.1, f)) else kk v)))
def tgI (t : Nat) : Bool := Nat.beq t 0
def tgL (t : Nat) : Bool := Nat.beq t 1
def tgR (t : Nat) : Bool := Nat.beq t 2 || Nat.beq t 6
def vk1 (i : Nat) : Nat × V2 → Bool := fun q => !(Nat.beq q.1 i) && !(Nat.beq (q.1 + 1) i && Nat.beq q.2.1 1)
def vk2 (i : Nat) : Nat × V2 → Bool := fun q => !(Nat.beq q.1 i) && (!(Nat.beq q.1 (i + 1)) && !(Nat.beq (q.1 + 1) i && Nat.beq q.2.1 1))
/-- a cell's number -/
def cel (v : V2) : Nat := v.2.1.toNat
noncomputable def x_getf (tb : TB) (lk : List Nat) (N : NS) (m : MM) (st : List V2) (kk : NS → MM → List V2 → R2) : R2 := lc lk (fun ci lk => lc lk (fun k _ => lc st (fun a r =>
    bif Nat.beq a.1 2 then ob (ax_nth tb.1 (cel a)) (fun q => gd (Nat.beq q.1 ci && Nat.blt ci 100) (ob (ax_nth q.2.2 k) (fun f => bif Nat.ble f.1 1 then ld tb N m (cel a) (Int.ofNat k, []) (fun N' m' v => gd (bif Nat.beq f.1 0 then in32 N' v else in64 N' v) (kk N' m' ((f.1, v) :: r))) else gd (Nat.beq f.1 2) (kk N m ((2, (Int.ofNat f.2, [])) :: r)))))
    else gd (Nat.beq a.1 6 && (Nat.beq ci 200 && (Nat.beq (cel a) 1 || Nat.beq (cel a) 3))) (bif Nat.beq k 0 then kk N m ((6, (Int.ofNat (cel a + 1), [])) :: r) else kk N m ((0, (0, [])) :: r)))))
noncomputable def x_putf (tb : TB) (lk : List Nat) (N : NS) (m : MM) (st : List V2) (kk : MM → List V2 → R2) : R2 := lc lk (fun ci lk => lc lk (fun k lk => lc lk (fun tc _ => lc st (fun v st => lc st (fun a r => gd (Nat.beq a.1 2) (ob (ax_nth tb.1 (cel a)) (fun q => gd (Nat.beq q.1 ci && (Nat.blt ci 100 && !(Nat.beq (cel a) tb.2.2.2.2))) (ob (ax_nth q.2.2 k) (fun f =>
    gd ((Nat.beq f.1 0 && (Nat.beq v.1 0 && (Nat.beq tc 0 || (Nat.beq tc 1 && (pv1 N v.2 && lf_sc (-1) v.2 1 (pv1 N)))))) || (Nat.beq f.1 1 && (Nat.beq v.1 1 && Nat.beq tc 2))) (stq tb N m (cel a) (Int.ofNat k, []) v.2 (fun m' => kk m' r)))))))))))
/-- behind a load of a row's place -/
noncomputable def x_rf (tb : TB) (N : NS) (m : MM) (c : Nat) (kk : NS → R2) : R2 := bif isnil m.2.1 then kk N else bif gcell c tb.2.2.1 then rfn tb N m (some []) kk else kk N
noncomputable def x_bnd (N : NS) (I : LF) (n : Nat) : Bool := pv2 N I && lf_sc (-1) I (Int.ofNat n - 1) (pv2 N)
/-- array loads: kinds 100 int, 101 long, 102 byte, 103 references -/
noncomputable def x_ald (tb : TB) (sb : Nat → List Nat) (kd : Nat) (N : NS) (m : MM) (st : List V2) (kk : NS → MM → List V2 → R2) (re : NS → R2) : R2 := lc st (fun i st' => lc st' (fun a r => gd (Nat.beq i.1 0) (lf_nv N.1 i.2 (fun I =>
    bif Nat.beq a.1 2 then ob (ax_nth tb.1 (cel a)) (fun q =>
      bif Nat.beq kd 103 then gd (Nat.ble 103 q.1 && Nat.ble q.1 105) (bif cst I then gd (i_nn I.1 && Nat.blt I.1.toNat q.2.1) (ob (ax_nth q.2.2 I.1.toNat) (fun f => kk N m ((2, (Int.ofNat f.2, [])) :: r))) else lc I.2 (fun t _ => spl N t.1 re))
      else gd (Nat.beq q.1 kd && x_bnd N I q.2.1) (ld tb N m (cel a) I (fun N' m' v => gd (bif Nat.beq kd 101 then in64 N' v else in32 N' v) (x_rf tb N' m' (cel a) (fun N2 => kk N2 m' ((bif Nat.beq kd 101 then 1 else 0, v) :: r))))))
    else gd (Nat.beq a.1 6) (bif Nat.beq (cel a) 0 then gd (Nat.beq kd 100 && pv1 N I) (ld tb N m 999 (0, []) (fun N' m' L => gd (lf_add (-1) I (L.1 - 1, L.2) (pv1 N')) (ld tb N' m' 998 I (fun N2 m2 v => gd (in32 N2 v) (kk N2 m2 ((0, v) :: r))))))
      else gd (Nat.beq kd 102 && ((Nat.beq (cel a) 2 || Nat.beq (cel a) 4) && (cst I && i_nn I.1))) (ob (ax_nth (sb (cel a)) I.1.toNat) (fun n => gd (Nat.blt n 2147483648) (kk N m ((0, (Int.ofNat n, [])) :: r)))))))))
noncomputable def x_ast (tb : TB) (kd : Nat) (N : NS) (m : MM) (st : List V2) (kk : MM → List V2 → R2) : R2 := lc st (fun v st => lc st (fun i st' => lc st' (fun a r => gd (Nat.beq i.1 0 && (Nat.beq a.1 2 && Nat.beq v.1 (bif Nat.beq kd 101 then 1 else 0))) (lf_nv N.1 i.2 (fun I => lf_nv N.1 v.2 (fun w => ob (ax_nth tb.1 (cel a)) (fun q =>
    gd (Nat.beq q.1 kd && (x_bnd N I q.2.1 && ((!(Nat.beq (cel a) tb.2.2.2.2) || Nat.ble q.2.1 80) && (!(Nat.beq kd 102) || (pv1 N (w.1 + 128, w.2) && lf_sc (-1) w 127 (pv1 N)))))) (stq tb N m (cel a) I w (fun m' => kk m' r)))))))))
noncomputable def x_alen (tb : TB) (sb : Nat → List Nat) (N : NS) (m : MM) (a : V2) (kk : NS → MM → V2 → R2) : R2 :=
  bif Nat.beq a.1 2 then ob (ax_nth tb.1 (cel a)) (fun q => gd (Nat.ble 100 q.1 && (Nat.ble q.1 105 && Nat.blt q.2.1 2147483648)) (kk N m (0, (Int.ofNat q.2.1, []))))
  else gd (Nat.beq a.1 6) (bif Nat.beq (cel a) 0 then ld tb N m 999 (0, []) (fun N' m' L => kk N' m' (0, L)) else gd ((Nat.beq (cel a) 2 || Nat.beq (cel a) 4) && Nat.blt (sb (cel a)).length 2147483648) (kk N m (0, (Int.ofNat (sb (cel a)).length, []))))
/-- switches -/
noncomputable def x_sw (N0 : NS) (v : LF) (go : Nat → NS → R2) (d : Nat) (ks : List Nat) : NS → R2 := match ks with
  | k :: t :: r => fun N => bif Nat.blt k 4294967296 then br_eq N v (i32 k, []) (go t) (x_sw N0 v go d r) else none
  | _ => go d
def v_args (n : Nat) (st acc : List V2) : Option (List V2 × List V2) := match n with
  | 0 => some (acc, st)
  | k + 1 => match st with
    | v :: r => v_args k r (v :: acc)
    | [] => none
def v_locs (i : Nat) (l : List V2) : L2 := match l with
  | [] => []
  | v :: r => (i, v) :: v_locs (bif Nat.beq v.1 1 then i + 2 else i + 1) r
def v_wt (l : List V2) : Nat := match l with
  | [] => 0
  | v :: r => (bif Nat.beq v.1 1 then 2 else 1) + v_wt r
noncomputable def v_rcv (tb : TB) (ci : Nat) (as : List V2) : Bool := match as with
  | a :: _ => bif Nat.beq a.1 2 then (match ax_nth tb.1 (cel a) with
      | some q => Nat.beq q.1 ci && Nat.blt ci 100
      | none => false) else Nat.beq a.1 6 && (Nat.beq ci 200 && (Nat.beq (cel a) 1 || Nat.beq (cel a) 3))
  | [] => false
/-- what may be given back -/
noncomputable def v_rok (N : NS) (ret : Option FieldType) (op : Nat) (st : List V2) : Bool := match op with
  | 22 => (match st with
    | [v] => Nat.beq v.1 0 && (match ret with
      | some .int => true
      | some .boolean => pv1 N v.2 && lf_sc (-1) v.2 1 (pv1 N)
      | some .byte => pv1 N v.2 && lf_sc (-1) v.2 1 (pv1 N)
      | some .char => pv1 N v.2 && lf_sc (-1) v.2 65535 (pv1 N)
      | _ => false)
    | _ => false)
  | 23 => (match st with
    | [v] => Nat.beq v.1 1 && (match ret with
      | some .long => true
      | _ => false)
    | _ => false)
  | 24 => (match st with
    | [v] => Nat.beq v.1 2 && (match ret with
      | some (.object _) => true
      | _ => false)
    | _ => false)
  | 25 => (match st with
    | [] => (match ret with
      | none => true
      | _ => false)
    | _ => false)
  | _ => false
def ct0 (tu : TU) (a b : Nat) : CT := ((a, b), (99999, 0, 99999), tu a b)
/-- the key of a call that is remembered -/
noncomputable def x_pk (tu : TU) (a b : Nat) (N : NS) (as : List V2) : Option (Nat × LF) := ob (at2 (tu a b).2 99998) (fun kd => gd (Nat.blt a 100 && Nat.blt b 1000) (match as with
  | r :: s :: t => gd (Nat.beq r.1 2 && Nat.beq (cel r) 169) (bif Nat.beq kd 1 then gd (isnil t && (Nat.beq s.1 6 && i_nn s.2.1)) (some (100000 + (a * 1000 + b), (s.2.1, [])))
      else lc t (fun n u => gd (Nat.beq kd 2 && (isnil u && (Nat.beq s.1 0 && (cst s.2 && (i_nn s.2.1 && (Nat.beq n.1 0 && (pv1 N n.2 && lf_sc (-1) n.2 4095 (pv1 N)))))))) (lf_nv N.1 n.2 (fun f => i_fc (f.1 + 4096 * s.2.1) (fun z => some (200000 + (a * 1000 + b), (z, f.2)))))))
  | [r] => gd (Nat.beq kd 3 && (Nat.beq r.1 2 && Nat.beq (cel r) 169)) (some (300000 + (a * 1000 + b), ((0 : Int), [])))
  | [] => none))
noncomputable def x_call (tb : TB) (tu : TU) (ul : UL) (mt : Nat → Nat → Option MR) (ih : GO2) (M : MR) (lk : List Nat) (N : NS) (m : MM) (st : List V2) (go : NS → MM → List V2 → R2) : R2 := lc lk (fun a lk => lc lk (fun b lk => lc lk (fun kc lk => lc lk (fun ci _ => ob (mt a b) (fun C => ob (v_args C.2.2.2.2.2.1 st []) (fun q =>
    gd (Nat.blt C.2.2.2.2.1.frames M.2.2.2.2.1.frames && (Nat.ble (8 + (C.2.2.1 + 11) + C.2.2.2.2.1.locals) M.2.2.2.2.1.locals && (Nat.ble (v_wt q.2) 8 && (Nat.beq C.2.2.2.2.1.cells 0 && (Nat.beq C.2.2.2.2.1.slots 0 && (Nat.ble (v_wt q.1) C.2.2.1 && (decide (C.1.name ≠ "<init>") && (Nat.beq kc 2 || (Nat.beq kc 0 && v_rcv tb ci q.1)))))))))
      (match x_pk tu a b N q.1 with
        | none => (match uf tb a b 0 N m (v_locs 0 q.1) [] ul with
          | some u => x_os tb u.2.1 u.2.2.1 u.2.2.2 u.1.2.2.2.1 (fun k _ N2 m2 _ st2 => gd (Nat.beq k 0) (go N2 m2 (st2 ++ q.2))) u.1.2.2.1
          | none => ob (ih C (ct0 tu a b) 0 C.2.2.2.2.2.2 N m (v_locs 0 q.1) []) (fun outs => al2 (outs.map (fun o => gd (Nat.beq o.1 0) (go o.2.2.1 o.2.2.2.1 (o.2.2.2.2.2 ++ q.2))))))
        | some key => (match ca_fd key.1 key.2 m.2.2.2.2.2 with
          | some v => lf_nv N.1 v (fun v' => go N m ((0, v') :: q.2))
          | none => (match uf tb a b 0 N m (v_locs 0 q.1) [] ul with
            | some u => gd (isnil u.1.2.2.2.1) (x_os tb u.2.1 u.2.2.1 u.2.2.2 u.1.2.2.2.1 (fun k _ N2 m2 _ st2 => gd (Nat.beq k 0) (lc st2 (fun v r => gd (isnil r && Nat.beq v.1 0) (go N2 (m2.1, m2.2.1, m2.2.2.1, m2.2.2.2.1, m2.2.2.2.2.1, (key.1, key.2, v.2) :: m2.2.2.2.2.2) (v :: q.2))))) u.1.2.2.1)
            | none => none)))))))))
noncomputable def x_inv (tb : TB) (tu : TU) (ul : UL) (mt : Nat → Nat → Option MR) (ih : GO2) (M : MR) (lk : List Nat) (N : NS) (m : MM) (st : List V2) (go : NS → MM → List V2 → R2) : R2 := lc lk (fun x _ =>
    bif Nat.beq x 900 then none
    else bif Nat.beq x 901 then lc st (fun n st => lc st (fun dp st => lc st (fun d st => lc st (fun sq st => lc st (fun s r =>
      gd (Nat.beq n.1 0 && (Nat.beq dp.1 0 && (Nat.beq d.1 2 && (Nat.beq sq.1 0 && (Nat.beq s.1 2 && (Nat.ble 1 M.2.2.2.2.1.frames && (Nat.ble (v_wt r + 18) M.2.2.2.2.1.locals))))))) (ob (ax_nth tb.1 (cel s)) (fun q0 => ob (ax_nth tb.1 (cel d)) (fun q1 => gd (Nat.beq q0.1 q1.1 && (Nat.beq q0.1 100 || Nat.beq q0.1 101)) (cpq tb N m (cel s) (cel d) sq.2 dp.2 n.2 (fun m' => go N m' r))))))))))
    else bif Nat.beq x 902 then lc st (fun b st => lc st (fun a r => gd (Nat.beq a.1 0 && (Nat.beq b.1 0 && (Nat.ble 1 M.2.2.2.2.1.frames && Nat.ble (v_wt r + 13) M.2.2.2.2.1.locals))) (n_min N a.2 b.2 (fun N' v => go N' m ((0, v) :: r)))))
    else bif Nat.beq x 903 then lc lk (fun _ l1 => lc l1 (fun y _ => match mt 903 y with
      | some _ => none
      | none => lc st (fun b st => lc st (fun a r => gd (Nat.beq a.1 0 && (Nat.beq b.1 0 && (Nat.ble 1 M.2.2.2.2.1.frames && Nat.ble (v_wt r + 13) M.2.2.2.2.1.locals))) (n_max N a.2 b.2 (fun N' v => go N' m ((0, v) :: r)))))))
    else x_call tb tu ul mt ih M lk N m st go)
noncomputable def x_bin (t : Nat) (f : NS → LF → LF → (NS → LF → R2) → R2) (N : NS) (st : List V2) (kk : NS → List V2 → R2) : R2 := lc st (fun b st => lc st (fun a r => gd (Nat.beq a.1 t && Nat.beq b.1 t) (f N a.2 b.2 (fun N' v => kk N' ((t, v) :: r)))))
/-- 0 to 7 -/
noncomputable def x_b0 (op : Nat) (lk : List Nat) (N : NS) (lv : L2) (st : List V2) (kk : NS → L2 → List V2 → R2) : R2 :=
  bif Nat.ble op 3 then (bif Nat.beq op 0 then x_psh lk (fun v => kk N lv (v :: st)) else x_ld (bif Nat.beq op 1 then tgI else bif Nat.beq op 2 then tgL else tgR) N lv lk (fun v => kk N lv (v :: st)))
  else bif Nat.ble op 6 then lc lk (fun i _ => lc st (fun v r => gd (bif Nat.beq op 4 then tgI v.1 else bif Nat.beq op 5 then tgL v.1 else tgR v.1) (kk N ((i, v) :: flt (bif Nat.beq op 5 then vk2 i else vk1 i) lv) r)))
  else lc lk (fun i lk => lc lk (fun n _ => ob (lk2 lv i) (fun v => gd (Nat.beq v.1 0 && Nat.blt n 4294967296) (lf_nv N.1 v.2 (fun f => n_ib 0 N f (i32 n, []) (fun N' w => kk N' ((i, (0, w)) :: flt (vk1 i) lv) st))))))
/-- 26 to 52, 59 to 61 -/
noncomputable def x_b3 (op : Nat) (N : NS) (st : List V2) (kk : NS → List V2 → R2) : R2 :=
  bif Nat.ble op 34 then (bif Nat.beq op 29 then x_bin 0 n_a255 N st kk else x_bin 0 (n_ib (op - 26)) N st kk)
  else bif Nat.ble op 36 then x_bin 0 (fun N a b k => n_dr (op - 35) N a b k (n_f32 N)) N st kk
  else bif Nat.ble op 41 then x_bin 1 (n_lb (op - 37)) N st kk
  else bif Nat.beq op 42 then lc st (fun b st => lc st (fun a r => gd (Nat.beq a.1 1 && Nat.beq b.1 0) (n_f64 N (fun N' v => kk N' ((1, v) :: r)))))
  else bif Nat.beq op 43 then lc st (fun b st => lc st (fun a r => gd (Nat.beq a.1 1 && Nat.beq b.1 1) (br_lt N a.2 b.2 (fun N' => kk N' ((0, (-1, [])) :: r)) (fun N1 => br_lt N1 b.2 a.2 (fun N' => kk N' ((0, (1, [])) :: r)) (fun N' => kk N' ((0, (0, [])) :: r))))))
  else bif Nat.ble op 47 then lc st (fun a r => gd (Nat.beq a.1 0) (n_un (op - 44) N a.2 (fun N' v => kk N' ((0, v) :: r))))
  else bif Nat.beq op 48 then lc st (fun a r => gd (Nat.beq a.1 0) (kk N ((1, a.2) :: r)))
  else bif Nat.beq op 49 then lc st (fun a r => gd (Nat.beq a.1 1) (n_l2i N a.2 (fun N' v => kk N' ((0, v) :: r))))
  else bif Nat.ble op 52 then lc st (fun a r => bif Nat.beq op 50 then gd (!(Nat.beq a.1 1)) (kk N (a :: a :: r))
    else bif Nat.beq op 51 then (bif Nat.beq a.1 1 then kk N (a :: a :: r) else lc r (fun b r' => gd (!(Nat.beq b.1 1)) (kk N (a :: b :: a :: b :: r'))))
    else gd (!(Nat.beq a.1 1)) (kk N r))
  else bif Nat.beq op 59 then lc st (fun a r => gd (Nat.beq a.1 1) (kk N r))
  else x_bin 1 (fun N a b k => n_dr (op - 60) N a b k (n_f64 N)) N st kk
noncomputable def x_st (tb : TB) (tu : TU) (ul : UL) (sb : Nat → List Nat) (mt : Nat → Nat → Option MR) (ih : GO2) : GO2 := fun M ct pc cd N m lv st => lc cd (fun e tl => gd (Nat.beq e.1 pc)
    (bif Nat.ble e.2.1 7 then x_b0 e.2.1 e.2.2.2.1 N lv st (fun N' lv' st' => ih M ct (e.1 + e.2.2.1) tl N' m lv' st')
     else bif Nat.ble e.2.1 17 then (bif Nat.beq e.2.1 8 then x_getf tb e.2.2.2.1 N m st (fun N' m' st' => ih M ct (e.1 + e.2.2.1) tl N' m' lv st')
       else bif Nat.beq e.2.1 9 then x_putf tb e.2.2.2.1 N m st (fun m' st' => ih M ct (e.1 + e.2.2.1) tl N m' lv st')
       else bif Nat.ble e.2.1 13 then x_ald tb sb (e.2.1 + 90) N m st (fun N' m' st' => ih M ct (e.1 + e.2.2.1) tl N' m' lv st') (fun N' => ih M ct e.1 cd N' m lv st)
       else gd (Nat.ble e.2.1 16) (x_ast tb (e.2.1 + 86) N m st (fun m' st' => ih M ct (e.1 + e.2.2.1) tl N m' lv st')))
     else bif Nat.ble e.2.1 25 then (bif Nat.ble e.2.1 19 then lc e.2.2.2.1 (fun t lk => lc lk (fun c _ => gd (Nat.blt c 6)
           (bif Nat.beq e.2.1 18 then lc st (fun b st => lc st (fun a r => gd (Nat.beq a.1 0 && Nat.beq b.1 0) (bc_c c N a.2 b.2 (fun N' => ih M ct t (ax_jmp M.2.2.2.2.2.2 t) N' m lv r) (fun N' => ih M ct (e.1 + e.2.2.1) tl N' m lv r))))
            else lc st (fun a r => gd (Nat.beq a.1 0) (bc_c c N a.2 (0, []) (fun N' => ih M ct t (ax_jmp M.2.2.2.2.2.2 t) N' m lv r) (fun N' => ih M ct (e.1 + e.2.2.1) tl N' m lv r))))))
       else bif Nat.beq e.2.1 20 then lc e.2.2.2.1 (fun t _ => ih M ct t (ax_jmp M.2.2.2.2.2.2 t) N m lv st)
       else bif Nat.beq e.2.1 21 then x_inv tb tu ul mt ih M e.2.2.2.1 N m st (fun N' m' st' => ih M ct (e.1 + e.2.2.1) tl N' m' lv st')
       else gd (v_rok N M.2.2.2.1 e.2.1 st && Nat.beq e.2.2.1 1) (some [(0, e.1, N, m, lv, st)]))
     else bif Nat.ble e.2.1 52 then x_b3 e.2.1 N st (fun N' st' => ih M ct (e.1 + e.2.2.1) tl N' m lv st')
     else bif Nat.beq e.2.1 53 then lc st (fun a r => x_alen tb sb N m a (fun N' m' v => ih M ct (e.1 + e.2.2.1) tl N' m' lv (v :: r)))
     else bif Nat.beq e.2.1 56 then lc e.2.2.2.1 (fun x _ => bif Nat.beq x 0 then ih M ct (e.1 + e.2.2.1) tl N m lv ((0, (1, [])) :: st) else ih M ct (e.1 + e.2.2.1) tl N m lv ((7, (0, [])) :: st))
     else bif Nat.beq e.2.1 57 then lc st (fun v r => gd (Nat.beq v.1 0) (lc e.2.2.2.1 (fun d lk => lc lk (fun lo lk => lc lk (fun hi ks => gd (Nat.blt lo 4294967296 && Nat.blt hi 4294967296)
           (br_lt N v.2 (i32 lo, []) (fun N' => ih M ct d (ax_jmp M.2.2.2.2.2.2 d) N' m lv r) (fun N1 => br_lt N1 (i32 hi, []) v.2 (fun N' => ih M ct d (ax_jmp M.2.2.2.2.2.2 d) N' m lv r) (x_sw N v.2 (fun t N' => rfn tb N' m (some []) (fun N2 => ih M ct t (ax_jmp M.2.2.2.2.2.2 t) N2 m lv r)) d ks))))))))
     else bif Nat.beq e.2.1 58 then lc st (fun v r => gd (Nat.beq v.1 0) (lc e.2.2.2.1 (fun d ks => x_sw N v.2 (fun t N' => rfn tb N' m (some []) (fun N2 => ih M ct t (ax_jmp M.2.2.2.2.2.2 t) N2 m lv r)) d ks N)))
     else gd (Nat.ble 59 e.2.1 && (Nat.ble e.2.1 61 && Nat.beq e.2.2.1 1)) (x_b3 e.2.1 N st (fun N' st' => ih M ct (e.1 + e.2.2.1) tl N' m lv st'))))
noncomputable def x_sp (tb : TB) (tu : TU) (ul : UL) (sb : Nat → List Nat) (mt : Nat → Nat → Option MR) (ih : GO2) : GO2 := fun M ct pc cd N m lv st => match at2 ct.2.2.2 pc with
  | none => x_st tb tu ul sb mt ih M ct pc cd N m lv st
  | some i => (match lk2 lv i with
    | none => none
    | some v => gd (Nat.ble v.1 1) (lf_nv N.1 v.2 (fun f => bif cst f then x_st tb tu ul sb mt ih M ct pc cd N m lv st else lc f.2 (fun t _ => spl N t.1 (fun N' => x_st tb tu ul sb mt ih M ct pc cd N' m lv st)))))
noncomputable def hc_k (N : NS) (lv : L2) (u : Nat) : Bool := match u with
  | 0 => false
  | k + 1 => (match lk2 lv k with
    | none => false
    | some v => lf_nv N.1 v.2 (fun f => cst f))
noncomputable def x_bd (tb : TB) (tu : TU) (ul : UL) (sb : Nat → List Nat) (mt : Nat → Nat → Option MR) (ih : GO2) : GO2 := fun M ct pc cd N m lv st =>
  bif Nat.beq pc ct.2.1.1 || (Nat.blt pc ct.2.1.2.1 || Nat.blt ct.2.1.2.2 pc) then some [(1, pc, N, m, lv, st)]
  else (match at2 ct.2.2.1 pc with
    | none => x_sp tb tu ul sb mt ih M ct pc cd N m lv st
    | some u => bif hc_k N lv u then x_sp tb tu ul sb mt ih M ct pc cd N m lv st
      else (match uf tb ct.1.1 ct.1.2 (pc + 100000) N m lv st ul with
        | none => x_sp tb tu ul sb mt ih M ct pc cd N m lv st
        | some q => x_os tb q.2.1 q.2.2.1 q.2.2.2 q.1.2.2.2.1 (fun k pc' N2 m2 lv2 st2 => bif Nat.beq k 0 then some [(0, pc', N2, m2, lv2, st2)] else ih M ct pc' (ax_jmp M.2.2.2.2.2.2 pc') N2 m2 lv2 st2) q.1.2.2.1))
noncomputable def x_run (tb : TB) (tu : TU) (ul : UL) (sb : Nat → List Nat) (mt : Nat → Nat → Option MR) (n : Nat) : GO2 := Nat.rec (motive := fun _ => GO2) (fun _ _ _ _ _ _ _ _ => none) (fun _ ih => x_bd tb tu ul sb mt ih) n
end
section
/-! 37.so1 -/
/-! THE MACHINE BY FORMS is sound, 1: numbers, locals -/
theorem i32_ok {n : Nat} (h : n < 4294967296) : (nI n).toInt = i32 n := by
  rw [nI_toInt_bmod, Int.bmod_def]
  unfold i32
  cases hb : Nat.blt n 2147483648 with
  | true =>
    have := bb_lt hb
    show _ = (n : Int)
    omega
  | false =>
    have := bb_nlt hb
    show _ = Int.negSucc (4294967295 - n)
    rw [Int.negSucc_eq]
    omega
theorem i64_ok {n : Nat} (h : n < 18446744073709551616) : (lN n).toInt = i64 n := by
  rw [lN_toInt_bmod, Int.bmod_def]
  unfold i64
  cases hb : Nat.blt n 9223372036854775808 with
  | true =>
    have := bb_lt hb
    show _ = (n : Int)
    omega
  | false =>
    have := bb_nlt hb
    show _ = Int.negSucc (18446744073709551615 - n)
    rw [Int.negSucc_eq]
    omega
theorem Vk.tg {sp ad : Nat → Nat} {ρ : List Int} {v : V2} {V : Value} (h : Vk sp ad ρ v V) (ht : tgR v.1 = true) : isRf V := by
  rcases (Bool.or_eq_true _ _).mp ht with e | e
  · exact Or.inl ⟨_, h.r e⟩
  · exact Or.inr ⟨_, h.s e⟩
theorem Lk.flt1 {sp ad : Nat → Nat} {ρ : List Int} {i : Nat} : ∀ {lv : L2} {LV : LVs}, Lk sp ad ρ lv LV → Lk sp ad ρ (flt (vk1 i) lv) (LV.filter (pk1 i))
  | [], [], _ => trivial
  | q :: r, V :: R, h => by
    have e : vk1 i q = pk1 i V := by
      unfold vk1 pk1
      rw [h.1.2.cat, ← h.1.1, nbeq, nbeq]
      cases Nat.beq q.2.1 1 <;> rfl
    have e2 : flt (vk1 i) (q :: r) = bif vk1 i q then q :: flt (vk1 i) r else flt (vk1 i) r := rfl
    rw [e2, List.filter_cons, e]
    cases pk1 i V
    · exact Lk.flt1 h.2
    · exact ⟨h.1, Lk.flt1 h.2⟩
theorem Lk.flt2 {sp ad : Nat → Nat} {ρ : List Int} {i : Nat} : ∀ {lv : L2} {LV : LVs}, Lk sp ad ρ lv LV → Lk sp ad ρ (flt (vk2 i) lv) (LV.filter (pk2 i))
  | [], [], _ => trivial
  | q :: r, V :: R, h => by
    have e : vk2 i q = pk2 i V := by
      unfold vk2 pk2
      rw [h.1.2.cat, ← h.1.1, nbeq, nbeq, nbeq]
      cases Nat.beq q.2.1 1 <;> rfl
    have e2 : flt (vk2 i) (q :: r) = bif vk2 i q then q :: flt (vk2 i) r else flt (vk2 i) r := rfl
    rw [e2, List.filter_cons, e]
    cases pk2 i V
    · exact Lk.flt2 h.2
    · exact ⟨h.1, Lk.flt2 h.2⟩
theorem Vk.nv {sp ad : Nat → Nat} {ρ : List Int} {v : V2} {V : Value} (h : Vk sp ad ρ v V) (hb : Nat.ble v.1 1 = true) {f : LF} (hf : ∀ x, Lv ρ v.2 x → Lv ρ f x) : Vk sp ad ρ (v.1, f) V := by
  obtain ⟨t, g⟩ := v
  have := bb_le hb
  rcases (show t = 0 ∨ t = 1 by dsimp only at this; omega) with rfl | rfl
  · obtain ⟨x, a, b⟩ := h; exact ⟨x, a, hf _ b⟩
  · obtain ⟨x, a, b⟩ := h; exact ⟨x, a, hf _ b⟩
section SO
variable {tb : TB} {sb : Nat → List Nat} {dC : Nat → ClassId} {dI : Nat → Nat → Nat} {dA : Nat → ClassId} {sp : Nat → Nat} {H0 : Heap} {l : Launch} {ρ0 : List Nat} {ad : Nat → Nat} {rf : Nat → Nat → Option Nat} {L : LSc}
variable {M : MR} {pc len : Nat} {ins : Instr} {lk : List Nat} {h0 h : PH} {ρ : List Int} {N : NS} {m : MM} {lv : L2} {st : List V2} {LV : LVs} {SV : List Value} {P : PO} {outs : List O2}
theorem so_b0 {op : Nat} {kk : NS → L2 → List V2 → R2} (hdg : Dg M pc ins len lk) (hlen : len = ax_len ins) (hlk : lok mth M pc ins lk = true) (ho : ax_op ins = op) (ho2 : op ≤ 7) (hG : Ga tb L sp ad ρ h0 h (N, m, lv, st) LV SV) (hr : x_b0 op lk N lv st kk = some outs)
    (GK : ∀ N' lv' st', kk N' lv' st' = some outs → ∀ ρ' LV' SV', Sb ρ ρ' → Ga tb L sp ad ρ' h0 h (N', m, lv', st') LV' SV' → Wp sb dC dI dA sp H0 l ρ0 ad rf tb.1 M (pc + len) h LV' SV' P) : Wp sb dC dI dA sp H0 l ρ0 ad rf tb.1 M pc h LV SV P := by
  obtain ⟨hN, hm, hT, hL, hS⟩ := id hG
  unfold x_b0 at hr
  rcases (show op = 0 ∨ (op = 1 ∨ op = 2 ∨ op = 3) ∨ (op = 4 ∨ op = 6) ∨ op = 5 ∨ op = 7 by omega) with e | e | e | e | e
  · subst e
    have hr1 : x_psh lk (fun v => kk N lv (v :: st)) = some outs := hr
    unfold x_psh at hr1
    obtain ⟨t, lk1, rfl, hr2⟩ := lc_s hr1
    obtain ⟨n, lk2', rfl, hr3⟩ := lc_s hr2
    refine wp_push hdg hlen hlk ho ?_
    cases h0' : Nat.beq t 0 with
    | true =>
      rw [h0'] at hr3
      obtain ⟨g, hr4⟩ := gd_s (b := Nat.blt n 4294967296) hr3
      rw [i_fc_eq] at hr4
      have e0 := bb_eq h0'
      subst e0
      exact GK _ _ _ hr4 ρ LV _ (Sb.rf ρ) ⟨hN, hm, hT, hL, ⟨nI n, rfl, by rw [i32_ok (bb_lt g)]; exact Lv.c ρ _⟩, hS⟩
    | false =>
      rw [h0'] at hr3
      simp only [cond_false] at hr3
      cases h1' : Nat.beq t 1 with
      | true =>
        rw [h1'] at hr3
        obtain ⟨g, hr5⟩ := gd_s (b := Nat.blt n 18446744073709551616) hr3
        rw [i_fc_eq] at hr5
        have e0 := bb_eq h1'
        subst e0
        exact GK _ _ _ hr5 ρ LV _ (Sb.rf ρ) ⟨hN, hm, hT, hL, ⟨lN n, rfl, by rw [i64_ok (bb_lt g)]; exact Lv.c ρ _⟩, hS⟩
      | false =>
        rw [h1'] at hr3
        simp only [cond_false] at hr3
        obtain ⟨g, hr6⟩ := gd_s hr3
        have e0 := bb_eq g
        subst e0
        exact GK _ _ _ hr6 ρ LV _ (Sb.rf ρ) ⟨hN, hm, hT, hL, rfl, hS⟩
  · have hr7 : x_ld (bif Nat.beq op 1 then tgI else bif Nat.beq op 2 then tgL else tgR) N lv lk (fun v => kk N lv (v :: st)) = some outs := by
      rcases e with rfl | rfl | rfl <;> exact hr
    unfold x_ld at hr7
    obtain ⟨i, lk1, rfl, hr8⟩ := lc_s hr7
    obtain ⟨v, v1, hr9⟩ := ob_s hr8
    obtain ⟨g, hr10⟩ := gd_s hr9
    obtain ⟨V, V1, V2⟩ := lk2_ok hL v1
    have TG : (ax_op ins = 1 ∧ ∃ x, V = .int x) ∨ (ax_op ins = 2 ∧ ∃ x, V = .long x) ∨ (ax_op ins = 3 ∧ isRf V) := by
      rcases e with rfl | rfl | rfl
      · obtain ⟨x, a, -⟩ := V2.i g; exact Or.inl ⟨ho, x, a⟩
      · obtain ⟨x, a, -⟩ := V2.l g; exact Or.inr (Or.inl ⟨ho, x, a⟩)
      · exact Or.inr (Or.inr ⟨ho, V2.tg g⟩)
    refine wp_load hdg hlen hlk V1 TG ?_
    cases hb : Nat.ble v.1 1 with
    | true =>
      rw [hb] at hr10
      simp only [cond_true] at hr10
      obtain ⟨f, f1, f2⟩ := lf_nv_ok hN.1 v.2 (fun f => kk N lv ((v.1, f) :: st))
      have hr11 : lf_nv N.1 v.2 (fun f => kk N lv ((v.1, f) :: st)) = some outs := hr10
      rw [f1] at hr11
      exact GK _ _ _ hr11 ρ LV _ (Sb.rf ρ) ⟨hN, hm, hT, hL, V2.nv hb f2, hS⟩
    | false =>
      rw [hb] at hr10
      exact GK _ _ _ hr10 ρ LV _ (Sb.rf ρ) ⟨hN, hm, hT, hL, V2, hS⟩
  · have hr12 : lc lk (fun i _ => lc st (fun v r => gd (bif Nat.beq op 4 then tgI v.1 else bif Nat.beq op 5 then tgL v.1 else tgR v.1) (kk N ((i, v) :: flt (bif Nat.beq op 5 then vk2 i else vk1 i) lv) r))) = some outs := by
      rcases e with rfl | rfl <;> exact hr
    obtain ⟨i, lk1, rfl, hr13⟩ := lc_s hr12
    obtain ⟨v, r, rfl, hr14⟩ := lc_s hr13
    obtain ⟨g, hr15⟩ := gd_s hr14
    obtain ⟨V, R, rfl, hV, hS2⟩ := hS.cons
    have TG : (ax_op ins = 4 ∧ ∃ x, V = .int x) ∨ (ax_op ins = 6 ∧ isRf V) := by
      rcases e with rfl | rfl
      · obtain ⟨x, a, -⟩ := hV.i g; exact Or.inl ⟨ho, x, a⟩
      · exact Or.inr ⟨ho, hV.tg g⟩
    have hr16 : kk N ((i, v) :: flt (vk1 i) lv) r = some outs := by
      rcases e with rfl | rfl <;> exact hr15
    exact wp_sto1 hdg hlen hlk TG (GK _ _ _ hr16 ρ _ _ (Sb.rf ρ) ⟨hN, hm, hT, ⟨⟨rfl, hV⟩, hL.flt1⟩, hS2⟩)
  · subst e
    have hr17 : lc lk (fun i _ => lc st (fun v r => gd (tgL v.1) (kk N ((i, v) :: flt (vk2 i) lv) r))) = some outs := hr
    obtain ⟨i, lk1, rfl, hr18⟩ := lc_s hr17
    obtain ⟨v, r, rfl, hr19⟩ := lc_s hr18
    obtain ⟨g, hr20⟩ := gd_s hr19
    obtain ⟨V, R, rfl, hV, hS2⟩ := hS.cons
    obtain ⟨x, rfl, hx⟩ := hV.l g
    exact wp_sto2 hdg hlen hlk ho (GK _ _ _ hr20 ρ _ _ (Sb.rf ρ) ⟨hN, hm, hT, ⟨⟨rfl, hV⟩, hL.flt2⟩, hS2⟩)
  · subst e
    have hr21 : lc lk (fun i lk => lc lk (fun n _ => ob (lk2 lv i) (fun v => gd (Nat.beq v.1 0 && Nat.blt n 4294967296) (lf_nv N.1 v.2 (fun f => n_ib 0 N f (i32 n, []) (fun N' w => kk N' ((i, (0, w)) :: flt (vk1 i) lv) st)))))) = some outs := hr
    obtain ⟨i, lk1, rfl, hr22⟩ := lc_s hr21
    obtain ⟨n, lk2', rfl, hr23⟩ := lc_s hr22
    obtain ⟨v, v1, hr24⟩ := ob_s hr23
    obtain ⟨g, hr25⟩ := gd_s hr24
    have w := bb_and g
    obtain ⟨V, V1, V2⟩ := lk2_ok hL v1
    obtain ⟨x, rfl, hx⟩ := V2.i w.1
    obtain ⟨f, f1, f2⟩ := lf_nv_ok hN.1 v.2 (fun f => n_ib 0 N f (i32 n, []) (fun N' w => kk N' ((i, (0, w)) :: flt (vk1 i) lv) st))
    rw [f1] at hr25
    obtain ⟨N', u, ρ', k1, k2, k3, k4⟩ := n_ib_ok hN (show 0 < 9 by omega) (f2 _ hx) (y := nI n) (b := (i32 n, [])) (by rw [i32_ok (bb_lt w.2)]; exact Lv.c ρ _) hr25
    exact wp_iinc hdg hlen hlk ho V1 (GK _ _ _ k1 ρ' _ _ k2 ⟨k3, hm.mono k2, hT, ⟨⟨rfl, ⟨_, rfl, k4⟩⟩, (hL.mono k2).flt1⟩, hS.mono k2⟩)
theorem so_bin {t : Nat} {f : NS → LF → LF → (NS → LF → R2) → R2} {kk : NS → List V2 → R2} (hG : Ga tb L sp ad ρ h0 h (N, m, lv, st) LV SV) (hr : x_bin t f N st kk = some outs) : ∃ a b r A B R, st = b :: a :: r ∧ SV = B :: A :: R ∧ a.1 = t ∧ b.1 = t ∧ Vk sp ad ρ a A ∧ Vk sp ad ρ b B ∧ Sk sp ad ρ r R ∧ f N a.2 b.2 (fun N' v => kk N' ((t, v) :: r)) = some outs := by
  obtain ⟨hN, hm, hT, hL, hS⟩ := hG
  unfold x_bin at hr
  obtain ⟨b, st1, rfl, hr26⟩ := lc_s hr
  obtain ⟨a, r, rfl, hr27⟩ := lc_s hr26
  obtain ⟨g, hr28⟩ := gd_s hr27
  have w := bb_and g
  obtain ⟨B, R1, rfl, hB, hS1⟩ := hS.cons
  obtain ⟨A, R, rfl, hA, hS2⟩ := hS1.cons
  exact ⟨a, b, r, A, B, R, rfl, rfl, bb_eq w.1, bb_eq w.2, hA, hB, hS2, hr28⟩
theorem so_b3 {op : Nat} {kk : NS → List V2 → R2} (hdg : Dg M pc ins len lk) (hlen : op < 57 → len = ax_len ins) (hlen1 : 59 ≤ op → len = 1) (ho : ax_op ins = op) (ho2 : 26 ≤ op) (ho3 : op ≤ 52 ∨ (59 ≤ op ∧ op ≤ 61)) (hG : Ga tb L sp ad ρ h0 h (N, m, lv, st) LV SV) (hr : x_b3 op N st kk = some outs)
    (GK : ∀ N' st' o, kk N' st' = some o → (∀ z ∈ o, z ∈ outs) → ∀ ρ' SV', Sb ρ ρ' → Ga tb L sp ad ρ' h0 h (N', m, lv, st') LV SV' → Wp sb dC dI dA sp H0 l ρ0 ad rf tb.1 M (pc + len) h LV SV' P) : Wp sb dC dI dA sp H0 l ρ0 ad rf tb.1 M pc h LV SV P := by
  obtain ⟨hN, hm, hT, hL, hS⟩ := id hG
  have GI : ∀ {kk' : NS → LF → R2} {t : Nat} {r : List V2} {R : List Value} {z : Int} {V : Value}, (kk' = fun N' v => kk N' ((t, v) :: r)) → NR ρ kk' outs z → Sk sp ad ρ r R → (∀ (ρ' : List Int) (f : LF), Lv ρ' f z → Vk sp ad ρ' (t, f) V) → Wp sb dC dI dA sp H0 l ρ0 ad rf tb.1 M (pc + len) h LV (V :: R) P := fun e hNR hR hV => by
    subst e
    obtain ⟨N', f, ρ', k1, k2, k3, k4⟩ := hNR
    exact GK _ _ _ k1 (fun _ hz => hz) ρ' _ k2 ⟨k3, hm.mono k2, hT, hL.mono k2, hV ρ' f k4, hR.mono k2⟩
  unfold x_b3 at hr
  rcases (show (op ≤ 34) ∨ (35 ≤ op ∧ op ≤ 36) ∨ (37 ≤ op ∧ op ≤ 41) ∨ op = 42 ∨ op = 43 ∨ (44 ≤ op ∧ op ≤ 47) ∨ op = 48 ∨ op = 49 ∨ op = 50 ∨ op = 51 ∨ op = 52 ∨ op = 59 ∨ (60 ≤ op ∧ op ≤ 61) by omega) with e | e | e | e | e | e | e | e | e | e | e | e | e
  · rw [show Nat.ble op 34 = true from Nat.ble_eq_true_of_le e] at hr
    simp only [cond_true] at hr
    cases h29 : Nat.beq op 29 with
    | true =>
      have e29 := bb_eq h29
      rw [h29] at hr
      obtain ⟨a, b, r, A, B, R, rfl, rfl, e1, e2, hA, hB, hR, hr29⟩ := so_bin hG hr
      obtain ⟨x, rfl, hx⟩ := hA.i (by rw [e1]; rfl)
      obtain ⟨y, rfl, hy⟩ := hB.i (by rw [e2]; rfl)
      obtain ⟨N', f, ρ', o, k1, k2, k3, k4, k5⟩ := n_a255_ok hN hx hy hr29
      exact wp_ib (op := 3) hdg (hlen (by omega)) (by omega) (by omega) (GK _ _ _ k1 k2 ρ' _ k3 ⟨k4, hm.mono k3, hT, hL.mono k3, ⟨_, rfl, k5⟩, hR.mono k3⟩)
    | false =>
    rw [h29] at hr
    simp only [cond_false] at hr
    obtain ⟨a, b, r, A, B, R, rfl, rfl, e1, e2, hA, hB, hR, hr29⟩ := so_bin hG hr
    obtain ⟨x, rfl, hx⟩ := hA.i (by rw [e1]; rfl)
    obtain ⟨y, rfl, hy⟩ := hB.i (by rw [e2]; rfl)
    exact wp_ib (op := op - 26) hdg (hlen (by omega)) (by omega) (by omega) (GI rfl (n_ib_ok hN (by omega) hx hy hr29) hR (fun ρ' f hf => ⟨_, rfl, hf⟩))
  · have hr30 : x_bin 0 (fun N a b k => n_dr (op - 35) N a b k (n_f32 N)) N st kk = some outs := by
      rcases (show op = 35 ∨ op = 36 by omega) with rfl | rfl <;> exact hr
    obtain ⟨a, b, r, A, B, R, rfl, rfl, e1, e2, hA, hB, hR, hr31⟩ := so_bin hG hr30
    obtain ⟨x, rfl, hx⟩ := hA.i (by rw [e1]; rfl)
    obtain ⟨y, rfl, hy⟩ := hB.i (by rw [e2]; rfl)
    obtain ⟨y1, hNR⟩ := n_dr_ok (z := (if op - 35 = 0 then x / y else x - x / y * y).toInt) hN (show op - 35 < 2 by omega) hx hy (fun q1 q2 => by
      by_cases c : op - 35 = 0
      · rw [if_pos c, if_pos c]; exact div_nn q1 q2
      · rw [if_neg c, if_neg c]; exact rem_nn q1 q2) (fun hf => NR.f32 hN hf) hr31
    exact wp_id (op := op - 35) hdg (hlen (by omega)) (by omega) (by omega) (ne0 y1) (GI rfl hNR hR (fun ρ' f hf => ⟨_, rfl, hf⟩))
  · have hr32 : x_bin 1 (n_lb (op - 37)) N st kk = some outs := by
      rcases (show op = 37 ∨ op = 38 ∨ op = 39 ∨ op = 40 ∨ op = 41 by omega) with rfl | rfl | rfl | rfl | rfl <;> exact hr
    obtain ⟨a, b, r, A, B, R, rfl, rfl, e1, e2, hA, hB, hR, hr33⟩ := so_bin hG hr32
    obtain ⟨x, rfl, hx⟩ := hA.l (by rw [e1]; rfl)
    obtain ⟨y, rfl, hy⟩ := hB.l (by rw [e2]; rfl)
    exact wp_lb (op := op - 37) hdg (hlen (by omega)) (by omega) (by omega) (GI rfl (n_lb_ok hN hx hy hr33) hR (fun ρ' f hf => ⟨_, rfl, hf⟩))
  · subst e
    have hr34 : lc st (fun b st => lc st (fun a r => gd (Nat.beq a.1 1 && Nat.beq b.1 0) (n_f64 N (fun N' v => kk N' ((1, v) :: r))))) = some outs := hr
    obtain ⟨b, st1, rfl, hr35⟩ := lc_s hr34
    obtain ⟨a, r, rfl, hr36⟩ := lc_s hr35
    obtain ⟨g, hr37⟩ := gd_s hr36
    have w := bb_and g
    obtain ⟨B, R1, rfl, hB, hS1⟩ := hS.cons
    obtain ⟨A, R, rfl, hA, hS2⟩ := hS1.cons
    obtain ⟨x, rfl, hx⟩ := hA.l w.1
    obtain ⟨y, rfl, hy⟩ := hB.i w.2
    exact wp_lshl hdg (hlen (by omega)) ho (GI rfl (NR.f64 hN hr37) hS2 (fun ρ' f hf => ⟨_, rfl, hf⟩))
  · subst e
    have hr38 : lc st (fun b st => lc st (fun a r => gd (Nat.beq a.1 1 && Nat.beq b.1 1) (br_lt N a.2 b.2 (fun N' => kk N' ((0, (-1, [])) :: r)) (fun N1 => br_lt N1 b.2 a.2 (fun N' => kk N' ((0, (1, [])) :: r)) (fun N' => kk N' ((0, (0, [])) :: r)))))) = some outs := hr
    obtain ⟨b, st1, rfl, hr39⟩ := lc_s hr38
    obtain ⟨a, r, rfl, hr40⟩ := lc_s hr39
    obtain ⟨g, hr41⟩ := gd_s hr40
    have w := bb_and g
    obtain ⟨B, R1, rfl, hB, hS1⟩ := hS.cons
    obtain ⟨A, R, rfl, hA, hS2⟩ := hS1.cons
    obtain ⟨x, rfl, hx⟩ := hA.l w.1
    obtain ⟨y, rfl, hy⟩ := hB.l w.2
    refine wp_lcmp hdg (hlen (by omega)) ho ?_
    have z := lcmp_z x y
    have zx := zL_cast x
    have zy := zL_cast y
    have q := br_lt_ok hN hx hy hr41
    have FIN : ∀ (N' : NS) (n : Int) (V : Int32) (o : List O2), Nk ρ N' → V.toInt = n → kk N' ((0, (n, [])) :: r) = some o → (∀ z ∈ o, z ∈ outs) → lg_cmp x y = V → Wp sb dC dI dA sp H0 l ρ0 ad rf tb.1 M (pc + len) h LV (.int (lg_cmp x y) :: R) P := fun N' n V o k1 k2 k3 k4 k5 => by
      rw [k5]
      exact GK _ _ _ k3 k4 ρ _ (Sb.rf ρ) ⟨k1, hm, hT, hL, ⟨V, rfl, by rw [k2]; exact Lv.c ρ n⟩, hS2⟩
    by_cases c1 : x.toInt < y.toInt
    · obtain ⟨N', o, k1, k2, k3⟩ := q.1 c1
      exact FIN N' (-1) (nI 4294967295) o k2 (by decide) k1 k3 (by rw [z, if_pos (by omega)])
    · obtain ⟨N1, o, k1, k2, k3⟩ := q.2 c1
      have q2 := br_lt_ok k2 hy hx k1
      by_cases c2 : y.toInt < x.toInt
      · obtain ⟨N', o', l1, l2, l3⟩ := q2.1 c2
        exact FIN N' 1 (nI 1) o' l2 (by decide) l1 (fun z hz => k3 z (l3 z hz)) (by rw [z, if_neg (by omega), if_pos (by omega)])
      · obtain ⟨N', o', l1, l2, l3⟩ := q2.2 c2
        exact FIN N' 0 (nI 0) o' l2 (by decide) l1 (fun z hz => k3 z (l3 z hz)) (by rw [z, if_neg (by omega), if_neg (by omega)])
  · have hr42 : lc st (fun a r => gd (Nat.beq a.1 0) (n_un (op - 44) N a.2 (fun N' v => kk N' ((0, v) :: r)))) = some outs := by
      rcases (show op = 44 ∨ op = 45 ∨ op = 46 ∨ op = 47 by omega) with rfl | rfl | rfl | rfl <;> exact hr
    obtain ⟨a, r, rfl, hr43⟩ := lc_s hr42
    obtain ⟨g, hr44⟩ := gd_s hr43
    obtain ⟨A, R, rfl, hA, hS2⟩ := hS.cons
    obtain ⟨x, rfl, hx⟩ := hA.i g
    exact wp_un (op := op - 44) hdg (hlen (by omega)) (by omega) (by omega) (GI rfl (n_un_ok hN (by omega) hx hr44) hS2 (fun ρ' f hf => ⟨_, rfl, hf⟩))
  · subst e
    have hr45 : lc st (fun a r => gd (Nat.beq a.1 0) (kk N ((1, a.2) :: r))) = some outs := hr
    obtain ⟨a, r, rfl, hr46⟩ := lc_s hr45
    obtain ⟨g, hr47⟩ := gd_s hr46
    obtain ⟨A, R, rfl, hA, hS2⟩ := hS.cons
    obtain ⟨x, rfl, hx⟩ := hA.i g
    exact wp_i2l hdg (hlen (by omega)) ho (GK _ _ _ hr47 (fun _ hz => hz) ρ _ (Sb.rf ρ) ⟨hN, hm, hT, hL, ⟨_, rfl, by rw [i2l_t]; exact hx⟩, hS2⟩)
  · subst e
    have hr48 : lc st (fun a r => gd (Nat.beq a.1 1) (n_l2i N a.2 (fun N' v => kk N' ((0, v) :: r)))) = some outs := hr
    obtain ⟨a, r, rfl, hr49⟩ := lc_s hr48
    obtain ⟨g, hr50⟩ := gd_s hr49
    obtain ⟨A, R, rfl, hA, hS2⟩ := hS.cons
    obtain ⟨x, rfl, hx⟩ := hA.l g
    exact wp_l2i hdg (hlen (by omega)) ho (GI rfl (n_l2i_ok hN hx hr50) hS2 (fun ρ' f hf => ⟨_, rfl, hf⟩))
  · subst e
    have hr51 : lc st (fun a r => gd (!(Nat.beq a.1 1)) (kk N (a :: a :: r))) = some outs := hr
    obtain ⟨a, r, rfl, hr52⟩ := lc_s hr51
    obtain ⟨g, hr53⟩ := gd_s hr52
    obtain ⟨A, R, rfl, hA, hS2⟩ := hS.cons
    have hc : A.category = 1 := by rw [hA.cat, if_neg (fun q => by rw [q] at g; cases g)]
    exact wp_dup hdg (hlen (by omega)) ho hc (GK _ _ _ hr53 (fun _ hz => hz) ρ _ (Sb.rf ρ) ⟨hN, hm, hT, hL, hA, hA, hS2⟩)
  · subst e
    have hr54 : lc st (fun a r => bif Nat.beq a.1 1 then kk N (a :: a :: r) else lc r (fun b r' => gd (!(Nat.beq b.1 1)) (kk N (a :: b :: a :: b :: r')))) = some outs := hr
    obtain ⟨a, r, rfl, hr55⟩ := lc_s hr54
    obtain ⟨A, R, rfl, hA, hS2⟩ := hS.cons
    cases ha : Nat.beq a.1 1 with
    | true =>
      rw [ha] at hr55
      have hc : A.category = 2 := by rw [hA.cat, if_pos ha]
      exact wp_dup2a hdg (hlen (by omega)) ho hc (GK _ _ _ hr55 (fun _ hz => hz) ρ _ (Sb.rf ρ) ⟨hN, hm, hT, hL, hA, hA, hS2⟩)
    | false =>
      rw [ha] at hr55
      simp only [cond_false] at hr55
      obtain ⟨b, r', rfl, hr56⟩ := lc_s hr55
      obtain ⟨g, hr57⟩ := gd_s hr56
      obtain ⟨B, R', rfl, hB, hS3⟩ := hS2.cons
      have hc : A.category = 1 := by rw [hA.cat, if_neg (fun q => by rw [ha] at q; cases q)]
      have hc2 : B.category = 1 := by rw [hB.cat, if_neg (fun q => by rw [q] at g; cases g)]
      exact wp_dup2b hdg (hlen (by omega)) ho hc hc2 (GK _ _ _ hr57 (fun _ hz => hz) ρ _ (Sb.rf ρ) ⟨hN, hm, hT, hL, hA, hB, hA, hB, hS3⟩)
  · subst e
    have hr58 : lc st (fun a r => gd (!(Nat.beq a.1 1)) (kk N r)) = some outs := hr
    obtain ⟨a, r, rfl, hr59⟩ := lc_s hr58
    obtain ⟨g, hr60⟩ := gd_s hr59
    obtain ⟨A, R, rfl, hA, hS2⟩ := hS.cons
    have hc : A.category = 1 := by rw [hA.cat, if_neg (fun q => by rw [q] at g; cases g)]
    exact wp_pop hdg (hlen (by omega)) ho hc (GK _ _ _ hr60 (fun _ hz => hz) ρ _ (Sb.rf ρ) ⟨hN, hm, hT, hL, hS2⟩)
  · subst e
    have hr61 : lc st (fun a r => gd (Nat.beq a.1 1) (kk N r)) = some outs := hr
    obtain ⟨a, r, rfl, hr62⟩ := lc_s hr61
    obtain ⟨g, hr63⟩ := gd_s hr62
    obtain ⟨A, R, rfl, hA, hS2⟩ := hS.cons
    have hc : A.category = 2 := by rw [hA.cat, if_pos g]
    have hl1 := hlen1 (by omega)
    subst hl1
    exact wp_pop2 hdg ho hc (GK _ _ _ hr63 (fun _ hz => hz) ρ _ (Sb.rf ρ) ⟨hN, hm, hT, hL, hS2⟩)
  · have hr64 : x_bin 1 (fun N a b k => n_dr (op - 60) N a b k (n_f64 N)) N st kk = some outs := by
      rcases (show op = 60 ∨ op = 61 by omega) with rfl | rfl <;> exact hr
    obtain ⟨a, b, r, A, B, R, rfl, rfl, e1, e2, hA, hB, hR, hr65⟩ := so_bin hG hr64
    obtain ⟨x, rfl, hx⟩ := hA.l (by rw [e1]; rfl)
    obtain ⟨y, rfl, hy⟩ := hB.l (by rw [e2]; rfl)
    obtain ⟨y1, hNR⟩ := n_dr_ok (z := (if op - 60 = 0 then x / y else x - x / y * y).toInt) hN (show op - 60 < 2 by omega) hx hy (fun q1 q2 => by
      by_cases c : op - 60 = 0
      · rw [if_pos c, if_pos c]; exact div_nnL q1 q2
      · rw [if_neg c, if_neg c]; exact rem_nnL q1 q2) (fun hf => NR.f64 hN hf) hr65
    have hl1 := hlen1 (by omega)
    subst hl1
    exact wp_ld (op := op - 60) hdg (by omega) (by omega) (ne0L y1) (GI rfl hNR hR (fun ρ' f hf => ⟨_, rfl, hf⟩))
end SO
end
