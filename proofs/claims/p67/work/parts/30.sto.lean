/-! THE HEAP, 2: stores -/
noncomputable def apart (N : NS) (I J : LF) : Bool := lf_add (-1) J I (fun d => (lf_dv d.2 6 && !(i_z (d.1 % Int.ofNat 6))) || lf_sc (-1) d 0 (fun nd => pvn N d nd))
theorem apart_ok {ρ : List Int} {N : NS} (hN : Nk ρ N) {I J : LF} {i j : Int} (hI : Lv ρ I i) (hJ : Lv ρ J j) (h : apart N I J = true) : i ≠ j := by
  unfold apart at h
  obtain ⟨d, d1, d2⟩ := lf_add_ok (-1) J I (fun d => (lf_dv d.2 6 && !(i_z (d.1 % Int.ofNat 6))) || lf_sc (-1) d 0 (fun nd => pvn N d nd))
  rw [d1] at h
  have hd := d2 ρ _ _ hJ hI
  rcases (Bool.or_eq_true _ _).mp h with h | h
  · intro hij
    have w := bb_and h
    obtain ⟨u, a1, a2⟩ := hd
    have dv := (lf_dv_ok (σ := N.1) w.1 a1).1
    have e : d.1 = -u := by omega
    have d2 : ((6 : Nat) : Int) ∣ d.1 := by rw [e]; exact Int.dvd_neg.mpr dv
    have z : i_z (d.1 % Int.ofNat 6) = true := by
      have : d.1 % Int.ofNat 6 = 0 := Int.emod_eq_zero_of_dvd d2
      rw [this]
      rfl
    rw [z] at w
    exact absurd w.2 (by decide)
  obtain ⟨e, e1, e2⟩ := lf_sc_ok (-1) d 0 (fun nd => pvn N d nd)
  rw [e1] at h
  have he := e2 ρ _ hd
  have he' : Lv ρ e (-(-1 * j + i)) := by rw [show -(-1 * j + i) = -1 * (-1 * j + i) + 0 by omega]; exact he
  have := pvn_ok hN hd he' h
  omega
noncomputable def flt {α : Type} (p : α → Bool) (l : List α) : List α := List.rec (motive := fun _ => List α) [] (fun x _ ih => bif p x then x :: ih else ih) l
theorem flt_ok {α : Type} {p : α → Bool} {x : α} : ∀ {l : List α}, x ∈ flt p l → x ∈ l ∧ p x = true
  | [], h => by cases h
  | y :: t, h => by
    have h : x ∈ (bif p y then y :: flt p t else flt p t) := h
    cases hp : p y with
    | true =>
      rw [hp] at h
      rcases List.mem_cons.mp h with rfl | h
      · exact ⟨List.mem_cons_self, hp⟩
      · exact ⟨List.mem_cons_of_mem _ (flt_ok h).1, (flt_ok h).2⟩
    | false =>
      rw [hp] at h
      exact ⟨List.mem_cons_of_mem _ (flt_ok h).1, (flt_ok h).2⟩
/-- a column of rows isn't touched at I: rows below n -/
noncomputable def col_k (N : NS) (c : Nat) (I : LF) (s : Nat) (o : Nat × Nat) (n : LF) : Bool :=
  !(Nat.beq c o.1) || ((lf_dv I.2 s && !(i_z ((I.1 - Int.ofNat o.2) % Int.ofNat s))) || (i_nn (Int.ofNat o.2 - 1 - lf_hi N.1 I) || (Nat.ble 1 s && lf_add (-(Int.ofNat s)) n (I.1 - Int.ofNat o.2, I.2) (pv1 N))))
theorem col_k_ok {ρ : List Int} {N : NS} (hN : Nk ρ N) {c s : Nat} {I n : LF} {i y : Int} {o : Nat × Nat} (hI : Lv ρ I i) (h0 : 0 ≤ i) (hn : Lv ρ n y) (h : col_k N c I s o n = true) {k : Nat} (hk : (k : Int) < y) : ¬ (o.1 = c ∧ o.2 + s * k = i.toNat) := by
  intro hq
  unfold col_k at h
  have hm : ((s * k : Nat) : Int) = (s : Int) * (k : Int) := Int.natCast_mul s k
  rcases (Bool.or_eq_true _ _).mp h with h | h
  · rw [hq.1, Nat.beq_refl] at h
    cases h
  · rcases (Bool.or_eq_true _ _).mp h with h | h
    · have w := bb_and h
      obtain ⟨u, a1, a2⟩ := hI
      have d := (lf_dv_ok (σ := N.1) w.1 a1).1
      have e : I.1 - (o.2 : Int) = (s : Int) * k - u := by omega
      have d2 : (s : Int) ∣ I.1 - (o.2 : Int) := by rw [e]; exact Int.dvd_sub (Int.dvd_mul_right _ _) d
      have z : i_z ((I.1 - Int.ofNat o.2) % Int.ofNat s) = true := by
        have : (I.1 - Int.ofNat o.2) % Int.ofNat s = 0 := Int.emod_eq_zero_of_dvd d2
        rw [this]
        rfl
      rw [z] at w
      exact absurd w.2 (by decide)
    · rcases (Bool.or_eq_true _ _).mp h with h | h
      · have z := i_nn_ok h
        have b := lf_b_ok hN.1 hI
        have : (Int.ofNat o.2 : Int) = (o.2 : Int) := rfl
        omega
      · have hs := bb_le (bb_and h).1
        have h := (bb_and h).2
        obtain ⟨d, d1, d2⟩ := lf_add_ok (-(Int.ofNat s)) n (I.1 - Int.ofNat o.2, I.2) (pv1 N)
        rw [d1] at h
        have z := pv1_ok hN h (d2 ρ _ _ hn (hI.dec (Int.ofNat o.2)))
        have m : (s : Int) * ((k : Int) + 1) ≤ (s : Int) * y := Int.mul_le_mul_of_nonneg_left (by omega) (Int.natCast_nonneg s)
        rw [Int.mul_add] at m
        have e1 : -(Int.ofNat s) * y = -((s : Int) * y) := Int.neg_mul _ _
        have e2 : (Int.ofNat o.2 : Int) = (o.2 : Int) := rfl
        rw [e1, e2] at z
        omega
noncomputable def gf_k (tb : TB) (N : NS) (c : Nat) (I : LF) (e : GE) : Bool := match ax_nth tb.2.2.1 e.1 with
  | some G => col_k N c I G.2.1 G.2.2.1 e.2 && (col_k N c I G.2.1 G.2.2.2.1 e.2 && col_k N c I G.2.1 G.2.2.2.2 e.2)
  | none => false
theorem gf_k_ok {tb : TB} {ρ : List Int} {N : NS} (hN : Nk ρ N) {c : Nat} {I : LF} {i n x : Int} {e : GE} {h : PH} (hI : Lv ρ I i) (h0 : 0 ≤ i) (hn : Lv ρ e.2 n) (hG : Gok tb h e.1 n) (hk : gf_k tb N c I e = true) : Gok tb (uph h c i.toNat x) e.1 n := by
  obtain ⟨G, g1, g2⟩ := hG
  unfold gf_k at hk
  rw [ax_nth_eq, g1] at hk
  have w := bb_and hk
  have w2 := bb_and w.2
  refine ⟨G, g1, fun k hkn => ?_⟩
  have a := col_k_ok hN hI h0 hn w.1 hkn
  have b := col_k_ok hN hI h0 hn w2.1 hkn
  have d := col_k_ok hN hI h0 hn w2.2 hkn
  rw [uph_ne h x a, uph_ne h x b, uph_ne h x d]
  exact g2 k hkn
/-- a piece isn't touched at I -/
noncomputable def pc_k (N : NS) (c : Nat) (I : LF) (p : Nat × LF) (n : LF) : Bool :=
  !(Nat.beq c p.1) || (lf_add (-1) p.2 I (fun d => lf_add (-1) n d (pv1 N)) || lf_add (-1) I p.2 (fun d => pv1 N (d.1 - 1, d.2)))
theorem pc_k_ok {ρ : List Int} {N : NS} (hN : Nk ρ N) {c : Nat} {I n : LF} {i j y : Int} {p : Nat × LF} (hI : Lv ρ I i) (h0 : 0 ≤ i) (hj : Lv ρ p.2 j) (j0 : 0 ≤ j) (hn : Lv ρ n y) (h : pc_k N c I p n = true) {k : Nat} (hk : (k : Int) < y) : ¬ (p.1 = c ∧ j.toNat + k = i.toNat) := by
  intro hq
  unfold pc_k at h
  rcases (Bool.or_eq_true _ _).mp h with h | h
  · rw [hq.1, Nat.beq_refl] at h
    cases h
  · rcases (Bool.or_eq_true _ _).mp h with h | h
    · obtain ⟨d, d1, d2⟩ := lf_add_ok (-1) p.2 I (fun d => lf_add (-1) n d (pv1 N))
      rw [d1] at h
      obtain ⟨e, e1, e2⟩ := lf_add_ok (-1) n d (pv1 N)
      rw [e1] at h
      have z := pv1_ok hN h (e2 ρ _ _ hn (d2 ρ _ _ hj hI))
      omega
    · obtain ⟨d, d1, d2⟩ := lf_add_ok (-1) I p.2 (fun d => pv1 N (d.1 - 1, d.2))
      rw [d1] at h
      have z := pv1_ok hN h ((d2 ρ _ _ hI hj).dec 1)
      omega
noncomputable def eq_k (N : NS) (c : Nat) (I : LF) (e : QE) : Bool := pc_k N c I e.1 e.2.2 && pc_k N c I e.2.1 e.2.2
noncomputable def we_in (l : List WE) (w : WE) : Bool := List.rec (motive := fun _ => Bool) false (fun v _ ih => (Nat.beq v.1 w.1 && (i_le v.2.1 w.2.1 && i_le w.2.2 v.2.2)) || ih) l
theorem we_in_ok {w : WE} : ∀ {l : List WE}, we_in l w = true → ∃ v ∈ l, v.1 = w.1 ∧ v.2.1 ≤ w.2.1 ∧ w.2.2 ≤ v.2.2
  | [], h => by cases h
  | v :: t, h => by
    have h : ((Nat.beq v.1 w.1 && (i_le v.2.1 w.2.1 && i_le w.2.2 v.2.2)) || we_in t w) = true := h
    rcases (Bool.or_eq_true _ _).mp h with h | h
    · have a := bb_and h
      have b := bb_and a.2
      exact ⟨v, List.mem_cons_self, bb_eq a.1, i_le_ok b.1, i_le_ok b.2⟩
    · obtain ⟨v', a, b⟩ := we_in_ok h
      exact ⟨v', List.mem_cons_of_mem _ a, b⟩
noncomputable def we_ad {β : Type} (l : List WE) (c : Nat) (lo hi : Int) (kk : List WE → β) : β := i_fc lo (fun lo => i_fc hi (fun hi => bif we_in l (c, lo, hi) then kk l else kk ((c, lo, hi) :: l)))
theorem we_ad_ok {β : Type} (l : List WE) (c : Nat) (lo hi : Int) (kk : List WE → β) : ∃ l', we_ad l c lo hi kk = kk l' ∧ ∀ (d k : Nat), (∀ w ∈ l', ¬ (w.1 = d ∧ w.2.1 ≤ (k : Int) ∧ (k : Int) ≤ w.2.2)) → (∀ w ∈ l, ¬ (w.1 = d ∧ w.2.1 ≤ (k : Int) ∧ (k : Int) ≤ w.2.2)) ∧ ¬ (d = c ∧ lo ≤ (k : Int) ∧ (k : Int) ≤ hi) := by
  unfold we_ad
  rw [i_fc_eq, i_fc_eq]
  cases hb : we_in l (c, lo, hi) with
  | true =>
    refine ⟨l, rfl, fun d k hw => ⟨hw, fun q => ?_⟩⟩
    obtain ⟨v, v1, v2, v3, v4⟩ := we_in_ok hb
    refine hw v v1 ⟨v2.trans q.1.symm, ?_, ?_⟩
    · have v3 : v.2.1 ≤ lo := v3; omega
    · have v4 : hi ≤ v.2.2 := v4; omega
  | false =>
    refine ⟨_, rfl, fun d k hw => ⟨fun w hw' => hw w (List.mem_cons_of_mem _ hw'), fun q => ?_⟩⟩
    exact hw _ List.mem_cons_self ⟨q.1.symm, q.2⟩
/-- the sum of the row, behind a store -/
noncomputable def sm_s {β : Type} (tb : TB) (m : MM) (c : Nat) (I v : LF) (kk : List LF → β) : β :=
  bif Nat.beq c tb.2.2.2.2 then (match m.2.2.2.2.1 with
    | f :: _ => (match ca_fd c I m.1 with
      | some w => lf_add (-1) w v (fun d => lf_add 1 d f (fun g => kk [g]))
      | none => kk [])
    | [] => kk []) else kk m.2.2.2.2.1
theorem sumr_up (h : PH) (c i : Nat) (x : Int) : ∀ n, i < n → sumr (uph h c i x c) n = sumr (h c) n + (x - h c i)
  | 0, hn => by omega
  | n + 1, hn => by
    show sumr (uph h c i x c) n + uph h c i x c n = sumr (h c) n + h c n + _
    by_cases hi : i = n
    · subst hi
      have : ∀ m, m ≤ i → sumr (uph h c i x c) m = sumr (h c) m := by
        intro m
        induction m with
        | zero => intro _; rfl
        | succ m ih =>
          intro hm
          show sumr (uph h c i x c) m + uph h c i x c m = sumr (h c) m + h c m
          rw [ih (by omega), uph_ne h x (fun q => by omega)]
      rw [this i (Nat.le_refl i), uph_in]
      omega
    · rw [sumr_up h c i x n (by omega), uph_ne h x (fun q => hi q.2.symm)]
      omega
theorem sumr_ne (h : PH) (c c' i : Nat) (x : Int) (hc : c ≠ c') (n : Nat) : sumr (uph h c' i x c) n = sumr (h c) n := by
  induction n with
  | zero => rfl
  | succ n ih =>
    show sumr (uph h c' i x c) n + uph h c' i x c n = sumr (h c) n + h c n
    rw [ih, uph_ne h x (fun q => hc q.1)]
/-- the range at a place, quickly -/
noncomputable def sg_f (l : SEG) : Nat → Option (Int × Int) := List.rec (motive := fun _ => Nat → Option (Int × Int)) (fun _ => none) (fun s _ ih k => bif Nat.blt k s.1 then ax_nth s.2 (k % s.2.length) else ax_fc (k - s.1) ih) l
theorem sg_f_eq : ∀ (l : SEG) (k : Nat), sg_f l k = seg_at l k
  | [], k => rfl
  | s :: t, k => by
    show (bif Nat.blt k s.1 then ax_nth s.2 (k % s.2.length) else ax_fc (k - s.1) (sg_f t)) = if k < s.1 then s.2[k % s.2.length]? else seg_at t (k - s.1)
    cases h : Nat.blt k s.1 with
    | true => rw [if_pos (bb_lt h)]; exact ax_nth_eq _ _
    | false =>
      have := bb_nlt h
      rw [if_neg (by omega), ← sg_f_eq t]
      exact ax_fc_eq _ _
noncomputable def fit_q (a b : Option (Int × Int)) : Bool := match a with
  | none => false
  | some q' => (match b with
    | none => false
    | some q => i_le q.1 q'.1 && i_le q'.2 q.2)
noncomputable def all_r (p : Nat → Bool) (n : Nat) : Bool := Nat.rec (motive := fun _ => Bool) true (fun m ih => p m && ih) n
theorem all_r_ok {p : Nat → Bool} : ∀ {n : Nat}, all_r p n = true → ∀ k, k < n → p k = true
  | 0, _, k, hk => absurd hk (Nat.not_lt_zero k)
  | n + 1, h, k, hk => by
    have h : (p n && all_r p n) = true := h
    have w := bb_and h
    by_cases e : k = n
    · rw [e]; exact w.1
    · exact all_r_ok w.2 k (by omega)
/-- what stands d further on may stand here, at n places -/
noncomputable def fit_p (T : SEG) (lo n : Nat) (d : Int) : Bool := all_r (fun j => ax_fc (lo + j) (fun k => i_fc (Int.ofNat k + d) (fun z => i_nn z && fit_q (sg_f T z.toNat) (sg_f T k)))) n
/-- a value fits what may stand at I -/
noncomputable def fit_c (c : Nat) (T : SEG) (lo hi : Int) (I v : LF) (l : List CE) : Bool := List.rec (motive := fun _ => Bool) false (fun e _ ih => (Nat.beq e.1 c && (lf_eq e.2.2 v && lf_add (-1) I e.2.1 (fun d => cst d && (i_nn lo && (i_le (hi - lo) 600 && fit_p T lo.toNat (hi - lo + 1).toNat d.1))))) || ih) l
theorem fit_c_ok {c : Nat} {T : SEG} {lo hi : Int} {I v : LF} : ∀ {l : List CE}, fit_c c T lo hi I v l = true → ∃ e ∈ l, e.1 = c ∧ e.2.2 = v ∧ ∀ (ρ : List Int) (i j : Int), Lv ρ I i → Lv ρ e.2.1 j → lo ≤ i → i ≤ hi → ∃ q' q, seg_at T j.toNat = some q' ∧ seg_at T i.toNat = some q ∧ q.1 ≤ q'.1 ∧ q'.2 ≤ q.2
  | [], h => by cases h
  | e :: t, h => by
    have h : ((Nat.beq e.1 c && (lf_eq e.2.2 v && lf_add (-1) I e.2.1 (fun d => cst d && (i_nn lo && (i_le (hi - lo) 600 && fit_p T lo.toNat (hi - lo + 1).toNat d.1))))) || fit_c c T lo hi I v t) = true := h
    rcases (Bool.or_eq_true _ _).mp h with h | h
    · have a := bb_and h
      have b := bb_and a.2
      obtain ⟨d, d1, d2⟩ := lf_add_ok (-1) I e.2.1 (fun d => cst d && (i_nn lo && (i_le (hi - lo) 600 && fit_p T lo.toNat (hi - lo + 1).toNat d.1)))
      have b2 := b.2
      rw [d1] at b2
      have w := bb_and b2
      have w2 := bb_and w.2
      have w3 := bb_and w2.2
      refine ⟨e, List.mem_cons_self, bb_eq a.1, lf_eq_ok b.1, fun ρ i j hi1 hj h1 h2 => ?_⟩
      have hd := cst_ok w.1 (d2 ρ _ _ hi1 hj)
      have l0 := i_nn_ok w2.1
      have p := all_r_ok w3.2 (i.toNat - lo.toNat) (by omega)
      rw [ax_fc_eq, i_fc_eq] at p
      have p2 := bb_and p
      have e1 : lo.toNat + (i.toNat - lo.toNat) = i.toNat := by omega
      rw [e1] at p2
      have e2 : Int.ofNat i.toNat + d.1 = j := by
        have : (Int.ofNat i.toNat : Int) = i := Int.toNat_of_nonneg (by omega)
        rw [this]
        omega
      rw [e2, sg_f_eq, sg_f_eq] at p2
      have p3 := p2.2
      cases c1 : seg_at T j.toNat with
      | none => rw [c1] at p3; cases p3
      | some q' =>
        rw [c1] at p3
        cases c2 : seg_at T i.toNat with
        | none => rw [c2] at p3; cases p3
        | some q =>
          rw [c2] at p3
          have p4 := bb_and (a := i_le q.1 q'.1) (b := i_le q'.2 q.2) p3
          exact ⟨q', q, rfl, rfl, i_le_ok p4.1, i_le_ok p4.2⟩
    · obtain ⟨e', a, b⟩ := fit_c_ok h
      exact ⟨e', List.mem_cons_of_mem _ a, b⟩
noncomputable def stq {β : Type} (tb : TB) (N : NS) (m : MM) (c : Nat) (I v : LF) (kk : MM → Option β) : Option β :=
  gd (Nat.blt c 900) (ob (ax_nth tb.2.1 c) (fun T => ty_j T N I (fun J =>
    gd ((pv1 N (v.1 - J.2.1, v.2) && lf_sc (-1) v J.2.2 (pv1 N)) || (Nat.beq T.1 0 && fit_c c T.2 (lf_lo N.1 I) (lf_hi N.1 I) I v m.1))
      (we_ad m.2.2.2.1 c (lf_lo N.1 I) (lf_hi N.1 I) (fun wr => sm_s tb m c I v (fun sm => kk ((c, I, v) :: flt (fun e => !(Nat.beq e.1 c) || apart N I e.2.1) m.1, flt (gf_k tb N c I) m.2.1, flt (eq_k N c I) m.2.2.1, wr, sm, [])))))))
theorem stq_ok {β : Type} {tb : TB} {L : LSc} {ρ : List Int} {h0 h : PH} {N : NS} {m : MM} (hN : Nk ρ N) (hm : Mk tb L ρ h0 h m) (hT : Th tb L h) {c : Nat} {I v : LF} {i x : Int} (hI : Lv ρ I i) (hv : Lv ρ v x) (hi80 : c = tb.2.2.2.2 → i < 80) {kk : MM → Option β} {r : β} (hr : stq tb N m c I v kk = some r) : 0 ≤ i ∧ ∃ m', kk m' = some r ∧ Mk tb L ρ h0 (uph h c i.toNat x) m' ∧ Th tb L (uph h c i.toNat x) := by
  unfold stq at hr
  obtain ⟨g0, hr⟩ := gd_s hr
  obtain ⟨T, t1, hr⟩ := ob_s hr
  rw [ax_nth_eq] at t1
  obtain ⟨tn, tk⟩ := hT.1 c T t1
  obtain ⟨i0, J, q, hr, j2, j3⟩ := ty_j_ok hN tn hI hr
  obtain ⟨g1, hr⟩ := gd_s hr
  obtain ⟨wr, w1, w2⟩ := we_ad_ok m.2.2.2.1 c (lf_lo N.1 I) (lf_hi N.1 I) (fun wr => sm_s tb m c I v (fun sm => kk ((c, I, v) :: flt (fun e => !(Nat.beq e.1 c) || apart N I e.2.1) m.1, flt (gf_k tb N c I) m.2.1, flt (eq_k N c I) m.2.2.1, wr, sm, [])))
  rw [w1] at hr
  have hx : q.1 ≤ x ∧ x ≤ q.2 := by
    rcases (Bool.or_eq_true _ _).mp g1 with g | g
    · have a := bb_and g
      obtain ⟨d, d1, d2⟩ := lf_sc_ok (-1) v J.2.2 (pv1 N)
      have a2 := a.2
      rw [d1] at a2
      have z1 := pv1_ok hN a.1 (hv.dec J.2.1)
      have z2 := pv1_ok hN a2 (d2 ρ _ hv)
      have := j3.2.2.1
      have := j3.2.2.2
      omega
    · have a := bb_and g
      have hP : T.1 = 0 := bb_eq a.1
      obtain ⟨e, e1, e2, e3, e4⟩ := fit_c_ok a.2
      obtain ⟨j, y, z1, z2, z3, z4⟩ := hm.1 e e1
      have bi := lf_b_ok hN.1 hI
      obtain ⟨q', q2, s1, s2, s3, s4⟩ := e4 ρ i j hI z1 bi.1 bi.2
      rw [e3] at z3
      have exy : x = y := hv.fn z3
      unfold ty_at at j2
      rw [if_pos hP, s2] at j2
      cases j2
      have b := tk j.toNat q' (by unfold ty_at; rw [if_pos hP]; exact s1)
      rw [← e2] at b
      rw [exy, ← z4]
      omega
  refine ⟨i0, ?_⟩
  have hTh : Th tb L (uph h c i.toNat x) := by
    refine ⟨fun c' T' t' => ⟨(hT.1 c' T' t').1, fun k q' hq' => ?_⟩, ?_⟩
    · by_cases hck : c' = c ∧ k = i.toNat
      · obtain ⟨rfl, rfl⟩ := hck
        rw [uph_in]
        rw [t1] at t'
        cases t'
        rw [j2] at hq'
        cases hq'
        exact hx
      · rw [uph_ne h x hck]
        exact (hT.1 c' T' t').2 k q' hq'
    · exact ⟨by rw [uph_ne h x (fun z => by have := bb_lt g0; omega)]; exact hT.2.1, fun k hk => by rw [uph_ne h x (fun z => by have := bb_lt g0; omega)]; exact hT.2.2 k hk⟩
  have SM : ∃ sm, (sm_s tb m c I v (fun sm => kk ((c, I, v) :: flt (fun e => !(Nat.beq e.1 c) || apart N I e.2.1) m.1, flt (gf_k tb N c I) m.2.1, flt (eq_k N c I) m.2.2.1, wr, sm, [])) = kk ((c, I, v) :: flt (fun e => !(Nat.beq e.1 c) || apart N I e.2.1) m.1, flt (gf_k tb N c I) m.2.1, flt (eq_k N c I) m.2.2.1, wr, sm, [])) ∧ ∀ f ∈ sm, ∃ n, Lv ρ f n ∧ n = sumr (uph h c i.toNat x tb.2.2.2.2) 80 := by
    unfold sm_s
    cases hc : Nat.beq c tb.2.2.2.2 with
    | false =>
      refine ⟨m.2.2.2.2.1, rfl, fun f hf => ?_⟩
      obtain ⟨n, n1, n2⟩ := hm.2.2.2.2.1 f hf
      exact ⟨n, n1, by rw [sumr_ne h _ _ _ _ (fun z => bb_ne hc z.symm)]; exact n2⟩
    | true =>
      have ec := bb_eq hc
      simp only [cond_true]
      cases hs : m.2.2.2.2.1 with
      | nil => exact ⟨[], rfl, fun f hf => by cases hf⟩
      | cons f t =>
        dsimp only
        cases hw : ca_fd c I m.1 with
        | none => exact ⟨[], rfl, fun f hf => by cases hf⟩
        | some w =>
          dsimp only
          obtain ⟨d, d1, d2⟩ := lf_add_ok (-1) w v (fun d => lf_add 1 d f (fun g => kk ((c, I, v) :: flt (fun e => !(Nat.beq e.1 c) || apart N I e.2.1) m.1, flt (gf_k tb N c I) m.2.1, flt (eq_k N c I) m.2.2.1, wr, [g], [])))
          obtain ⟨g, e1, e2⟩ := lf_add_ok 1 d f (fun g => kk ((c, I, v) :: flt (fun e => !(Nat.beq e.1 c) || apart N I e.2.1) m.1, flt (gf_k tb N c I) m.2.1, flt (eq_k N c I) m.2.2.1, wr, [g], []))
          refine ⟨[g], d1.trans e1, fun f' hf' => ?_⟩
          obtain rfl := List.mem_singleton.mp hf'
          obtain ⟨n, n1, n2⟩ := hm.2.2.2.2.1 f (by rw [hs]; exact List.mem_cons_self)
          obtain ⟨i', y, z1, z2, z3, z4⟩ := hm.1 _ (ca_fd_ok hw)
          have ei : i = i' := hI.fn z1
          subst ei
          refine ⟨_, e2 ρ _ _ (d2 ρ _ _ z3 hv) n1, ?_⟩
          rw [← ec, sumr_up h c i.toNat x 80 (by have := hi80 ec; omega), ec, ← n2, ← ec]
          have z4 : h c i.toNat = y := z4
          omega
  obtain ⟨sm, s1, s2⟩ := SM
  rw [s1] at hr
  refine ⟨_, hr, ⟨fun e he => ?_, fun e he => ?_, fun e he => ?_, fun d k hw => ?_, s2, fun e he => by cases he⟩, hTh⟩
  · rcases List.mem_cons.mp he with rfl | he
    · exact ⟨i, x, hI, i0, hv, uph_in h c i.toNat x⟩
    · obtain ⟨e1, e2⟩ := flt_ok he
      obtain ⟨j, y, z1, z2, z3, z4⟩ := hm.1 e e1
      refine ⟨j, y, z1, z2, z3, ?_⟩
      rw [uph_ne h x (fun z => ?_)]
      · exact z4
      · rcases (Bool.or_eq_true _ _).mp e2 with e2 | e2
        · rw [z.1, Nat.beq_refl] at e2
          cases e2
        · have := apart_ok hN hI z1 e2
          omega
  · obtain ⟨e1, e2⟩ := flt_ok he
    obtain ⟨n, n1, n2⟩ := hm.2.1 e e1
    exact ⟨n, n1, gf_k_ok hN hI i0 n1 n2 e2⟩
  · obtain ⟨e1, e2⟩ := flt_ok he
    obtain ⟨a, b, n, z1, z2, z3, z4, z5, z6⟩ := hm.2.2.1 e e1
    have w := bb_and (show (pc_k N c I e.1 e.2.2 && pc_k N c I e.2.1 e.2.2) = true from e2)
    refine ⟨a, b, n, z1, z2, z3, z4, z5, fun k hk => ?_⟩
    have p1 := pc_k_ok hN hI i0 z1 z4 z3 w.1 hk
    have p2 := pc_k_ok hN hI i0 z2 z5 z3 w.2 hk
    rw [uph_ne h x p1, uph_ne h x p2]
    exact z6 k hk
  · obtain ⟨y1, y2⟩ := w2 d k hw
    rw [uph_ne h x (fun z => ?_)]
    · exact hm.2.2.2.1 d k y1
    · refine y2 ⟨z.1, ?_⟩
      have b := lf_b_ok hN.1 hI
      omega
