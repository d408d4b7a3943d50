/-! THE HEAP, 3: a piece copied; places that another one wrote -/
def uni (T : Nat × SEG) : Option (Nat × (Int × Int)) := match T with
  | (0, [(len, [q])]) => some (len, q)
  | _ => none
theorem uni_ok {T : Nat × SEG} {len : Nat} {q : Int × Int} (h : uni T = some (len, q)) : ∀ k, ty_at T k = if k < len then some q else none := by
  unfold uni at h
  split at h
  · cases h
    intro k
    show (if k < len then ([q] : List (Int × Int))[k % 1]? else seg_at [] (k - len)) = _
    rw [Nat.mod_one]
    rfl
  · cases h
noncomputable def gcell (c : Nat) (l : GT) : Bool := List.rec (motive := fun _ => Bool) false (fun G _ ih => Nat.beq c G.2.2.1.1 || (Nat.beq c G.2.2.2.1.1 || (Nat.beq c G.2.2.2.2.1 || ih))) l
noncomputable def gf_c (tb : TB) (c : Nat) (e : GE) : Bool := match ax_nth tb.2.2.1 e.1 with
  | some G => !(Nat.beq c G.2.2.1.1) && (!(Nat.beq c G.2.2.2.1.1) && !(Nat.beq c G.2.2.2.2.1))
  | none => false
theorem nbq {a b : Nat} (h : (!(Nat.beq a b)) = true) : a ≠ b := fun e => by
  subst e
  rw [Nat.beq_refl] at h
  cases h
noncomputable def cpq {β : Type} (tb : TB) (N : NS) (m : MM) (cs cd : Nat) (sq dp n : LF) (kk : MM → Option β) : Option β :=
  gd (Nat.blt cd 900) (ob (ax_nth tb.2.1 cs) (fun Ts => ob (ax_nth tb.2.1 cd) (fun Td => ob (uni Ts) (fun us => ob (uni Td) (fun ud => ob (ax_nth tb.1 cs) (fun s0 => ob (ax_nth tb.1 cd) (fun s1 =>
    gd (i_le ud.2.1 us.2.1 && (i_le us.2.2 ud.2.2 && (Nat.ble s0.2.1 us.1 && (pv1 N sq && (pv1 N dp && (pv1 N n && (lf_sc (-1) sq (Int.ofNat s0.2.1) (fun d => lf_add (-1) n d (pv1 N)) && lf_sc (-1) dp (Int.ofNat s1.2.1) (fun d => lf_add (-1) n d (pv1 N)))))))))
      (we_ad m.2.2.2.1 cd (lf_lo N.1 dp) (lf_hi N.1 dp + lf_hi N.1 n) (fun wr => kk (flt (fun e => !(Nat.beq e.1 cd)) m.1, flt (gf_c tb cd) m.2.1,
        (bif gcell cd tb.2.2.1 && !(Nat.beq cs cd) then ((cd, dp), (cs, sq), n) :: flt (fun e => !(Nat.beq e.1.1 cd) && !(Nat.beq e.2.1.1 cd)) m.2.2.1 else flt (fun e => !(Nat.beq e.1.1 cd) && !(Nat.beq e.2.1.1 cd)) m.2.2.1), wr, (bif Nat.beq cd tb.2.2.2.2 then [] else m.2.2.2.2.1), []))))))))))
theorem cph_ne {h : PH} {cs cd sp dp n c k : Nat} (q : ¬ (c = cd ∧ dp ≤ k ∧ k < dp + n)) : cph h cs cd sp dp n c k = h c k := if_neg q
theorem sumr_eq {f g : Nat → Int} (h : ∀ k, f k = g k) (n : Nat) : sumr f n = sumr g n := by
  rw [show f = g from funext h]
theorem cpq_ok {β : Type} {tb : TB} {L : LSc} {ρ : List Int} {h0 h : PH} {N : NS} {m : MM} (hN : Nk ρ N) (hm : Mk tb L ρ h0 h m) (hT : Th tb L h) {cs cd : Nat} {sq dp n : LF} {a b x : Int} (ha : Lv ρ sq a) (hb : Lv ρ dp b) (hn : Lv ρ n x) {kk : MM → Option β} {r : β} (hr : cpq tb N m cs cd sq dp n kk = some r) : ∃ s0 s1 m', tb.1[cs]? = some s0 ∧ tb.1[cd]? = some s1 ∧ 0 ≤ a ∧ 0 ≤ b ∧ 0 ≤ x ∧ a + x ≤ s0.2.1 ∧ b + x ≤ s1.2.1 ∧ kk m' = some r ∧ Mk tb L ρ h0 (cph h cs cd a.toNat b.toNat x.toNat) m' ∧ Th tb L (cph h cs cd a.toNat b.toNat x.toNat) := by
  unfold cpq at hr
  obtain ⟨g0, hr⟩ := gd_s hr
  obtain ⟨Ts, t1, hr⟩ := ob_s hr
  obtain ⟨Td, t2, hr⟩ := ob_s hr
  obtain ⟨us, u1, hr⟩ := ob_s hr
  obtain ⟨ud, u2, hr⟩ := ob_s hr
  obtain ⟨s0, s1, hr⟩ := ob_s hr
  obtain ⟨s2, s3, hr⟩ := ob_s hr
  obtain ⟨g1, hr⟩ := gd_s hr
  rw [ax_nth_eq] at t1 t2 s1 s3
  have w1 := bb_and g1
  have w2 := bb_and w1.2
  have w3 := bb_and w2.2
  have w4 := bb_and w3.2
  have w5 := bb_and w4.2
  have w6 := bb_and w5.2
  have w7 := bb_and w6.2
  have k1 := i_le_ok w1.1
  have k2 := i_le_ok w2.1
  have k3 := bb_le w3.1
  have k4 := pv1_ok hN w4.1 ha
  have k5 := pv1_ok hN w5.1 hb
  have k6 := pv1_ok hN w6.1 hn
  have k7 : a + x ≤ s0.2.1 := by
    obtain ⟨d, d1, d2⟩ := lf_sc_ok (-1) sq (Int.ofNat s0.2.1) (fun d => lf_add (-1) n d (pv1 N))
    obtain ⟨e, e1, e2⟩ := lf_add_ok (-1) n d (pv1 N)
    have z := w7.1
    rw [d1, e1] at z
    have z := pv1_ok hN z (e2 ρ _ _ hn (d2 ρ _ ha))
    have : (Int.ofNat s0.2.1 : Int) = (s0.2.1 : Int) := rfl
    omega
  have k8 : b + x ≤ s2.2.1 := by
    obtain ⟨d, d1, d2⟩ := lf_sc_ok (-1) dp (Int.ofNat s2.2.1) (fun d => lf_add (-1) n d (pv1 N))
    obtain ⟨e, e1, e2⟩ := lf_add_ok (-1) n d (pv1 N)
    have z := w7.2
    rw [d1, e1] at z
    have z := pv1_ok hN z (e2 ρ _ _ hn (d2 ρ _ hb))
    have : (Int.ofNat s2.2.1 : Int) = (s2.2.1 : Int) := rfl
    omega
  obtain ⟨wr, v1, v2⟩ := we_ad_ok m.2.2.2.1 cd (lf_lo N.1 dp) (lf_hi N.1 dp + lf_hi N.1 n) (fun wr => kk (flt (fun e => !(Nat.beq e.1 cd)) m.1, flt (gf_c tb cd) m.2.1,
        (bif gcell cd tb.2.2.1 && !(Nat.beq cs cd) then ((cd, dp), (cs, sq), n) :: flt (fun e => !(Nat.beq e.1.1 cd) && !(Nat.beq e.2.1.1 cd)) m.2.2.1 else flt (fun e => !(Nat.beq e.1.1 cd) && !(Nat.beq e.2.1.1 cd)) m.2.2.1), wr, (bif Nat.beq cd tb.2.2.2.2 then [] else m.2.2.2.2.1), []))
  rw [v1] at hr
  have hCD : ∀ c k, c ≠ cd → cph h cs cd a.toNat b.toNat x.toNat c k = h c k := fun c k hc => cph_ne (fun z => hc z.1)
  have OLDQ : ∀ e ∈ flt (fun e : QE => !(Nat.beq e.1.1 cd) && !(Nat.beq e.2.1.1 cd)) m.2.2.1, ∃ i j n, Lv ρ e.1.2 i ∧ Lv ρ e.2.1.2 j ∧ Lv ρ e.2.2 n ∧ Qok (cph h cs cd a.toNat b.toNat x.toNat) e.1.1 e.2.1.1 i j n := fun e he => by
    obtain ⟨e1, e2⟩ := flt_ok he
    have y := bb_and e2
    obtain ⟨i, j, n, z1, z2, z3, z4, z5, z6⟩ := hm.2.2.1 e e1
    refine ⟨i, j, n, z1, z2, z3, z4, z5, fun k hk => ?_⟩
    rw [hCD _ _ (nbq y.1), hCD _ _ (nbq y.2)]
    exact z6 k hk
  refine ⟨s0, s2, _, s1, s3, k4, k5, k6, k7, k8, hr, ⟨fun e he => ?_, fun e he => ?_, ?_, fun d k hw => ?_, fun f hf => ?_, fun e he => by cases he⟩, ⟨fun c T t => ⟨(hT.1 c T t).1, fun k q hq => ?_⟩, ?_⟩⟩
  · obtain ⟨e1, e2⟩ := flt_ok he
    obtain ⟨i, y, z1, z2, z3, z4⟩ := hm.1 e e1
    exact ⟨i, y, z1, z2, z3, by rw [hCD _ _ (nbq e2)]; exact z4⟩
  · obtain ⟨e1, e2⟩ := flt_ok he
    obtain ⟨y, y1, G, y2, y3⟩ := hm.2.1 e e1
    unfold gf_c at e2
    rw [ax_nth_eq, y2] at e2
    have z := bb_and e2
    have z2 := bb_and z.2
    refine ⟨y, y1, G, y2, fun k hk => ?_⟩
    rw [hCD _ _ (fun q => nbq z.1 q.symm), hCD _ _ (fun q => nbq z2.1 q.symm), hCD _ _ (fun q => nbq z2.2 q.symm)]
    exact y3 k hk
  · show ∀ e ∈ (bif gcell cd tb.2.2.1 && !(Nat.beq cs cd) then _ else _), _
    cases hg : (gcell cd tb.2.2.1 && !(Nat.beq cs cd)) with
    | false => exact OLDQ
    | true =>
      intro e he
      rcases List.mem_cons.mp he with rfl | he
      · refine ⟨b, a, x, hb, ha, hn, k5, k4, fun k hk => ?_⟩
        show cph h cs cd a.toNat b.toNat x.toNat cd (b.toNat + k) = cph h cs cd a.toNat b.toNat x.toNat cs (a.toNat + k)
        rw [hCD cs _ (nbq (bb_and hg).2)]
        unfold cph
        rw [if_pos ⟨rfl, by omega, by omega⟩, Nat.add_sub_cancel_left]
      · exact OLDQ e he
  · obtain ⟨y1, y2⟩ := v2 d k hw
    rw [cph_ne (fun z => y2 ⟨z.1, ?_⟩)]
    · exact hm.2.2.2.1 d k y1
    · have b1 := lf_b_ok hN.1 hb
      have b2 := lf_b_ok hN.1 hn
      omega
  · have hf : f ∈ (bif Nat.beq cd tb.2.2.2.2 then [] else m.2.2.2.2.1) := hf
    cases hc : Nat.beq cd tb.2.2.2.2 with
    | true => rw [hc] at hf; cases hf
    | false =>
      rw [hc] at hf
      obtain ⟨y, y1, y2⟩ := hm.2.2.2.2.1 f hf
      exact ⟨y, y1, by rw [y2]; exact sumr_eq (fun k => (hCD _ k (fun z => bb_ne hc z.symm)).symm) 80⟩
  · by_cases hck : c = cd ∧ b.toNat ≤ k ∧ k < b.toNat + x.toNat
    · obtain ⟨rfl, h1, h2⟩ := hck
      rw [t2] at t
      cases t
      rw [uni_ok u2] at hq
      split at hq
      · cases hq
        unfold cph
        rw [if_pos ⟨rfl, h1, h2⟩]
        have z := (hT.1 cs Ts t1).2 (a.toNat + (k - b.toNat)) us.2 (by rw [uni_ok u1, if_pos (by omega)])
        omega
      · cases hq
    · rw [cph_ne hck]
      exact (hT.1 c T t).2 k q hq
  · exact ⟨by rw [hCD _ _ (by have := bb_lt g0; omega)]; exact hT.2.1, fun k hk => by rw [hCD _ _ (by have := bb_lt g0; omega)]; exact hT.2.2 k hk⟩
def isnil {α : Type} (l : List α) : Bool := match l with
  | [] => true
  | _ => false
/-! what stays, if the places W were written -/
def Wout (W : List WE) (c k : Nat) : Prop := ∀ w ∈ W, ¬ (w.1 = c ∧ w.2.1 ≤ (k : Int) ∧ (k : Int) ≤ w.2.2)
noncomputable def alls {α : Type} (p : α → Bool) (l : List α) : Bool := List.rec (motive := fun _ => Bool) true (fun x _ ih => p x && ih) l
theorem alls_ok {α : Type} {p : α → Bool} : ∀ {l : List α}, alls p l = true → ∀ x ∈ l, p x = true
  | [], _, x, hx => by cases hx
  | y :: t, h, x, hx => by
    have h : (p y && alls p t) = true := h
    have w := bb_and h
    rcases List.mem_cons.mp hx with rfl | hx
    · exact w.1
    · exact alls_ok w.2 x hx
/-- the places from lo to hi of a cell aren't among W -/
noncomputable def w_cl (W : List WE) (c : Nat) (lo hi : Int) : Bool := alls (fun w => !(Nat.beq w.1 c) || (i_nn (w.2.1 - 1 - hi) || i_nn (lo - 1 - w.2.2))) W
theorem w_cl_ok {W : List WE} {c k : Nat} {lo hi : Int} (h : w_cl W c lo hi = true) (h1 : lo ≤ (k : Int)) (h2 : (k : Int) ≤ hi) : Wout W c k := by
  intro w hw q
  have z := alls_ok h w hw
  rcases (Bool.or_eq_true _ _).mp z with z | z
  · exact nbq z q.1
  · rcases (Bool.or_eq_true _ _).mp z with z | z
    · have := i_nn_ok z; omega
    · have := i_nn_ok z; omega
noncomputable def ca_w (W : List WE) (N : NS) (e : CE) : Bool := i_fc (lf_lo N.1 e.2.1) (fun lo => i_fc (lf_hi N.1 e.2.1) (fun hi => w_cl W e.1 lo hi))
noncomputable def col_w (W : List WE) (s : Nat) (o : Nat × Nat) (n : Int) : Bool := w_cl W o.1 (Int.ofNat o.2) (Int.ofNat o.2 + Int.ofNat s * n)
noncomputable def gf_w (tb : TB) (W : List WE) (N : NS) (e : GE) : Bool := match ax_nth tb.2.2.1 e.1 with
  | some G => i_fc (lf_hi N.1 e.2) (fun n => col_w W G.2.1 G.2.2.1 n && (col_w W G.2.1 G.2.2.2.1 n && col_w W G.2.1 G.2.2.2.2 n))
  | none => false
noncomputable def eq_w (W : List WE) (N : NS) (e : QE) : Bool := i_fc (lf_hi N.1 e.2.2) (fun n => w_cl W e.1.1 (lf_lo N.1 e.1.2) (lf_hi N.1 e.1.2 + n) && w_cl W e.2.1.1 (lf_lo N.1 e.2.1.2) (lf_hi N.1 e.2.1.2 + n))
noncomputable def we_ads {β : Type} (l : List WE) (W : List WE) : (List WE → β) → β := List.rec (motive := fun _ => (List WE → β) → β) (fun kk => kk l) (fun w _ ih kk => ih (fun l' => we_ad l' w.1 w.2.1 w.2.2 kk)) W
theorem we_ads_ok {β : Type} (l : List WE) : ∀ (W : List WE) (kk : List WE → β), ∃ l', we_ads l W kk = kk l' ∧ ∀ (d k : Nat), Wout l' d k → Wout l d k ∧ Wout W d k
  | [], kk => ⟨l, rfl, fun d k h => ⟨h, fun w hw => by cases hw⟩⟩
  | w :: t, kk => by
    obtain ⟨l1, e1, e2⟩ := we_ads_ok l t (fun l' => we_ad l' w.1 w.2.1 w.2.2 kk)
    obtain ⟨l2, f1, f2⟩ := we_ad_ok l1 w.1 w.2.1 w.2.2 kk
    refine ⟨l2, e1.trans f1, fun d k h => ?_⟩
    obtain ⟨a, b⟩ := f2 d k h
    obtain ⟨c1, c2⟩ := e2 d k a
    refine ⟨c1, fun v hv => ?_⟩
    rcases List.mem_cons.mp hv with rfl | hv
    · exact fun q => b ⟨q.1.symm, q.2⟩
    · exact c2 v hv
noncomputable def keepW {β : Type} (tb : TB) (W : List WE) (N : NS) (m : MM) (kk : MM → β) : β := we_ads m.2.2.2.1 W (fun wr => kk (flt (ca_w W N) m.1, flt (gf_w tb W N) m.2.1, flt (eq_w W N) m.2.2.1, wr, (bif w_cl W tb.2.2.2.2 0 79 then m.2.2.2.2.1 else []), (bif isnil W then m.2.2.2.2.2 else [])))
theorem keepW_ok {β : Type} {tb : TB} {L : LSc} {ρ : List Int} {h0 h h' : PH} {N : NS} {m : MM} {W : List WE} (hN : Nk ρ N) (hm : Mk tb L ρ h0 h m) (hW : ∀ c k, Wout W c k → h' c k = h c k) (kk : MM → β) : ∃ m', keepW tb W N m kk = kk m' ∧ Mk tb L ρ h0 h' m' := by
  unfold keepW
  obtain ⟨wr, w1, w2⟩ := we_ads_ok m.2.2.2.1 W (fun wr => kk (flt (ca_w W N) m.1, flt (gf_w tb W N) m.2.1, flt (eq_w W N) m.2.2.1, wr, (bif w_cl W tb.2.2.2.2 0 79 then m.2.2.2.2.1 else []), (bif isnil W then m.2.2.2.2.2 else [])))
  refine ⟨_, w1, fun e he => ?_, fun e he => ?_, fun e he => ?_, fun d k hw => ?_, fun f hf => ?_, fun e he => ?_⟩
  · obtain ⟨e1, e2⟩ := flt_ok he
    obtain ⟨i, y, z1, z2, z3, z4⟩ := hm.1 e e1
    unfold ca_w at e2
    rw [i_fc_eq, i_fc_eq] at e2
    have b := lf_b_ok hN.1 z1
    exact ⟨i, y, z1, z2, z3, by rw [hW _ _ (w_cl_ok e2 (by omega) (by omega))]; exact z4⟩
  · obtain ⟨e1, e2⟩ := flt_ok he
    obtain ⟨y, y1, G, y2, y3⟩ := hm.2.1 e e1
    unfold gf_w at e2
    rw [ax_nth_eq, y2] at e2
    have e2 : i_fc (lf_hi N.1 e.2) (fun n => col_w W G.2.1 G.2.2.1 n && (col_w W G.2.1 G.2.2.2.1 n && col_w W G.2.1 G.2.2.2.2 n)) = true := e2
    rw [i_fc_eq] at e2
    have z := bb_and e2
    have z2 := bb_and z.2
    have b := lf_b_ok hN.1 y1
    have CO : ∀ (o : Nat × Nat) (k : Nat), col_w W G.2.1 o (lf_hi N.1 e.2) = true → (k : Int) < y → h' o.1 (o.2 + G.2.1 * k) = h o.1 (o.2 + G.2.1 * k) := fun o k hc hk => by
      apply hW
      have m1 : (G.2.1 : Int) * (k : Int) ≤ (G.2.1 : Int) * lf_hi N.1 e.2 := Int.mul_le_mul_of_nonneg_left (by omega) (Int.natCast_nonneg _)
      have m2 : ((o.2 + G.2.1 * k : Nat) : Int) = (o.2 : Int) + (G.2.1 : Int) * (k : Int) := by rw [Int.natCast_add, Int.natCast_mul]
      have m3 : 0 ≤ (G.2.1 : Int) * (k : Int) := Int.mul_nonneg (Int.natCast_nonneg _) (Int.natCast_nonneg _)
      refine w_cl_ok hc ?_ ?_
      · show (o.2 : Int) ≤ _; omega
      · show _ ≤ (o.2 : Int) + (G.2.1 : Int) * lf_hi N.1 e.2; omega
    refine ⟨y, y1, G, y2, fun k hk => ?_⟩
    rw [CO _ k z.1 hk, CO _ k z2.1 hk, CO _ k z2.2 hk]
    exact y3 k hk
  · obtain ⟨e1, e2⟩ := flt_ok he
    obtain ⟨i, j, n, z1, z2, z3, z4, z5, z6⟩ := hm.2.2.1 e e1
    unfold eq_w at e2
    rw [i_fc_eq] at e2
    have y := bb_and e2
    have b1 := lf_b_ok hN.1 z1
    have b2 := lf_b_ok hN.1 z2
    have b3 := lf_b_ok hN.1 z3
    refine ⟨i, j, n, z1, z2, z3, z4, z5, fun k hk => ?_⟩
    rw [hW _ _ (w_cl_ok y.1 (k := i.toNat + k) (by omega) (by omega)), hW _ _ (w_cl_ok y.2 (k := j.toNat + k) (by omega) (by omega))]
    exact z6 k hk
  · obtain ⟨a, b⟩ := w2 d k hw
    rw [hW d k b]
    exact hm.2.2.2.1 d k a
  · have hf : f ∈ (bif w_cl W tb.2.2.2.2 0 79 then m.2.2.2.2.1 else []) := hf
    cases hc : w_cl W tb.2.2.2.2 0 79 with
    | false => rw [hc] at hf; cases hf
    | true =>
      rw [hc] at hf
      obtain ⟨y, y1, y2⟩ := hm.2.2.2.2.1 f hf
      refine ⟨y, y1, ?_⟩
      rw [y2]
      have : ∀ n, n ≤ 80 → sumr (h tb.2.2.2.2) n = sumr (h' tb.2.2.2.2) n := by
        intro n
        induction n with
        | zero => intro _; rfl
        | succ n ih =>
          intro hn
          show sumr (h tb.2.2.2.2) n + h tb.2.2.2.2 n = sumr (h' tb.2.2.2.2) n + h' tb.2.2.2.2 n
          rw [ih (by omega), hW _ n (w_cl_ok hc (by omega) (by omega))]
      exact this 80 (Nat.le_refl 80)
  · have he : e ∈ (bif isnil W then m.2.2.2.2.2 else []) := he
    cases W with
    | cons a b => cases he
    | nil =>
      have hh : h' = h := funext (fun c => funext (fun k => hW c k (fun w hw => by cases hw)))
      rw [hh]
      exact hm.2.2.2.2.2 e he
