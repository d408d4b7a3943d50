/-! STATES by forms; one state says what another one asks -/
abbrev V2 : Type := Nat × LF
abbrev L2 : Type := List (Nat × V2)
abbrev AT : Type := NS × MM × L2 × List V2
abbrev ST : Type := SG × List LF × List LF × List CE × List GE × List QE × List LF × L2 × List V2
def Vk (sp ad : Nat → Nat) (ρ : List Int) (v : V2) (V : Value) : Prop := match v.1 with
  | 0 => ∃ x : Int32, V = .int x ∧ Lv ρ v.2 x.toInt
  | 1 => ∃ x : Int64, V = .long x ∧ Lv ρ v.2 x.toInt
  | 2 => V = .ref (ad v.2.1.toNat)
  | 6 => V = .retAddr v.2.1.toNat
  | 7 => V.category = 1
  | _ => False
def Sk (sp ad : Nat → Nat) (ρ : List Int) : List V2 → List Value → Prop
  | [], [] => True
  | v :: r, V :: R => Vk sp ad ρ v V ∧ Sk sp ad ρ r R
  | _, _ => False
def Lk (sp ad : Nat → Nat) (ρ : List Int) : L2 → LVs → Prop
  | [], [] => True
  | v :: r, V :: R => (v.1 = V.1 ∧ Vk sp ad ρ v.2 V.2) ∧ Lk sp ad ρ r R
  | _, _ => False
theorem Vk.mono {sp ad : Nat → Nat} {ρ ρ' : List Int} (hs : Sb ρ ρ') {v : V2} {V : Value} (h : Vk sp ad ρ v V) : Vk sp ad ρ' v V := by
  obtain ⟨t, f⟩ := v
  unfold Vk at h ⊢
  split at h
  · obtain ⟨x, a, b⟩ := h; exact ⟨x, a, b.mono hs⟩
  · obtain ⟨x, a, b⟩ := h; exact ⟨x, a, b.mono hs⟩
  · exact h
  · exact h
  · exact h
  · exact h.elim
theorem Sk.mono {sp ad : Nat → Nat} {ρ ρ' : List Int} (hs : Sb ρ ρ') : ∀ {st : List V2} {ST : List Value}, Sk sp ad ρ st ST → Sk sp ad ρ' st ST
  | [], [], _ => trivial
  | _ :: _, _ :: _, h => ⟨h.1.mono hs, Sk.mono hs h.2⟩
theorem Lk.mono {sp ad : Nat → Nat} {ρ ρ' : List Int} (hs : Sb ρ ρ') : ∀ {lv : L2} {LV : LVs}, Lk sp ad ρ lv LV → Lk sp ad ρ' lv LV
  | [], [], _ => trivial
  | _ :: _, _ :: _, h => ⟨⟨h.1.1, h.1.2.mono hs⟩, Lk.mono hs h.2⟩
theorem Sk.cons {sp ad : Nat → Nat} {ρ : List Int} {v : V2} {r : List V2} {ST : List Value} (h : Sk sp ad ρ (v :: r) ST) : ∃ V R, ST = V :: R ∧ Vk sp ad ρ v V ∧ Sk sp ad ρ r R := by
  cases ST with
  | nil => exact h.elim
  | cons V R => exact ⟨V, R, rfl, h.1, h.2⟩
theorem Sk.nil {sp ad : Nat → Nat} {ρ : List Int} {ST : List Value} (h : Sk sp ad ρ [] ST) : ST = [] := by
  cases ST with
  | nil => rfl
  | cons V R => exact h.elim
/-- int, long, by the tag -/
theorem Vk.i {sp ad : Nat → Nat} {ρ : List Int} {v : V2} {V : Value} (h : Vk sp ad ρ v V) (ht : Nat.beq v.1 0 = true) : ∃ x : Int32, V = .int x ∧ Lv ρ v.2 x.toInt := by
  obtain ⟨t, f⟩ := v
  have : t = 0 := bb_eq ht
  subst this
  exact h
theorem Vk.l {sp ad : Nat → Nat} {ρ : List Int} {v : V2} {V : Value} (h : Vk sp ad ρ v V) (ht : Nat.beq v.1 1 = true) : ∃ x : Int64, V = .long x ∧ Lv ρ v.2 x.toInt := by
  obtain ⟨t, f⟩ := v
  have : t = 1 := bb_eq ht
  subst this
  exact h
theorem Vk.r {sp ad : Nat → Nat} {ρ : List Int} {v : V2} {V : Value} (h : Vk sp ad ρ v V) (ht : Nat.beq v.1 2 = true) : V = .ref (ad v.2.1.toNat) := by
  obtain ⟨t, f⟩ := v
  have : t = 2 := bb_eq ht
  subst this
  exact h
theorem Vk.s {sp ad : Nat → Nat} {ρ : List Int} {v : V2} {V : Value} (h : Vk sp ad ρ v V) (ht : Nat.beq v.1 6 = true) : V = .retAddr v.2.1.toNat := by
  obtain ⟨t, f⟩ := v
  have : t = 6 := bb_eq ht
  subst this
  exact h
theorem Vk.cat {sp ad : Nat → Nat} {ρ : List Int} {v : V2} {V : Value} (h : Vk sp ad ρ v V) : V.category = if Nat.beq v.1 1 = true then 2 else 1 := by
  obtain ⟨t, f⟩ := v
  unfold Vk at h
  split at h
  · next e => obtain ⟨x, rfl, -⟩ := h; have e : t = 0 := e; subst e; rfl
  · next e => obtain ⟨x, rfl, -⟩ := h; have e : t = 1 := e; subst e; rfl
  · next e => subst h; have e : t = 2 := e; subst e; rfl
  · next e => subst h; have e : t = 6 := e; subst e; rfl
  · next e => have e : t = 7 := e; subst e; exact h
  · exact h.elim
/-- what a local is -/
noncomputable def lk2 (lv : L2) (i : Nat) : Option V2 := List.rec (motive := fun _ => Option V2) none (fun q _ ih => bif Nat.beq q.1 i then some q.2 else ih) lv
theorem lk2_ok {sp ad : Nat → Nat} {ρ : List Int} {i : Nat} {v : V2} : ∀ {lv : L2} {LV : LVs}, Lk sp ad ρ lv LV → lk2 lv i = some v → ∃ V, (i, V) ∈ LV ∧ Vk sp ad ρ v V
  | [], [], _, hk => by cases hk
  | q :: r, V :: R, h, hk => by
    have hk : (bif Nat.beq q.1 i then some q.2 else lk2 r i) = some v := hk
    cases hb : Nat.beq q.1 i with
    | true =>
      rw [hb] at hk
      cases hk
      have e : q.1 = i := bb_eq hb
      exact ⟨V.2, by rw [← e, h.1.1]; exact List.mem_cons_self, h.1.2⟩
    | false =>
      rw [hb] at hk
      obtain ⟨V', m1, m2⟩ := lk2_ok h.2 hk
      exact ⟨V', List.mem_cons_of_mem _ m1, m2⟩
def Ga (tb : TB) (L : LSc) (sp ad : Nat → Nat) (ρ : List Int) (h0 h : PH) (A : AT) (LV : LVs) (SV : List Value) : Prop := Nk ρ A.1 ∧ Mk tb L ρ h0 h A.2.1 ∧ Th tb L h ∧ Lk sp ad ρ A.2.2.1 LV ∧ Sk sp ad ρ A.2.2.2 SV
/-- a template as a state -/
def tA (T : ST) : AT := ((T.1, T.2.1, T.2.2.1), (T.2.2.2.1, T.2.2.2.2.1, T.2.2.2.2.2.1, [], T.2.2.2.2.2.2.1, []), T.2.2.2.2.2.2.2.1, T.2.2.2.2.2.2.2.2)
/-- an end of a unit as a state: its unknowns come behind the template's -/
def tO (σ : SG) (W : List WE) (o : ST) : AT := ((σ ++ o.1, o.2.1, o.2.2.1), (o.2.2.2.1, o.2.2.2.2.1, o.2.2.2.2.2.1, W, o.2.2.2.2.2.2.1, []), o.2.2.2.2.2.2.2.1, o.2.2.2.2.2.2.2.2)
/-! unknowns put in place of others -/
noncomputable def nthf (mu : List LF) (k : Nat) : LF := match ax_nth mu k with
  | some f => f
  | none => (0, [])
noncomputable def lf_sb {β : Type} (mu : List LF) (n b : Nat) (l : List (Nat × Int)) : LF → (LF → β) → β := List.rec (motive := fun _ => LF → (LF → β) → β) (fun acc kk => kk acc) (fun q _ ih acc kk => bif Nat.blt q.1 n then lf_add q.2 (nthf mu q.1) acc (fun acc' => ih acc' kk) else ax_fc (b + (q.1 - n)) (fun j => lf_add q.2 (0, [(j, 1)]) acc (fun acc' => ih acc' kk))) l
noncomputable def sbf {β : Type} (mu : List LF) (n b : Nat) (f : LF) (kk : LF → β) : β := lf_sb mu n b f.2 (f.1, []) kk
def Mu (ρA : List Int) (mu : List LF) (ρT : List Int) : Prop := mu.length = ρT.length ∧ ∀ (k : Nat) (z : Int), ρT[k]? = some z → ∃ f, mu[k]? = some f ∧ Lv ρA f z
theorem lf_sb_ok {β : Type} (mu : List LF) (n b : Nat) : ∀ (l : List (Nat × Int)) (acc : LF) (kk : LF → β), ∃ g, lf_sb mu n b l acc kk = kk g ∧ ∀ (ρA ρT e : List Int) (x y : Int), Mu ρA mu ρT → n = ρT.length → b = ρA.length → Lt (ρT ++ e) l x → Lv (ρA ++ e) acc y → Lv (ρA ++ e) g (x + y)
  | [], acc, kk => ⟨acc, rfl, fun ρA ρT e x y _ _ _ hx hy => by have hx : x = 0 := hx; rw [hx, Int.zero_add]; exact hy⟩
  | q :: t, acc, kk => by
    show ∃ g, (bif Nat.blt q.1 n then lf_add q.2 (nthf mu q.1) acc (fun acc' => lf_sb mu n b t acc' kk) else ax_fc (b + (q.1 - n)) (fun j => lf_add q.2 (0, [(j, 1)]) acc (fun acc' => lf_sb mu n b t acc' kk))) = kk g ∧ _
    cases hb : Nat.blt q.1 n with
    | true =>
      have lt := bb_lt hb
      obtain ⟨a1, e1, e2⟩ := lf_add_ok q.2 (nthf mu q.1) acc (fun acc' => lf_sb mu n b t acc' kk)
      obtain ⟨g, e3, e4⟩ := lf_sb_ok mu n b t a1 kk
      refine ⟨g, e1.trans e3, fun ρA ρT e x y hM hn hb2 hx hy => ?_⟩
      obtain ⟨z, u, c1, c2, c3⟩ := hx
      rw [List.getElem?_append_left (by omega)] at c1
      obtain ⟨f, f1, f2⟩ := hM.2 _ z c1
      have hf : nthf mu q.1 = f := by unfold nthf; rw [ax_nth_eq, f1]
      have := e4 ρA ρT e u _ hM hn hb2 c2 (e2 (ρA ++ e) z y (by rw [hf]; exact f2.mono (Sb.app _ _)) hy)
      rw [c3, show q.2 * z + u + y = u + (q.2 * z + y) by omega]
      exact this
    | false =>
      have ge := bb_nlt hb
      simp only [cond_false]
      rw [ax_fc_eq]
      obtain ⟨a1, e1, e2⟩ := lf_add_ok q.2 (0, [(b + (q.1 - n), 1)]) acc (fun acc' => lf_sb mu n b t acc' kk)
      obtain ⟨g, e3, e4⟩ := lf_sb_ok mu n b t a1 kk
      refine ⟨g, e1.trans e3, fun ρA ρT e x y hM hn hb2 hx hy => ?_⟩
      obtain ⟨z, u, c1, c2, c3⟩ := hx
      rw [List.getElem?_append_right (by omega)] at c1
      have hz : Lv (ρA ++ e) (0, [(b + (q.1 - n), 1)]) z := Lv.v (by
        rw [List.getElem?_append_right (by omega), hb2, Nat.add_sub_cancel_left, hn]
        exact c1)
      have := e4 ρA ρT e u _ hM hn hb2 c2 (e2 (ρA ++ e) z y hz hy)
      rw [c3, show q.2 * z + u + y = u + (q.2 * z + y) by omega]
      exact this
theorem sbf_ok {β : Type} (mu : List LF) (n b : Nat) (f : LF) (kk : LF → β) : ∃ g, sbf mu n b f kk = kk g ∧ ∀ (ρA ρT e : List Int) (x : Int), Mu ρA mu ρT → n = ρT.length → b = ρA.length → Lv (ρT ++ e) f x → Lv (ρA ++ e) g x := by
  obtain ⟨g, e1, e2⟩ := lf_sb_ok mu n b f.2 (f.1, []) kk
  refine ⟨g, e1, fun ρA ρT e x hM hn hb hx => ?_⟩
  obtain ⟨y, a1, a2⟩ := hx
  have := e2 ρA ρT e y f.1 hM hn hb a1 (Lv.c _ f.1)
  rw [a2, Int.add_comm]
  exact this
/-- all unknowns of a form are below n: it has a value -/
noncomputable def lf_wf (n : Nat) (f : LF) : Bool := alls (fun q => Nat.blt q.1 n) f.2
theorem lt_ex {ρ : List Int} : ∀ (l : List (Nat × Int)), (∀ q ∈ l, q.1 < ρ.length) → ∃ x, Lt ρ l x
  | [], _ => ⟨0, rfl⟩
  | q :: t, h => by
    obtain ⟨x, hx⟩ := lt_ex t (fun p hp => h p (List.mem_cons_of_mem _ hp))
    have hl := h q List.mem_cons_self
    exact ⟨q.2 * ρ[q.1] + x, ρ[q.1], x, List.getElem?_eq_getElem hl, hx, rfl⟩
theorem lf_wf_ok {n : Nat} {f : LF} {ρ : List Int} (h : lf_wf n f = true) (hn : n ≤ ρ.length) : ∃ x, Lv ρ f x := by
  obtain ⟨x, hx⟩ := lt_ex (ρ := ρ) f.2 (fun q hq => by have := bb_lt (alls_ok h q hq); omega)
  exact ⟨f.1 + x, x, hx, rfl⟩
/-- a form over the template's unknowns, and what it is here -/
theorem sbk {β : Type} {mu : List LF} {n : Nat} {f : LF} {ρA ρT : List Int} (hM : Mu ρA mu ρT) (hn : n = ρT.length) (hw : lf_wf n f = true) (kk : LF → β) : ∃ g x, sbf mu n 0 f kk = kk g ∧ Lv ρT f x ∧ Lv ρA g x := by
  obtain ⟨x, hx⟩ := lf_wf_ok (ρ := ρT) hw (by omega)
  -- the number of unknowns here doesn't matter: there are none beyond
  have key : ∀ (l : List (Nat × Int)) (acc : LF) (kk : LF → β), (∀ q ∈ l, q.1 < n) → ∃ g, lf_sb mu n 0 l acc kk = kk g ∧ ∀ x y, Lt ρT l x → Lv ρA acc y → Lv ρA g (x + y) := by
    intro l
    induction l with
    | nil => exact fun acc kk _ => ⟨acc, rfl, fun x y hx hy => by have hx : x = 0 := hx; rw [hx, Int.zero_add]; exact hy⟩
    | cons q t ih =>
      intro acc kk hq
      have lt := hq q List.mem_cons_self
      obtain ⟨a1, e1, e2⟩ := lf_add_ok q.2 (nthf mu q.1) acc (fun acc' => lf_sb mu n 0 t acc' kk)
      obtain ⟨g, e3, e4⟩ := ih a1 kk (fun p hp => hq p (List.mem_cons_of_mem _ hp))
      refine ⟨g, ?_, fun x y hx hy => ?_⟩
      · show (bif Nat.blt q.1 n then lf_add q.2 (nthf mu q.1) acc (fun acc' => lf_sb mu n 0 t acc' kk) else _) = _
        rw [show Nat.blt q.1 n = true from Nat.ble_eq_true_of_le lt]
        exact e1.trans e3
      · obtain ⟨z, u, c1, c2, c3⟩ := hx
        obtain ⟨f, f1, f2⟩ := hM.2 _ z c1
        have hf : nthf mu q.1 = f := by unfold nthf; rw [ax_nth_eq, f1]
        have := e4 u _ c2 (e2 ρA z y (by rw [hf]; exact f2) hy)
        rw [c3, show q.2 * z + u + y = u + (q.2 * z + y) by omega]
        exact this
  obtain ⟨g, e1, e2⟩ := key f.2 (f.1, []) kk (fun q hq => bb_lt (alls_ok hw q hq))
  obtain ⟨y, a1, a2⟩ := id hx
  refine ⟨g, x, e1, hx, ?_⟩
  rw [a2, Int.add_comm]
  exact e2 y f.1 a1 (Lv.c ρA f.1)
/-- shown to be the same -/
noncomputable def eqv (N : NS) (f g : LF) : Bool := lf_add (-1) g f (fun d => (cst d && i_z d.1) || (pv1 N d && lf_sc (-1) d 0 (pv1 N)))
theorem eqv_ok {ρ : List Int} {N : NS} (hN : Nk ρ N) {f g : LF} {x y : Int} (hf : Lv ρ f x) (hg : Lv ρ g y) (h : eqv N f g = true) : x = y := by
  unfold eqv at h
  obtain ⟨d, d1, d2⟩ := lf_add_ok (-1) g f (fun d => (cst d && i_z d.1) || (pv1 N d && lf_sc (-1) d 0 (pv1 N)))
  rw [d1] at h
  have hd := d2 ρ _ _ hg hf
  rcases (Bool.or_eq_true _ _).mp h with h | h
  · have w := bb_and h
    have := cst_ok w.1 hd
    have := i_z_ok w.2
    omega
  · have w := bb_and h
    obtain ⟨e, e1, e2⟩ := lf_sc_ok (-1) d 0 (pv1 N)
    have w2 := w.2
    rw [e1] at w2
    have := pv1_ok hN w.1 hd
    have := pv1_ok hN w2 (e2 ρ _ hd)
    omega
noncomputable def anys {α : Type} (p : α → Bool) (l : List α) : Bool := List.rec (motive := fun _ => Bool) false (fun x _ ih => p x || ih) l
theorem anys_ok {α : Type} {p : α → Bool} : ∀ {l : List α}, anys p l = true → ∃ x ∈ l, p x = true
  | [], h => by cases h
  | y :: t, h => by
    have h : (p y || anys p t) = true := h
    rcases (Bool.or_eq_true _ _).mp h with h | h
    · exact ⟨y, List.mem_cons_self, h⟩
    · obtain ⟨x, a, b⟩ := anys_ok h
      exact ⟨x, List.mem_cons_of_mem _ a, b⟩
noncomputable def sb_rg (N : NS) (σ : SG) : List LF → Bool := List.rec (motive := fun _ => List LF → Bool) (fun mu => List.rec (motive := fun _ => Bool) true (fun _ _ _ => false) mu) (fun q _ ih mu => List.rec (motive := fun _ => Bool) false (fun f t _ => pv2 N (f.1 - q.1, f.2) && (lf_sc (-1) f q.2 (pv2 N) && ih t)) mu) σ
theorem sb_rg_ok {ρ : List Int} {N : NS} (hN : Nk ρ N) : ∀ {σ : SG} {mu : List LF} {ρT : List Int}, sb_rg N σ mu = true → Mu ρ mu ρT → Sr ρT σ
  | [], [], ρT, _, hM => ⟨by rw [← hM.1]; rfl, fun k z hz => by have := hM.1; have h2 := (List.getElem?_eq_some_iff.mp hz).1; simp at this; omega⟩
  | [], _ :: _, _, h, _ => by cases h
  | _ :: _, [], _, h, _ => by cases h
  | q :: t, f :: mu, [], h, hM => by have := hM.1; simp at this
  | q :: t, f :: mu, z :: ρT, h, hM => by
    have h : (pv2 N (f.1 - q.1, f.2) && (lf_sc (-1) f q.2 (pv2 N) && sb_rg N t mu)) = true := h
    have w := bb_and h
    have w2 := bb_and w.2
    have hM2 : Mu ρ mu ρT := ⟨by have := hM.1; simp at this; exact this, fun k y hy => hM.2 (k + 1) y (by simpa using hy)⟩
    have ih := sb_rg_ok hN w2.2 hM2
    obtain ⟨f', f1, f2⟩ := hM.2 0 z rfl
    have f1 : some f = some f' := f1
    cases f1
    obtain ⟨e, e1, e2⟩ := lf_sc_ok (-1) f q.2 (pv2 N)
    have w3 := w2.1
    rw [e1] at w3
    have z1 := pv2_ok hN w.1 (f2.dec q.1)
    have z2 := pv2_ok hN w3 (e2 ρ _ f2)
    refine ⟨by simp [ih.1], fun k y hy => ?_⟩
    cases k with
    | zero =>
      have hy : some z = some y := hy
      cases hy
      exact ⟨q, rfl, by omega, by omega⟩
    | succ k => exact ih.2 k y (by simpa using hy)
