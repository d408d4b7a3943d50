/-! the state behind the constructors as a plain one -/
noncomputable def avv (v : AV) : Int := bif Nat.beq v.1 0 then i32 v.2 else bif Nat.beq v.1 1 then i64 v.2 else 0
noncomputable def h00 (c k : Nat) : Int := match ax_hn hA c with
  | none => 0
  | some q => (match ax_el q.2.2 k with
    | some v => avv v
    | none => 0)
noncomputable def hst (L : LSc) : PH := fun c k => if c = 999 then (if k = 0 then (L.1 : Int) else 0) else if c = 998 then (if k < L.1 then L.2.1 k else 0) else h00 c k
def adm (ad : List Nat) : Nat := ad.foldr max 0
def adf (ad : List Nat) (k : Nat) : Nat := if k < ad.length then ad.getD k 0 else adm ad + 1 + k
theorem adm_ge : ∀ (ad : List Nat) (k : Nat), ad.getD k 0 ≤ adm ad
  | [], k => by simp
  | a :: t, 0 => by
    show a ≤ max a (adm t)
    exact Nat.le_max_left _ _
  | a :: t, k + 1 => by
    show t.getD k 0 ≤ max a (adm t)
    exact Nat.le_trans (adm_ge t k) (Nat.le_max_right _ _)
theorem adf_inj {ad : List Nat} (hd : ∀ i j a b : Nat, ad[i]? = some a → ad[j]? = some b → a = b → i = j) : Inj (adf ad) := fun c c' h => by
  unfold adf at h
  by_cases h1 : c < ad.length
  · by_cases h2 : c' < ad.length
    · rw [if_pos h1, if_pos h2] at h
      refine hd c c' _ _ (List.getElem?_eq_getElem h1) (List.getElem?_eq_getElem h2) ?_
      rw [List.getD_eq_getElem?_getD, List.getD_eq_getElem?_getD, List.getElem?_eq_getElem h1, List.getElem?_eq_getElem h2] at h
      exact h
    · rw [if_pos h1, if_neg h2] at h
      have := adm_ge ad c
      omega
  · by_cases h2 : c' < ad.length
    · rw [if_neg h1, if_pos h2] at h
      have := adm_ge ad c'
      omega
    · rw [if_neg h1, if_neg h2] at h
      omega
noncomputable def rff (ad : List Nat) (c j : Nat) : Option Nat := match shq[c]? with
  | none => none
  | some s => (s.2.2[j]?).map (fun f => adf ad f.2)
/-- a first number fits its place's kind -/
noncomputable def sfk (kd : Nat) (fs : List (Nat × Nat)) (k : Nat) (v : AV) : Bool :=
  bif Nat.blt kd 100 then (match ax_nth fs k with
      | none => false
      | some f => (Nat.beq v.1 0 && (Nat.beq f.1 0 && Nat.blt v.2 4294967296)) || ((Nat.beq v.1 1 && (Nat.beq f.1 1 && Nat.blt v.2 18446744073709551616)) || (Nat.beq v.1 2 && (Nat.beq f.1 2 && Nat.beq f.2 v.2))))
  else bif Nat.beq kd 101 then Nat.beq v.1 1 && Nat.blt v.2 18446744073709551616
  else bif Nat.ble 103 kd then (match ax_nth fs k with
      | none => false
      | some f => Nat.beq v.1 2 && Nat.beq f.2 v.2)
  else Nat.beq v.1 0 && Nat.blt v.2 4294967296
noncomputable def tfk (T : SEG) (k : Nat) (v : AV) : Bool := match sg_f T k with
  | none => true
  | some r => i_fc (avv v) (fun z => i_le r.1 z && i_le z r.2)
noncomputable def seg_n (l : SEG) : Nat := List.rec (motive := fun _ => Nat) 0 (fun s _ ih => s.1 + ih) l
noncomputable def bey (T : Nat × SEG) (n : Nat) : Bool := Nat.ble (seg_n T.2) n || (match uni T with
  | none => false
  | some u => i_le u.2.1 0 && i_le 0 u.2.2)
noncomputable def sck (q : AC) (s : Nat × Nat × List (Nat × Nat)) (T : Nat × SEG) : Bool := Nat.beq q.1 s.1 && (Nat.beq q.2.1 s.2.1 && ((Nat.ble 100 q.1 || Nat.beq s.2.2.length q.2.1) && (Nat.beq T.1 0 && (alls (fun g => !(isnil g.2)) T.2 && (bey T q.2.1 && all_r (fun k => match ax_el q.2.2 k with
  | none => false
  | some v => sfk q.1 s.2.2 k v && tfk T.2 k v) q.2.1)))))
noncomputable def sca : Bool := all_r (fun c => match ax_hn hA c with
  | none => false
  | some q => (match ax_nth shq c with
    | none => false
    | some s => (match ax_nth ttq c with
      | none => false
      | some T => sck q s T))) 185
set_option maxRecDepth 100000 in
theorem sca_ok : sca = true := by decide +kernel
set_option maxRecDepth 100000 in
theorem shq_len : shq.length = 185 := by decide +kernel
set_option maxRecDepth 100000 in
theorem ttA_len : ttA.length = 185 := by decide +kernel
theorem sc_at {c : Nat} (hc : c < 185) : ∃ q s T, ax_hn hA c = some q ∧ shq[c]? = some s ∧ ttq[c]? = some T ∧ sck q s T = true := by
  have h := all_r_ok sca_ok c hc
  cases h1 : ax_hn hA c with
  | none => rw [h1] at h; cases h
  | some q =>
    rw [h1] at h
    dsimp only at h
    rw [ax_nth_eq, ax_nth_eq] at h
    cases h2 : shq[c]? with
    | none => rw [h2] at h; cases h
    | some s =>
      rw [h2] at h
      dsimp only at h
      cases h3 : ttq[c]? with
      | none => rw [h3] at h; cases h
      | some T => rw [h3] at h; exact ⟨q, s, T, rfl, rfl, rfl, h⟩
theorem h00_at {c k : Nat} {q : AC} {v : AV} (hq : ax_hn hA c = some q) (hv : ax_el q.2.2 k = some v) : h00 c k = avv v := by
  unfold h00
  rw [hq]
  dsimp only
  rw [hv]
theorem h00_no {c k : Nat} {q : AC} (hq : ax_hn hA c = some q) (hv : ax_el q.2.2 k = none) : h00 c k = 0 := by
  unfold h00
  rw [hq]
  dsimp only
  rw [hv]
theorem avv_i {v : AV} (h0 : v.1 = 0) (h : v.2 < 4294967296) : Int32.ofInt (avv v) = nI v.2 := by
  unfold avv
  rw [h0]
  show Int32.ofInt (i32 v.2) = nI v.2
  rw [← i32_ok h, Int32.ofInt_toInt]
theorem avv_l {v : AV} (h0 : v.1 = 1) (h : v.2 < 18446744073709551616) : Int64.ofInt (avv v) = lN v.2 := by
  unfold avv
  rw [h0]
  show Int64.ofInt (i64 v.2) = lN v.2
  rw [← i64_ok h, Int64.ofInt_toInt]
theorem Rp.c0 {sp : Nat → Nat} {ρ ad : List Nat} {v : AV} {V : Value} (h : Rp sp ρ ad v V) (h0 : v.1 = 0) : V = .int (nI v.2) := by
  obtain ⟨t, n⟩ := v
  have h0 : t = 0 := h0
  subst h0
  exact h
theorem Rp.c1 {sp : Nat → Nat} {ρ ad : List Nat} {v : AV} {V : Value} (h : Rp sp ρ ad v V) (h0 : v.1 = 1) : V = .long (lN v.2) := by
  obtain ⟨t, n⟩ := v
  have h0 : t = 1 := h0
  subst h0
  exact h
theorem Rp.c2 {sp : Nat → Nat} {ρ ad : List Nat} {v : AV} {V : Value} (h : Rp sp ρ ad v V) (h0 : v.1 = 2) : V = .ref (adf ad v.2) := by
  obtain ⟨t, n⟩ := v
  have h0 : t = 2 := h0
  subst h0
  obtain ⟨a, h1, h2⟩ := h
  rw [h2]
  unfold adf
  rw [if_pos (List.getElem?_eq_some_iff.mp h1).1, List.getD_eq_getElem?_getD, h1]
  rfl
theorem arrV_cg {cI : ClassId} {N : Nat} {f g : Nat → Value} (h : ∀ j, j < N → f j = g j) : arrV cI N f = arrV cI N g := by
  unfold arrV
  congr 1
  congr 1
  funext j
  exact h j.val j.isLt
theorem sck_s {q : AC} {s : Nat × Nat × List (Nat × Nat)} {T : Nat × SEG} (h : sck q s T = true) : q.1 = s.1 ∧ q.2.1 = s.2.1 ∧ (q.1 < 100 → s.2.2.length = q.2.1) ∧ T.1 = 0 ∧ (∀ g ∈ T.2, g.2.length ≠ 0) ∧ bey T q.2.1 = true ∧ ∀ k, k < q.2.1 → ∃ v, ax_el q.2.2 k = some v ∧ sfk q.1 s.2.2 k v = true ∧ tfk T.2 k v = true := by
  have w1 := bb_and h
  have w2 := bb_and w1.2
  have w3 := bb_and w2.2
  have w4 := bb_and w3.2
  have w5 := bb_and w4.2
  have w6 := bb_and w5.2
  refine ⟨bb_eq w1.1, bb_eq w2.1, fun hq => ?_, bb_eq w4.1, fun g hg => ?_, w6.1, fun k hk => ?_⟩
  · rcases (Bool.or_eq_true _ _).mp w3.1 with z | z
    · have := bb_le z; omega
    · exact bb_eq z
  · have z := alls_ok w5.1 g hg
    intro e
    rw [List.length_eq_zero_iff.mp e] at z
    cases z
  · have z := all_r_ok w6.2 k hk
    cases hv : ax_el q.2.2 k with
    | none => rw [hv] at z; cases z
    | some v =>
      rw [hv] at z
      have y := bb_and z
      exact ⟨v, rfl, y.1, y.2⟩
theorem er_lt {sp : Nat → Nat} {dA : Nat → ClassId} {ρ ad : List Nat} {q : AC} {E : va_E} (hE : Er sp dA ρ ad q E) {k : Nat} {v : AV} (hv : ax_el q.2.2 k = some v) : k < q.2.1 := by
  rcases hE with ⟨a, VS, b, d, e⟩ | ⟨a, f, b, e⟩ | ⟨a, f, b, e⟩ | ⟨a, f, b, e⟩
  · obtain ⟨V, z, -⟩ := e k v hv
    rw [← d]
    exact (List.getElem?_eq_some_iff.mp z).1
  · exact (e k v hv).1
  · exact (e k v hv).1
  · exact (e k v hv).1
theorem br_at {sp : Nat → Nat} {dA : Nat → ClassId} {ρ ad : List Nat} {c a : Nat} {q : AC} {s : Nat × Nat × List (Nat × Nat)} {T : Nat × SEG} {E : va_E} {D : va_G} {cl : List vw_C} {H : Heap} (hs : shq[c]? = some s) (hE : Er sp dA ρ ad q E) (hq : ax_hn hA c = some q) (hk : sck q s T = true) (hat : va_at D cl (a, E) H) : va_at D cl (a, mkE dA (adf ad) (rff ad) (h00 c) c s) H := by
  obtain ⟨s1, s2, s3⟩ := s
  obtain ⟨k1', k2', k3', -, -, -, k7'⟩ := sck_s hk
  have k1 : q.1 = s1 := k1'
  have k2 : q.2.1 = s2 := k2'
  have k3 : q.1 < 100 → s3.length = q.2.1 := k3'
  clear k1' k2' k3'
  have k7 : ∀ k, k < q.2.1 → ∃ v, ax_el q.2.2 k = some v ∧ sfk q.1 s3 k v = true ∧ tfk T.2 k v = true := k7'
  rcases hE with ⟨b0, VS, b1, b2, b3⟩ | ⟨b0, f, b1, b3⟩ | ⟨b0, f, b1, b3⟩ | ⟨b0, f, b1, b3⟩
  · rw [mkE_o (by omega)]
    have hl : VS = s3.mapIdx (fun k f => pf (adf ad) (h00 c) k f) := by
      apply List.ext_getElem?
      intro i
      by_cases hi : i < q.2.1
      · obtain ⟨v, v1, v2, -⟩ := k7 i hi
        obtain ⟨V, V1, V2⟩ := b3 i v v1
        unfold sfk at v2
        rw [show Nat.blt q.1 100 = true from Nat.ble_eq_true_of_le b0] at v2
        simp only [cond_true] at v2
        rw [ax_nth_eq] at v2
        rw [V1, List.getElem?_mapIdx]
        cases hf : s3[i]? with
        | none => rw [hf] at v2; cases v2
        | some f =>
          rw [hf] at v2
          dsimp only at v2
          rw [Option.map_some]
          congr 1
          unfold pf
          rcases (Bool.or_eq_true _ _).mp v2 with z | z
          · have y := bb_and z
            have y2 := bb_and y.2
            rw [bb_eq y2.1, V2.c0 (bb_eq y.1), h00_at hq v1]
            show Value.int (nI v.2) = Value.int (Int32.ofInt (avv v))
            rw [avv_i (bb_eq y.1) (bb_lt y2.2)]
          · rcases (Bool.or_eq_true _ _).mp z with z | z
            · have y := bb_and z
              have y2 := bb_and y.2
              rw [bb_eq y2.1, V2.c1 (bb_eq y.1), h00_at hq v1]
              show Value.long (lN v.2) = Value.long (Int64.ofInt (avv v))
              rw [avv_l (bb_eq y.1) (bb_lt y2.2)]
            · have y := bb_and z
              have y2 := bb_and y.2
              rw [bb_eq y2.1, V2.c2 (bb_eq y.1)]
              show Value.ref (adf ad v.2) = Value.ref (adf ad f.2)
              rw [bb_eq y2.2]
      · rw [List.getElem?_eq_none (by omega), List.getElem?_mapIdx, List.getElem?_eq_none (by have := k3 b0; omega)]
        rfl
    rw [b1] at hat
    rw [← hl, ← k1]
    exact hat
  · rw [mkE_i (by omega)]
    rw [b1] at hat
    have hat : H[a]? = some (vp_cell (dA q.1) (q.2.1, .inl f)) := hat
    show H[a]? = some (vp_cell (dA s1) (s2, .inl (fun j => Int32.ofInt (h00 c j))))
    rw [hat, ← k1, ← k2, vp_cell_i, vp_cell_i]
    congr 1
    refine arrV_cg (fun j hj => ?_)
    obtain ⟨v, v1, v2, -⟩ := k7 j hj
    unfold sfk at v2
    rw [show Nat.blt q.1 100 = false from by rcases b0 with e | e <;> (rw [e]; rfl), show Nat.beq q.1 101 = false from by rcases b0 with e | e <;> (rw [e]; rfl), show Nat.ble 103 q.1 = false from by rcases b0 with e | e <;> (rw [e]; rfl)] at v2
    simp only [cond_false] at v2
    have y := bb_and v2
    rw [(b3 j v v1).2.c0 (bb_eq y.1), h00_at hq v1, avv_i (bb_eq y.1) (bb_lt y.2)]
  · have e101 : s1 = 101 := by omega
    subst e101
    rw [mkE_l]
    rw [b1, b0] at hat
    have hat : H[a]? = some (vp_cell (dA 101) (q.2.1, .inr (.inl f))) := hat
    show H[a]? = some (vp_cell (dA 101) (s2, .inr (.inl (fun j => Int64.ofInt (h00 c j)))))
    rw [hat, ← k2, vp_cell_l, vp_cell_l]
    congr 1
    refine arrV_cg (fun j hj => ?_)
    obtain ⟨v, v1, v2, -⟩ := k7 j hj
    unfold sfk at v2
    rw [b0] at v2
    have y := bb_and (a := Nat.beq v.1 1) v2
    rw [(b3 j v v1).2.c1 (bb_eq y.1), h00_at hq v1, avv_l (bb_eq y.1) (bb_lt y.2)]
  · rw [mkE_r (by omega)]
    rw [b1] at hat
    have hat : H[a]? = some (vp_cell (dA q.1) (q.2.1, .inr (.inr (.inr (.inr f))))) := hat
    show H[a]? = some (vp_cell (dA s1) (s2, .inr (.inr (.inr (.inr (rff ad c))))))
    rw [hat, ← k1, ← k2, vp_cell_q, vp_cell_q]
    congr 1
    refine arrV_cg (fun j hj => ?_)
    obtain ⟨v, v1, v2, -⟩ := k7 j hj
    unfold sfk at v2
    rw [show Nat.blt q.1 100 = false from (by cases hz : Nat.blt q.1 100 with | false => rfl | true => have := bb_lt hz; omega), show Nat.beq q.1 101 = false from bb_nb (by omega), show Nat.ble 103 q.1 = true from Nat.ble_eq_true_of_le b0.1] at v2
    simp only [cond_false, cond_true] at v2
    rw [ax_nth_eq] at v2
    cases hf : s3[j]? with
    | none => rw [hf] at v2; cases v2
    | some g =>
      rw [hf] at v2
      have y := bb_and (a := Nat.beq v.1 2) v2
      rw [(b3 j v v1).2.c2 (bb_eq y.1)]
      unfold rff
      rw [hs]
      dsimp only
      rw [hf]
      show _ = va_rf (some (adf ad g.2))
      rw [bb_eq y.2]
      rfl
theorem seg_no : ∀ (l : SEG) (k : Nat), seg_n l ≤ k → seg_at l k = none
  | [], _, _ => rfl
  | s :: t, k, h => by
    have h : s.1 + seg_n t ≤ k := h
    show (if k < s.1 then s.2[k % s.2.length]? else seg_at t (k - s.1)) = none
    rw [if_neg (by omega)]
    exact seg_no t (k - s.1) (by omega)
theorem ttq_at {c : Nat} {T : Nat × SEG} (h : ttq[c]? = some T) : c < 185 ∨ (c < 998 ∧ T = ttz) ∨ (c = 998 ∧ T = tt8) ∨ (c = 999 ∧ T = tt9) := by
  unfold ttq at h
  by_cases h1 : c < 185
  · exact Or.inl h1
  · rw [List.getElem?_append_right (by rw [ttA_len]; omega), ttA_len] at h
    by_cases h2 : c < 998
    · rw [List.getElem?_append_left (by rw [List.length_replicate]; omega), List.getElem?_replicate] at h
      rw [if_pos (by omega)] at h
      exact Or.inr (Or.inl ⟨h2, (Option.some.inj h).symm⟩)
    · rw [List.getElem?_append_right (by rw [List.length_replicate]; omega), List.length_replicate] at h
      by_cases h3 : c = 998
      · subst h3
        exact Or.inr (Or.inr (Or.inl ⟨rfl, (Option.some.inj h).symm⟩))
      · by_cases h4 : c = 999
        · subst h4
          exact Or.inr (Or.inr (Or.inr ⟨rfl, (Option.some.inj h).symm⟩))
        · exfalso
          rw [List.getElem?_eq_none (by simp; omega)] at h
          cases h
theorem th_st (L : LSc) (hL : L.1 ≤ 3072) (hx : ∀ k, -2147483648 ≤ L.2.1 k ∧ L.2.1 k ≤ 2147483647) (hn : ∀ c q, ax_hn hA c = some q → ∀ k v, ax_el q.2.2 k = some v → k < q.2.1) : Th tbq L (hst L) := by
  refine ⟨fun c T hT => ?_, ?_, fun k hk => ?_⟩
  · have hT : ttq[c]? = some T := hT
    rcases ttq_at hT with h | ⟨h, e⟩ | ⟨h, e⟩ | ⟨h, e⟩
    · obtain ⟨q, s, T', e1, e2, e3, e4⟩ := sc_at h
      rw [hT] at e3
      cases e3
      obtain ⟨-, -, -, k4, k5, k6, k7⟩ := sck_s e4
      refine ⟨k5, fun k r hr => ?_⟩
      have hh : hst L c k = h00 c k := by
        unfold hst
        rw [if_neg (by omega), if_neg (by omega)]
      rw [hh]
      by_cases hk : k < q.2.1
      · obtain ⟨v, v1, -, v3⟩ := k7 k hk
        rw [h00_at e1 v1]
        unfold ty_at at hr
        rw [if_pos k4] at hr
        unfold tfk at v3
        rw [sg_f_eq, hr] at v3
        dsimp only at v3
        rw [i_fc_eq] at v3
        have y := bb_and v3
        exact ⟨i_le_ok y.1, i_le_ok y.2⟩
      · have hz : h00 c k = 0 := by
          cases hv : ax_el q.2.2 k with
          | none => exact h00_no e1 hv
          | some v => exact absurd (hn c q e1 k v hv) hk
        rw [hz]
        rcases (Bool.or_eq_true _ _).mp k6 with z | z
        · have := bb_le z
          unfold ty_at at hr
          rw [if_pos k4, seg_no _ _ (by omega)] at hr
          cases hr
        · cases hu : uni T with
          | none => rw [hu] at z; cases z
          | some u =>
            rw [hu] at z
            have y := bb_and z
            rw [uni_ok (len := u.1) (q := u.2) hu] at hr
            split at hr
            · cases hr
              exact ⟨i_le_ok y.1, i_le_ok y.2⟩
            · cases hr
    · subst e
      refine ⟨fun s hs => ?_, fun k r hr => ?_⟩
      · have hs : s ∈ [((0 : Nat), [(Int.ofNat 0, Int.ofNat 0)])] := hs
        rw [List.mem_singleton.mp hs]
        exact fun z => by cases z
      · have hr : (if k < 0 then ([(Int.ofNat 0, Int.ofNat 0)] : List (Int × Int))[k % 1]? else none) = some r := hr
        rw [if_neg (by omega)] at hr
        cases hr
    · subst h
      subst e
      refine ⟨fun s hs => ?_, fun k r hr => ?_⟩
      · have hs : s ∈ [((4096 : Nat), [(Int.negSucc 2147483647, Int.ofNat 2147483647)])] := hs
        rw [List.mem_singleton.mp hs]
        exact fun z => by cases z
      · rw [uni_ok (T := tt8) (len := 4096) (q := (Int.negSucc 2147483647, Int.ofNat 2147483647)) rfl] at hr
        split at hr
        · cases hr
          unfold hst
          rw [if_neg (by omega), if_pos rfl]
          have := hx k
          have e1 : (Int.negSucc 2147483647 : Int) = -2147483648 := rfl
          have e2 : (Int.ofNat 2147483647 : Int) = 2147483647 := rfl
          dsimp only
          rw [e1, e2]
          split <;> omega
        · cases hr
    · subst h
      subst e
      refine ⟨fun s hs => ?_, fun k r hr => ?_⟩
      · have hs : s ∈ [((1 : Nat), [(Int.ofNat 0, Int.ofNat 3072)])] := hs
        rw [List.mem_singleton.mp hs]
        exact fun z => by cases z
      · rw [uni_ok (T := tt9) (len := 1) (q := (Int.ofNat 0, Int.ofNat 3072)) rfl] at hr
        split at hr
        · cases hr
          unfold hst
          rw [if_pos rfl]
          have e1 : (Int.ofNat 0 : Int) = 0 := rfl
          have e2 : (Int.ofNat 3072 : Int) = 3072 := rfl
          dsimp only
          rw [e1, e2]
          split <;> omega
        · cases hr
  · unfold hst
    rw [if_pos rfl, if_pos rfl]
  · unfold hst
    rw [if_neg (by omega), if_pos rfl, if_pos hk]
noncomputable def ca0 : List CE := [(21, (Int.ofNat 2, []), (Int.ofNat 0, [])), (119, (Int.ofNat 2, []), (Int.ofNat 0, [])), (141, (Int.ofNat 2, []), (Int.ofNat 0, [])), (163, (Int.ofNat 2, []), (Int.ofNat 0, [])), (170, (Int.ofNat 4, []), (Int.negSucc 0, [])), (170, (Int.ofNat 532, []), (Int.ofNat 0, [])), (170, (Int.ofNat 1060, []), (Int.ofNat 0, [])), (170, (Int.ofNat 1588, []), (Int.ofNat 0, []))]
set_option maxRecDepth 100000 in
theorem ca0_ok : alls (fun e => Nat.blt e.1 900 && (i_nn e.2.1.1 && (isnil e.2.1.2 && (isnil e.2.2.2 && i_eq (h00 e.1 e.2.1.1.toNat) e.2.2.1)))) ca0 = true := by decide +kernel
/-- an int that is 0, and nothing else -/
noncomputable def is0 (l : List V2) : Bool := match l with
  | [v] => Nat.beq v.1 0 && (i_eq v.2.1 0 && isnil v.2.2)
  | _ => false
theorem is0_ok {sp ad : Nat → Nat} {ρ : List Int} {l : List V2} {ST : List Value} (h : is0 l = true) (hs : Sk sp ad ρ l ST) : ∃ x : Int32, ST = [.int x] ∧ x.toInt = 0 := by
  match l, ST, h, hs with
  | [v], V :: R, h, hs =>
    have w := bb_and h
    have w2 := bb_and w.2
    obtain ⟨t, z, fs⟩ := v
    have et : t = 0 := bb_eq w.1
    have ez : z = 0 := i_eq_ok w2.1
    have ef : fs = [] := by
      cases fs with
      | nil => rfl
      | cons a b => exact absurd w2.2 (fun q => by cases q)
    subst et
    subst ez
    subst ef
    obtain ⟨⟨x, e1, e2⟩, e3⟩ := hs
    refine ⟨x, ?_, ?_⟩
    · cases R with
      | nil => rw [e1]
      | cons a b => exact e3.elim
    · exact e2.cn
  | [v], [], h, hs => exact hs.elim
noncomputable def nN0 : NS := ([(Int.ofNat 0, Int.ofNat 3072)], [], [])
noncomputable def mM0 : MM := ((999, (Int.ofNat 0, []), (Int.ofNat 0, [(0, Int.ofNat 1)])) :: ca0, [], [], [], [], [])
noncomputable def lL0 : L2 := [(3, (0, (Int.ofNat 0, []))), (2, (2, (Int.ofNat 169, []))), (1, (2, (Int.ofNat 0, []))), (0, (6, (Int.ofNat 0, [])))]
set_option maxRecDepth 100000 in
theorem um0 : (um tbq un666 nN0 mM0 lL0 []).isSome = true := by decide +kernel
set_option maxRecDepth 100000 in
theorem out0 : alls (fun o => (Nat.beq o.1 1 && (Nat.beq o.2.1 2302 && isnil o.2.2.2.2.2.2.2.2.2.2.2)) || (Nat.beq o.1 0 && is0 o.2.2.2.2.2.2.2.2.2.2.2)) un666.2.2.1 = true := by decide +kernel
set_option maxRecDepth 100000 in
theorem t00 : t0k tbq U0q nN0 mM0 = true := by decide +kernel
set_option maxRecDepth 100000 in
theorem jz : h00 2 1 = 0 ∧ h00 169 10 = 0 := by decide +kernel
set_option maxRecDepth 100000 in
theorem jz3 : ∀ k : Nat, k < 900 → h00 175 k = 0 ∧ h00 3 k = 0 := by decide +kernel
set_option maxRecDepth 100000 in
theorem jz4 : ∀ k : Nat, k < 24 → h00 4 k = kwt.getD k 0 := by decide +kernel
theorem hst_lo (L : LSc) {c k : Nat} (hc : c < 900) : hst L c k = h00 c k := by
  unfold hst
  rw [if_neg (by omega), if_neg (by omega)]
theorem jst10 (L : LSc) : J10 (hst L) := by
  refine ⟨?_, ?_, fun k hk => ?_, fun k hk => ?_⟩
  · rw [hst_lo L (by omega), hst_lo L (by omega), jz.1, jz.2]
  · rw [hst_lo L (by omega), jz.1]
    omega
  · rw [hst_lo L (by omega), hst_lo L (by omega), (jz3 k hk).1, (jz3 k hk).2, zb_0]
    omega
  · rw [hst_lo L (by omega)]
    exact jz4 k hk
set_option maxRecDepth 100000 in
theorem jz9a : (h00 0 17 = 0 ∧ h00 169 33 = 0) ∧ (h00 5 4 = 0 ∧ h00 6 0 = 0) ∧ (h00 5 7 = 0 ∧ h00 5 8 = 0 ∧ h00 5 9 = 0 ∧ h00 6 1 = 0) ∧ (h00 5 12 = 0 ∧ h00 5 13 = 0) ∧ (h00 21 0 = 0 ∧ h00 170 4 = -1) ∧ h00 89 0 = 0 ∧ h00 169 32 = 0 := by decide +kernel
set_option maxRecDepth 100000 in
theorem jz9b : (∀ k : Nat, k < 64 → h00 12 k = 0) ∧ (∀ k : Nat, k < 8 → h00 13 k = 0 ∧ h00 19 k = 0) ∧ (∀ k : Nat, k < 7 → h00 7 k = 0 ∧ h00 20 k = 0) := by decide +kernel
set_option maxRecDepth 100000 in
theorem jz9c : ∀ k : Nat, k < 164 → k ≠ 4 → h00 170 k = 0 := by decide +kernel
theorem jz9d : ∀ i : Nat, i < 8 → bt 0 i = 0 := by decide +kernel
theorem jst (L : LSc) : J9 (hst L) := by
  obtain ⟨⟨a, b⟩, ⟨c, d⟩, ⟨e1, e2, e3, e4⟩, ⟨f1, f2⟩, ⟨g1, g2⟩, i1, i2⟩ := jz9a
  obtain ⟨o1, o2, o3⟩ := jz9b
  let P : PH := fun j k => hst L (5 + j) k
  have P0 : ∀ j k : Nat, j < 800 → P j k = h00 (5 + j) k := fun j k q => hst_lo L (by omega)
  have n0 : P 1 0 = 0 := (P0 1 0 (by omega)).trans d
  have n4 : P 0 4 = 0 := (P0 0 4 (by omega)).trans c
  have h0 : hst L 0 17 = 0 := by rw [hst_lo L (by omega)]; exact a
  have sb : ∀ n : Int, SB 0 n := fun n => ⟨by omega, by omega, fun i hi _ => jz9d i hi⟩
  have p7 : ∀ q : Nat, q < 64 → P 7 q = 0 := fun q hq => (P0 7 q (by omega)).trans (o1 q hq)
  have p8 : ∀ q : Nat, q < 8 → P 8 q = 0 := fun q hq => (P0 8 q (by omega)).trans (o2 q hq).1
  have p14 : ∀ q : Nat, q < 8 → P 14 q = 0 := fun q hq => (P0 14 q (by omega)).trans (o2 q hq).2
  have p2 : ∀ q : Nat, q < 7 → P 2 q = 0 := fun q hq => (P0 2 q (by omega)).trans (o3 q hq).1
  have p15 : ∀ q : Nat, q < 7 → P 15 q = 0 := fun q hq => (P0 15 q (by omega)).trans (o3 q hq).2
  have b1 : P 1 1 = 0 := (P0 1 1 (by omega)).trans e4
  have b7 : P 0 7 = 0 := (P0 0 7 (by omega)).trans e1
  have b8 : P 0 8 = 0 := (P0 0 8 (by omega)).trans e2
  have b9 : P 0 9 = 0 := (P0 0 9 (by omega)).trans e3
  have rz : ∀ p n : Nat, p + n ≤ 64 → rs (P 7) p n = 0 := fun p n => by
    induction n with
    | zero => intro _; rfl
    | succ n ih => intro q; show rs (P 7) p n + P 7 (p + n) = 0; rw [ih (by omega), p7 _ (by omega)]; rfl
  have w9 : W9 P := ⟨⟨by omega, by omega, fun p hp => by rw [p14 p hp]; omega, fun p hp => by rw [p8 p hp, rz _ _ (by omega)], fun q hq => by rw [p7 q hq]; omega, by rw [WS, b1, b7, b8, b9]; exact ⟨sb _, sb _, sb _, sb _⟩⟩, fun p q hp hq _ => p7 _ (by omega), fun p hp => by omega, fun f t hf => by omega, fun p k hp hk q => by rw [p14 p hp] at q; omega, fun i hi => by rw [p15 i hi]; omega⟩
  have w10 : W10 P := ⟨w9, fun p j k hp hj hk => by rw [p14 p hp] at hk; omega, fun p hp => p7 _ (by omega), fun i hi => by rw [p2 i hi]; exact sb _, fun i j hi hj => by rw [p2 i hi, p2 j hj, bB_0 (by omega), bB_0 (by omega)], fun p q hp hq _ => p7 _ (by omega)⟩
  have r0 : ∀ k : Nat, k < 164 → k ≠ 4 → hst L 170 k = 0 := fun k hk q => by rw [hst_lo L (by omega)]; exact jz9c k hk q
  have rl : RLd (528 * 0) (15 * 0) (hst L) P := by
    refine ⟨⟨?_, ?_, ?_, ?_⟩, fun i hi => ⟨?_, ?_, ?_⟩, fun p hp => ⟨fun q => ?_, ?_, ?_, ?_⟩, fun q hq => ?_, fun p hp => ⟨?_, fun k hk q => ?_⟩, fun i hi => ?_, fun p hp => ?_⟩
    · rw [n0]; exact r0 _ (by omega) (by omega)
    · rw [n4]; exact r0 _ (by omega) (by omega)
    · rw [show P 0 12 = 0 from (P0 0 12 (by omega)).trans f1]; exact r0 _ (by omega) (by omega)
    · rw [show P 0 13 = 0 from (P0 0 13 (by omega)).trans f2]; exact r0 _ (by omega) (by omega)
    · rw [b1, jz9d i (by omega)]; exact r0 _ (by omega) (by omega)
    · rw [p2 i hi]; exact r0 _ (by omega) (by omega)
    · rw [p15 i hi]; exact r0 _ (by omega) (by omega)
    · rw [n4] at q; omega
    · rw [b7, jz9d p hp]; exact r0 _ (by omega) (by omega)
    · rw [b8, jz9d p hp]; exact r0 _ (by omega) (by omega)
    · rw [b9, jz9d p hp]; exact r0 _ (by omega) (by omega)
    · rw [p7 q hq]; exact r0 _ (by omega) (by omega)
    · rw [p14 p hp]; exact r0 _ (by omega) (by omega)
    · rw [p14 p hp] at q; omega
    · rw [n0] at hi; omega
    · rw [n4] at hp; omega
  refine ⟨⟨jst10 L, ⟨?_, ?_, ?_⟩, ⟨P, fun j k _ => rfl, w10, rl, Or.inl ⟨?_, ?_⟩⟩, fun m hm => ?_⟩, Or.inl ⟨?_, ?_⟩⟩
  · rw [h0, hst_lo L (by omega)]; exact b.symm
  · rw [h0]; omega
  · rw [h0]; omega
  · rw [hst_lo L (by omega)]; exact g1
  · rw [hst_lo L (by omega)]; exact g2
  · rw [h0] at hm; omega
  · rw [hst_lo L (by omega)]; exact i1
  · rw [hst_lo L (by omega)]; exact i2
theorem dg1 : decode mL_law.2.1 2302 = .ok (.iconst 1, 1) := by decide +kernel
theorem dg2 : decode mL_law.2.1 2303 = .ok (.ireturn, 1) := by decide +kernel
section WALK
variable {p : Program} {e : Env} {s : State} {m : MethodId} {below : List Frame} {meth : Method} {c : Code} {l : Launch} {b L0 : Nat} {dC : Nat → ClassId} {dI : Nat → Nat → Nat} {dA : Nat → ClassId} {sp : Nat → Nat} {ρ0 : List Nat}
theorem gh (hX : CX sbs dC dI dA sp s.heap ρ0 mL_law p room_1 s m #[Value.ref b] meth c) (h6 : ρ0[6]? = some (L0 + 9223372036854775808)) (hL0 : L0 ≤ 3072) (hsp : ∀ j, 9223372034707292160 ≤ sp (1000 + j) ∧ sp (1000 + j) ≤ 9223372039002259455) : GG dC dI dA sp s.heap l p e room_1 s m #[Value.ref b] below meth c (lw_Z below #[Value.ref b] s) ρ0 [] 4 18 s7 hA 185 11361 lA [] := by
  intro ρ ad ws H locs ls LV ST q1 q2 q3 q4 q5 q6 q7 q8 q9 q10
  cases ST with
  | cons _ _ => exact q10.elim
  | nil =>
    obtain ⟨r1, r2, r3⟩ := q4
    have hws : ws.length = 185 := r1.symm
    generalize hL : (((L0, fun j => (sp (1000 + j) : Int) - 9223372036854775808, PXd sbs mqq dC dI dA sp s.heap l ρ0 (adf ad) (rff ad) tbq.1)) : LSc) = L
    have l1 : L.1 = L0 := by rw [← hL]
    have l2 : ∀ j, L.2.1 j = (sp (1000 + j) : Int) - 9223372036854775808 := fun j => by rw [← hL]
    have hLOK : LOK sbs mqq dC dI dA sp s.heap l ρ0 (adf ad) (rff ad) tbq.1 L := ⟨⟨by rw [l1]; exact h6, l2⟩, by rw [← hL]⟩
    have hrf : ∀ c q, tbq.1[c]? = some q → 103 ≤ q.1 → ∀ j f, j < q.2.1 → q.2.2[j]? = some f → rff ad c j = some (adf ad f.2) := fun c q hc _ j f _ hf => by
      have hc : shq[c]? = some q := hc
      unfold rff
      rw [hc]
      dsimp only
      rw [hf]
      rfl
    obtain ⟨u1, u2, u3⟩ := ug666 dC dI dA sp s.heap l ρ0 (adf ad) (rff ad) L hLOK (by omega) hrf _ List.mem_cons_self
    have u4 := u3 mL_law rfl
    have u4 : UOK tbq sbs dC dI dA sp s.heap l ρ0 (adf ad) (rff ad) L mL_law 18 un666 := u4
    have ERK : ∀ {c : Nat}, c < 185 → ∃ q s' T w, ax_hn hA c = some q ∧ shq[c]? = some s' ∧ sck q s' T = true ∧ ws[c]? = some w ∧ Er sp dA ρ ad q w.2 ∧ w.1 = adf ad c := fun {c} hc => by
      obtain ⟨q, s', T, e1, e2, -, e4⟩ := sc_at hc
      obtain ⟨w, w1, w2⟩ := r3 c q e1
      refine ⟨q, s', T, w, e1, e2, e4, w1, w2, ?_⟩
      unfold adf
      rw [r2, if_pos (by rw [List.length_map]; exact (List.getElem?_eq_some_iff.mp w1).1), List.getD_eq_getElem?_getD, List.getElem?_map, w1]
      rfl
    have hTh : Th tbq L (hst L) := th_st L (by omega) (fun k => by rw [l2]; have := hsp k; omega) (fun c q hq k v hv => by
      obtain ⟨w, w1, w2⟩ := r3 c q hq
      exact er_lt w2 hv)
    have eLV : LV = lvt sp [(3, .int (nI 0)), (2, .ref (adf ad 169)), (1, .ref (adf ad 0)), (0, .retAddr 0)] := by
      match LV, q8 with
      | [(a1, a2), (b1, b2), (c1, c2), (d1, d2)], ⟨⟨e3, h3⟩, ⟨e2, h2⟩, ⟨e1, h1⟩, ⟨e0, h0⟩, _⟩ =>
        have e3 : 3 = a1 := e3
        have e2 : 2 = b1 := e2
        have e1 : 1 = c1 := e1
        have e0 : 0 = d1 := e0
        have g3 : a2 = .int (nI 0) := h3
        have g2 : b2 = .ref (adf ad 169) := Rp.c2 h2 rfl
        have g1 : c2 = .ref (adf ad 0) := Rp.c2 h1 rfl
        have g0 : d2 = .ref (sp 0) := h0
        subst e3
        subst e2
        subst e1
        subst e0
        subst g3
        subst g2
        subst g1
        subst g0
        rfl
    subst eLV
    generalize hLV : ([(3, .int (nI 0)), (2, .ref (adf ad 169)), (1, .ref (adf ad 0)), (0, .retAddr 0)] : LVs) = LV
    rw [hLV] at q8 q9
    have hLk : Lk sp (adf ad) [(L0 : Int)] lL0 LV := by
      rw [← hLV]
      exact ⟨⟨rfl, ⟨nI 0, rfl, by rw [nI_0]; exact Lv.c _ _⟩⟩, ⟨rfl, rfl⟩, ⟨rfl, rfl⟩, ⟨rfl, rfl⟩, trivial⟩
    have hInj : Inj (adf ad) := adf_inj (fun i j a b ha hb hab => by
      rw [r2, List.getElem?_map] at ha hb
      cases hwi : ws[i]? with
      | none => rw [hwi] at ha; cases ha
      | some wi =>
        cases hwj : ws[j]? with
        | none => rw [hwj] at hb; cases hb
        | some wj =>
          rw [hwi] at ha
          rw [hwj] at hb
          have ha : wi.1 = a := Option.some.inj ha
          have hb : wj.1 = b := Option.some.inj hb
          exact q6.1 i j wi wj hwi hwj (by rw [ha, hb, hab]))
    have hsl : sl0 ρ0 = L.1 := by
      unfold sl0
      rw [List.getD_eq_getElem?_getD, h6, l1]
      show L0 + 9223372036854775808 - 9223372036854775808 = L0
      omega
    have hCTX : CTX dC dI dA sp s.heap l ρ0 (adf ad) (rff ad) L := ⟨hLOK, by omega, hrf, hInj, hsl⟩
    have hG0 : Ga tbq L sp (adf ad) [(L0 : Int)] (hst L) (hst L) (nN0, mM0, lL0, []) LV [] := by
      refine ⟨⟨⟨rfl, fun k z hz => ?_⟩, (fun f hf => by cases hf), (fun f hf => by cases hf)⟩, ⟨fun e he => ?_, (fun e he => by cases he), (fun e he => by cases he), fun _ _ _ => rfl, (fun e he => by cases he), (fun e he => by cases he)⟩, hTh, hLk, trivial⟩
      · cases k with
        | zero =>
          have hz : some (L0 : Int) = some z := hz
          cases hz
          exact ⟨_, rfl, by show (0 : Int) ≤ _; omega, by show _ ≤ (3072 : Int); omega⟩
        | succ k => simp at hz
      · rcases List.mem_cons.mp he with rfl | he
        · refine ⟨0, (L0 : Int), Lv.c _ _, Int.le_refl 0, ?_, ?_⟩
          · exact Lv.v (ρ := [(L0 : Int)]) (k := 0) rfl
          · show hst L 999 0 = _
            unfold hst
            rw [if_pos rfl, if_pos rfl, l1]
        · have w1 := bb_and (alls_ok ca0_ok e he)
          have w2 := bb_and w1.2
          have w3 := bb_and w2.2
          have w4 := bb_and w3.2
          have hlt := bb_lt w1.1
          obtain ⟨c1, ⟨i1, i2⟩, ⟨x1, x2⟩⟩ := e
          have ei : i2 = [] := by
            cases i2 with
            | nil => rfl
            | cons _ _ => exact absurd w3.1 (fun z => by cases z)
          have ex : x2 = [] := by
            cases x2 with
            | nil => rfl
            | cons _ _ => exact absurd w4.1 (fun z => by cases z)
          subst ei
          subst ex
          refine ⟨i1, x1, Lv.c _ _, i_nn_ok w2.1, Lv.c _ _, ?_⟩
          have hlt : c1 < 900 := hlt
          show hst L c1 i1.toNat = x1
          unfold hst
          rw [if_neg (by omega), if_neg (by omega)]
          exact i_eq_ok w4.2
    cases hum : um tbq un666 nN0 mM0 lL0 [] with
    | none => have z := um0; rw [hum] at z; cases z
    | some r =>
      obtain ⟨N', m', mu⟩ := r
      obtain ⟨-, ρ', ρT, LV', v1, v2, v3, v4, v5, v6⟩ := um_ok u1 u2 hG0 hum
      obtain ⟨pc1, h1, lv1, st1, p1, K1, Z1⟩ := wp_less v5 (u4 ρT (hst L) LV' v6)
      obtain ⟨o, o1, o2, e', o3⟩ := p1
      have hS : Sk sp (adf ad) (ρT ++ e') o.2.2.2.2.2.2.2.2.2.2.2 st1 := o3.2.2.2.2
      have w1 : (Nat.beq o.1 1 && (Nat.beq o.2.1 2302 && isnil o.2.2.2.2.2.2.2.2.2.2.2)) = true := by
        rcases (Bool.or_eq_true _ _).mp (alls_ok out0 o o1) with z | z
        · exact z
        · exfalso
          have z1 := bb_and z
          have hrt : rte mL_law pc1 st1 := by
            rcases o2 with ⟨-, y⟩ | ⟨y, -⟩
            · exact y
            · have := bb_eq z1.1
              omega
          obtain ⟨x, e1, e2⟩ := is0_ok z1.2 hS
          have hz0 : Zlr (adf ad) (zlL 0) LV := by
            rw [← hLV]
            intro q hq
            rcases List.mem_cons.mp hq with rfl | hq
            · rw [cz_i, nI_0]; rfl
            · rcases List.mem_cons.mp hq with rfl | hq
              · rw [cz_c hInj]; rfl
              · rcases List.mem_cons.mp hq with rfl | hq
                · rw [cz_c hInj]; rfl
                · rw [List.mem_singleton.mp hq, cz_s]; rfl
          obtain ⟨f, n, zl', z2, -⟩ := Z1 hInj (zlL 0) hz0
          have z3 := law_go hCTX (cs_all hCTX) (n + 1) f n (hst L) (zlL 0) 0 _ (Nat.lt_succ_self n) (t0k_ok u0_n u0_w u0_l hG0 t00) (jst L) (Int.le_refl 0) (zsb_in ⟨rfl, rfl, rfl, rfl, trivial⟩) z2 (rtz_of hrt)
          rw [e1] at z3
          have z4 : x.toInt = 1 := congrArg Prod.snd (List.cons.inj z3).1
          omega
      have w1 := bb_and w1
      have w2 := bb_and w1.2
      have hpc : pc1 = 2302 := by
        rcases o2 with ⟨z, -⟩ | ⟨-, z⟩
        · have := bb_eq w1.1; omega
        · rw [z]; exact bb_eq w2.1
      have hst1 : st1 = [] := by
        cases hT : o.2.2.2.2.2.2.2.2.2.2.2 with
        | nil => rw [hT] at hS; exact hS.nil
        | cons a b => have z := w2.2; rw [hT] at z; cases z
      subst hpc
      subst hst1
      have K2 : Wp0 sbs dC dI dA sp s.heap l ρ0 (adf ad) (rff ad) tbq.1 mL_law 18 (hst L) (lvt sp LV) [] (one 2303 h1 (lvt sp lv1) [.int (nI 1)]) := by
        refine w0_bd K1 (fun pc' h' lv' st' q => ?_)
        obtain ⟨rfl, rfl, rfl, rfl⟩ := q
        exact w0_push (mt := mth) (lk := []) (t := 0) (n := 1) dg1 rfl (by decide +kernel) rfl (w0_rf ⟨rfl, rfl, rfl, rfl⟩)
      refine K2 p e room_1 s m #[Value.ref b] below meth c (lw_Z below #[Value.ref b] s) 185 11361 hX ⟨by decide, by decide⟩ (fun pc' h' lv' st' q => ?_) H locs ls (fun k q hk => ?_) ⟨fun i j a b' ha hb' hab => ?_, fun k q hk => ?_⟩ q7 q9
      · obtain ⟨rfl, rfl, rfl, rfl⟩ := q
        intro H1 locs1 ls1 z1 z2 z3 z4
        obtain ⟨hx, hb, hml, hown, hts, hK, hlocks, hrt, hin, hRoom, hO⟩ := hX
        refine va_forget (fun q hq => z3.2.2 q hq) ?_
        refine W.widen (k := 600000) (n := 7302249) (by decide) (by decide) ?_
        exact lw_ret hx hb hrt hlocks dg2
      · have hk' : k < 185 := by
          have := (List.getElem?_eq_some_iff.mp hk).1
          unfold mkW at this
          rw [List.length_mapIdx] at this
          have e185 : tbq.1.length = 185 := shq_len
          omega
        obtain ⟨qa, s', T, w, e1, e2, e4, w1, w2, w3⟩ := ERK hk'
        have hg := mkW_get (dA := dA) (ad := adf ad) (rf := rff ad) (h := hst L) (sh := tbq.1) (c := k) (q := s') e2
        rw [hg] at hk
        cases hk
        have hh : hst L k = h00 k := funext (fun j => by unfold hst; rw [if_neg (by omega), if_neg (by omega)])
        rw [hh]
        have hat := q5 k w w1
        obtain ⟨wa, wE⟩ := w
        have w3 : wa = adf ad k := w3
        subst w3
        exact br_at e2 w2 e1 e4 hat
      · have GA : ∀ {k : Nat} {q : Nat × va_E}, (mkW dA (adf ad) (rff ad) tbq.1 (hst L))[k]? = some q → ∃ w, ws[k]? = some w ∧ w.1 = q.1 := fun {k q} hk => by
          have hk' : k < 185 := by
            have := (List.getElem?_eq_some_iff.mp hk).1
            unfold mkW at this
            rw [List.length_mapIdx] at this
            have e185 : tbq.1.length = 185 := shq_len
            omega
          obtain ⟨qa, s', T, w, e1, e2, e4, w1, w2, w3⟩ := ERK hk'
          have hg := mkW_get (dA := dA) (ad := adf ad) (rf := rff ad) (h := hst L) (sh := tbq.1) (c := k) (q := s') e2
          rw [hg] at hk
          cases hk
          exact ⟨w, w1, w3⟩
        obtain ⟨wi, i1, i2⟩ := GA ha
        obtain ⟨wj, j1, j2⟩ := GA hb'
        exact q6.1 i j wi wj i1 j1 (by rw [i2, j2]; exact hab)
      · have hk' : k < 185 := by
          have := (List.getElem?_eq_some_iff.mp hk).1
          unfold mkW at this
          rw [List.length_mapIdx] at this
          have e185 : tbq.1.length = 185 := shq_len
          omega
        obtain ⟨qa, s', T, w, e1, e2, e4, w1, w2, w3⟩ := ERK hk'
        have hg := mkW_get (dA := dA) (ad := adf ad) (rf := rff ad) (h := hst L) (sh := tbq.1) (c := k) (q := s') e2
        rw [hg] at hk
        cases hk
        have := q6.2 k w w1
        rw [w3] at this
        exact this
theorem gs (hX : CX sbs dC dI dA sp s.heap ρ0 mL_law p room_1 s m #[Value.ref b] meth c) (h6 : ρ0[6]? = some (L0 + 9223372036854775808)) (hL0 : L0 ≤ 3072) (hsp : ∀ j, 9223372034707292160 ≤ sp (1000 + j) ∧ sp (1000 + j) ≤ 9223372039002259455) : GG dC dI dA sp s.heap l p e room_1 s m #[Value.ref b] below meth c (lw_Z below #[Value.ref b] s) ρ0 [] 4 0 s7 (0, []) 0 0 [(0, (6, 0))] [] :=
  sn_run sbs_ok mth_ok 100000 p e room_1 s m #[Value.ref b] below meth c _ ρ0 [] mL_law 18 0 _ s7 (0, []) 0 0 _ [] _ law_ok (fun x hx => hx) hX stA (List.forall_mem_cons.mpr ⟨fun _ => gh hX h6 hL0 hsp, fun _ h => absurd h List.not_mem_nil⟩)
end WALK
theorem st_env {xs : Nat → Int32} {L : Nat} (hL : L ≤ 3072) : St (zs xs L) s7 := ⟨rfl, fun k z hz => by
    match k, hz with
    | 0, hz => cases hz; exact ⟨_, rfl, full_in _⟩
    | 1, hz => cases hz; exact ⟨_, rfl, full_in _⟩
    | 2, hz => cases hz; exact ⟨_, rfl, full_in _⟩
    | 3, hz => cases hz; exact ⟨_, rfl, full_in _⟩
    | 4, hz => cases hz; exact ⟨_, rfl, full_in _⟩
    | 5, hz => cases hz; exact ⟨_, rfl, full_in _⟩
    | 6, hz => cases hz; exact ⟨_, rfl, by show 9223372036854775808 ≤ _; omega, by show _ ≤ 9223372036854778880; omega⟩
    | n + 7, hz => simp [zs] at hz⟩
/-- YOUR PART: from the entry, for every script of at most 3072 ints, the law comes to its end with true -/
theorem whole_start {p : Program} {e : Env} {s : State} {m : MethodId} {below : List Frame} {meth : Method} {c : Code} (l : Launch) {b L : Nat} {xs : Nat → Int32} (hL : L ≤ 3072) (C0 : lw_At p s m meth c b L xs) : W p l e room_1 s m #[Value.ref b] below meth c s.heap [] 0 0 (lw_Z below #[Value.ref b] s) (entryFrame m ([Value.ref b] : List Value).toArray 4) := by
  obtain ⟨hx, hb, hr, hml, hown, hts, hX, hbl, hlocks, hgv⟩ := C0
  obtain ⟨dC, dI, hKc⟩ := st_cls hts
  obtain ⟨dA, hKa⟩ := st_arr hts
  obtain ⟨sp, hsp, hsr, hO⟩ := st_old hts hX hbl hL hgv
  have hCX : CX sbs dC dI dA sp s.heap (zs xs L) mL_law p room_1 s m #[Value.ref b] meth c := ⟨hx, hb, hml, hown, fun w hw => hts w (GW_tbl hw), ⟨hKc, hKa⟩, hlocks, hr, fun h => absurd h (by decide), rfl, hO⟩
  have hl := lv_entry ([.ref b]) (n := 4) (Nat.le_of_ble_eq_true rfl)
  rw [lg_entry_eq]
  generalize (lg_sl ([.ref b]) ++ List.replicate (4 - (lg_sl ([.ref b])).length) Slot.unset).toArray = ls at hl ⊢
  have hP : va_P (dC, dI) vwCl [] s.heap := fun k q h => by simp at h
  have hD : va_D (aA s.heap) [] := ⟨fun i j p q h => by simp at h, fun k q h => by simp at h⟩
  have hH : Hr sp dA (zs xs L) [] (0, []) [] := ⟨rfl, rfl, fun k c h => by
    unfold ax_hn at h
    obtain ⟨r, e1, -⟩ := ob_s h
    rw [ax_nth_eq] at e1
    simp at e1⟩
  have hLv : Rl sp (zs xs L) [] [(0, (6, 0))] (lv_args 0 [.ref b]) := ⟨⟨rfl, by show Value.ref b = Value.ref (sp 0); rw [hsp]⟩, trivial⟩
  exact gs hCX (L0 := L) rfl hL hsr (zs xs L) [] [] s.heap [] ls _ [] (Sb.rf _) (Sb.rf _) (st_env hL) hH hP hD va_S.rf hLv hl trivial
