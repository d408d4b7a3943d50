/-! THE ABSTRACT MACHINE, 5: its heap; what an entry of a table must say; the context of a method -/
theorem ax_hs_ok {β : Type} {h : AH} {k : Nat} {c : AC} {kk : AH → Option β} {r : β} (e : ax_hs h k c kk = some r) : ∃ h', kk h' = some r ∧ h'.1 = h.1 ∧ ∀ i d, ax_hn h' i = some d → (i = k ∧ d = c) ∨ (i ≠ k ∧ ax_hn h i = some d) := by
  unfold ax_hs at e
  obtain ⟨r0, e0, e⟩ := ob_s e
  rw [ax_set_eq, ax_set_eq] at e
  rw [ax_nth_eq] at e0
  refine ⟨_, e, rfl, fun i d hd => ?_⟩
  unfold ax_hn at hd ⊢
  obtain ⟨r1, e1, e2⟩ := ob_s hd
  rw [ax_nth_eq] at e1
  rw [ax_nth_eq] at e2
  dsimp only at e1
  by_cases hq : i / 16 = k / 16
  · rw [hq] at e1
    rw [List.getElem?_set_self (List.getElem?_eq_some_iff.mp e0).1] at e1
    cases e1
    by_cases hr : i % 16 = k % 16
    · rw [hr, List.getElem?_set] at e2
      simp only [if_true] at e2
      split at e2
      · exact Or.inl ⟨by omega, (Option.some.inj e2).symm⟩
      · cases e2
    · rw [List.getElem?_set_ne (fun q => hr q.symm)] at e2
      refine Or.inr ⟨fun q => hr (by rw [q]), ?_⟩
      rw [ax_nth_eq, hq, e0]
      show ax_nth r0 (i % 16) = some d
      rw [ax_nth_eq]
      exact e2
  · rw [List.getElem?_set_ne (fun q => hq q.symm)] at e1
    refine Or.inr ⟨fun q => hq (by rw [q]), ?_⟩
    rw [ax_nth_eq, e1]
    show ax_nth r1 (i % 16) = some d
    rw [ax_nth_eq]
    exact e2
theorem ax_ha_ok {β : Type} {h : AH} {c : AC} {kk : AH → Option β} {r : β} (e : ax_ha h c kk = some r) : ∃ h', kk h' = some r ∧ h'.1 = h.1 + 1 ∧ ∀ i d, ax_hn h' i = some d → (i = h.1 ∧ d = c) ∨ (i ≠ h.1 ∧ ax_hn h i = some d) := by
  unfold ax_ha at e
  cases hb : Nat.beq (h.1 % 16) 0 with
  | true =>
    rw [hb] at e
    obtain ⟨g1, e⟩ := gd_s (b := Nat.beq h.2.length (h.1 / 16)) e
    rw [ax_fc_eq] at e
    have q1 := bb_eq hb
    have q2 := bb_eq g1
    refine ⟨_, e, rfl, fun i d hd => ?_⟩
    unfold ax_hn at hd ⊢
    obtain ⟨r1, e1, e2⟩ := ob_s hd
    rw [ax_nth_eq] at e1 e2
    dsimp only at e1
    by_cases hl : i / 16 < h.2.length
    · rw [List.getElem?_append_left hl] at e1
      refine Or.inr ⟨fun q => by omega, ?_⟩
      rw [ax_nth_eq, e1]
      show ax_nth r1 (i % 16) = some d
      rw [ax_nth_eq]
      exact e2
    · rw [List.getElem?_append_right (by omega)] at e1
      have hz : i / 16 - h.2.length < 1 := (List.getElem?_eq_some_iff.mp e1).1
      rw [show i / 16 - h.2.length = 0 by omega] at e1
      cases e1
      have hz2 : i % 16 < 1 := (List.getElem?_eq_some_iff.mp e2).1
      rw [show i % 16 = 0 by omega] at e2
      cases e2
      exact Or.inl ⟨by omega, rfl⟩
  | false =>
    rw [hb] at e
    obtain ⟨r0, e0, e⟩ := ob_s (o := ax_nth h.2 (h.1 / 16)) e
    obtain ⟨g1, e⟩ := gd_s e
    rw [ax_set_eq, ax_fc_eq] at e
    rw [ax_nth_eq] at e0
    have q2 := bb_eq g1
    refine ⟨_, e, rfl, fun i d hd => ?_⟩
    unfold ax_hn at hd ⊢
    obtain ⟨r1, e1, e2⟩ := ob_s hd
    rw [ax_nth_eq] at e1 e2
    dsimp only at e1
    by_cases hq : i / 16 = h.1 / 16
    · rw [hq, List.getElem?_set_self (List.getElem?_eq_some_iff.mp e0).1] at e1
      cases e1
      by_cases hl : i % 16 < r0.length
      · rw [List.getElem?_append_left hl] at e2
        refine Or.inr ⟨fun q => by rw [q] at hl; omega, ?_⟩
        rw [ax_nth_eq, hq, e0]
        show ax_nth r0 (i % 16) = some d
        rw [ax_nth_eq]
        exact e2
      · rw [List.getElem?_append_right (by omega)] at e2
        have hz : i % 16 - r0.length < 1 := (List.getElem?_eq_some_iff.mp e2).1
        rw [show i % 16 - r0.length = 0 by omega] at e2
        cases e2
        exact Or.inl ⟨by omega, rfl⟩
    · rw [List.getElem?_set_ne (fun q => hq q.symm)] at e1
      refine Or.inr ⟨fun q => hq (by rw [q]), ?_⟩
      rw [ax_nth_eq, e1]
      show ax_nth r1 (i % 16) = some d
      rw [ax_nth_eq]
      exact e2
theorem ax_el_rep_lt {n j : Nat} {v w : AV} (h : ax_el (ax_rep n v) j = some w) : j < n := by
  unfold ax_el at h
  rw [ax_nth_eq] at h
  unfold ax_rep at h
  cases hc : (List.replicate (n / 64) (List.replicate 64 v) ++ [List.replicate (n % 64) v])[j / 64]? with
  | none => rw [hc] at h; cases h
  | some ch =>
    rw [hc] at h
    dsimp only at h
    rw [ax_nth_eq] at h
    by_cases hl : j / 64 < n / 64
    · omega
    · rw [List.getElem?_append_right (by simp; omega)] at hc
      have hz := (List.getElem?_eq_some_iff.mp hc).1
      simp only [List.length_replicate, List.length_singleton] at hz hc
      rw [show j / 64 - n / 64 = 0 by omega] at hc
      cases hc
      have h2 := (List.getElem?_eq_some_iff.mp h).1
      rw [List.length_replicate] at h2
      omega
/-- the cells with one of them changed -/
theorem Hr.set {sp : Nat → Nat} {dA : Nat → ClassId} {ρ ad : List Nat} {h h' : AH} {ws : va_W} (hh : Hr sp dA ρ ad h ws) {k : Nat} {c : AC} {a : Nat} {E0 E : va_E} (hw : ws[k]? = some (a, E0)) (h1 : h'.1 = h.1) (h2 : ∀ i d, ax_hn h' i = some d → (i = k ∧ d = c) ∨ (i ≠ k ∧ ax_hn h i = some d)) (hE : Er sp dA ρ ad c E) : Hr sp dA ρ ad h' (ws.set k (a, E)) := by
  have hk : k < ws.length := (List.getElem?_eq_some_iff.mp hw).1
  refine ⟨by rw [h1, hh.1]; simp, ?_, fun i d hd => ?_⟩
  · rw [hh.2.1]
    apply List.ext_getElem?
    intro i
    rw [List.getElem?_map, List.getElem?_map]
    by_cases hi : i = k
    · subst hi
      rw [hw, List.getElem?_set_self hk]
      rfl
    · rw [List.getElem?_set_ne (fun q => hi q.symm)]
  · rcases h2 i d hd with ⟨rfl, rfl⟩ | ⟨hi, hd⟩
    · exact ⟨(a, E), by rw [List.getElem?_set_self hk], hE⟩
    · obtain ⟨q, e1, e2⟩ := hh.2.2 i d hd
      exact ⟨q, by rw [List.getElem?_set_ne (fun q => hi q.symm)]; exact e1, e2⟩
theorem Hr.add {sp : Nat → Nat} {dA : Nat → ClassId} {ρ ad : List Nat} {h h' : AH} {ws : va_W} (hh : Hr sp dA ρ ad h ws) {c : AC} {a : Nat} {E : va_E} (h1 : h'.1 = h.1 + 1) (h2 : ∀ i d, ax_hn h' i = some d → (i = h.1 ∧ d = c) ∨ (i ≠ h.1 ∧ ax_hn h i = some d)) (hE : Er sp dA ρ (ad ++ [a]) c E) : Sb ad (ad ++ [a]) ∧ Hr sp dA ρ (ad ++ [a]) h' (ws ++ [(a, E)]) ∧ Rp sp ρ (ad ++ [a]) (2, h.1) (.ref a) := by
  have hl : ad.length = ws.length := by rw [hh.2.1]; simp
  refine ⟨Sb.app _ _, ⟨by rw [h1, hh.1]; simp, by rw [hh.2.1]; simp, fun i d hd => ?_⟩, a, by rw [hh.1, ← hl]; simp, rfl⟩
  rcases h2 i d hd with ⟨rfl, rfl⟩ | ⟨hi, hd⟩
  · exact ⟨(a, E), by rw [hh.1]; simp, hE⟩
  · obtain ⟨q, e1, e2⟩ := hh.2.2 i d hd
    exact ⟨q, by rw [List.getElem?_append_left (List.getElem?_eq_some_iff.mp e1).1]; exact e1, e2.mono (Sb.rf ρ) (Sb.app _ _)⟩
/-- a cell that is read: its address, its element -/
theorem Hr.get {sp : Nat → Nat} {dA : Nat → ClassId} {ρ ad : List Nat} {h : AH} {ws : va_W} (hh : Hr sp dA ρ ad h ws) {k : Nat} {c : AC} (hk : ax_hn h k = some c) {V : Value} (hV : Rp sp ρ ad (2, k) V) : ∃ a E, ws[k]? = some (a, E) ∧ V = .ref a ∧ Er sp dA ρ ad c E := by
  obtain ⟨q, e1, e2⟩ := hh.2.2 k c hk
  obtain ⟨a, ha, rfl⟩ := hV
  rw [hh.2.1, List.getElem?_map, e1] at ha
  cases ha
  exact ⟨q.1, q.2, e1, rfl, e2⟩
/-! words by their places -/
noncomputable def wch (i : Nat) : List Cond := match i with
  | 0 => tables_1_1
  | 1 => tables_1_2
  | 2 => tables_1_3
  | 3 => tables_1_4
  | 4 => tables_1_5
  | 5 => tables_1_6
  | 6 => tables_1_7
  | 7 => tables_1_8
  | 8 => tables_1_9
  | 9 => tables_1_10
  | _ => k2_sels lw_privs
noncomputable def wdq (i j : Nat) (w : Cond) : Bool := match ax_nth (wch i) j with
  | some w' => decide (w' = w) && goodWord w
  | none => false
/-- words that aren't kept as the others are: by their places too -/
noncomputable def wdn (i j : Nat) (w : Cond) : Bool := match ax_nth (wch i) j with
  | some w' => decide (w' = w)
  | none => false
def GW : List Cond := lw_tbl.filter goodWord
theorem wch_in {i : Nat} {w : Cond} (h : w ∈ wch i) : w ∈ lw_tbl := by
  unfold lw_tbl
  have ht : ∀ w, w ∈ tables_1 → w ∈ k2_sels lw_privs ++ tables_1 := fun w h => List.mem_append_right _ h
  unfold wch at h
  split at h
  all_goals first
    | (apply ht; unfold tables_1; simp only [List.mem_append, h, true_or, or_true]; done)
    | exact List.mem_append_left _ h
theorem wdq_in {i j : Nat} {w : Cond} (h : wdq i j w = true) : w ∈ GW := by
  unfold wdq at h
  rw [ax_nth_eq] at h
  cases hc : (wch i)[j]? with
  | none => rw [hc] at h; cases h
  | some w' =>
    rw [hc] at h
    have q := bb_and h
    have e : w' = w := of_decide_eq_true q.1
    subst e
    exact List.mem_filter.mpr ⟨wch_in (List.mem_of_getElem? hc), q.2⟩
theorem wdn_in {i j : Nat} {w : Cond} (h : wdn i j w = true) : w ∈ lw_tbl := by
  unfold wdn at h
  rw [ax_nth_eq] at h
  cases hc : (wch i)[j]? with
  | none => rw [hc] at h; cases h
  | some w' =>
    rw [hc] at h
    have e : w' = w := of_decide_eq_true h
    subst e
    exact wch_in (List.mem_of_getElem? hc)
theorem GW_good {ws : List Cond} (h : ∀ w ∈ ws, w ∈ GW) : GoodIn GW ws := fun w hw => ⟨h w hw, good_of_word (List.mem_filter.mp (h w hw)).2⟩
