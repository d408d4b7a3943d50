/-- an entry is right, but for decode -/
noncomputable def eokr (mt : Nat → Nat → Option MR) (M : MR) (e : ME) : Bool := Nat.beq e.2.1 (ax_op e.2.2.2.2) && ((Nat.ble 57 e.2.1 || Nat.beq e.2.2.1 (ax_len e.2.2.2.2)) && lok mt M e.1 e.2.2.2.2 e.2.2.2.1)
/-- a table is right, its entries one behind the other -/
noncomputable def ewk (mt : Nat → Nat → Option MR) (M : MR) : List ME → Nat → List UInt8 → Bool
  | [], _, _ => true
  | e :: es, p, l => (Nat.beq p e.1 && ((dck l e.2.2.2.2 e.2.2.1 || decide (decode M.2.1 e.1 = .ok (e.2.2.2.2, e.2.2.1))) && eokr mt M e)) && ewk mt M es (e.1 + e.2.2.1) (dsk e.2.2.1 l)
theorem ewk_ok {mt : Nat → Nat → Option MR} {M : MR} : ∀ (t : List ME) (p : Nat) (l : List UInt8), M.2.1.data.toList.drop p = l → ewk mt M t p l = true → ∀ e ∈ t, eok mt M e = true
  | [], _, _, _, _, e, he => absurd he List.not_mem_nil
  | a :: t, p, l, hl, hk, e, he => by
    unfold ewk at hk
    obtain ⟨h1, h2⟩ := (Bool.and_eq_true _ _).mp hk
    obtain ⟨h3, h4⟩ := (Bool.and_eq_true _ _).mp h1
    obtain ⟨h5, h6⟩ := (Bool.and_eq_true _ _).mp h4
    have hp : p = a.1 := Nat.eq_of_beq_eq_true h3
    subst hp
    have hd : decode M.2.1 a.1 = .ok (a.2.2.2.2, a.2.2.1) := by
      rcases (Bool.or_eq_true _ _).mp h5 with z | z
      · exact dck_ok hl z
      · exact of_decide_eq_true z
    rcases List.mem_cons.mp he with rfl | he
    · show (decide (decode M.2.1 e.1 = .ok (e.2.2.2.2, e.2.2.1)) && _) = true
      rw [decide_eq_true hd]
      exact h6
    · refine ewk_ok t _ _ ?_ h2 e he
      rw [dsk_ok, ← hl, List.drop_drop]
noncomputable def ewk0 (mt : Nat → Nat → Option MR) (M : MR) (t : List ME) : Bool := ewk mt M t 0 M.2.1.data.toList
theorem ewk0_ok {mt : Nat → Nat → Option MR} {M : MR} {t : List ME} (h : ewk0 mt M t = true) : t.all (eok mt M) = true := List.all_eq_true.mpr (ewk_ok t 0 _ rfl h)
theorem ewkp_ok {mt : Nat → Nat → Option MR} {M : MR} {t : List ME} (p : Nat) (h : ewk mt M t p (M.2.1.data.toList.drop p) = true) : t.all (eok mt M) = true := List.all_eq_true.mpr (ewk_ok t p _ rfl h)
