/-! every table has one entry for a place -/
noncomputable def srt (l : List ME) : Nat → Bool := List.rec (motive := fun _ => Nat → Bool) (fun _ => true) (fun e _ ih n => Nat.ble n e.1 && ih (e.1 + 1)) l
theorem srt_ge : ∀ (l : List ME) (n : Nat), srt l n = true → ∀ x ∈ l, n ≤ x.1
  | [], _, _, x, hx => by cases hx
  | e :: t, n, h, x, hx => by
    have w := bb_and (a := Nat.ble n e.1) (b := srt t (e.1 + 1)) h
    have a := bb_le w.1
    rcases List.mem_cons.mp hx with rfl | hx
    · exact a
    · have := srt_ge t (e.1 + 1) w.2 x hx
      omega
theorem srt_un : ∀ (l : List ME) (n : Nat), srt l n = true → ∀ x ∈ l, ∀ y ∈ l, x.1 = y.1 → x = y
  | [], _, _, x, hx, _, _, _ => by cases hx
  | e :: t, n, h, x, hx, y, hy, hxy => by
    have w := bb_and (a := Nat.ble n e.1) (b := srt t (e.1 + 1)) h
    rcases List.mem_cons.mp hx with e1 | hx1
    · rcases List.mem_cons.mp hy with e2 | hy1
      · rw [e1, e2]
      · have := srt_ge t _ w.2 y hy1
        rw [e1] at hxy
        omega
    · rcases List.mem_cons.mp hy with e2 | hy1
      · have := srt_ge t _ w.2 x hx1
        rw [e2] at hxy
        omega
      · exact srt_un t _ w.2 x hx1 y hy1 hxy
noncomputable def srtM (r : List MR) : Bool := List.rec (motive := fun _ => Bool) true (fun M _ ih => srt M.2.2.2.2.2.2 0 && ih) r
noncomputable def srtA (r : List (List MR)) : Bool := List.rec (motive := fun _ => Bool) true (fun M _ ih => srtM M && ih) r
theorem srtM_in : ∀ (r : List MR), srtM r = true → ∀ M ∈ r, srt M.2.2.2.2.2.2 0 = true
  | [], _, M, hM => by cases hM
  | e :: t, h, M, hM => by
    have w := bb_and (a := srt e.2.2.2.2.2.2 0) (b := srtM t) h
    rcases List.mem_cons.mp hM with rfl | hM
    · exact w.1
    · exact srtM_in t w.2 M hM
theorem srtA_in : ∀ (r : List (List MR)), srtA r = true → ∀ q ∈ r, srtM q = true
  | [], _, M, hM => by cases hM
  | e :: t, h, M, hM => by
    have w := bb_and (a := srtM e) (b := srtA t) h
    rcases List.mem_cons.mp hM with rfl | hM
    · exact w.1
    · exact srtA_in t w.2 M hM
set_option maxRecDepth 100000 in
theorem srt_all : srtA mtt = true := by decide +kernel
set_option maxRecDepth 100000 in
theorem srt_law : srt tL_law 0 = true := by decide +kernel
/-- a method whose table is right, with one entry for a place -/
def Mgd (M : MR) : Prop := Mok mth M ∧ ∀ x ∈ M.2.2.2.2.2.2, ∀ y ∈ M.2.2.2.2.2.2, x.1 = y.1 → x = y
theorem mth_gd {a b : Nat} {C : MR} (h : mth a b = some C) : Mgd C := by
  refine ⟨(mth_ok a b C h).1, ?_⟩
  obtain ⟨r, e1, e2⟩ := ob_s h
  rw [ax_nth_eq] at e1 e2
  exact srt_un _ _ (srtM_in r (srtA_in mtt srt_all r (List.mem_of_getElem? e1)) C (List.mem_of_getElem? e2))
theorem law_gd : Mgd mL_law := ⟨law_ok, srt_un _ _ srt_law⟩
