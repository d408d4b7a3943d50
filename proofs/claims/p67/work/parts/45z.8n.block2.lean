/-! TALES that are read, 2 -/
theorem WY9.st {L Y : PH} (w : WY9 L Y) : WY9 L (stp Y) := by
  have e : ∀ j k : Nat, ¬ (j = 43 ∧ k = 1) → stp Y j k = Y j k := fun j k q => up_ne q
  have eK : ∀ x, inK (stp Y) x ↔ inK Y x := fun x => by
    unfold inK
    rw [e 50 4 (by omega)]
    exact ⟨fun ⟨i, q1, q2⟩ => ⟨i, q1, by rw [← e 51 i (by omega)]; exact q2⟩, fun ⟨i, q1, q2⟩ => ⟨i, q1, by rw [e 51 i (by omega)]; exact q2⟩⟩
  obtain ⟨z, w1, w2, w3, w4, w5⟩ := w
  refine ⟨by rw [e 43 2 (by omega), e 50 4 (by omega)]; exact z, fun k hk => ?_, fun i hi => ?_, fun k hk hO hN => ?_, fun k hk hE => ?_, fun o p ho' hO hN hP h1 h2 => ?_⟩
  · rw [e 43 2 (by omega)] at hk
    rw [e 44 k (by omega), e 45 k (by omega), e 46 k (by omega), e 47 k (by omega)]; exact w1 k hk
  · rw [e 50 4 (by omega)] at hi
    rw [e 51 i (by omega), e 43 2 (by omega), e 44 _ (by omega)]
    obtain ⟨a1, a2, a3⟩ := w2 i hi
    exact ⟨a1, a2, fun j hj => by rw [e 51 j (by omega)]; exact a3 j hj⟩
  · rw [e 43 2 (by omega)] at hk
    rw [e 44 k (by omega)] at hO
    rw [eK] at hN
    rw [e 48 k (by omega), e 43 2 (by omega), e 44 _ (by omega), e 48 _ (by omega)]; exact w3 k hk hO hN
  · rw [e 43 2 (by omega)] at hk
    rw [e 44 k (by omega)] at hE
    rw [e 48 k (by omega), e 44 _ (by omega), e 48 _ (by omega), eK]; exact w4 k hk hE
  · rw [e 43 2 (by omega)] at ho'
    rw [e 44 _ (by omega)] at hO hP
    rw [eK] at hN ⊢
    rw [e 48 _ (by omega)] at h2
    rw [e 48 _ (by omega), e 48 _ (by omega)]; exact w5 o p ho' hO hN hP h1 h2
def PY (L : PH) (r : PR) : Prop := ∀ q, r = .inr q → WY9 L q.2
def PA (L Y : PH) (o : Prop) (r : PR) : Prop := ∀ q, r = .inr q → ∃ K a b n, q.2 = adY Y K a b n ∧ okw L K a b n ∧ K ≠ 22 ∧ (isO K ↔ o)
theorem PY.bd {L : PH} {T : TX} {a : Int} {s : Nat} : PY L (bad T a s) := fun q h => by unfold bad at h; cases h
theorem PY.nn {L : PH} {T : TX} {s : Nat} : PY L (noN T s) := PY.bd
theorem PY.sm {L : PH} {T : TX} {s : Nat} {Y : PH} (w : WY9 L Y) : PY L (semi T s Y) := fun q h => by
  unfold semi at h
  by_cases z : isG T s 59
  · rw [if_pos z] at h; cases h; exact w
  · rw [if_neg z] at h; exact PY.bd q h
theorem PA.bd {L Y : PH} {o : Prop} {T : TX} {a : Int} {s : Nat} : PA L Y o (bad T a s) := fun q h => by unfold bad at h; cases h
theorem PA.nn {L Y : PH} {o : Prop} {T : TX} {s : Nat} : PA L Y o (noN T s) := PA.bd
theorem PA.ite {L Y : PH} {o c : Prop} {i : Decidable c} {a b : PR} (h1 : c → PA L Y o a) (h2 : ¬ c → PA L Y o b) : PA L Y o (@ite PR c i a b) := by
  by_cases z : c
  · rw [if_pos z]; exact h1 z
  · rw [if_neg z]; exact h2 z
theorem PA.ok {L Y : PH} {o : Prop} {t : Nat} {K a b n : Int} (h1 : okw L K a b n) (h2 : K ≠ 22) (h3 : isO K ↔ o) : PA L Y o (.inr (t, adY Y K a b n)) := fun q h => by cases h; exact ⟨K, a, b, n, rfl, h1, h2, h3⟩
theorem PA.num {L Y : PH} {o : Prop} {T : TX} {t : Nat} {lo hi : Int} {K a b : Int} (h : ∀ v, lo ≤ v → v ≤ hi → okw L K a b v) (h2 : K ≠ 22) (h3 : isO K ↔ o) : PA L Y o (qNum T t lo hi (fun v => adY Y K a b v)) := by
  unfold qNum
  exact PA.ite (fun _ => PA.ite (fun z => PA.ok (h _ z.1 z.2) h2 h3) (fun _ => PA.bd)) (fun _ => PA.bd)
section Q
variable {T : TX} {L Y : PH} {t : Nat} {o : Prop}
theorem qPers_A {K : Int} (h4 : 0 ≤ L 0 4) (hK : K = 11 ∨ K = 19) (h3 : isO K ↔ o) : PA L Y o (qPers T L t K Y) := by
  unfold qPers
  refine PA.ite (fun _ => PA.nn) (fun z => PA.ok ?_ (by omega) h3)
  have := pe_p h4 z
  unfold okw hL0 pL0
  omega
theorem qHous_A {K : Int} (h0 : 0 ≤ L 1 0) (hK : K = 1 ∨ K = 13) (h3 : isO K ↔ o) : PA L Y o (qHous T L t K Y) := by
  unfold qHous
  refine PA.ite (fun _ => PA.nn) (fun z => PA.ok ?_ (by omega) h3)
  have := ho_p h0 z
  unfold okw hL0 pL0
  omega
theorem qTest_A (h0 : 0 ≤ L 1 0) (h4 : 0 ≤ L 0 4) (ho : o) : PA L Y o (qTest T L t Y) := by
  have i8 : isO 18 ↔ o := ⟨fun _ => ho, fun _ => Or.inl rfl⟩
  have i9 : isO 19 ↔ o := ⟨fun _ => ho, fun _ => Or.inr (Or.inl rfl)⟩
  have i0 : isO 20 ↔ o := ⟨fun _ => ho, fun _ => Or.inr (Or.inr (Or.inl rfl))⟩
  unfold qTest
  refine PA.ite (fun _ => ?_) (fun _ => PA.ite (fun _ => qPers_A h4 (Or.inr rfl) i9) (fun _ => PA.ite (fun _ => ?_) (fun _ => PA.bd)))
  · unfold qLab
    refine PA.ite (fun _ => PA.nn) (fun z => PA.ite (fun _ => PA.num (fun v q1 q2 => ?_) (by omega) i8) (fun _ => PA.bd))
    have := ho_p h0 z
    unfold okw hL0 pL0
    omega
  · unfold qAt
    refine PA.ite (fun _ => PA.nn) (fun z => PA.ite (fun _ => PA.ite (fun _ => PA.nn) (fun z2 => PA.ok ?_ (by omega) i0)) (fun _ => PA.bd))
    have := pe_p h4 z
    have := ho_p h0 z2
    unfold okw hL0 pL0
    omega
theorem qRest_A {K : Int} (h0 : 0 ≤ L 1 0) (h4 : 0 ≤ L 0 4) (hK : isSt K) (h17 : K ≠ 17) (ho : K = 21 ↔ o) : PA L Y o (qRest T L t K Y) := by
  have iO : ∀ k : Int, k ≠ 21 → (10 ≤ k ∧ k ≤ 16) ∨ k = 1 ∨ k = 23 → K = k → (isO k ↔ o) := fun k q1 q2 q3 => ⟨fun z => absurd z (by unfold isO; omega), fun z => absurd (ho.mpr z) (by omega)⟩
  unfold qRest
  refine PA.ite (fun e => PA.num (fun v q1 q2 => ?_) (by omega) (iO 10 (by omega) (by omega) e)) (fun _ => PA.ite (fun e => PA.num (fun v q1 q2 => ?_) (by omega) ⟨fun _ => ho.mp e, fun _ => Or.inr (Or.inr (Or.inr rfl))⟩) (fun e21 => PA.ite (fun e => qPers_A h4 (Or.inl rfl) (iO 11 (by omega) (by omega) e)) (fun _ => PA.ite (fun e => qHous_A h0 (Or.inl rfl) (iO 1 (by omega) (by omega) e)) (fun _ => PA.ite (fun e => qHous_A h0 (Or.inr rfl) (iO 13 (by omega) (by omega) e)) (fun _ => PA.ite (fun e => ?_) (fun _ => PA.ite (fun e => ?_) (fun _ => PA.ok ?_ ?_ ?_)))))))
  · unfold okw hL0 pL0; omega
  · unfold okw hL0 pL0; omega
  · unfold qFgv
    refine PA.ite (fun _ => PA.nn) (fun z => PA.ite (fun _ => PA.nn) (fun z2 => PA.ok ?_ (by omega) (iO 12 (by omega) (by omega) e)))
    have := pe_p h4 z
    have := pe_p h4 z2
    unfold okw hL0 pL0
    omega
  · unfold qFrg
    refine PA.ite (fun _ => PA.nn) (fun z => PA.ite (fun _ => PA.ite (fun _ => PA.nn) (fun z2 => PA.num (fun v q1 q2 => ?_) (by omega) (iO 14 (by omega) (by omega) e))) (fun _ => PA.bd))
    have := pe_p h4 z
    have := pe_p h4 z2
    unfold okw hL0 pL0
    omega
  · unfold isSt at hK; unfold okw hL0 pL0; omega
  · unfold isSt at hK; omega
  · unfold isSt at hK; unfold isO; exact ⟨fun z => by omega, fun z => absurd (ho.mpr z) e21⟩
end Q
theorem PY.c4 {L : PH} {c : Prop} {a b : PR} (h1 : c → PY L a) (h2 : ¬ c → PY L b) : PY L (cif4 c a b) := by
  by_cases z : c
  · rw [cif4_p z]; exact h1 z
  · rw [cif4_n z]; exact h2 z
theorem PY.ite {L : PH} {c : Prop} {i : Decidable c} {a b : PR} (h1 : c → PY L a) (h2 : ¬ c → PY L b) : PY L (@ite PR c i a b) := by
  by_cases z : c
  · rw [if_pos z]; exact h1 z
  · rw [if_neg z]; exact h2 z
theorem tale_Y {T : TX} {L Y : PH} {s : Nat} (h0 : 0 ≤ L 1 0) (h4 : 0 ≤ L 0 4) (w : WY9 L Y) : PY L (pTale T L s Y) := by
  unfold pTale
  refine PY.c4 (fun _ => PY.ite (fun z => PY.sm (w.cl z)) (fun _ => PY.bd)) (fun _ => PY.c4 (fun _ => PY.bd) (fun hK => PY.ite (fun _ => PY.bd) (fun _ => PY.c4 (fun _ => PY.bd) (fun _ => ?_))))
  have hK := (Classical.not_not.mp hK).2
  unfold qStep
  have pa : PA L (stp Y) (kw T s = 17 ∨ kw T s = 21) (if kw T s = 17 then qTest T L (nt T s) (stp Y) else qRest T L (nt T s) (kw T s) (stp Y)) :=
    PA.ite (fun z => qTest_A h0 h4 (Or.inl z)) (fun z => qRest_A h0 h4 hK z ⟨fun y => Or.inr y, fun y => y.elim (fun x => absurd x z) id⟩)
  generalize (if kw T s = 17 then qTest T L (nt T s) (stp Y) else qRest T L (nt T s) (kw T s) (stp Y)) = r at pa
  match r, pa with
  | .inl q, pa => exact fun q h => by cases h
  | .inr q, pa =>
    obtain ⟨K, a, b, n, e1, e2, e3, e4⟩ := pa q rfl
    show PY L (semi T q.1 (cif3 (kw T s = 17 ∨ kw T s = 21) (opn q.2) q.2))
    rw [e1]
    by_cases z : kw T s = 17 ∨ kw T s = 21
    · rw [cif3_p z]; exact PY.sm (w.st.op e2 (e4.mpr z))
    · rw [cif3_n z]; exact PY.sm (w.st.ad e2 e3 (fun y => z (e4.mp y)))
/-- TALES that stand -/
theorem ptl_Y {T : TX} {L : PH} (h0 : 0 ≤ L 1 0) (h4 : 0 ≤ L 0 4) : ∀ (f s : Nat) (Y : PH), WY9 L Y → ∀ q, ptl T L f s Y = .inr q → WY9 L q.2 ∧ q.2 50 4 ≤ 0
  | 0, s, Y, w => fun q h => by
    have h : (if 0 < Y 50 4 then bad T 2 s else .inr (s, Y)) = Sum.inr q := h
    by_cases z : 0 < Y 50 4
    · rw [if_pos z] at h; unfold bad at h; cases h
    · rw [if_neg z] at h; cases h; exact ⟨w, by show Y 50 4 ≤ 0; omega⟩
  | f + 1, s, Y, w => fun q h => by
    have h : (if kd T s = 0 then tEnd T s Y else sq (pTale T L s Y) (ptl T L f)) = Sum.inr q := h
    by_cases z : kd T s = 0
    · rw [if_pos z] at h
      have h : (if 0 < Y 50 4 then bad T 2 s else .inr (s, Y)) = Sum.inr q := h
      by_cases z : 0 < Y 50 4
      · rw [if_pos z] at h; unfold bad at h; cases h
      · rw [if_neg z] at h; cases h; exact ⟨w, by show Y 50 4 ≤ 0; omega⟩
    · rw [if_neg z] at h
      have py := tale_Y (T := T) (s := s) h0 h4 w
      generalize pTale T L s Y = r at py h
      match r, py, h with
      | .inl p, py, h => cases h
      | .inr p, py, h => exact ptl_Y h0 h4 f p.1 p.2 (py p rfl) q h
theorem WY9_y0 {L h : PH} : WY9 L (y0 h) := by
  have e1 : y0 h 43 2 = 0 := by unfold y0; rw [up_ne (by omega), up_sm]
  have e2 : y0 h 50 4 = 0 := by unfold y0; rw [up_sm]
  refine ⟨by rw [e1, e2]; omega, fun k hk => ?_, fun i hi => ?_, fun k hk => ?_, fun k hk => ?_, fun o p hk => ?_⟩
  · rw [e1] at hk; omega
  · rw [e2] at hi; omega
  · rw [e1] at hk; omega
  · rw [e1] at hk; omega
  · rw [e1] at hk; omega
