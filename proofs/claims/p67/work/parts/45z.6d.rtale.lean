/-! TALES: the reference's text -/
theorem rk_kwo {T : TX} {s i : Nat} {w : Int} (hi : i < 24) (hw : ((kpm.getD i 0 : Nat) : Int) = w) (hn : w ≠ -1) : rk T s = (i : Int) ↔ kwo T s = w := (r_iw hi rfl hw).trans (kwo_w hn).symm
theorem st_rk {T : TX} {s : Nat} : isSt (kwo T s) ↔ (rk T s = 5 ∨ rk T s = 10 ∨ rk T s = 11 ∨ rk T s = 12 ∨ rk T s = 13 ∨ rk T s = 14 ∨ rk T s = 15 ∨ rk T s = 17 ∨ rk T s = 18 ∨ rk T s = 20) := by
  unfold isSt
  constructor
  · rintro (z | z | z | z | z | z | z | z | z | z)
    · exact Or.inl ((rk_kwo (i := 5) (by omega) rfl (by omega)).mpr z)
    · exact Or.inr (Or.inl ((rk_kwo (i := 10) (by omega) rfl (by omega)).mpr z))
    · exact Or.inr (Or.inr (Or.inl ((rk_kwo (i := 11) (by omega) rfl (by omega)).mpr z)))
    · exact Or.inr (Or.inr (Or.inr (Or.inl ((rk_kwo (i := 12) (by omega) rfl (by omega)).mpr z))))
    · exact Or.inr (Or.inr (Or.inr (Or.inr (Or.inl ((rk_kwo (i := 13) (by omega) rfl (by omega)).mpr z)))))
    · exact Or.inr (Or.inr (Or.inr (Or.inr (Or.inr (Or.inl ((rk_kwo (i := 14) (by omega) rfl (by omega)).mpr z))))))
    · exact Or.inr (Or.inr (Or.inr (Or.inr (Or.inr (Or.inr (Or.inl ((rk_kwo (i := 15) (by omega) rfl (by omega)).mpr z)))))))
    · exact Or.inr (Or.inr (Or.inr (Or.inr (Or.inr (Or.inr (Or.inr (Or.inl ((rk_kwo (i := 17) (by omega) rfl (by omega)).mpr z))))))))
    · exact Or.inr (Or.inr (Or.inr (Or.inr (Or.inr (Or.inr (Or.inr (Or.inr (Or.inl ((rk_kwo (i := 18) (by omega) rfl (by omega)).mpr z)))))))))
    · exact Or.inr (Or.inr (Or.inr (Or.inr (Or.inr (Or.inr (Or.inr (Or.inr (Or.inr ((rk_kwo (i := 20) (by omega) rfl (by omega)).mpr z)))))))))
  · rintro (z | z | z | z | z | z | z | z | z | z)
    · exact Or.inl ((rk_kwo (i := 5) (by omega) rfl (by omega)).mp z)
    · exact Or.inr (Or.inl ((rk_kwo (i := 10) (by omega) rfl (by omega)).mp z))
    · exact Or.inr (Or.inr (Or.inl ((rk_kwo (i := 11) (by omega) rfl (by omega)).mp z)))
    · exact Or.inr (Or.inr (Or.inr (Or.inl ((rk_kwo (i := 12) (by omega) rfl (by omega)).mp z))))
    · exact Or.inr (Or.inr (Or.inr (Or.inr (Or.inl ((rk_kwo (i := 13) (by omega) rfl (by omega)).mp z)))))
    · exact Or.inr (Or.inr (Or.inr (Or.inr (Or.inr (Or.inl ((rk_kwo (i := 14) (by omega) rfl (by omega)).mp z))))))
    · exact Or.inr (Or.inr (Or.inr (Or.inr (Or.inr (Or.inr (Or.inl ((rk_kwo (i := 15) (by omega) rfl (by omega)).mp z)))))))
    · exact Or.inr (Or.inr (Or.inr (Or.inr (Or.inr (Or.inr (Or.inr (Or.inl ((rk_kwo (i := 17) (by omega) rfl (by omega)).mp z))))))))
    · exact Or.inr (Or.inr (Or.inr (Or.inr (Or.inr (Or.inr (Or.inr (Or.inr (Or.inl ((rk_kwo (i := 18) (by omega) rfl (by omega)).mp z)))))))))
    · exact Or.inr (Or.inr (Or.inr (Or.inr (Or.inr (Or.inr (Or.inr (Or.inr (Or.inr ((rk_kwo (i := 20) (by omega) rfl (by omega)).mp z)))))))))
/-- the names of the LAND -/
def NmL (h L : PH) : Prop := (h 170 0 = L 1 0 ∧ h 170 1 = L 0 4) ∧ (∀ i : Nat, (i : Int) < L 1 0 → Nm (L 9 i) (h 171 i)) ∧ (∀ p : Nat, (p : Int) < L 0 4 → Nm (L 10 p) (h 171 (7 + p))) ∧ ∀ k : Nat, k < 2112 → h 170 k = L 99 k
def isP (K : Int) : Prop := K = 18 ∨ K = 19 ∨ K = 20 ∨ K = 21 ∨ K = 22
def kcd (K : Int) : Int := if K = 1 then 5 else if K = 16 then 15 else if K = 21 then 18 else if K = 22 then 19 else if K = 23 then 20 else if K = 18 then 1721 else if K = 19 then 1722 else if K = 20 then 1723 else K
/-- a step's row of the reference -/
def erow (K a b n : Int) (i : Nat) : Int := if i = 0 then kcd K else if i = 1 then (if K = 10 ∨ K = 21 then n else if K = 16 ∨ K = 22 ∨ K = 23 then 0 else a) else if i = 2 then (if K = 12 ∨ K = 14 ∨ K = 20 then b else if K = 18 then n else 0) else if i = 3 then (if K = 14 then n else 0) else if i = 5 then (if K = 18 then b else 0) else 0
def RB (h L Y : PH) (m c : Int) : Prop := NmL h L ∧ h 170 2116 = m ∧ h 169 22 = c ∧ h 169 21 = Y 50 4 ∧ (∀ i : Nat, (i : Int) < Y 50 4 → h 177 i = Y 51 i) ∧ (∀ k : Nat, (k : Int) < Y 43 2 → ∀ i : Nat, i < 6 → i ≠ 4 → h 170 (2276 + 6 * k + i) = erow (Y 44 k) (Y 45 k) (Y 46 k) (Y 47 k) i) ∧ ∀ k : Nat, (k : Int) < Y 43 2 → isP (Y 44 k) → (∀ i : Nat, (i : Int) < Y 50 4 → Y 51 i ≠ (k : Int)) → h 170 (2280 + 6 * k) = Y 48 k
def RTt (h L Y : PH) : Prop := RB h L Y (Y 43 2) (Y 43 1)
/-- a step is being read -/
def RP (h L Y : PH) (c : Int) (g : Nat → Int) : Prop := RB h L Y (Y 43 2 + 1) c ∧ ∀ i : Nat, i < 6 → h 170 (2276 + 6 * (Y 43 2).toNat + i) = g i
theorem NmL.fr {h h' L : PH} (n : NmL h L) (e : ∀ c k : Nat, (c = 170 ∧ k < 2112) ∨ c = 171 → h' c k = h c k) : NmL h' L := ⟨⟨by rw [e 170 0 (by omega)]; exact n.1.1, by rw [e 170 1 (by omega)]; exact n.1.2⟩, fun i hi => by rw [e 171 i (by omega)]; exact n.2.1 i hi, fun p hp => by rw [e 171 _ (by omega)]; exact n.2.2.1 p hp, fun k hk => by rw [e 170 k (by omega)]; exact n.2.2.2 k hk⟩
theorem RB.fr {h h' L Y : PH} {m c m' c' : Int} (r : RB h L Y m c) (hw : WT Y) (e2 : h' 170 2116 = m') (e3 : h' 169 22 = c') (e : ∀ c k : Nat, (c = 169 ∧ k = 21) ∨ c = 171 ∨ (c = 177 ∧ k < 3) ∨ (c = 170 ∧ (k < 2112 ∨ (2276 ≤ k ∧ (k : Int) < 2276 + 6 * Y 43 2))) → h' c k = h c k) : RB h' L Y m' c' := by
  obtain ⟨r1, r2, r3, r4, r5, r6, r7⟩ := r
  obtain ⟨w1, w2, w3, w4, w5⟩ := hw
  exact ⟨r1.fr (fun c k q => e c k (by omega)), e2, e3, by rw [e 169 21 (by omega)]; exact r4, fun i hi => by rw [e 177 i (by omega)]; exact r5 i hi, fun k hk i h6 h4 => by rw [e 170 _ (by omega)]; exact r6 k hk i h6 h4, fun k hk p q => by rw [e 170 _ (by omega)]; exact r7 k hk p q⟩
/-- but for the token's fields and one cell -/
def FN1 (a : Nat) (h h' : PH) : Prop := ∀ c k : Nat, ¬ (c = 169 ∧ 12 ≤ k ∧ k ≤ 18 ∧ k ≠ 16) → ¬ (c = 170 ∧ k = a) → h' c k = h c k
def FN0 (h h' : PH) : Prop := ∀ c k : Nat, ¬ (c = 169 ∧ 12 ≤ k ∧ k ≤ 18 ∧ k ≠ 16) → h' c k = h c k
theorem RP.f0 {h h' L Y : PH} {c : Int} {g : Nat → Int} (r : RP h L Y c g) (hw : WT Y) (f : FN0 h h') : RP h' L Y c g := ⟨r.1.fr hw (by rw [f 170 2116 (by omega)]; exact r.1.2.1) (by rw [f 169 22 (by omega)]; exact r.1.2.2.1) (fun c k q => f c k (by omega)), fun i hi => by rw [f 170 _ (by omega)]; exact r.2 i hi⟩
def sg (g : Nat → Int) (i : Nat) (v : Int) : Nat → Int := fun j => if j = i then v else g j
theorem RP.f1 {h h' L Y : PH} {c v : Int} {g : Nat → Int} {i : Nat} (r : RP h L Y c g) (hw : WT Y) (hi : i < 6) (f : FN1 (2276 + 6 * (Y 43 2).toNat + i) h h') (e : h' 170 (2276 + 6 * (Y 43 2).toNat + i) = v) : RP h' L Y c (sg g i v) := by
  have w1 := hw.1
  refine ⟨r.1.fr hw (by rw [f 170 2116 (by omega) (by omega)]; exact r.1.2.1) (by rw [f 169 22 (by omega) (by omega)]; exact r.1.2.2.1) (fun c k q => f c k (by omega) (by omega)), fun j hj => ?_⟩
  unfold sg
  by_cases z : j = i
  · rw [if_pos z, z]; exact e
  · rw [if_neg z, f 170 _ (by omega) (by omega)]; exact r.2 j hj
theorem ad_r {Y : PH} {a b c d : Int} {k : Nat} : adY Y a b c d 44 k = (if k = (Y 43 2).toNat then a else Y 44 k) ∧ adY Y a b c d 45 k = (if k = (Y 43 2).toNat then b else Y 45 k) ∧ adY Y a b c d 46 k = (if k = (Y 43 2).toNat then c else Y 46 k) ∧ adY Y a b c d 47 k = (if k = (Y 43 2).toNat then d else Y 47 k) ∧ adY Y a b c d 48 k = (if k = (Y 43 2).toNat then Y 43 2 else Y 48 k) := by
  unfold adY
  refine ⟨?_, ?_, ?_, ?_, ?_⟩
  · rw [up_ne (by omega), up_ne (by omega), up_ne (by omega), up_ne (by omega), up_ne (by omega)]
    by_cases e : k = (Y 43 2).toNat
    · rw [if_pos e, e, up_sm]
    · rw [if_neg e, up_ne (by omega)]
  · rw [up_ne (by omega), up_ne (by omega), up_ne (by omega), up_ne (by omega)]
    by_cases e : k = (Y 43 2).toNat
    · rw [if_pos e, e, up_sm]
    · rw [if_neg e, up_ne (by omega), up_ne (by omega)]
  · rw [up_ne (by omega), up_ne (by omega), up_ne (by omega)]
    by_cases e : k = (Y 43 2).toNat
    · rw [if_pos e, e, up_sm]
    · rw [if_neg e, up_ne (by omega), up_ne (by omega), up_ne (by omega)]
  · rw [up_ne (by omega), up_ne (by omega)]
    by_cases e : k = (Y 43 2).toNat
    · rw [if_pos e, e, up_sm]
    · rw [if_neg e, up_ne (by omega), up_ne (by omega), up_ne (by omega), up_ne (by omega)]
  · rw [up_ne (by omega)]
    by_cases e : k = (Y 43 2).toNat
    · rw [if_pos e, e, up_sm]
    · rw [if_neg e, up_ne (by omega), up_ne (by omega), up_ne (by omega), up_ne (by omega), up_ne (by omega)]
/-- the row is that of a step -/
def okg (g : Nat → Int) (K a b n : Int) : Prop := ∀ i : Nat, i < 6 → i ≠ 4 → g i = erow K a b n i
theorem stp_r {Y : PH} {c k : Nat} (h : 44 ≤ c) : stp Y c k = Y c k := up_ne (by omega)
/-- rows behind one more step -/
theorem RP.rows {h L Y : PH} {c K a b n : Int} {g : Nat → Int} (r : RP h L Y c g) (hw : WT Y) (hg : okg g K a b n) : ∀ k : Nat, (k : Int) < Y 43 2 + 1 → ∀ i : Nat, i < 6 → i ≠ 4 → h 170 (2276 + 6 * k + i) = erow (adY (stp Y) K a b n 44 k) (adY (stp Y) K a b n 45 k) (adY (stp Y) K a b n 46 k) (adY (stp Y) K a b n 47 k) i := fun k hk i h6 h4 => by
  obtain ⟨a1, a2, a3, a4, a5⟩ := ad_r (Y := stp Y) (a := K) (b := a) (c := b) (d := n) (k := k)
  have w1 := hw.1
  rw [a1, a2, a3, a4, (stp_n (Y := Y)).1]
  by_cases e : k = (Y 43 2).toNat
  · rw [if_pos e, if_pos e, if_pos e, if_pos e, e, r.2 i h6]
    exact hg i h6 h4
  · rw [if_neg e, if_neg e, if_neg e, if_neg e, stp_r (by omega), stp_r (by omega), stp_r (by omega), stp_r (by omega)]
    exact r.1.2.2.2.2.2.1 k (by omega) i h6 h4
theorem ad_n {Y : PH} {a b c d : Int} : adY Y a b c d 43 2 = Y 43 2 + 1 := up_sm
theorem RTt.ad {h L Y : PH} {K a b n : Int} {g : Nat → Int} (r : RP h L Y (Y 43 1 + 1) g) (hw : WT Y) (hg : okg g K a b n) (hp : ¬ isP K) : RTt h L (adY (stp Y) K a b n) := by
  obtain ⟨s1, s2, s3, s4⟩ := stp_n (Y := Y)
  have e1 : adY (stp Y) K a b n 43 2 = Y 43 2 + 1 := by rw [ad_n, s1]
  have e2 : adY (stp Y) K a b n 43 1 = Y 43 1 + 1 := by rw [ad_2 (by omega) (by omega), s2]
  have e3 : adY (stp Y) K a b n 50 4 = Y 50 4 := by rw [ad_2 (by omega) (by omega), s3]
  have e4 : ∀ i : Nat, adY (stp Y) K a b n 51 i = Y 51 i := fun i => by rw [ad_2 (by omega) (by omega), s4]
  have R := r.rows hw hg
  obtain ⟨⟨r1, r2, r3, r4, r5, r6, r7⟩, rg⟩ := r
  have w1 := hw.1
  refine ⟨r1, by rw [e1]; exact r2, by rw [e2]; exact r3, by rw [e3]; exact r4, fun i hi => by rw [e3] at hi; rw [e4]; exact r5 i hi, fun k hk i h6 h4 => R k (by rw [e1] at hk; exact hk) i h6 h4, fun k hk p q => ?_⟩
  obtain ⟨a1, -, -, -, a5⟩ := ad_r (Y := stp Y) (a := K) (b := a) (c := b) (d := n) (k := k)
  rw [s1] at a1 a5
  rw [e1] at hk
  by_cases e : k = (Y 43 2).toNat
  · rw [a1, if_pos e] at p
    exact absurd p hp
  · rw [a1, if_neg e, stp_r (by omega)] at p
    rw [a5, if_neg e, stp_r (by omega)]
    exact r7 k (by omega) p (fun i hi z => q i (by rw [e3]; exact hi) (by rw [e4]; exact z))
theorem RTt.op {h h' L Y : PH} {K a b n : Int} {g : Nat → Int} (r : RP h L Y (Y 43 1 + 1) g) (hw : WT Y) (hg : okg g K a b n) (f : ∀ c k : Nat, ¬ (c = 169 ∧ k = 21) → ¬ (c = 177 ∧ k = (Y 50 4).toNat) → h' c k = h c k) (f1 : h' 169 21 = Y 50 4 + 1) (f2 : h' 177 (Y 50 4).toNat = Y 43 2) : RTt h' L (opn (adY (stp Y) K a b n)) := by
  obtain ⟨s1, s2, s3, s4⟩ := stp_n (Y := Y)
  have e1 : adY (stp Y) K a b n 43 2 = Y 43 2 + 1 := by rw [ad_n, s1]
  have e2 : adY (stp Y) K a b n 43 1 = Y 43 1 + 1 := by rw [ad_2 (by omega) (by omega), s2]
  have e3 : adY (stp Y) K a b n 50 4 = Y 50 4 := by rw [ad_2 (by omega) (by omega), s3]
  have e4 : ∀ i : Nat, adY (stp Y) K a b n 51 i = Y 51 i := fun i => by rw [ad_2 (by omega) (by omega), s4]
  obtain ⟨o1, o2, o3⟩ := opn_n (Y := adY (stp Y) K a b n)
  have oo : ∀ c k : Nat, 44 ≤ c → c ≤ 48 → opn (adY (stp Y) K a b n) c k = adY (stp Y) K a b n c k := fun c k q1 q2 => by unfold opn; rw [up_ne (by omega), up_ne (by omega)]
  have o4 : ∀ i : Nat, opn (adY (stp Y) K a b n) 51 i = if i = (Y 50 4).toNat then Y 43 2 else Y 51 i := fun i => by
    unfold opn
    rw [up_ne (by omega), e3, e1]
    by_cases z : i = (Y 50 4).toNat
    · rw [if_pos z, z, up_sm]; omega
    · rw [if_neg z, up_ne (by omega), e4]
  have R := r.rows hw hg
  obtain ⟨⟨r1, r2, r3, r4, r5, r6, r7⟩, rg⟩ := r
  obtain ⟨w1, w2, w3, w4, w5⟩ := hw
  refine ⟨r1.fr (fun c k q => f c k (by omega) (by omega)), by rw [o1, e1, f 170 2116 (by omega) (by omega)]; exact r2, by rw [o2, e2, f 169 22 (by omega) (by omega)]; exact r3, by rw [o3, e3]; exact f1, fun i hi => ?_, fun k hk i h6 h4 => ?_, fun k hk p q => ?_⟩
  · rw [o3, e3] at hi
    rw [o4]
    by_cases z : i = (Y 50 4).toNat
    · rw [if_pos z, z]; exact f2
    · rw [if_neg z, f 177 i (by omega) (by omega)]; exact r5 i (by omega)
  · rw [o1, e1] at hk
    rw [oo 44 k (by omega) (by omega), oo 45 k (by omega) (by omega), oo 46 k (by omega) (by omega), oo 47 k (by omega) (by omega), f 170 _ (by omega) (by omega)]
    exact R k hk i h6 h4
  · rw [o1, e1] at hk
    obtain ⟨a1, -, -, -, a5⟩ := ad_r (Y := stp Y) (a := K) (b := a) (c := b) (d := n) (k := k)
    rw [s1] at a1 a5
    rw [oo 48 k (by omega) (by omega), a5, f 170 _ (by omega) (by omega)]
    rw [oo 44 k (by omega) (by omega), a1] at p
    by_cases e : k = (Y 43 2).toNat
    · exact absurd (show opn (adY (stp Y) K a b n) 51 (Y 50 4).toNat = (k : Int) by rw [o4, if_pos rfl]; omega) (q (Y 50 4).toNat (by rw [o3, e3]; omega))
    · rw [if_neg e, stp_r (by omega)] at p
      rw [if_neg e, stp_r (by omega)]
      exact r7 k (by omega) p (fun i hi z => q i (by rw [o3, e3]; omega) (by rw [o4, if_neg (by omega)]; exact z))
