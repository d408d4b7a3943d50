/-! A CASE OF THE LAW, by its unit, as a piece of a plain run -/
section FR
variable {Z : ZP}
theorem Zn_pre {cr : CRl} (hc : ∀ C h as h1 r1 h2 r2, cr C h as h1 r1 → cr C h as h2 r2 → h1 = h2 ∧ r1 = r2) {M : MR} (hM : Mgd M) : ∀ (n : Nat) {m : Nat} {s s1 e : ZS}, Zn Z cr n M s s1 → Zn Z cr m M s e → rtz M e.1 e.2.2.2 → ∃ m', m = n + m' ∧ Zn Z cr m' M s1 e
  | 0, m, s, s1, e, a, b, _ => by
    have a : s = s1 := a
    subst a
    exact ⟨m, by omega, b⟩
  | n + 1, 0, s, s1, e, a, b, hr => by
    have b : s = e := b
    subst b
    obtain ⟨s2, c, -⟩ := a
    exact (zSt_rt hM hr c).elim
  | n + 1, m + 1, s, s1, e, a, b, hr => by
    obtain ⟨s2, c, d⟩ := a
    obtain ⟨s3, c', d'⟩ := b
    have q := zSt_det hc hM c c'
    subst q
    obtain ⟨m', e1, e2⟩ := Zn_pre hc hM n d d' hr
    exact ⟨m', by omega, e2⟩
end FR
/-- a place that holds a cell, an old cell -/
noncomputable def isl (lv : L2) (i t : Nat) (c : Int) : Bool := match lk2 lv i with
  | some v => Nat.beq v.1 t && decide (v.2.1 = c)
  | none => false
noncomputable def isi (N : NS) (lv : L2) (i n : Nat) : Bool := match lk2 lv i with
  | some v => Nat.beq v.1 0 && eqv N v.2 (0, [(n, 1)])
  | none => false
def lvL (n : Nat) : L2 := [(3, (0, (0, [(n, 1)]))), (2, (2, (169, []))), (1, (2, (0, []))), (0, (6, (0, [])))]
/-- the places of the law's loop -/
def zlL (i : Int) : ZL := [(3, (0, i)), (2, (2, 169)), (1, (2, 0)), (0, (6, 0))]
noncomputable def cse (tb : TB) (U0 U : UN) (e6 : Nat) : Bool := ax_fc (tA U0.2.1).1.1.length (fun n => match um tb U ((tA U0.2.1).1.1 ++ [(0, 3066), (0, 3072)], [(-6, [(n, -1), (n + 1, 1)])], []) ((999, (0, []), (0, [(n + 1, 1)])) :: (tA U0.2.1).2.1.1, (tA U0.2.1).2.1.2) (lvL n) [] with
  | none => false
  | some q => (match x_os tb q.1 q.2.1 q.2.2 U.2.2.2.1 (fun k pc N2 m2 lv2 st2 => gd (Nat.beq k 1 && (Nat.beq pc e6 && (t0k tb U0 N2 m2 && (isi N2 lv2 3 n && (isl lv2 2 2 169 && (isl lv2 1 2 0 && (isl lv2 0 6 0 && isnil st2))))))) (some [])) U.2.2.1 with
    | some _ => true
    | none => false))
section FR
variable {tb : TB} {sb : Nat → List Nat} {mq : Nat → Nat → Option MR} {dC : Nat → ClassId} {dI : Nat → Nat → Nat} {dA : Nat → ClassId} {sp : Nat → Nat} {H0 : Heap} {l : Launch} {ρ0 : List Nat} {ad : Nat → Nat} {rf : Nat → Nat → Option Nat} {L : LSc}
theorem isl_ok {ρ : List Int} {lv : L2} {LV : LVs} (hL : Lk sp ad ρ lv LV) {i t : Nat} {c : Int} (h : isl lv i t c = true) : ∃ v V, (i, V) ∈ LV ∧ Vk sp ad ρ v V ∧ v.1 = t ∧ v.2.1 = c := by
  unfold isl at h
  cases hk : lk2 lv i with
  | none => rw [hk] at h; cases h
  | some v =>
    rw [hk] at h
    have w := bb_and h
    obtain ⟨V, a, b⟩ := lk2_ok hL hk
    exact ⟨v, V, a, b, bb_eq w.1, of_decide_eq_true w.2⟩
theorem cse_ok {pc e6 : Nat} {U0 U : UN} {M : MR} (hn : isnil U0.2.1.2.2.2.2.2.2.2.2 = true) (hw : st_wf U0.2.1.1.length U0.2.1 = true) (hl : U0.2.1.2.2.2.2.2.2.2.1 = []) (hU : ULOK tb sb mq dC dI dA sp H0 l ρ0 ad rf L [((98, 0, 100000 + pc), U)]) (hM : mq 98 0 = some M) (hi : Inj ad) (hk : cse tb U0 U e6 = true) {h : PH} {i : Int} {zl : ZL} (hT : Tq tb L sp ad U0 h) (h0 : 0 ≤ i) (h6 : i + 6 ≤ L.1) (hLx : L.1 ≤ 3072) (hz : zin (zlL i) zl) :
    ∃ f n h' zl', Zn (zp0 sb sp ρ0 tb.1) (Zc (zp0 sb sp ρ0 tb.1) f) n M (pc, h, zl, []) (e6, h', zl', []) ∧ zin (zlL i) zl' ∧ Tq tb L sp ad U0 h' ∧ ∀ c k, Wout U.2.2.2.1 c k → h' c k = h c k := by
  obtain ⟨ρ, hG⟩ := hT
  have hlen : ρ.length = (tA U0.2.1).1.1.length := hG.1.1.1
  unfold cse at hk
  rw [ax_fc_eq] at hk
  generalize hnn : (tA U0.2.1).1.1.length = n at hk hlen
  have hsb : Sb ρ (ρ ++ [i] ++ [(L.1 : Int)]) := by rw [List.append_assoc]; exact Sb.app _ _
  have hSr : Sr (ρ ++ [i] ++ [(L.1 : Int)]) ((tA U0.2.1).1.1 ++ [(0, 3066)] ++ [(0, 3072)]) := (hG.1.1.app h0 (by omega)).app (by omega) (by omega)
  have e0 : (ρ ++ [i] ++ [(L.1 : Int)])[n]? = some i := by
    rw [List.append_assoc, List.getElem?_append_right (by omega)]
    simp [hlen]
  have e1 : (ρ ++ [i] ++ [(L.1 : Int)])[n + 1]? = some (L.1 : Int) := by
    rw [List.append_assoc, List.getElem?_append_right (by omega)]
    simp [hlen]
  have hI : R32 i := ⟨by omega, by omega⟩
  have hLV : Lk sp ad (ρ ++ [i] ++ [(L.1 : Int)]) (lvL n) [(3, .int (Int32.ofInt i)), (2, .ref (ad 169)), (1, .ref (ad 0)), (0, .retAddr 0)] := ⟨⟨rfl, ⟨_, rfl, by rw [o32R hI]; exact Lv.v e0⟩⟩, ⟨rfl, rfl⟩, ⟨rfl, rfl⟩, ⟨rfl, rfl⟩, trivial⟩
  have hmm := hG.2.1.mono hsb
  have hG1 : Ga tb L sp ad (ρ ++ [i] ++ [(L.1 : Int)]) h h (((tA U0.2.1).1.1 ++ [(0, 3066), (0, 3072)], [(-6, [(n, -1), (n + 1, 1)])], []), ((999, (0, []), (0, [(n + 1, 1)])) :: (tA U0.2.1).2.1.1, (tA U0.2.1).2.1.2), lvL n, []) [(3, .int (Int32.ofInt i)), (2, .ref (ad 169)), (1, .ref (ad 0)), (0, .retAddr 0)] [] := by
    refine ⟨⟨?_, fun f hf => ?_, fun f hf => (by cases hf)⟩, ⟨fun e he => ?_, hmm.2.1, hmm.2.2.1, hmm.2.2.2.1, hmm.2.2.2.2.1, hmm.2.2.2.2.2⟩, hG.2.2.1, hLV, trivial⟩
    · have e9 : (tA U0.2.1).1.1 ++ [(0, 3066)] ++ [(0, 3072)] = (tA U0.2.1).1.1 ++ [((0 : Int), (3066 : Int)), (0, 3072)] := by rw [List.append_assoc]; rfl
      rw [e9] at hSr
      exact hSr
    · have hf := List.mem_singleton.mp hf
      subst hf
      exact ⟨-6 + (-1 * i + (1 * (L.1 : Int) + 0)), ⟨_, ⟨i, _, e0, ⟨_, _, e1, rfl, rfl⟩, rfl⟩, rfl⟩, by omega⟩
    · rcases List.mem_cons.mp he with rfl | he
      · exact ⟨0, (L.1 : Int), Lv.c _ 0, Int.le_refl 0, Lv.v e1, hG.2.2.1.2.1⟩
      · exact hmm.1 e he
  cases hu : um tb U ((tA U0.2.1).1.1 ++ [(0, 3066), (0, 3072)], [(-6, [(n, -1), (n + 1, 1)])], []) ((999, (0, []), (0, [(n + 1, 1)])) :: (tA U0.2.1).2.1.1, (tA U0.2.1).2.1.2) (lvL n) [] with
  | none => rw [hu] at hk; cases hk
  | some q =>
    rw [hu] at hk
    dsimp only at hk
    cases hx : x_os tb q.1 q.2.1 q.2.2 U.2.2.2.1 (fun k pc N2 m2 lv2 st2 => gd (Nat.beq k 1 && (Nat.beq pc e6 && (t0k tb U0 N2 m2 && (isi N2 lv2 3 n && (isl lv2 2 2 169 && (isl lv2 1 2 0 && (isl lv2 0 6 0 && isnil st2))))))) (some [])) U.2.2.1 with
    | none => rw [hx] at hk; cases hk
    | some outs =>
      obtain ⟨n1, n2, n3⟩ := hU _ List.mem_cons_self
      have n4 := n3 M hM
      rw [show (if 100000 ≤ 100000 + pc then 100000 + pc - 100000 else 100000 + pc) = pc by rw [if_pos (by omega)]; omega] at n4
      obtain ⟨N', m', mu⟩ := q
      obtain ⟨-, ρ', ρT, LV', k1, k2, k3, k4, k5, k6⟩ := um_ok n1 n2 hG1 hu
      obtain ⟨pc1, h1, lv1, st1, p1, -, Z1⟩ := wp_less k5 (n4 ρT h LV' k6)
      obtain ⟨o, o1, o2, r', N2, m2, lv2, st2, ρ2, q1, q2, q3, q4⟩ := unit_at k2 k3 k4 hx p1
      obtain ⟨g, -⟩ := gd_s q1
      have w := bb_and g
      have w2 := bb_and w.2
      have w3 := bb_and w2.2
      have w4 := bb_and w3.2
      have w5 := bb_and w4.2
      have w6 := bb_and w5.2
      have w7 := bb_and w6.2
      have epc : pc1 = e6 := by
        rcases o2 with ⟨z, -⟩ | ⟨-, z⟩
        · have := bb_eq w.1
          omega
        · rw [z]; exact bb_eq w2.1
      have hz2 : Zlr ad zl [(3, .int (Int32.ofInt i)), (2, .ref (ad 169)), (1, .ref (ad 0)), (0, .retAddr 0)] := by
        intro q hq
        rcases List.mem_cons.mp hq with rfl | hq
        · rw [cz_i, o32R hI]; exact hz (3, (0, i)) List.mem_cons_self
        · rcases List.mem_cons.mp hq with rfl | hq
          · rw [cz_c hi]; exact hz (2, (2, 169)) (List.mem_cons_of_mem _ List.mem_cons_self)
          · rcases List.mem_cons.mp hq with rfl | hq
            · rw [cz_c hi]; exact hz (1, (2, 0)) (List.mem_cons_of_mem _ (List.mem_cons_of_mem _ List.mem_cons_self))
            · rw [List.mem_singleton.mp hq, cz_s]; exact hz (0, (6, 0)) (List.mem_cons_of_mem _ (List.mem_cons_of_mem _ (List.mem_cons_of_mem _ List.mem_cons_self)))
      obtain ⟨f, nn, zl', z1, z2⟩ := Z1 hi zl hz2
      have hst : st1 = [] := by
        have hS := q4.2.2.2.2
        cases hs2 : st2 with
        | nil => rw [hs2] at hS; exact hS.nil
        | cons x y => rw [hs2] at w7; exact absurd w7.2 (fun z => by cases z)
      subst hst
      subst epc
      refine ⟨f, nn, h1, zl', z1, ?_, t0k_ok hn hw hl q4 w3.1, fun c k hwo => ?_⟩
      · have hLk := q4.2.2.2.1
        have C1 : zlk zl' 3 = some (0, i) := by
          have hi3 := w4.1
          unfold isi at hi3
          cases hk3 : lk2 lv2 3 with
          | none => rw [hk3] at hi3; cases hi3
          | some v =>
            rw [hk3] at hi3
            have u := bb_and hi3
            obtain ⟨V, a1, a2⟩ := lk2_ok hLk hk3
            obtain ⟨x, rfl, hx0⟩ := a2.i u.1
            have e3 : x.toInt = i := eqv_ok q4.1 hx0 (Lv.v (q3 _ _ (k1 _ _ e0))) u.2
            rw [z2 _ a1, cz_i, e3]
        have C2 : ∀ {j c : Nat}, isl lv2 j 2 (Int.ofNat c) = true → zlk zl' j = some (2, Int.ofNat c) := fun {j c} hj => by
          obtain ⟨v, V, a1, a2, a3, a4⟩ := isl_ok hLk hj
          have a5 : V = .ref (ad v.2.1.toNat) := a2.r (by rw [a3]; rfl)
          rw [z2 _ a1, a5, a4]
          exact congrArg some (cz_c hi c)
        have C3 : isl lv2 0 6 0 = true → zlk zl' 0 = some (6, 0) := fun hj => by
          obtain ⟨v, V, a1, a2, a3, a4⟩ := isl_ok hLk hj
          have a5 : V = .retAddr v.2.1.toNat := a2.s (by rw [a3]; rfl)
          rw [z2 _ a1, a5, a4]
          rfl
        intro q hq
        rcases List.mem_cons.mp hq with rfl | hq
        · exact C1
        · rcases List.mem_cons.mp hq with rfl | hq
          · exact C2 (c := 169) w5.1
          · rcases List.mem_cons.mp hq with rfl | hq
            · exact C2 (c := 0) w6.1
            · rw [List.mem_singleton.mp hq]; exact C3 w7.1
      · obtain ⟨o', -, -, e', ga⟩ := p1
        exact ga.2.1.2.2.2.1 c k hwo
end FR
