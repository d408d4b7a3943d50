/-! WHAT A UNIT SAYS OF A PLAIN RUN, arguments within a range too (4: 0 to so many) -/
def bs1 (s : Nat × Nat) (v : ZV) : Prop := match s.1 with
  | 0 => v.1 = 0 ∧ R32 v.2
  | 1 => v.1 = 1 ∧ R64 v.2
  | 2 => v = (2, Int.ofNat s.2)
  | 3 => v.1 = 0 ∧ (v.2 = 0 ∨ v.2 = 1)
  | _ => v.1 = 0 ∧ 0 ≤ v.2 ∧ v.2 ≤ (s.2 : Int) ∧ s.2 < 2147483648
def bsok : ASp → List ZV → Prop
  | [], [] => True
  | s :: t, v :: r => bs1 s v ∧ bsok t r
  | _, _ => False
def fsS : ASp → SG
  | [] => []
  | s :: t => match s.1 with
    | 0 => (-2147483648, 2147483647) :: fsS t
    | 1 => (-9223372036854775808, 9223372036854775807) :: fsS t
    | 2 => fsS t
    | 3 => (0, 1) :: fsS t
    | _ => (0, (s.2 : Int)) :: fsS t
def fsV (j : Nat) : ASp → List V2
  | [] => []
  | s :: t => match s.1 with
    | 0 => (0, (0, [(j, 1)])) :: fsV (j + 1) t
    | 1 => (1, (0, [(j, 1)])) :: fsV (j + 1) t
    | 2 => (2, (Int.ofNat s.2, [])) :: fsV j t
    | 3 => (0, (0, [(j, 1)])) :: fsV (j + 1) t
    | _ => (0, (0, [(j, 1)])) :: fsV (j + 1) t
theorem fs_args {sp ad : Nat → Nat} (hi : Inj ad) : ∀ (spec : ASp) (as : List ZV) (ρ : List Int) (σ : SG), bsok spec as → Sr ρ σ → ∃ VS zs, VS.map (cz ad) = as ∧ Sr (ρ ++ zs) (σ ++ fsS spec) ∧ Sk sp ad (ρ ++ zs) (fsV ρ.length spec) VS
  | [], [], ρ, σ, _, hs => ⟨[], [], rfl, by simpa [fsS] using hs, trivial⟩
  | [], _ :: _, _, _, h, _ => h.elim
  | _ :: _, [], _, _, h, _ => h.elim
  | (tg, c) :: t, v :: r, ρ, σ, h, hs => by
    have ONE : ∀ (lo hiv : Int) (V : Value), lo ≤ v.2 → v.2 ≤ hiv → cz ad V = v → ∃ VS zs, (V :: VS).map (cz ad) = v :: r ∧ Sr (ρ ++ (v.2 :: zs)) (σ ++ ((lo, hiv) :: fsS t)) ∧ Sk sp ad (ρ ++ (v.2 :: zs)) (fsV (ρ.length + 1) t) VS := fun lo hiv V h1 h2 h3 => by
      obtain ⟨VS, zs, a, b, d⟩ := fs_args hi t r (ρ ++ [v.2]) (σ ++ [(lo, hiv)]) h.2 (hs.app h1 h2)
      rw [List.append_assoc, List.append_assoc] at b
      rw [List.append_assoc, List.length_append] at d
      exact ⟨VS, zs, by rw [List.map_cons, h3, a], b, d⟩
    have AT : ∀ zs : List Int, (ρ ++ (v.2 :: zs))[ρ.length]? = some v.2 := fun zs => by
      rw [List.getElem?_append_right (Nat.le_refl _)]
      simp
    obtain ⟨vt, vz⟩ := v
    match tg, h with
    | 0, h =>
      obtain ⟨e, hr⟩ := h.1
      have e : vt = 0 := e
      subst e
      have e2 := o32R hr
      obtain ⟨VS, zs, a, b, d⟩ := ONE (-2147483648) 2147483647 (.int (Int32.ofInt vz)) hr.1 hr.2 (by rw [cz_i]; exact congrArg (fun z => ((0, z) : ZV)) e2)
      exact ⟨_, _, a, b, ⟨_, rfl, by rw [e2]; exact Lv.v (AT zs)⟩, d⟩
    | 1, h =>
      obtain ⟨e, hr⟩ := h.1
      have e : vt = 1 := e
      subst e
      have e2 := o64R hr
      obtain ⟨VS, zs, a, b, d⟩ := ONE (-9223372036854775808) 9223372036854775807 (.long (Int64.ofInt vz)) hr.1 hr.2 (by rw [cz_l]; exact congrArg (fun z => ((1, z) : ZV)) e2)
      exact ⟨_, _, a, b, ⟨_, rfl, by rw [e2]; exact Lv.v (AT zs)⟩, d⟩
    | 2, h =>
      have e : ((vt, vz) : ZV) = (2, Int.ofNat c) := h.1
      obtain ⟨VS, zs, a, b, d⟩ := fs_args hi t r ρ σ h.2 hs
      exact ⟨.ref (ad c) :: VS, zs, by rw [List.map_cons, cz_c hi, a, e], b, rfl, d⟩
    | 3, h =>
      obtain ⟨e, hr⟩ := h.1
      have e : vt = 0 := e
      have hr : vz = 0 ∨ vz = 1 := hr
      subst e
      have e2 := o32R (z := vz) ⟨by omega, by omega⟩
      obtain ⟨VS, zs, a, b, d⟩ := ONE 0 1 (.int (Int32.ofInt vz)) (by show (0 : Int) ≤ vz; omega) (by show vz ≤ 1; omega) (by rw [cz_i]; exact congrArg (fun z => ((0, z) : ZV)) e2)
      exact ⟨_, _, a, b, ⟨_, rfl, by rw [e2]; exact Lv.v (AT zs)⟩, d⟩
    | n + 4, h =>
      obtain ⟨e, hr⟩ := h.1
      have e : vt = 0 := e
      have hr : 0 ≤ vz ∧ vz ≤ (c : Int) ∧ c < 2147483648 := hr
      subst e
      have e2 := o32R (z := vz) ⟨by omega, by omega⟩
      obtain ⟨VS, zs, a, b, d⟩ := ONE 0 (c : Int) (.int (Int32.ofInt vz)) (by show (0 : Int) ≤ vz; omega) (by show vz ≤ (c : Int); omega) (by rw [cz_i]; exact congrArg (fun z => ((0, z) : ZV)) e2)
      exact ⟨_, _, a, b, ⟨_, rfl, by rw [e2]; exact Lv.v (AT zs)⟩, d⟩
/-- a method's unit is fit for any arguments of these kinds, and what is to hold holds behind it -/
noncomputable def fsk (tb : TB) (U0 U : UN) (spec : ASp) : Bool := match um tb U ((tA U0.2.1).1.1 ++ fsS spec, [], []) (tA U0.2.1).2.1 (v_locs 0 (fsV (tA U0.2.1).1.1.length spec)) [] with
  | none => false
  | some q => (match x_os tb q.1 q.2.1 q.2.2 U.2.2.2.1 (fun k _ N2 m2 _ _ => gd (Nat.beq k 0 && t0k tb U0 N2 m2) (some [])) U.2.2.1 with
    | some _ => true
    | none => false)
section FR
variable {tb : TB} {sb : Nat → List Nat} {mq : Nat → Nat → Option MR} {dC : Nat → ClassId} {dI : Nat → Nat → Nat} {dA : Nat → ClassId} {sp : Nat → Nat} {H0 : Heap} {l : Launch} {ρ0 : List Nat} {ad : Nat → Nat} {rf : Nat → Nat → Option Nat} {L : LSc}
theorem fs_ok {a b : Nat} {U0 U : UN} {M : MR} {spec : ASp} (hn : isnil U0.2.1.2.2.2.2.2.2.2.2 = true) (hw : st_wf U0.2.1.1.length U0.2.1 = true) (hl : U0.2.1.2.2.2.2.2.2.2.1 = []) (hf : U0.2.1.2.1 = [] ∧ U0.2.1.2.2.1 = []) (hU : ULOK tb sb mq dC dI dA sp H0 l ρ0 ad rf L [((a, b, 0), U)]) (hM : mq a b = some M) (hg : Mgd M) (hi : Inj ad) (hk : fsk tb U0 U spec = true) {h h' : PH} {as r : List ZV} (hT : Tq tb L sp ad U0 h) (has : bsok spec as) (hc : CP (zp0 sb sp ρ0 tb.1) M h as h' r) : Tq tb L sp ad U0 h' ∧ ∀ c k, Wout U.2.2.2.1 c k → h' c k = h c k := by
  obtain ⟨ρ, hG⟩ := hT
  obtain ⟨VS, zs, hVS, hSr, hSk⟩ := fs_args hi spec as ρ (tA U0.2.1).1.1 has hG.1.1
  have hsb : Sb ρ (ρ ++ zs) := Sb.app _ _
  have hlen : ρ.length = (tA U0.2.1).1.1.length := hG.1.1.1
  rw [hlen] at hSk
  have hG1 : Ga tb L sp ad (ρ ++ zs) h h (((tA U0.2.1).1.1 ++ fsS spec, [], []), (tA U0.2.1).2.1, v_locs 0 (fsV (tA U0.2.1).1.1.length spec), []) (lv_args 0 VS) [] := ⟨⟨hSr, fun f hf => (by cases hf), fun f hf => (by cases hf)⟩, hG.2.1.mono hsb, hG.2.2.1, Lk.locs 0 hSk, trivial⟩
  unfold fsk at hk
  cases hu : um tb U ((tA U0.2.1).1.1 ++ fsS spec, [], []) (tA U0.2.1).2.1 (v_locs 0 (fsV (tA U0.2.1).1.1.length spec)) [] with
  | none => rw [hu] at hk; cases hk
  | some q =>
    rw [hu] at hk
    dsimp only at hk
    cases hx : x_os tb q.1 q.2.1 q.2.2 U.2.2.2.1 (fun k _ N2 m2 _ _ => gd (Nat.beq k 0 && t0k tb U0 N2 m2) (some [])) U.2.2.1 with
    | none => rw [hx] at hk; cases hk
    | some outs =>
      obtain ⟨n1, n2, n3⟩ := hU _ List.mem_cons_self
      have n4 := n3 M hM
      obtain ⟨N', m', mu⟩ := q
      obtain ⟨-, ρ', ρT, LV', k1, k2, k3, k4, k5, k6⟩ := um_ok n1 n2 hG1 hu
      obtain ⟨pc1, h1, lv1, st1, p1, -, Z1⟩ := wp_less k5 (n4 ρT h LV' k6)
      obtain ⟨o, o1, o2, r', N2, m2, lv2, st2, ρ2, q1, q2, q3, q4⟩ := unit_at k2 k3 k4 hx p1
      obtain ⟨g, -⟩ := gd_s q1
      have w := bb_and g
      have hrt : rte M pc1 st1 := by
        rcases o2 with ⟨-, z⟩ | ⟨z, -⟩
        · exact z
        · have := bb_eq w.1
          omega
      obtain ⟨f, n, zl', z1, -⟩ := Z1 hi (z_locs 0 as) (by rw [← hVS]; exact (Zlr.args VS 0).1)
      have hc2 : CP (zp0 sb sp ρ0 tb.1) M h as h1 (st1.map (cz ad)) := ⟨f + 1, hg, n, pc1, zl', z1, rtz_of hrt⟩
      obtain ⟨e1, -⟩ := CP_det hc hc2
      subst e1
      refine ⟨t0k_ok hn hw hl q4 w.2, fun c k hwo => ?_⟩
      obtain ⟨o', -, -, e', ga⟩ := p1
      exact ga.2.1.2.2.2.1 c k hwo
end FR
