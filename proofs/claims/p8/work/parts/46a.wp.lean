/-! A TEXT IN PIECES: what a run comes to, without its text -/
def WP (Z : ZP) (cut : Nat → Bool) (K : Nat → PH → ZL → List ZV → Prop) (Q : PH → List ZV → Prop) (M : MR) (pc : Nat) (h : PH) (A : ZL) (st : List ZV) : Prop := ∀ (f m : Nat) (lv : ZL) (s : ZS), zin A lv → Zn Z (Zc Z f) m M (pc, h, lv, st) s → rtz M s.1 s.2.2.2 → Q s.2.1 s.2.2.2 ∨ ∃ m', m' ≤ m ∧ ∃ pc' h' lv' B st', cut pc' = true ∧ zin B lv' ∧ K pc' h' B st' ∧ Zn Z (Zc Z f) m' M (pc', h', lv', st') s
theorem wp_vc {Z : ZP} {cut cut2 : Nat → Bool} {K : Nat → PH → ZL → List ZV → Prop} {Q : PH → List ZV → Prop} {M : MR} {n pc : Nat} {h : PH} {A : ZL} {st : List ZV} (hM : Mgd M) (H : vc Z cut2 (fun p h A st => WP Z cut K Q M p h A st) Q M n pc (ax_jmp M.2.2.2.2.2.2 pc) h A st) : WP Z cut K Q M pc h A st := by
  intro f m lv s hz hZ hr
  rcases vc_ok hM n (ax_jmp_in _ _) hz H hZ hr with q | ⟨m', hm, pc', h', lv', B, st', -, hB, hK, hZ'⟩
  · exact .inl q
  · rcases hK f m' lv' s hB hZ' hr with q | ⟨m2, h2, r⟩
    · exact .inl q
    · exact .inr ⟨m2, by omega, r⟩
theorem wp_k {Z : ZP} {cut : Nat → Bool} {K : Nat → PH → ZL → List ZV → Prop} {Q : PH → List ZV → Prop} {M : MR} {pc : Nat} {h : PH} {A : ZL} {st : List ZV} (hc : cut pc = true) (hK : K pc h A st) : WP Z cut K Q M pc h A st := fun _ m lv _ hz hZ _ => .inr ⟨m, Nat.le_refl _, pc, h, lv, A, st, hc, hz, hK, hZ⟩
theorem gc_wp {sp ad : Nat → Nat} {ρ0 : List Nat} {L : LSc} {J : PH → Prop} {p : Nat} (H : ∀ (h : PH) (i : Int), Tq tbq L sp ad U0q h → J h → WP (zq sp ρ0) (fun q => Nat.beq q 2296) (KE J L sp ad i) (fun _ _ => False) mL_law p h (zlL i) []) : GC J L sp ad ρ0 p := by
  intro f m h zl i e hT hJ0 h0 h6 hz hZ hr
  rcases H h i hT hJ0 f m zl e hz hZ hr with q | ⟨m', hm, pc', h', lv', B, st', hcut, hB, hK, hZ'⟩
  · exact q.elim
  · have e6 : pc' = 2296 := bb_eq hcut
    subst e6
    obtain ⟨rfl, k1, k2, k3⟩ := hK
    exact ⟨f, m', h', lv', by omega, k1, k2, zin.tr (zsb_in k3) hB, hZ'⟩
