/-! PLAIN RUNS, 2: two ways of one step are related where their parts are -/
section ZP
variable {R1 R2 : Type} {Rl : R1 → R2 → Prop} {b1 : R1} {b2 : R2} {br1 : Prop → R1 → R1 → R1} {br2 : Prop → R2 → R2 → R2} {as1 : Prop → R1 → R1} {as2 : Prop → R2 → R2} {cl1 : MR → PH → List ZV → (PH → List ZV → R1) → R1} {cl2 : MR → PH → List ZV → (PH → List ZV → R2) → R2} {sh : SHP} {sb : Nat → List Nat} {sl : Nat} {si : Nat → Int} {fm : ZV}
theorem lcr_par {α : Type} (hb : Rl b1 b2) {l : List α} {k1 : α → List α → R1} {k2 : α → List α → R2} (hk : ∀ x t, Rl (k1 x t) (k2 x t)) : Rl (lcr b1 l k1) (lcr b2 l k2) := by
  cases l with
  | nil => exact hb
  | cons x t => exact hk x t
theorem obr_par {α : Type} (hb : Rl b1 b2) {o : Option α} {k1 : α → R1} {k2 : α → R2} (hk : ∀ x, Rl (k1 x) (k2 x)) : Rl (obr b1 o k1) (obr b2 o k2) := by
  cases o with
  | none => exact hb
  | some x => exact hk x
theorem gdr_par (hb : Rl b1 b2) {b : Bool} {x1 : R1} {x2 : R2} (hk : Rl x1 x2) : Rl (gdr b1 b x1) (gdr b2 b x2) := by
  cases b with
  | false => exact hb
  | true => exact hk
theorem cnd_par {b : Bool} {x1 y1 : R1} {x2 y2 : R2} (hx : Rl x1 x2) (hy : Rl y1 y2) : Rl (bif b then x1 else y1) (bif b then x2 else y2) := by
  cases b with
  | false => exact hy
  | true => exact hx
theorem z_b0_par (hb : Rl b1 b2) {op : Nat} {lk : List Nat} {lv : ZL} {st : List ZV} {k1 : ZL → List ZV → R1} {k2 : ZL → List ZV → R2} (hk : ∀ lv st, Rl (k1 lv st) (k2 lv st)) : Rl (z_b0 b1 op lk lv st k1) (z_b0 b2 op lk lv st k2) := by
  unfold z_b0 z_psh
  refine cnd_par (cnd_par (lcr_par hb (fun _ _ => lcr_par hb (fun _ _ => cnd_par (hk _ _) (cnd_par (hk _ _) (hk _ _))))) (lcr_par hb (fun _ _ => obr_par hb (fun _ => gdr_par hb (hk _ _))))) (cnd_par (lcr_par hb (fun _ _ => lcr_par hb (fun _ _ => gdr_par hb (hk _ _)))) (lcr_par hb (fun _ _ => lcr_par hb (fun _ _ => obr_par hb (fun _ => gdr_par hb (hk _ _))))))
theorem z_getf_par (hb : Rl b1 b2) (has : ∀ c x1 x2, Rl x1 x2 → Rl (as1 c x1) (as2 c x2)) {lk : List Nat} {h : PH} {st : List ZV} {k1 : List ZV → R1} {k2 : List ZV → R2} (hk : ∀ st, Rl (k1 st) (k2 st)) : Rl (z_getf b1 as1 sh lk h st k1) (z_getf b2 as2 sh lk h st k2) := by
  unfold z_getf
  exact lcr_par hb (fun _ _ => lcr_par hb (fun _ _ => lcr_par hb (fun _ _ => cnd_par (obr_par hb (fun _ => gdr_par hb (obr_par hb (fun _ => cnd_par (has _ _ _ (hk _)) (cnd_par (has _ _ _ (hk _)) (gdr_par hb (hk _))))))) (gdr_par hb (cnd_par (hk _) (hk _))))))
theorem z_putf_par (hb : Rl b1 b2) {lk : List Nat} {h : PH} {st : List ZV} {k1 : PH → List ZV → R1} {k2 : PH → List ZV → R2} (hk : ∀ h st, Rl (k1 h st) (k2 h st)) : Rl (z_putf b1 sh lk h st k1) (z_putf b2 sh lk h st k2) := by
  unfold z_putf
  exact lcr_par hb (fun _ _ => lcr_par hb (fun _ _ => lcr_par hb (fun _ _ => lcr_par hb (fun _ _ => lcr_par hb (fun _ _ => gdr_par hb (obr_par hb (fun _ => gdr_par hb (hk _ _))))))))
theorem z_sel_par (hb : Rl b1 b2) (hbr : ∀ c x1 x2 y1 y2, Rl x1 x2 → Rl y1 y2 → Rl (br1 c x1 y1) (br2 c x2 y2)) {i : Int} {k1 : ZV → R1} {k2 : ZV → R2} (hk : ∀ v, Rl (k1 v) (k2 v)) : ∀ (fs : List (Nat × Nat)) (j : Nat), Rl (z_sel b1 br1 i k1 fs j) (z_sel b2 br2 i k2 fs j)
  | [], _ => hb
  | f :: t, j => hbr _ _ _ _ _ (hk _) (z_sel_par hb hbr hk t (j + 1))
theorem z_ald_par (hb : Rl b1 b2) (hbr : ∀ c x1 x2 y1 y2, Rl x1 x2 → Rl y1 y2 → Rl (br1 c x1 y1) (br2 c x2 y2)) (has : ∀ c x1 x2, Rl x1 x2 → Rl (as1 c x1) (as2 c x2)) {kd : Nat} {h : PH} {st : List ZV} {k1 : List ZV → R1} {k2 : List ZV → R2} (hk : ∀ st, Rl (k1 st) (k2 st)) : Rl (z_ald b1 br1 as1 sh sb sl si kd h st k1) (z_ald b2 br2 as2 sh sb sl si kd h st k2) := by
  unfold z_ald
  exact lcr_par hb (fun _ _ => lcr_par hb (fun _ _ => gdr_par hb (cnd_par (obr_par hb (fun _ => cnd_par (gdr_par hb (z_sel_par hb hbr (fun _ => hk _) _ _)) (gdr_par hb (has _ _ _ (cnd_par (has _ _ _ (hk _)) (has _ _ _ (hk _))))))) (gdr_par hb (cnd_par (gdr_par hb (has _ _ _ (has _ _ _ (hk _)))) (gdr_par hb (has _ _ _ (hk _))))))))
theorem z_ast_par (hb : Rl b1 b2) (has : ∀ c x1 x2, Rl x1 x2 → Rl (as1 c x1) (as2 c x2)) {kd : Nat} {h : PH} {st : List ZV} {k1 : PH → List ZV → R1} {k2 : PH → List ZV → R2} (hk : ∀ h st, Rl (k1 h st) (k2 h st)) : Rl (z_ast b1 as1 sh kd h st k1) (z_ast b2 as2 sh kd h st k2) := by
  unfold z_ast
  exact lcr_par hb (fun _ _ => lcr_par hb (fun _ _ => lcr_par hb (fun _ _ => gdr_par hb (obr_par hb (fun _ => gdr_par hb (has _ _ _ (hk _ _)))))))
theorem z_alen_par (hb : Rl b1 b2) {a : ZV} {k1 : ZV → R1} {k2 : ZV → R2} (hk : ∀ v, Rl (k1 v) (k2 v)) : Rl (z_alen b1 sh sb sl a k1) (z_alen b2 sh sb sl a k2) := by
  unfold z_alen
  exact cnd_par (obr_par hb (fun _ => hk _)) (gdr_par hb (cnd_par (hk _) (hk _)))
theorem z_sw_par (hbr : ∀ c x1 x2 y1 y2, Rl x1 x2 → Rl y1 y2 → Rl (br1 c x1 y1) (br2 c x2 y2)) {x : Int} {g1 : Nat → R1} {g2 : Nat → R2} (hg : ∀ t, Rl (g1 t) (g2 t)) {d : Nat} : ∀ (ks : List Nat), Rl (z_sw br1 x g1 d ks) (z_sw br2 x g2 d ks)
  | [] => hg d
  | [_] => hg d
  | k :: t :: r => hbr (x = z32 k) _ _ _ _ (hg t) (z_sw_par hbr hg r)
theorem z_inv_par (hb : Rl b1 b2) (has : ∀ c x1 x2, Rl x1 x2 → Rl (as1 c x1) (as2 c x2)) (hcl : ∀ C h as (k1 : PH → List ZV → R1) (k2 : PH → List ZV → R2), (∀ h' r, Rl (k1 h' r) (k2 h' r)) → Rl (cl1 C h as k1) (cl2 C h as k2)) {mt : Nat → Nat → Option MR} {lk : List Nat} {h : PH} {st : List ZV} {k1 : PH → List ZV → R1} {k2 : PH → List ZV → R2} (hk : ∀ h st, Rl (k1 h st) (k2 h st)) : Rl (z_inv b1 as1 cl1 mt lk h st k1) (z_inv b2 as2 cl2 mt lk h st k2) := by
  unfold z_inv
  exact lcr_par hb (fun _ _ => cnd_par (lcr_par hb (fun _ _ => lcr_par hb (fun _ _ => lcr_par hb (fun _ _ => lcr_par hb (fun _ _ => lcr_par hb (fun _ _ => gdr_par hb (has _ _ _ (hk _ _)))))))) (cnd_par (lcr_par hb (fun _ _ => lcr_par hb (fun _ _ => hk _ _))) (cnd_par (lcr_par hb (fun _ _ => lcr_par hb (fun _ _ => hk _ _))) (lcr_par hb (fun _ _ => obr_par hb (fun _ => obr_par hb (fun _ => hcl _ _ _ _ _ (fun _ _ => hk _ _))))))))
theorem z_bin_par (hb : Rl b1 b2) {t : Nat} {f : Int → Int → Int} {st : List ZV} {k1 : List ZV → R1} {k2 : List ZV → R2} (hk : ∀ st, Rl (k1 st) (k2 st)) : Rl (z_bin b1 t f st k1) (z_bin b2 t f st k2) := by
  unfold z_bin
  exact lcr_par hb (fun _ _ => lcr_par hb (fun _ _ => gdr_par hb (hk _)))
theorem z_dv_par (hb : Rl b1 b2) (has : ∀ c x1 x2, Rl x1 x2 → Rl (as1 c x1) (as2 c x2)) {t : Nat} {f : Int → Int → Int} {st : List ZV} {k1 : List ZV → R1} {k2 : List ZV → R2} (hk : ∀ st, Rl (k1 st) (k2 st)) : Rl (z_dv b1 as1 t f st k1) (z_dv b2 as2 t f st k2) := by
  unfold z_dv
  exact lcr_par hb (fun _ _ => lcr_par hb (fun _ _ => gdr_par hb (has _ _ _ (hk _))))
theorem z_b3_par (hb : Rl b1 b2) (has : ∀ c x1 x2, Rl x1 x2 → Rl (as1 c x1) (as2 c x2)) {op : Nat} {st : List ZV} {k1 : List ZV → R1} {k2 : List ZV → R2} (hk : ∀ st, Rl (k1 st) (k2 st)) : Rl (z_b3 b1 as1 op st k1) (z_b3 b2 as2 op st k2) := by
  unfold z_b3
  exact cnd_par (z_bin_par hb hk) (cnd_par (z_dv_par hb has hk) (cnd_par (z_dv_par hb has hk) (cnd_par (z_bin_par hb hk)
    (cnd_par (lcr_par hb (fun _ _ => lcr_par hb (fun _ _ => gdr_par hb (hk _)))) (cnd_par (lcr_par hb (fun _ _ => lcr_par hb (fun _ _ => gdr_par hb (hk _))))
    (cnd_par (lcr_par hb (fun _ _ => gdr_par hb (hk _))) (cnd_par (lcr_par hb (fun _ _ => gdr_par hb (hk _))) (cnd_par (lcr_par hb (fun _ _ => gdr_par hb (hk _)))
    (cnd_par (lcr_par hb (fun _ _ => cnd_par (gdr_par hb (hk _)) (cnd_par (cnd_par (hk _) (lcr_par hb (fun _ _ => gdr_par hb (hk _)))) (gdr_par hb (hk _)))))
    (cnd_par (lcr_par hb (fun _ _ => gdr_par hb (hk _))) (cnd_par (z_dv_par hb has hk) (z_dv_par hb has hk))))))))))))
/-- places that are known may be fewer on the other side -/
theorem z_st_pal (hb : Rl b1 b2) (hbr : ∀ c x1 x2 y1 y2, Rl x1 x2 → Rl y1 y2 → Rl (br1 c x1 y1) (br2 c x2 y2)) (has : ∀ c x1 x2, Rl x1 x2 → Rl (as1 c x1) (as2 c x2)) (hcl : ∀ C h as (k1 : PH → List ZV → R1) (k2 : PH → List ZV → R2), (∀ h' r, Rl (k1 h' r) (k2 h' r)) → Rl (cl1 C h as k1) (cl2 C h as k2)) {mt : Nat → Nat → Option MR} {e : ME} {h : PH} {l1 l2 : ZL} {st : List ZV} {nx1 : PH → ZL → List ZV → R1} {nx2 : PH → ZL → List ZV → R2} {jp1 : Nat → PH → ZL → List ZV → R1} {jp2 : Nat → PH → ZL → List ZV → R2} (h0 : Rl (z_b0 b1 e.2.1 e.2.2.2.1 l1 st (fun lv' st' => nx1 h lv' st')) (z_b0 b2 e.2.1 e.2.2.2.1 l2 st (fun lv' st' => nx2 h lv' st'))) (hn : ∀ h st, Rl (nx1 h l1 st) (nx2 h l2 st)) (hj : ∀ t h st, Rl (jp1 t h l1 st) (jp2 t h l2 st)) : Rl (z_st b1 br1 as1 cl1 sh sb sl si fm mt e h l1 st nx1 jp1) (z_st b2 br2 as2 cl2 sh sb sl si fm mt e h l2 st nx2 jp2) := by
  unfold z_st
  exact cnd_par h0 (cnd_par (cnd_par (z_getf_par hb has (fun _ => hn _ _)) (cnd_par (z_putf_par hb (fun _ _ => hn _ _)) (cnd_par (z_ald_par hb hbr has (fun _ => hn _ _)) (gdr_par hb (z_ast_par hb has (fun _ _ => hn _ _))))))
    (cnd_par (cnd_par (lcr_par hb (fun _ _ => lcr_par hb (fun _ _ => cnd_par (lcr_par hb (fun _ _ => lcr_par hb (fun _ _ => gdr_par hb (hbr _ _ _ _ _ (hj _ _ _) (hn _ _))))) (lcr_par hb (fun _ _ => gdr_par hb (hbr _ _ _ _ _ (hj _ _ _) (hn _ _))))))) (cnd_par (lcr_par hb (fun _ _ => hj _ _ _)) (gdr_par hb (z_inv_par hb has hcl (fun _ _ => hn _ _)))))
    (cnd_par (z_b3_par hb has (fun _ => hn _ _)) (cnd_par (lcr_par hb (fun _ _ => z_alen_par hb (fun _ => hn _ _))) (cnd_par (lcr_par hb (fun _ _ => cnd_par (hn _ _) (hn _ _)))
    (cnd_par (lcr_par hb (fun _ _ => gdr_par hb (lcr_par hb (fun _ _ => lcr_par hb (fun _ _ => lcr_par hb (fun _ _ => hbr _ _ _ _ _ (hj _ _ _) (z_sw_par hbr (fun _ => hj _ _ _) _))))))) (cnd_par (lcr_par hb (fun _ _ => gdr_par hb (lcr_par hb (fun _ _ => z_sw_par hbr (fun _ => hj _ _ _) _)))) (gdr_par hb (z_b3_par hb has (fun _ => hn _ _))))))))))
theorem z_st_par (hb : Rl b1 b2) (hbr : ∀ c x1 x2 y1 y2, Rl x1 x2 → Rl y1 y2 → Rl (br1 c x1 y1) (br2 c x2 y2)) (has : ∀ c x1 x2, Rl x1 x2 → Rl (as1 c x1) (as2 c x2)) (hcl : ∀ C h as (k1 : PH → List ZV → R1) (k2 : PH → List ZV → R2), (∀ h' r, Rl (k1 h' r) (k2 h' r)) → Rl (cl1 C h as k1) (cl2 C h as k2)) {mt : Nat → Nat → Option MR} {e : ME} {h : PH} {lv : ZL} {st : List ZV} {nx1 : PH → ZL → List ZV → R1} {nx2 : PH → ZL → List ZV → R2} {jp1 : Nat → PH → ZL → List ZV → R1} {jp2 : Nat → PH → ZL → List ZV → R2} (hn : ∀ h lv st, Rl (nx1 h lv st) (nx2 h lv st)) (hj : ∀ t h lv st, Rl (jp1 t h lv st) (jp2 t h lv st)) : Rl (z_st b1 br1 as1 cl1 sh sb sl si fm mt e h lv st nx1 jp1) (z_st b2 br2 as2 cl2 sh sb sl si fm mt e h lv st nx2 jp2) :=
  z_st_pal hb hbr has hcl (z_b0_par hb (fun _ _ => hn _ _ _)) (fun _ _ => hn _ _ _) (fun _ _ _ => hj _ _ _ _)
end ZP
