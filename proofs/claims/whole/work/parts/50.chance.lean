/-! the class's chances; chance and choice -/
/-- the class's array holds the listed stands' levels below l -/
def lc_ok (C : Nat → Int32) (T : Nat → Nat → Nat) (sc : Nat) (sd : Nat → Nat) (l : Nat) : Prop := ∀ l', l' < l → ∀ i, i < sc → C (160 * l' + sd i) = nI (T l' (sd i))
def i_m (rn gr gt pr : Nat) (fr to ne gi ti od fa ft br : Nat → Nat) (sc pc kn : Nat) (sd sr sT : Nat → Nat) (il C : Nat → Int32) : Prop :=
  i_s rn gr gt fr to ne gi od fa br sc 0 sc pc sd sr sT il ∧ (0 < sc → 0 < pr → lst sc sd 0) ∧ kn ≤ 301 ∧ lc_ok C (cv rn gr gt pr fr to ne gi ti od fa ft br) sc sd kn
theorem i_m_0 {rn gr gt pr : Nat} {fr to ne gi ti od fa ft br : Nat → Nat} {kn : Nat} {sd sr sT : Nat → Nat} {il C : Nat → Int32} (hl : i_l 0 sd il) (hk : kn ≤ 301) : i_m rn gr gt pr fr to ne gi ti od fa ft br 0 0 kn sd sr sT il C :=
  ⟨⟨hl, by omega, fun q hq => by omega, fun q q' _ hq => by omega, fun i' hi' => by omega, fun h => by omega⟩, fun h => by omega, hk, fun l' _ i hi => by omega⟩
theorem chAt_c {C : Nat → Int32} {T : Nat → Nat → Nat} {sc : Nat} {sd : Nat → Nat} {l : Nat} (hC : lc_ok C T sc sd l) (hl : l ≤ 300) {d s : Nat} (hd : 1 ≤ d) (hd2 : d ≤ 100) (hs : lst sc sd s) (hs2 : s < 160) :
    m_X2_chanceAt C (nI s) (nI l - nI d) = some (nI (r_at T l d s)) := by
  unfold m_X2_chanceAt r_at
  by_cases q : d ≤ l
  · rw [if_pos q, pk_sub q, if_neg (nI_pos (by omega)), if_neg (show ¬ 300 < nI (l - d) by rw [l_300]; exact nI_nlt (by omega) (by omega))]
    have e : nI (l - d) * (160 : Int32) + nI s = nI (160 * (l - d) + s) := by
      rw [l_160, pk_mul, nI_add]; congr 1; omega
    obtain ⟨i, hi, rfl⟩ := hs
    rw [e, if_neg (nI_in (by omega) (by decide)), nI_clamp (by omega), hC (l - d) (by omega) i hi]
  · rw [if_neg q, if_pos (pk_sneg (a := l) (b := d) (by omega) (by omega))]
    rfl
theorem worth_c {to gi ti od fa ft : Nat → Nat} {C : Nat → Int32} {T : Nat → Nat → Nat} {sc : Nat} {sd : Nat → Nat} {l : Nat} (hC : lc_ok C T sc sd l) (hT : ∀ l', l' < l → ∀ s, T l' s ≤ 1073741824) (hl : l ≤ 300) {r th : Nat} (ht : th < 16) (b1 : to r < 10) (b2 : gi r < 16) (b3 : 1 ≤ ti r) (b4 : ti r ≤ 100) (b5 : od r ≤ 8) (b6 : fa r < 10) (b7 : 1 ≤ ft r) (b8 : ft r ≤ 100) (k1 : lst sc sd (16 * to r + (th ||| gi r))) (k2 : od r ≠ 8 → lst sc sd (16 * fa r + th)) :
    m_X2_worth C (fun j => nI (to j)) (fun j => nI (gi j)) (fun j => nI (ti j)) (fun j => nI (od j)) (fun j => nI (fa j)) (fun j => nI (ft j)) r (nI th) (nI l) = some (nI (r_wo to gi ti od fa ft T l r th)) := by
  have ho := or16 ht b2
  have c1 := r_at_le (s := 16 * to r + (th ||| gi r)) hT b3
  have c2 := r_at_le (s := 16 * fa r + th) hT b7
  unfold m_X2_worth r_wo
  rw [fa_or, stand_c, stand_c, chAt_c hC hl b3 b4 k1 (by omega), Option.bind_some, sure_c b5]
  by_cases q8 : od r = 8
  · rw [b01_t (by simp [q8]), if_neg (show ¬ (1 : Int32) = 0 by decide), if_pos q8]
  · rw [b01_f (by simp [q8]), if_pos rfl, if_neg q8, chAt_c hC hl b7 b8 (k2 q8) (by omega), Option.bind_some, eighths b5 c1 c2]
/-- what a stand has before the roads are looked at -/
def r_bs (gr gt pr : Nat) (T : Nat → Nat → Nat) (l s : Nat) : Nat := if r_met gr gt s then 1073741824 else r_an pr T l
theorem fill29 {F : Nat} {gr gt pr : Nat} (hgr : gr < 10) (hgt : gt < 16) {sc : Nat} {sd : Nat → Nat} {il : Nat → Int32} (hl2 : i_l sc sd il) {l v : Nat} (hl : l ≤ 300) : ∀ (m i : Nat) (C : Nat → Int32), i ≤ sc → sc - i < m →
    ∃ C', m_X2_fillWithoutRoads_b29 F (nI gr) (nI gt) (nI pr) (nI sc) (fun j => nI (sd j)) (nI l) m C (nI v) (nI i) = some C' ∧ (∀ j, i ≤ j → j < sc → C' (160 * l + sd j) = nI (if r_met gr gt (sd j) then 1073741824 else v)) ∧ ∀ x, (∀ j, i ≤ j → j < sc → x ≠ 160 * l + sd j) → C' x = C x := by
  obtain ⟨h1, h2, h3, h4, h5⟩ := hl2
  intro m
  induction m with
  | zero => intro i C _ h; omega
  | succ m ih =>
    intro i C hi hm
    unfold m_X2_fillWithoutRoads_b29
    by_cases e : i = sc
    · refine ⟨C, by rw [if_pos (nI_le (by omega) (by omega))], fun j _ _ => by omega, fun x _ => rfl⟩
    · have hs := h2 i (by omega)
      have e2 : nI l * (160 : Int32) + nI (sd i) = nI (160 * l + sd i) := by rw [l_160, pk_mul, nI_add]; congr 1; omega
      obtain ⟨C', g1, g2, g3⟩ := ih (i + 1) (upd C (160 * l + sd i) (nI (if r_met gr gt (sd i) then 1073741824 else v))) (by omega) (by omega)
      refine ⟨C', ?_, ?_, ?_⟩
      · rw [if_neg (nI_ge (by omega) (by omega)), if_neg (nI_in (by omega) (by decide)), nI_clamp (by omega), rem16 hs, div16 hs, met_c hgr hgt hs, e2, if_neg (nI_in (by omega) (by decide)), if_neg (nI_in (by omega) (by decide)), nI_clamp (by omega), nI_1, ← g1]
        cases r_met gr gt (sd i)
        · rfl
        · rfl
      · intro j hj1 hj2
        by_cases c : j = i
        · subst c
          rw [g3 _ (fun j' a b => by have := h3 j j' (by omega) b; omega), pk_us]
        · exact g2 j (by omega) hj2
      · intro x hx
        rw [g3 x (fun j a b => hx j (by omega) b), pk_un (hx i (by omega) (by omega))]
theorem raise2 {F : Nat} {rn gr gt pr : Nat} {fr to ne gi ti od fa ft br : Nat → Nat} {rfa rft : Nat → Int32} (hw : i_w rn fr to ne gi ti od fa ft br rfa rft) {sc pc : Nat} {sd sr sT : Nat → Nat} {il : Nat → Int32} (hi : i_s rn gr gt fr to ne gi od fa br sc 0 sc pc sd sr sT il) {T : Nat → Nat → Nat} {l : Nat} (hT : ∀ l', l' < l → ∀ s, T l' s ≤ 1073741824) (hl : l ≤ 300) : ∀ (m q : Nat) (C : Nat → Int32), lc_ok C T sc sd l →
    (∀ i, i < sc → ∃ v, C (160 * l + sd i) = nI v ∧ v ≤ 1073741824 ∧ r_bs gr gt pr T l (sd i) ≤ v ∧ (∀ q', q' < q → 16 * fr (sr q') + sT q' = sd i → r_wo to gi ti od fa ft T l (sr q') (sT q') ≤ v) ∧ (v = r_bs gr gt pr T l (sd i) ∨ ∃ q', q' < q ∧ 16 * fr (sr q') + sT q' = sd i ∧ v = r_wo to gi ti od fa ft T l (sr q') (sT q'))) → q ≤ pc → pc - q < m →
    ∃ C', m_X2_raiseByRoads_b2 F (nI pc) (fun j => nI (sr j)) (fun j => nI (sT j)) (fun j => nI (fr j)) (fun j => nI (to j)) (fun j => nI (gi j)) (fun j => nI (ti j)) (fun j => nI (od j)) (fun j => nI (fa j)) (fun j => nI (ft j)) (nI l) m C (nI q) = some C' ∧ lc_ok C' T sc sd l ∧
    (∀ i, i < sc → ∃ v, C' (160 * l + sd i) = nI v ∧ v ≤ 1073741824 ∧ r_bs gr gt pr T l (sd i) ≤ v ∧ (∀ q', q' < pc → 16 * fr (sr q') + sT q' = sd i → r_wo to gi ti od fa ft T l (sr q') (sT q') ≤ v) ∧ (v = r_bs gr gt pr T l (sd i) ∨ ∃ q', q' < pc ∧ 16 * fr (sr q') + sT q' = sd i ∧ v = r_wo to gi ti od fa ft T l (sr q') (sT q'))) := by
  obtain ⟨h1, h2, h3, h4, h5, h6⟩ := hi
  intro m
  induction m with
  | zero => intro q C _ _ _ h; omega
  | succ m ih =>
    intro q C hC hv hq hm
    unfold m_X2_raiseByRoads_b2
    by_cases e : q = pc
    · subst e
      exact ⟨C, by rw [if_pos (nI_le (by omega) (by omega))], hC, hv⟩
    · have hm1 : q + 1 ≤ pc := by omega
      have hm2 : pc - (q + 1) < m := by omega
      obtain ⟨a1, a2, a3, a4, ⟨i0, a5, a6, a7⟩, a8, a9⟩ := h3 q (by omega)
      have hn := hw.1
      have hb := hw.2.1 (sr q)
      have hb2 := hw.2.2.1 (sr q) a1
      have hs0 := h1.2.1 i0 a6
      obtain ⟨v0, c1, c2, c3, c4, c5⟩ := hv i0 a6
      have e2 : nI l * (160 : Int32) + nI (16 * fr (sr q) + sT q) = nI (160 * l + sd i0) := by rw [l_160, pk_mul, nI_add, a7]; congr 1; omega
      have hwo := worth_c (to := to) (gi := gi) (ti := ti) (od := od) (fa := fa) (ft := ft) hC hT hl (r := sr q) a2 hb.2.1 hb.2.2.2.1 hb2.1 hb.2.2.2.2.1 hb.2.2.2.2.2.1 hb.2.2.2.2.2.2.1 hb2.2.2.1 hb.2.2.2.2.2.2.2.1 a8 a9
      have hwl := r_wo_le (to := to) (gi := gi) (fa := fa) (th := sT q) hT hb2.1 hb2.2.2.1 hb.2.2.2.2.2.1
      have hup : ∀ i, i < sc → ∃ v, upd C (160 * l + sd i0) (nI (max v0 (r_wo to gi ti od fa ft T l (sr q) (sT q)))) (160 * l + sd i) = nI v ∧ v ≤ 1073741824 ∧ r_bs gr gt pr T l (sd i) ≤ v ∧ (∀ q', q' < q + 1 → 16 * fr (sr q') + sT q' = sd i → r_wo to gi ti od fa ft T l (sr q') (sT q') ≤ v) ∧ (v = r_bs gr gt pr T l (sd i) ∨ ∃ q', q' < q + 1 ∧ 16 * fr (sr q') + sT q' = sd i ∧ v = r_wo to gi ti od fa ft T l (sr q') (sT q')) := by
        intro i hi
        by_cases c : i = i0
        · subst c
          refine ⟨max v0 (r_wo to gi ti od fa ft T l (sr q) (sT q)), pk_us, by omega, by omega, ?_, ?_⟩
          · intro q' hq' hs'
            by_cases d : q' = q
            · subst d; omega
            · have := c4 q' (by omega) hs'; omega
          · by_cases d : r_wo to gi ti od fa ft T l (sr q) (sT q) ≤ v0
            · rw [Nat.max_eq_left d]
              rcases c5 with c5 | ⟨q', d1, d2⟩
              · exact .inl c5
              · exact .inr ⟨q', Nat.lt_succ_of_lt d1, d2⟩
            · rw [Nat.max_eq_right (by omega)]
              exact .inr ⟨q, by omega, a7.symm, rfl⟩
        · have hne : sd i ≠ sd i0 := by
            rcases Nat.lt_or_gt_of_ne c with d | d
            · exact h1.2.2.1 i i0 d a6
            · exact fun h => h1.2.2.1 i0 i d hi h.symm
          obtain ⟨v, d1, d2, d3, d4, d5⟩ := hv i hi
          refine ⟨v, by rw [pk_un (by omega)]; exact d1, d2, d3, ?_, ?_⟩
          · intro q' hq' hs'
            by_cases f : q' = q
            · subst f; exact absurd (hs'.symm.trans a7.symm) hne
            · exact d4 q' (by omega) hs'
          · rcases d5 with d5 | ⟨q', f1, f2⟩
            · exact .inl d5
            · exact .inr ⟨q', Nat.lt_succ_of_lt f1, f2⟩
      have hlc : lc_ok (upd C (160 * l + sd i0) (nI (max v0 (r_wo to gi ti od fa ft T l (sr q) (sT q))))) T sc sd l := by
        intro l' hl' i hi
        rw [pk_un (by have := h1.2.1 i hi; omega)]
        exact hC l' hl' i hi
      obtain ⟨C', g1, g2, g3⟩ := ih (q + 1) _ hlc hup hm1 hm2
      refine ⟨C', ?_, g2, g3⟩
      have hq6 := nI_in (c := q) (N := 640) (by omega) (by decide)
      rw [if_neg (nI_ge (by omega) (by omega))]
      simp only [if_neg hq6]
      rw [nI_clamp (n := q) (by omega), if_neg (nI_in (c := sr q) (by omega) (by decide)), nI_clamp (n := sr q) (by omega), stand_c, e2, if_neg (nI_in (by omega) (by decide)), hwo, Option.bind_some, if_neg (nI_in (by omega) (by decide)), nI_clamp (by omega), c1, nI_1, ← g1]
      congr 1
      congr 1
      simp (disch := omega) only [nI_ltI]
      split
      · rw [Nat.max_eq_right (by omega)]
      · rw [Nat.max_eq_left (by omega)]
/-- the greatest, told by what it is -/
theorem r_mx_ge {pr : Nat} {fr to ne gi ti od fa ft br : Nat → Nat} {T : Nat → Nat → Nat} {l s : Nat} : ∀ (n : Nat), r_an pr T l ≤ r_mx pr fr to ne gi ti od fa ft br T l s n ∧ (∀ r, r < n → r_open fr ne br r s = true → r_wo to gi ti od fa ft T l r (s % 16) ≤ r_mx pr fr to ne gi ti od fa ft br T l s n) ∧ (r_mx pr fr to ne gi ti od fa ft br T l s n = r_an pr T l ∨ ∃ r, r < n ∧ r_open fr ne br r s = true ∧ r_mx pr fr to ne gi ti od fa ft br T l s n = r_wo to gi ti od fa ft T l r (s % 16))
  | 0 => ⟨Nat.le_refl _, fun r hr => by omega, .inl rfl⟩
  | n + 1 => by
    obtain ⟨h1, h2, h3⟩ := r_mx_ge (pr := pr) (fr := fr) (to := to) (ne := ne) (gi := gi) (ti := ti) (od := od) (fa := fa) (ft := ft) (br := br) (T := T) (l := l) (s := s) n
    have es : r_mx pr fr to ne gi ti od fa ft br T l s (n + 1) = if r_open fr ne br n s then max (r_mx pr fr to ne gi ti od fa ft br T l s n) (r_wo to gi ti od fa ft T l n (s % 16)) else r_mx pr fr to ne gi ti od fa ft br T l s n := rfl
    cases ho : r_open fr ne br n s
    · rw [es, ho, if_neg Bool.false_ne_true]
      refine ⟨h1, ?_, ?_⟩
      · intro r hr hor
        by_cases c : r = n
        · rw [c, ho] at hor; exact absurd hor Bool.false_ne_true
        · exact h2 r (by omega) hor
      · rcases h3 with h3 | ⟨r, a, b⟩
        · exact .inl h3
        · exact .inr ⟨r, by omega, b⟩
    · rw [es, ho, if_pos rfl]
      refine ⟨by omega, ?_, ?_⟩
      · intro r hr hor
        by_cases c : r = n
        · subst c; omega
        · have := h2 r (by omega) hor; omega
      · by_cases d : r_wo to gi ti od fa ft T l n (s % 16) ≤ r_mx pr fr to ne gi ti od fa ft br T l s n
        · rw [Nat.max_eq_left d]
          rcases h3 with h3 | ⟨r, a, b⟩
          · exact .inl h3
          · exact .inr ⟨r, by omega, b⟩
        · rw [Nat.max_eq_right (by omega)]
          exact .inr ⟨n, by omega, ho, rfl⟩
theorem level_c {F : Nat} (hF : 10000000 ≤ F) {rn gr gt pr : Nat} {fr to ne gi ti od fa ft br : Nat → Nat} {rfa rft : Nat → Int32} (hw : i_w rn fr to ne gi ti od fa ft br rfa rft) (hgr : gr < 10) (hgt : gt < 16) (hpr : pr ≤ 100) {sc pc : Nat} {sd sr sT : Nat → Nat} {il : Nat → Int32} (hi : i_s rn gr gt fr to ne gi od fa br sc 0 sc pc sd sr sT il) (h0 : 0 < pr → lst sc sd 0) {l : Nat} (hl : l ≤ 300) {C : Nat → Int32} (hC : lc_ok C (cv rn gr gt pr fr to ne gi ti od fa ft br) sc sd l) :
    ∃ C1 C2, m_X2_fillWithoutRoads F (nI gr) (nI gt) (nI pr) (nI sc) (fun j => nI (sd j)) (nI l) C = some C1 ∧ m_X2_raiseByRoads F (nI pc) (fun j => nI (sr j)) (fun j => nI (sT j)) (fun j => nI (fr j)) (fun j => nI (to j)) (fun j => nI (gi j)) (fun j => nI (ti j)) (fun j => nI (od j)) (fun j => nI (fa j)) (fun j => nI (ft j)) (nI l) C1 = some C2 ∧ lc_ok C2 (cv rn gr gt pr fr to ne gi ti od fa ft br) sc sd (l + 1) := by
  have hi' := hi
  obtain ⟨h1, h2, h3, h4, h5, h6⟩ := hi'
  have hp : r_pos rn ti ft := fun j hj => ⟨(hw.2.2.1 j hj).1, (hw.2.2.1 j hj).2.2.1⟩
  have ho : ∀ j, od j ≤ 8 := fun j => (hw.2.1 j).2.2.2.2.2.1
  have hT : ∀ l', l' < l → ∀ s, cv rn gr gt pr fr to ne gi ti od fa ft br l' s ≤ 1073741824 := fun l' _ s => cv_b hp ho l' s
  have han : r_an pr (cv rn gr gt pr fr to ne gi ti od fa ft br) l ≤ 1073741824 := by
    unfold r_an; split
    · exact r_at_le hT (by omega)
    · omega
  obtain ⟨C1, g1, g2, g3⟩ := fill29 (F := F) (pr := pr) hgr hgt h1 (l := l) (v := r_an pr (cv rn gr gt pr fr to ne gi ti od fa ft br) l) hl F 0 C (by omega) (by have := h1.1; omega)
  have hC1 : lc_ok C1 (cv rn gr gt pr fr to ne gi ti od fa ft br) sc sd l := by
    intro l' hl' i hi
    rw [g3 _ (fun j _ hj => by have := h1.2.1 i hi; have := h1.2.1 j hj; omega)]
    exact hC l' hl' i hi
  obtain ⟨C2, f1, f2, f3⟩ := raise2 (F := F) (gr := gr) (gt := gt) (pr := pr) hw hi hT hl F 0 C1 hC1 (by
    intro i hi
    refine ⟨r_bs gr gt pr (cv rn gr gt pr fr to ne gi ti od fa ft br) l (sd i), g2 i (by omega) hi, ?_, Nat.le_refl _, fun q' hq' => by omega, .inl rfl⟩
    unfold r_bs; split <;> omega) (by omega) (by omega)
  refine ⟨C1, C2, ?_, f1, ?_⟩
  · unfold m_X2_fillWithoutRoads
    by_cases q : pr = 0
    · have e : r_an pr (cv rn gr gt pr fr to ne gi ti od fa ft br) l = 0 := by unfold r_an; rw [if_neg (by omega)]
      rw [if_pos (show nI pr ≤ 0 by rw [q]; decide)]
      rw [e] at g1; exact g1
    · have e : r_an pr (cv rn gr gt pr fr to ne gi ti od fa ft br) l = r_at (cv rn gr gt pr fr to ne gi ti od fa ft br) l pr 0 := by unfold r_an; rw [if_pos (by omega)]
      rw [if_neg (nI_nle (by omega) (by omega))]
      have := chAt_c hC hl (d := pr) (s := 0) (by omega) hpr (h0 (by omega)) (by omega)
      have e0 : m_X2_standAt 0 0 = nI 0 := rfl
      rw [e0, this, Option.bind_some, ← e]
      exact g1
  · intro l' hl' i hi
    by_cases c : l' = l
    · subst c
      obtain ⟨v, d1, d2, d3, d4, d5⟩ := f3 i hi
      rw [d1, cv_eq hp]
      congr 1
      unfold r_lev
      unfold r_bs at d3 d5
      cases hm : r_met gr gt (sd i)
      · rw [hm, if_neg Bool.false_ne_true] at d3 d5
        rw [if_neg Bool.false_ne_true]
        obtain ⟨k1, k2, k3⟩ := r_mx_ge (pr := pr) (fr := fr) (to := to) (ne := ne) (gi := gi) (ti := ti) (od := od) (fa := fa) (ft := ft) (br := br) (T := cv rn gr gt pr fr to ne gi ti od fa ft br) (l := l') (s := sd i) rn
        apply Nat.le_antisymm
        · rcases d5 with d5 | ⟨q, e1, e2, e3⟩
          · rw [d5]; exact k1
          · obtain ⟨a1, a2, a3, a4, a5⟩ := h3 q e1
            rw [e2] at a3
            have := k2 (sr q) a1 a3
            have e4 : sd i % 16 = sT q := by omega
            rw [e4] at this
            rw [e3]; exact this
        · rcases k3 with k3 | ⟨r, e1, e2, e3⟩
          · rw [k3]; exact d3
          · obtain ⟨q, b1, b2, b3⟩ := h5 i hi hi hm r e1 e2
            have e4 : 16 * fr (sr q) + sT q = sd i := by
              simp only [r_open, decide_eq_true_eq] at e2
              rw [b2, b3]; omega
            have := d4 q b1 e4
            rw [b2, b3] at this
            rw [e3]; exact this
      · rw [hm, if_pos rfl] at d3 d5
        rw [if_pos rfl]
        rcases d5 with d5 | ⟨q, e1, e2, e3⟩
        · exact d5
        · obtain ⟨a1, a2, a3, a4, a5⟩ := h3 q e1
          rw [e2, hm] at a4; exact absurd a4 (by decide)
    · exact f2 l' (by omega) i hi
theorem levels_l {F : Nat} (hF : 10000000 ≤ F) {rn gr gt pr : Nat} {fr to ne gi ti od fa ft br : Nat → Nat} {rfa rft : Nat → Int32} (hw : i_w rn fr to ne gi ti od fa ft br rfa rft) (hgr : gr < 10) (hgt : gt < 16) (hpr : pr ≤ 100) {sc pc : Nat} {sd sr sT : Nat → Nat} {il : Nat → Int32} (hi : i_s rn gr gt fr to ne gi od fa br sc 0 sc pc sd sr sT il) (h0 : 0 < pr → lst sc sd 0) {x : Nat} (hx : x ≤ 300) : ∀ (m l : Nat) (C : Nat → Int32), lc_ok C (cv rn gr gt pr fr to ne gi ti od fa ft br) sc sd l → l ≤ 301 → 301 - l < m →
    ∃ kn' C', m_X2_fillLevels_b5 F (nI gr) (nI gt) (nI pr) (nI sc) (nI pc) (fun j => nI (sd j)) (fun j => nI (sr j)) (fun j => nI (sT j)) (fun j => nI (fr j)) (fun j => nI (to j)) (fun j => nI (gi j)) (fun j => nI (ti j)) (fun j => nI (od j)) (fun j => nI (fa j)) (fun j => nI (ft j)) (nI x) m (nI l) C (nI l) = some (nI kn', C') ∧ x < kn' ∧ kn' ≤ 301 ∧ lc_ok C' (cv rn gr gt pr fr to ne gi ti od fa ft br) sc sd kn' := by
  intro m
  induction m with
  | zero => intro l C _ _ h; omega
  | succ m ih =>
    intro l C hC hl hm
    unfold m_X2_fillLevels_b5
    by_cases e : x < l
    · exact ⟨l, C, by rw [if_pos (nI_lt e (by omega))], e, hl, hC⟩
    · obtain ⟨C1, C2, g1, g2, g3⟩ := level_c (F := F) hF hw hgr hgt hpr hi h0 (l := l) (by omega) hC
      obtain ⟨kn', C', f1, f2, f3, f4⟩ := ih (l + 1) C2 g3 (by omega) (by omega)
      refine ⟨kn', C', ?_, f2, f3, f4⟩
      rw [if_neg (nI_nlt (by omega) (by omega)), if_neg (show ¬ 300 < nI l by rw [l_300]; exact nI_nlt (by omega) (by omega)), g1, Option.bind_some, g2, Option.bind_some, nI_1]
      exact f1
theorem great_c {F : Nat} (hF : 10000000 ≤ F) {rn gr gt pr : Nat} {fr to ne gi ti od fa ft br : Nat → Nat} {rfa rft : Nat → Int32} (hw : i_w rn fr to ne gi ti od fa ft br rfa rft) (hgr : gr < 10) (hgt : gt < 16) (hpr : pr ≤ 100) {sc pc kn : Nat} {sd sr sT : Nat → Nat} {il C : Nat → Int32} (hi : i_m rn gr gt pr fr to ne gi ti od fa ft br sc pc kn sd sr sT il C) {a b x : Nat} (ha : a < 10) (hb : b < 16) (hx : x ≤ 300) :
    ∃ sc' pc' kn' sd' sr' sT' il' C', m_X2_greatest F (nI rn) (nI gr) (nI gt) (nI pr) (fun j => nI (fr j)) (fun j => nI (to j)) (fun j => nI (ne j)) (fun j => nI (gi j)) (fun j => nI (ti j)) (fun j => nI (od j)) (fun j => nI (fa j)) (fun j => nI (ft j)) (fun j => nI (br j)) (nI a) (nI b) (nI x) (nI kn) (nI sc) (nI pc) C (fun j => nI (sd j)) il (fun j => nI (sr j)) (fun j => nI (sT j)) = some (nI (cv rn gr gt pr fr to ne gi ti od fa ft br x (16 * a + b)), nI kn', nI sc', nI pc', C', (fun j => nI (sd' j)), il', (fun j => nI (sr' j)), (fun j => nI (sT' j))) ∧
      i_m rn gr gt pr fr to ne gi ti od fa ft br sc' pc' kn' sd' sr' sT' il' C' ∧ x < kn' ∧ lst sc' sd' (16 * a + b) := by
  have hn := hw.1
  have hB : ∀ j, fr j < 10 ∧ to j < 10 ∧ ne j < 16 ∧ gi j < 16 ∧ od j ≤ 8 ∧ fa j < 10 ∧ br j ≤ 1 := fun j => by have := hw.2.1 j; omega
  have key : ∃ sc1 pc1 kn1 sd1 sr1 sT1 il1, m_X2_listFrom F (nI rn) (nI gr) (nI gt) (nI pr) (fun j => nI (fr j)) (fun j => nI (to j)) (fun j => nI (ne j)) (fun j => nI (gi j)) (fun j => nI (od j)) (fun j => nI (fa j)) (fun j => nI (br j)) (nI (16 * a + b)) (nI kn) (nI sc) (nI pc) (fun j => nI (sd j)) il (fun j => nI (sr j)) (fun j => nI (sT j)) = some (nI kn1, nI sc1, nI pc1, (fun j => nI (sd1 j)), il1, (fun j => nI (sr1 j)), (fun j => nI (sT1 j))) ∧ i_m rn gr gt pr fr to ne gi ti od fa ft br sc1 pc1 kn1 sd1 sr1 sT1 il1 C ∧ lst sc1 sd1 (16 * a + b) := by
    have hi' := hi
    obtain ⟨h1, h2, h3, h4⟩ := hi'
    unfold m_X2_listFrom
    rw [if_neg (nI_in (by omega) (by decide)), nI_clamp (by omega)]
    by_cases q : il (16 * a + b) = 0
    · rw [if_pos q]
      obtain ⟨sc1, sd1, il1, g1, g2, g3, g4⟩ := addStand_c h1.1 (s := 16 * a + b) (by omega)
      rw [g1, Option.bind_some]
      -- the list as it was stays worked off
      have old : ∀ (sc2 : Nat) (sd2 : Nat → Nat) (il2 : Nat → Int32), i_l sc2 sd2 il2 → ext sc sd sc2 sd2 → i_s rn gr gt fr to ne gi od fa br sc 0 sc2 pc sd2 sr sT il2 := by
        intro sc2 sd2 il2 j1 j2
        obtain ⟨k1, k2, k3, k4, k5, k6⟩ := h1
        refine ⟨j1, k2, ?_, k4, ?_, fun _ _ r' hr' => by omega⟩
        · intro q hq
          obtain ⟨a1, a2, a3, a4, ⟨i', a5, a6, a7⟩, a8, a9⟩ := k3 q hq
          exact ⟨a1, a2, a3, a4, ⟨i', .inl a6, Nat.lt_of_lt_of_le a6 j2.1, (j2.2 i' a6).trans a7⟩, lst_e j2 a8, fun h => lst_e j2 (a9 h)⟩
        · intro i' hi' hs' hm r' hr' hor
          rw [j2.2 i' hi'] at hm hor ⊢
          exact k5 i' hi' hi' hm r' hr' hor
      by_cases p0 : pr = 0
      · rw [if_pos (show nI pr ≤ 0 by rw [p0]; decide)]
        obtain ⟨a', b', c', d', e', f', u1, u2, u3⟩ := list_l (F := F) hF (pr := pr) hn hgr hgt hB (nI (16 * a + b)) 0 F sc sc1 pc sd1 sr sT il1 (old _ _ _ g2 g3) g3.1 (by omega)
        exact ⟨a', b', 0, c', d', e', f', u1, ⟨u2, fun _ h => by omega, by omega, fun l' hl' => by omega⟩, lst_e u3 g4⟩
      · rw [if_neg (nI_nle (by omega) (by omega))]
        dsimp only
        obtain ⟨sc2, sd2, il2, f1, f2, f3, f4⟩ := addStand_c g2 (s := 0) (by omega)
        have e0 : m_X2_standAt 0 0 = nI 0 := rfl
        rw [e0, f1, Option.bind_some]
        obtain ⟨a', b', c', d', e', f', u1, u2, u3⟩ := list_l (F := F) hF (pr := pr) hn hgr hgt hB (nI (16 * a + b)) 0 F sc sc2 pc sd2 sr sT il2 (old _ _ _ f2 (ext_t g3 f3)) (ext_t g3 f3).1 (by omega)
        exact ⟨a', b', 0, c', d', e', f', u1, ⟨u2, fun _ _ => lst_e u3 f4, by omega, fun l' hl' => by omega⟩, lst_e u3 (lst_e f3 g4)⟩
    · rw [if_neg q]
      exact ⟨sc, pc, kn, sd, sr, sT, il, rfl, hi, (h1.1.2.2.2.2 _ (by omega)).mp q⟩
  obtain ⟨sc1, pc1, kn1, sd1, sr1, sT1, il1, g1, ⟨g2, g3, g4, g5⟩, g6⟩ := key
  have hsc : 0 < sc1 := by obtain ⟨i, hi, _⟩ := g6; omega
  obtain ⟨kn', C', f1, f2, f3, f4⟩ := levels_l (F := F) hF hw hgr hgt hpr g2 (g3 hsc) hx F kn1 C g5 g4 (by omega)
  refine ⟨sc1, pc1, kn', sd1, sr1, sT1, il1, C', ?_, ⟨g2, g3, f3, f4⟩, f2, g6⟩
  unfold m_X2_greatest m_X2_fillLevels
  rw [stand_c, g1, Option.bind_some]
  dsimp only
  rw [f1, Option.bind_some]
  dsimp only
  have e : m_X2_chanceAt C' (nI (16 * a + b)) (nI x) = some (nI (cv rn gr gt pr fr to ne gi ti od fa ft br x (16 * a + b))) := by
    unfold m_X2_chanceAt
    rw [if_neg (nI_pos (by omega)), if_neg (show ¬ 300 < nI x by rw [l_300]; exact nI_nlt (by omega) (by omega))]
    have e2 : nI x * (160 : Int32) + nI (16 * a + b) = nI (160 * x + (16 * a + b)) := by rw [l_160, pk_mul, nI_add]; congr 1; omega
    obtain ⟨i, hi, hs⟩ := g6
    rw [e2, if_neg (nI_in (by omega) (by decide)), nI_clamp (by omega), ← hs, f4 x f2 i hi]
  rw [e, Option.bind_some]
theorem asked_any (x1 x2 x3 : Int32) : (m_X2_isAsked x1 x2 x3 = 0 ∧ m_X8_canAsk x1 x2 x3 = 0) ∨ ∃ a b x, a < 10 ∧ b < 16 ∧ x ≤ 300 ∧ x1 = nI a ∧ x2 = nI b ∧ x3 = nI x ∧ m_X2_isAsked x1 x2 x3 = 1 ∧ m_X8_canAsk x1 x2 x3 = 1 := by
  unfold m_X2_isAsked m_X8_canAsk
  have n10 : ¬ (1 : Int32) = 0 := by decide
  rcases room_any x1 with ⟨a1, a2⟩ | ⟨a, ha, rfl, a1, a2⟩
  · left; rw [if_pos a1, if_pos a2]; exact ⟨rfl, rfl⟩
  simp only [a1, a2, if_neg n10]
  rcases things_any x2 with ⟨a1, a2⟩ | ⟨b, hb, rfl, a1, a2⟩
  · left; rw [if_pos a1, if_pos a2]; exact ⟨rfl, rfl⟩
  simp only [a1, a2, if_neg n10]
  by_cases q : x3 < 0
  · left; rw [if_pos q]; exact ⟨rfl, rfl⟩
  · by_cases q2 : 300 < x3
    · left; rw [if_neg q, if_pos q2]; exact ⟨rfl, rfl⟩
    · right
      obtain ⟨x, hx, rfl⟩ := nI_of q
      rw [if_neg q, if_neg q2]
      rw [l_300, nI_ltI (by omega) (by omega)] at q2
      exact ⟨a, b, x, ha, hb, by omega, rfl, rfl, rfl, rfl, rfl⟩
theorem b_chance {F : Nat} (hF : 10000000 ≤ F) {rn gr gt pr : Nat} {fr to ne gi ti od fa ft br : Nat → Nat} {rfa rft : Nat → Int32} (hw : i_w rn fr to ne gi ti od fa ft br rfa rft) (hgr : gr < 10) (hgt : gt < 16) (hpr : pr ≤ 100) {sc pc kn : Nat} {sd sr sT : Nat → Nat} {il C : Nat → Int32} (hi : i_m rn gr gt pr fr to ne gi ti od fa ft br sc pc kn sd sr sT il C) (Cr : Nat → Int32) (x1 x2 x3 : Int32) :
    ∃ (r : Int64) (sc' pc' kn' : Nat) (sd' sr' sT' : Nat → Nat) (il' C' Cr' : Nat → Int32), i_m rn gr gt pr fr to ne gi ti od fa ft br sc' pc' kn' sd' sr' sT' il' C' ∧
      m_X7_chance F (nI rn) (nI gr) (nI gt) (nI pr) (fun j => nI (fr j)) (fun j => nI (to j)) (fun j => nI (ne j)) (fun j => nI (gi j)) (fun j => nI (ti j)) (fun j => nI (od j)) (fun j => nI (fa j)) (fun j => nI (ft j)) (fun j => nI (br j)) x1 x2 x3 (nI kn) (nI sc) (nI pc) C (fun j => nI (sd j)) il (fun j => nI (sr j)) (fun j => nI (sT j)) = some (r, nI kn', nI sc', nI pc', C', (fun j => nI (sd' j)), il', (fun j => nI (sr' j)), (fun j => nI (sT' j))) ∧
      m_X8_chance F (nI rn) (nI gr) (nI gt) (nI pr) (fun j => nI (fr j)) (fun j => nI (to j)) (fun j => nI (ne j)) (fun j => nI (gi j)) (fun j => nI (ti j)) (fun j => nI (od j)) rfa rft (fun j => nI (br j)) x1 x2 x3 Cr = some (r, Cr') := by
  unfold m_X7_chance m_X8_chance
  rcases asked_any x1 x2 x3 with ⟨a1, a2⟩ | ⟨a, b, x, ha, hb, hx, rfl, rfl, rfl, a1, a2⟩
  · rw [if_pos a1, if_pos a2]
    exact ⟨-1, sc, pc, kn, sd, sr, sT, il, C, Cr, hi, rfl, rfl⟩
  · rw [a1, a2, if_neg (show ¬ (1 : Int32) = 0 by decide), if_neg (show ¬ (1 : Int32) = 0 by decide)]
    obtain ⟨sc', pc', kn', sd', sr', sT', il', C', g1, g2, g3, g4⟩ := great_c hF hw hgr hgt hpr hi ha hb hx
    obtain ⟨Cr', f1, f2⟩ := reck_r hF hw hgr hgt hpr hx Cr
    refine ⟨(nI (cv rn gr gt pr fr to ne gi ti od fa ft br x (16 * a + b))).toInt64, sc', pc', kn', sd', sr', sT', il', C', Cr', g2, ?_, ?_⟩
    · rw [g1, Option.bind_some]
    · have e : m_X8_chanceOf Cr' (nI x) (nI a) (nI b) = some (nI (cv rn gr gt pr fr to ne gi ti od fa ft br x (16 * a + b))) := by
        unfold m_X8_chanceOf
        have e2 : (160 : Int32) * nI x + (16 : Int32) * nI a + nI b = nI (160 * x + (16 * a + b)) := by
          rw [l_160, l_16, pk_mul, pk_mul, nI_add, nI_add]; congr 1; omega
        rw [if_pos (nI_pos' (by omega)), e2, if_neg (nI_in (by omega) (by decide)), nI_clamp (by omega), f2 x (by omega) _ (by omega)]
      rw [f1, Option.bind_some, e, Option.bind_some]
theorem choose_l {F : Nat} {rn gr gt pr : Nat} {fr to ne gi ti od fa ft br : Nat → Nat} {rfa rft : Nat → Int32} (hw : i_w rn fr to ne gi ti od fa ft br rfa rft) {sc pc kn : Nat} {sd sr sT : Nat → Nat} {il C Cr : Nat → Int32} (hi : i_m rn gr gt pr fr to ne gi ti od fa ft br sc pc kn sd sr sT il C) {a b x : Nat} (ha : a < 10) (hb : b < 16) (hx : x ≤ 300) (hkn : x < kn) (hst : lst sc sd (16 * a + b)) (hmet : r_met gr gt (16 * a + b) = false) (hCr : lv_ok Cr (cv rn gr gt pr fr to ne gi ti od fa ft br) (x + 1)) (v : Int32) : ∀ (m i : Nat), i ≤ rn → rn - i < m →
    ∃ r : Int32, m_X2_chosen_b28 F (nI rn) (nI gr) (nI gt) (nI pr) (fun j => nI (fr j)) (fun j => nI (to j)) (fun j => nI (ne j)) (fun j => nI (gi j)) (fun j => nI (ti j)) (fun j => nI (od j)) (fun j => nI (fa j)) (fun j => nI (ft j)) (fun j => nI (br j)) (nI a) (nI b) (nI x) m (nI kn) (nI sc) (nI pc) C (fun j => nI (sd j)) il (fun j => nI (sr j)) (fun j => nI (sT j)) v (nI i) = some (r, nI kn, nI sc, nI pc, C, (fun j => nI (sd j)), il, (fun j => nI (sr j)), (fun j => nI (sT j))) ∧
      m_X8_choice_b50 F (nI rn) (nI gr) (nI gt) (nI pr) (fun j => nI (fr j)) (fun j => nI (to j)) (fun j => nI (ne j)) (fun j => nI (gi j)) (fun j => nI (ti j)) (fun j => nI (od j)) rfa rft (fun j => nI (br j)) (nI a) (nI b) (nI x) m Cr v (nI i) = some (r, Cr) := by
  have hn := hw.1
  have hp : r_pos rn ti ft := fun j hj => ⟨(hw.2.2.1 j hj).1, (hw.2.2.1 j hj).2.2.1⟩
  have ho : ∀ j, od j ≤ 8 := fun j => (hw.2.1 j).2.2.2.2.2.1
  have hT : ∀ l', l' < x → ∀ s, cv rn gr gt pr fr to ne gi ti od fa ft br l' s ≤ 1073741824 := fun l' _ s => cv_b hp ho l' s
  have ea : (16 * a + b) / 16 = a := by omega
  have eb : (16 * a + b) % 16 = b := by omega
  intro m
  induction m with
  | zero => intro i _ h; omega
  | succ m ih =>
    intro i hi2 hm
    unfold m_X2_chosen_b28 m_X8_choice_b50
    by_cases e : i = rn
    · rw [if_pos (nI_le (by omega) (by omega)), if_pos (nI_le (by omega) (by omega))]
      exact ⟨-2, rfl, rfl⟩
    · have c1 := canGo_r (r := i) (s := 16 * a + b) (fun j => (hw.2.1 j).1) (fun j => (hw.2.1 j).2.2.1) (fun j => (hw.2.1 j).2.2.2.2.2.2.2.2) (by omega) (by omega)
      have c2 := open_c (r := i) (s := 16 * a + b) (fun j => (hw.2.1 j).1) (fun j => (hw.2.1 j).2.2.1) (fun j => (hw.2.1 j).2.2.2.2.2.2.2.2) (by omega)
      rw [ea, eb] at c1 c2
      rw [if_neg (nI_ge (by omega) (by omega)), if_neg (nI_ge (by omega) (by omega)), if_neg (nI_in (by omega) (by decide)), nI_clamp (by omega), c1, Option.bind_some, c2, nI_1]
      cases hop : r_open fr ne br i (16 * a + b)
      · rw [b01_f rfl, if_pos rfl, if_pos rfl]
        exact ih (i + 1) (by omega) (by omega)
      · rw [b01_t rfl, if_neg (show ¬ (1 : Int32) = 0 by decide), if_neg (show ¬ (1 : Int32) = 0 by decide)]
        have hB := hw.2.1 i
        have hB2 := hw.2.2.1 i (by omega)
        obtain ⟨j, hj, hsj⟩ := hst
        obtain ⟨q, q1, q2, q3⟩ := hi.1.2.2.2.2.1 j hj hj (by rw [hsj]; exact hmet) i (by omega) (by rw [hsj]; exact hop)
        obtain ⟨a1, a2, a3, a4, a5, a8, a9⟩ := hi.1.2.2.1 q q1
        rw [hsj, eb] at q3
        rw [q2, q3] at a8 a9
        have hC : lc_ok C (cv rn gr gt pr fr to ne gi ti od fa ft br) sc sd x := fun l' hl' i hi' => hi.2.2.2 l' (by omega) i hi'
        rw [worth_c (to := to) (gi := gi) (ti := ti) (od := od) (fa := fa) (ft := ft) hC hT hx (r := i) hb hB.2.1 hB.2.2.2.1 hB2.1 hB.2.2.2.2.1 hB.2.2.2.2.2.1 hB.2.2.2.2.2.2.1 hB2.2.2.1 hB.2.2.2.2.2.2.2.1 a8 a9, rdCh_r hw (fun l' hl' s hs => hCr l' (by omega) s hs) hT hx (by omega) hb, Option.bind_some, Option.bind_some]
        by_cases qv : nI (r_wo to gi ti od fa ft (cv rn gr gt pr fr to ne gi ti od fa ft br) x i b) = v
        · rw [if_pos qv, if_pos qv]; exact ⟨nI i, rfl, rfl⟩
        · rw [if_neg qv, if_neg qv]; exact ih (i + 1) (by omega) (by omega)
theorem b_choice {F : Nat} (hF : 10000000 ≤ F) {rn gr gt pr : Nat} {fr to ne gi ti od fa ft br : Nat → Nat} {rfa rft : Nat → Int32} (hw : i_w rn fr to ne gi ti od fa ft br rfa rft) (hgr : gr < 10) (hgt : gt < 16) (hpr : pr ≤ 100) {sc pc kn : Nat} {sd sr sT : Nat → Nat} {il C : Nat → Int32} (hi : i_m rn gr gt pr fr to ne gi ti od fa ft br sc pc kn sd sr sT il C) (Cr : Nat → Int32) (x1 x2 x3 : Int32) :
    ∃ (r : Int32) (sc' pc' kn' : Nat) (sd' sr' sT' : Nat → Nat) (il' C' Cr' : Nat → Int32), i_m rn gr gt pr fr to ne gi ti od fa ft br sc' pc' kn' sd' sr' sT' il' C' ∧
      m_X7_choice F (nI rn) (nI gr) (nI gt) (nI pr) (fun j => nI (fr j)) (fun j => nI (to j)) (fun j => nI (ne j)) (fun j => nI (gi j)) (fun j => nI (ti j)) (fun j => nI (od j)) (fun j => nI (fa j)) (fun j => nI (ft j)) (fun j => nI (br j)) x1 x2 x3 (nI kn) (nI sc) (nI pc) C (fun j => nI (sd j)) il (fun j => nI (sr j)) (fun j => nI (sT j)) = some (r, nI kn', nI sc', nI pc', C', (fun j => nI (sd' j)), il', (fun j => nI (sr' j)), (fun j => nI (sT' j))) ∧
      m_X8_choice F (nI rn) (nI gr) (nI gt) (nI pr) (fun j => nI (fr j)) (fun j => nI (to j)) (fun j => nI (ne j)) (fun j => nI (gi j)) (fun j => nI (ti j)) (fun j => nI (od j)) rfa rft (fun j => nI (br j)) x1 x2 x3 Cr = some (r, Cr') := by
  unfold m_X7_choice m_X8_choice
  rcases asked_any x1 x2 x3 with ⟨a1, a2⟩ | ⟨a, b, x, ha, hb, hx, rfl, rfl, rfl, a1, a2⟩
  · rw [if_pos a1, if_pos a2]
    exact ⟨-3, sc, pc, kn, sd, sr, sT, il, C, Cr, hi, rfl, rfl⟩
  · rw [a1, a2, if_neg (show ¬ (1 : Int32) = 0 by decide), if_neg (show ¬ (1 : Int32) = 0 by decide)]
    obtain ⟨sc', pc', kn', sd', sr', sT', il', C', g1, g2, g3, g4⟩ := great_c hF hw hgr hgt hpr hi ha hb hx
    obtain ⟨Cr', f1, f2⟩ := reck_r hF hw hgr hgt hpr hx Cr
    have ea : (16 * a + b) / 16 = a := by omega
    have eb : (16 * a + b) % 16 = b := by omega
    have m1 := met_c (s := 16 * a + b) hgr hgt (by omega)
    have m2 := met_r (s := 16 * a + b) hgr hgt (by omega)
    rw [ea, eb] at m1 m2
    have e : m_X8_chanceOf Cr' (nI x) (nI a) (nI b) = some (nI (cv rn gr gt pr fr to ne gi ti od fa ft br x (16 * a + b))) := by
      unfold m_X8_chanceOf
      have e2 : (160 : Int32) * nI x + (16 : Int32) * nI a + nI b = nI (160 * x + (16 * a + b)) := by
        rw [l_160, l_16, pk_mul, pk_mul, nI_add, nI_add]; congr 1; omega
      rw [if_pos (nI_pos' (by omega)), e2, if_neg (nI_in (by omega) (by decide)), nI_clamp (by omega), f2 x (by omega) _ (by omega)]
    unfold m_X2_chosen
    rw [g1, f1, Option.bind_some, Option.bind_some, e, Option.bind_some]
    dsimp only
    rw [m1, m2]
    by_cases q0 : nI (cv rn gr gt pr fr to ne gi ti od fa ft br x (16 * a + b)) = 0
    · rw [if_pos q0, if_pos q0]
      exact ⟨-1, sc', pc', kn', sd', sr', sT', il', C', Cr', g2, rfl, rfl⟩
    · rw [if_neg q0, if_neg q0]
      cases hmet : r_met gr gt (16 * a + b)
      · rw [b01_f rfl, if_pos rfl, if_pos rfl]
        obtain ⟨r, t1, t2⟩ := choose_l (F := F) hw g2 ha hb hx g3 g4 hmet f2 (nI (cv rn gr gt pr fr to ne gi ti od fa ft br x (16 * a + b))) F 0 (by omega) (by have := hw.1; omega)
        refine ⟨r, sc', pc', kn', sd', sr', sT', il', C', Cr', g2, ?_, t2⟩
        rw [show (0 : Int32) = nI 0 from rfl, t1, Option.bind_some]
      · rw [b01_t rfl, if_neg (show ¬ (1 : Int32) = 0 by decide), if_neg (show ¬ (1 : Int32) = 0 by decide)]
        exact ⟨-1, sc', pc', kn', sd', sr', sT', il', C', Cr', g2, rfl, rfl⟩
