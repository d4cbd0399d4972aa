/-! sure, of reference and class -/
def ebd (to gi ti : Nat → Nat) : Prop := ∀ j, to j < 10 ∧ gi j < 16 ∧ ti j ≤ 100
theorem sure67 {F : Nat} {rn : Nat} {fr to ne gi ti od br : Nat → Nat} {gr gt : Nat} (hn : rn ≤ 40) (hf : ∀ j, fr j < 10) (hne : ∀ j, ne j < 16) (hbr : ∀ j, br j ≤ 1) (hod : ∀ j, od j ≤ 8) (hb : ebd to gi ti) (ht : ∀ j, j < rn → 1 ≤ ti j) {A : Nat → Nat} {k : Nat} (hk : k < 160) (k37 : (Nat → Int32) → Int32 → Option (Int32 × (Nat → Int32))) (k45 : (Nat → Int32) → Int32 → Int32 → Option (Int32 × (Nat → Int32))) : ∀ (m r : Nat) (D : Nat → Nat) (c : Nat), ps rn fr to ne gi ti od br A D c (fun r' s' => s' < k ∨ (s' = k ∧ r' < r)) → D k ≠ 0 → r ≤ rn → rn - r < m →
    ∃ D' c', m_X8_sure_b67 F (nI rn) (nI gr) (nI gt) (fun j => nI (fr j)) (fun j => nI (to j)) (fun j => nI (ne j)) (fun j => nI (gi j)) (fun j => nI (ti j)) (fun j => nI (od j)) (fun j => nI (br j)) k37 k45 m (fun j => e1 (D j)) (nI c) (nI k) (nI r) = k45 (fun j => e1 (D' j)) (nI c') (nI (k + 1)) ∧ ps rn fr to ne gi ti od br A D' c' (fun r' s' => s' < k + 1) := by
  intro m
  induction m with
  | zero => intro r D c _ _ _ h; omega
  | succ m ih =>
    intro r D c hp hD hr hm
    unfold m_X8_sure_b67
    by_cases e : r = rn
    · refine ⟨D, c, by rw [if_pos (nI_le (by omega) (by omega)), nI_1], ps_w hp ?_⟩
      intro r' s' h1 h2 h3 _
      have := h3.1
      omega
    · have hq := nI_in (c := r) (N := 40) (by omega) (by decide)
      have hbr' := hb r
      have hor := or16 (show k % 16 < 16 by omega) hbr'.2.1
      have hoe := hod r
      have etg : (16 : Int32) * nI (to r) + (nI (k % 16) ||| nI (gi r)) = nI (tg to gi r k) := by
        rw [fa_or, l_16, pk_mul, nI_add]; rfl
      have htl := tg_lt (s := k) hbr'.1 hbr'.2.1
      have hbk := bd_lt hp.2.1 hk
      have hbt := bd_lt hp.2.1 htl
      rw [if_neg (nI_ge (by omega) (by omega)), rem16 hk, div16 hk]
      simp only [if_neg hq, if_neg (nI_in (c := k) (N := 160) hk (by decide))]
      rw [nI_clamp (n := r) (by omega), canGo_r hf hne hbr (by omega) hk, etg, if_neg (nI_in htl (by decide)), if_neg (nI_in htl (by decide)), nI_clamp (n := tg to gi r k) (by omega), nI_clamp (n := k) (by omega), Option.bind_some, nI_1]
      have skip : (∀ r' s', (r' = r ∧ s' = k) → ¬ ed rn fr ne od br r' s') → ∃ D' c', m_X8_sure_b67 F (nI rn) (nI gr) (nI gt) (fun j => nI (fr j)) (fun j => nI (to j)) (fun j => nI (ne j)) (fun j => nI (gi j)) (fun j => nI (ti j)) (fun j => nI (od j)) (fun j => nI (br j)) k37 k45 m (fun j => e1 (D j)) (nI c) (nI k) (nI (r + 1)) = k45 (fun j => e1 (D' j)) (nI c') (nI (k + 1)) ∧ ps rn fr to ne gi ti od br A D' c' (fun r' s' => s' < k + 1) := by
        intro hno
        refine ih (r + 1) D c (ps_w hp ?_) hD (by omega) (by omega)
        rintro r' s' (h1 | ⟨h1, h1'⟩) h2 h3 _
        · exact .inl h1
        · by_cases q : r' = r
          · exact absurd h3 (hno r' s' ⟨q, h1⟩)
          · exact .inr ⟨h1, by omega⟩
      by_cases q8 : od r = 8
      · rw [if_pos (show nI (od r) = 8 by rw [q8]; rfl)]
        cases hop : r_open fr ne br r k
        · rw [b01_f rfl, if_pos rfl]
          apply skip
          rintro r' s' ⟨rfl, rfl⟩ h
          rw [h.2.2] at hop; exact absurd hop (by decide)
        · have hed : ed rn fr ne od br r k := ⟨by omega, q8, hop⟩
          rw [b01_t rfl, if_neg (show ¬ (1 : Int32) = 0 by decide)]
          have wk2 : ∀ (D2 : Nat → Nat) (c2 : Nat), ps rn fr to ne gi ti od br A D2 c2 (fun r' s' => (s' < k ∨ (s' = k ∧ r' < r)) ∨ (r' = r ∧ s' = k)) → ps rn fr to ne gi ti od br A D2 c2 (fun r' s' => s' < k ∨ (s' = k ∧ r' < r + 1)) := by
            intro D2 c2 h
            refine ps_w h ?_
            intro r' s' h1 _ _ _
            omega
          have upd1 : (D (tg to gi r k) = 0 ∨ D k + ti r < D (tg to gi r k)) → ∃ D' c', m_X8_sure_b165 F (nI rn) (nI gr) (nI gt) (fun j => nI (fr j)) (fun j => nI (to j)) (fun j => nI (ne j)) (fun j => nI (gi j)) (fun j => nI (ti j)) (fun j => nI (od j)) (fun j => nI (br j)) k37 k45 (m_X8_sure_b67 F (nI rn) (nI gr) (nI gt) (fun j => nI (fr j)) (fun j => nI (to j)) (fun j => nI (ne j)) (fun j => nI (gi j)) (fun j => nI (ti j)) (fun j => nI (od j)) (fun j => nI (br j)) k37 k45 m) (fun j => e1 (D j)) (nI k) (nI r) (nI (tg to gi r k)) = k45 (fun j => e1 (D' j)) (nI c') (nI (k + 1)) ∧ ps rn fr to ne gi ti od br A D' c' (fun r' s' => s' < k + 1) := by
            intro hx
            have := ps_y hb ht hp hk hed hD hx
            obtain ⟨D', c', g1, g2⟩ := ih (r + 1) _ 1 (wk2 _ _ this) (by unfold nu; split; omega; exact hD) (by omega) (by omega)
            refine ⟨D', c', ?_, g2⟩
            unfold m_X8_sure_b165
            rw [if_neg (nI_in hk (by decide)), if_neg hq, if_neg (nI_in htl (by decide)), nI_clamp (n := tg to gi r k) (by omega), nI_clamp (n := k) (by omega), nI_clamp (n := r) (by omega), nI_1, e1_add hD, e1_upd]
            exact g1
          by_cases q0 : D (tg to gi r k) = 0
          · rw [if_pos ((e1_m (by omega)).mpr q0)]
            exact upd1 (.inl q0)
          · rw [if_neg (mt (e1_m (by omega)).mp q0), e1_add hD]
            by_cases ql : D k + ti r < D (tg to gi r k)
            · rw [if_pos ((e1_lt (by omega) q0 (by omega) (by omega)).mpr ql)]
              exact upd1 (.inr ql)
            · rw [if_neg (mt (e1_lt (by omega) q0 (by omega) (by omega)).mp ql)]
              exact ih (r + 1) D c (wk2 _ _ (ps_n hp (fun _ => ⟨q0, by omega⟩))) hD (by omega) (by omega)
      · rw [if_neg (show ¬ nI (od r) = 8 by rw [l_8, nI_eq (by omega) (by omega)]; exact q8)]
        apply skip
        rintro r' s' ⟨rfl, rfl⟩ h
        exact q8 h.2.1
theorem sure45 {F : Nat} (hF : 10000000 ≤ F) {rn : Nat} {fr to ne gi ti od br : Nat → Nat} {gr gt : Nat} (hn : rn ≤ 40) (hf : ∀ j, fr j < 10) (hne : ∀ j, ne j < 16) (hbr : ∀ j, br j ≤ 1) (hod : ∀ j, od j ≤ 8) (hb : ebd to gi ti) (ht : ∀ j, j < rn → 1 ≤ ti j) {A : Nat → Nat} (k37 : (Nat → Int32) → Int32 → Option (Int32 × (Nat → Int32))) : ∀ (m k : Nat) (D : Nat → Nat) (c : Nat), ps rn fr to ne gi ti od br A D c (fun r' s' => s' < k) → k ≤ 160 → 160 - k < m →
    ∃ D' c', m_X8_sure_b45 F (nI rn) (nI gr) (nI gt) (fun j => nI (fr j)) (fun j => nI (to j)) (fun j => nI (ne j)) (fun j => nI (gi j)) (fun j => nI (ti j)) (fun j => nI (od j)) (fun j => nI (br j)) k37 m (fun j => e1 (D j)) (nI c) (nI k) = k37 (fun j => e1 (D' j)) (nI c') ∧ ps rn fr to ne gi ti od br A D' c' (fun r' s' => s' < 160) := by
  intro m
  induction m with
  | zero => intro k D c _ _ h; omega
  | succ m ih =>
    intro k D c hp hk hm
    unfold m_X8_sure_b45
    by_cases e : k = 160
    · subst e
      exact ⟨D, c, by rw [if_pos (by decide)], hp⟩
    · have hbk := bd_lt hp.2.1 (show k < 160 by omega)
      rw [if_neg (by rw [l_160]; exact nI_ge (by omega) (by decide)), if_neg (nI_in (by omega) (by decide)), nI_clamp (by omega)]
      by_cases q : D k = 0
      · rw [if_pos ((e1_m (by omega)).mpr q), nI_1]
        refine ih (k + 1) D c (ps_w hp ?_) (by omega) (by omega)
        intro r' s' h1 h2 h3 h4
        by_cases w : s' = k
        · have := hp.2.2.1 s' h4
          rw [w] at this; omega
        · omega
      · rw [if_neg (mt (e1_m (by omega)).mp q)]
        obtain ⟨D1, c1, g1, g2⟩ := sure67 (F := F) (gr := gr) (gt := gt) hn hf hne hbr hod hb ht (k := k) (by omega) k37 (m_X8_sure_b45 F (nI rn) (nI gr) (nI gt) (fun j => nI (fr j)) (fun j => nI (to j)) (fun j => nI (ne j)) (fun j => nI (gi j)) (fun j => nI (ti j)) (fun j => nI (od j)) (fun j => nI (br j)) k37 m) F 0 D c (ps_w hp (by intro r' s' h1 _ _ _; omega)) q (by omega) (by omega)
        obtain ⟨D2, c2, f1, f2⟩ := ih (k + 1) D1 c1 g2 (by omega) (by omega)
        exact ⟨D2, c2, g1.trans f1, f2⟩
theorem sure37 {F : Nat} (hF : 10000000 ≤ F) {rn : Nat} {fr to ne gi ti od br : Nat → Nat} {gr gt : Nat} (hn : rn ≤ 40) (hf : ∀ j, fr j < 10) (hne : ∀ j, ne j < 16) (hbr : ∀ j, br j ≤ 1) (hod : ∀ j, od j ≤ 8) (hb : ebd to gi ti) (ht : ∀ j, j < rn → 1 ≤ ti j) : ∀ (m : Nat) (A : Nat → Nat), wv rn fr to ne gi ti od br A → bd A → ms A + 2 ≤ m →
    ∃ E, m_X8_sure_b37 F (nI rn) (nI gr) (nI gt) (fun j => nI (fr j)) (fun j => nI (to j)) (fun j => nI (ne j)) (fun j => nI (gi j)) (fun j => nI (ti j)) (fun j => nI (od j)) (fun j => nI (br j)) m (fun j => e1 (A j)) (nI 1) = m_X8_sure_b206 F (nI rn) (nI gr) (nI gt) (fun j => nI (fr j)) (fun j => nI (to j)) (fun j => nI (ne j)) (fun j => nI (gi j)) (fun j => nI (ti j)) (fun j => nI (od j)) (fun j => nI (br j)) F (fun j => e1 (E j)) (-1) 0 ∧ wv rn fr to ne gi ti od br E ∧ bd E ∧ cl rn fr to ne gi ti od br E := by
  intro m
  induction m with
  | zero => intro A _ _ h; omega
  | succ m ih =>
    intro A hA hA2 hm
    unfold m_X8_sure_b37
    obtain ⟨D, c, g1, g2⟩ := sure45 (F := F) hF (gr := gr) (gt := gt) hn hf hne hbr hod hb ht (m_X8_sure_b37 F (nI rn) (nI gr) (nI gt) (fun j => nI (fr j)) (fun j => nI (to j)) (fun j => nI (ne j)) (fun j => nI (gi j)) (fun j => nI (ti j)) (fun j => nI (od j)) (fun j => nI (br j)) m) F 0 A 0 (ps_w (ps_0 hA hA2) (by intro r' s' h; omega)) (by omega) (by omega)
    rw [if_neg (show ¬ nI 1 = 0 by decide)]
    have g1' : m_X8_sure_b45 F (nI rn) (nI gr) (nI gt) (fun j => nI (fr j)) (fun j => nI (to j)) (fun j => nI (ne j)) (fun j => nI (gi j)) (fun j => nI (ti j)) (fun j => nI (od j)) (fun j => nI (br j)) (m_X8_sure_b37 F (nI rn) (nI gr) (nI gt) (fun j => nI (fr j)) (fun j => nI (to j)) (fun j => nI (ne j)) (fun j => nI (gi j)) (fun j => nI (ti j)) (fun j => nI (od j)) (fun j => nI (br j)) m) F (fun j => e1 (A j)) 0 0 = m_X8_sure_b37 F (nI rn) (nI gr) (nI gt) (fun j => nI (fr j)) (fun j => nI (to j)) (fun j => nI (ne j)) (fun j => nI (gi j)) (fun j => nI (ti j)) (fun j => nI (od j)) (fun j => nI (br j)) m (fun j => e1 (D j)) (nI c) := g1
    rw [g1']
    have hc := g2.2.2.2.1
    rcases (by omega : c = 0 ∨ c = 1) with rfl | rfl
    · refine ⟨D, ?_, g2.1, g2.2.1, ps_cl g2 (fun r s h1 _ _ => h1)⟩
      obtain ⟨m', rfl⟩ : ∃ m', m = m' + 1 := ⟨m - 1, by omega⟩
      unfold m_X8_sure_b37
      rw [if_pos (show nI 0 = 0 from rfl)]
    · have := g2.2.2.2.2.2.2.1 rfl
      exact ih D g2.1 g2.2.1 (by omega)
theorem ms_le {D : Nat → Nat} (h : bd D) : ms D ≤ 2592000 := by
  have h1 : ms D ≤ fb_sm (fun _ => 16200) 160 := by
    apply fb_sm_le
    intro k hk
    have := bd_lt h hk
    split <;> omega
  rw [fb_sm_const] at h1
  omega
theorem sure7 {F : Nat} (a b c d e f g : Nat → Int32) (z1 z2 z3 : Int32) : ∀ (m k : Nat) (D : Nat → Nat), k ≤ 160 → 160 - k < m → (∀ j, j < k → D j = if j = 0 then 1 else 0) →
    ∃ D' : Nat → Nat, m_X8_sure_b7 F z1 z2 z3 a b c d e f g m (fun j => e1 (D j)) (nI k) = m_X8_sure_b37 F z1 z2 z3 a b c d e f g F (fun j => e1 (D' j)) (nI 1) ∧ ∀ j, j < 160 → D' j = if j = 0 then 1 else 0 := by
  intro m
  induction m with
  | zero => intro k D _ h; omega
  | succ m ih =>
    intro k D hk hm hD
    unfold m_X8_sure_b7
    by_cases q : k = 160
    · subst q
      exact ⟨D, by rw [if_pos (by decide)]; rfl, hD⟩
    · rw [if_neg (by rw [l_160]; exact nI_ge (by omega) (by decide)), if_neg (nI_in (by omega) (by decide)), if_neg (nI_in (by omega) (by decide)), nI_clamp (by omega), nI_1]
      by_cases q0 : k = 0
      · subst q0
        rw [if_pos (show nI 0 = 0 from rfl)]
        have e : (0 : Int32) = e1 1 := rfl
        rw [e, e1_upd]
        refine ih 1 _ (by omega) (by omega) ?_
        intro j hj
        rw [show j = 0 by omega, nu_s]; rfl
      · rw [if_neg (nI_ne0 (by omega) (by omega))]
        have e : (-1 : Int32) = e1 0 := rfl
        rw [e, e1_upd]
        refine ih (k + 1) _ (by omega) (by omega) ?_
        intro j hj
        by_cases w : j = k
        · rw [w, nu_s, if_neg q0]
        · rw [nu_n _ _ w]; exact hD j (by omega)
/-- the least of the stands that meet the goal (0: none) -/
def bst (gr gt : Nat) (E : Nat → Nat) : Nat → Nat
  | 0 => 0
  | n + 1 => if E n ≠ 0 ∧ r_met gr gt n = true ∧ (bst gr gt E n = 0 ∨ E n < bst gr gt E n) then E n else bst gr gt E n
theorem bst_le {gr gt : Nat} {E : Nat → Nat} (hE : ∀ s, s < 160 → E s ≤ 16000) : ∀ {n : Nat}, n ≤ 160 → bst gr gt E n ≤ 16000
  | 0, _ => by unfold bst; omega
  | n + 1, h => by
    have := bst_le (gr := gr) (gt := gt) hE (n := n) (by omega)
    have := hE n (by omega)
    unfold bst; split <;> omega
theorem bst_cong {gr gt : Nat} {E D : Nat → Nat} (h : ∀ s, s < 160 → E s = D s) : ∀ {n : Nat}, n ≤ 160 → bst gr gt E n = bst gr gt D n
  | 0, _ => rfl
  | n + 1, hn => by
    unfold bst
    rw [bst_cong h (by omega), h n (by omega)]
theorem sure206 {F : Nat} {rn : Nat} {fr to ne gi ti od br : Nat → Nat} {gr gt : Nat} (hgr : gr < 10) (hgt : gt < 16) {E : Nat → Nat} (hE : ∀ s, s < 160 → E s ≤ 16000) : ∀ (m k : Nat), k ≤ 160 → 160 - k < m →
    m_X8_sure_b206 F (nI rn) (nI gr) (nI gt) (fun j => nI (fr j)) (fun j => nI (to j)) (fun j => nI (ne j)) (fun j => nI (gi j)) (fun j => nI (ti j)) (fun j => nI (od j)) (fun j => nI (br j)) m (fun j => e1 (E j)) (e1 (bst gr gt E k)) (nI k) = some (e1 (bst gr gt E 160), fun j => e1 (E j)) := by
  intro m
  induction m with
  | zero => intro k _ h; omega
  | succ m ih =>
    intro k hk hm
    unfold m_X8_sure_b206
    by_cases q : k = 160
    · subst q; rw [if_pos (by decide)]
    · have hb := bst_le (gr := gr) (gt := gt) hE (n := k) (by omega)
      have hEk := hE k (by omega)
      have es : bst gr gt E (k + 1) = if E k ≠ 0 ∧ r_met gr gt k = true ∧ (bst gr gt E k = 0 ∨ E k < bst gr gt E k) then E k else bst gr gt E k := rfl
      have ihk := ih (k + 1) (by omega) (by omega)
      have hq := nI_in (c := k) (N := 160) (by omega) (by decide)
      rw [if_neg (by rw [l_160]; exact nI_ge (by omega) (by decide))]
      simp only [if_neg hq]
      rw [nI_clamp (by omega), rem16 (by omega), div16 (by omega), met_r hgr hgt (by omega), nI_1]
      by_cases c1 : E k = 0
      · rw [if_pos ((e1_m (by omega)).mpr c1), ← ihk, es, if_neg (fun h => h.1 c1)]
      · rw [if_neg (mt (e1_m (by omega)).mp c1)]
        cases c2 : r_met gr gt k
        · rw [b01_f rfl, if_pos rfl, ← ihk, es, if_neg (fun h => by rw [c2] at h; exact absurd h.2.1 (by decide))]
        · rw [b01_t rfl, if_neg (show ¬ (1 : Int32) = 0 by decide)]
          by_cases c3 : bst gr gt E k = 0
          · rw [if_pos ((e1_m (by omega)).mpr c3), ← ihk, es, if_pos ⟨c1, c2, .inl c3⟩]
          · rw [if_neg (mt (e1_m (by omega)).mp c3)]
            by_cases c4 : E k < bst gr gt E k
            · rw [if_neg (mt (e1_le c3 c1 (by omega) (by omega)).mp (by omega)), ← ihk, es, if_pos ⟨c1, c2, .inr c4⟩]
            · rw [if_pos ((e1_le c3 c1 (by omega) (by omega)).mpr (by omega)), ← ihk, es, if_neg (fun h => by omega)]
theorem bst_lo {gr gt : Nat} {E : Nat → Nat} : ∀ {n : Nat}, n ≤ 16 * gr → bst gr gt E n = 0
  | 0, _ => rfl
  | n + 1, h => by
    have hm : r_met gr gt n = false := by unfold r_met; simp only [decide_eq_false_iff_not]; omega
    unfold bst
    rw [if_neg (fun a => by rw [hm] at a; exact absurd a.2.1 (by decide))]
    exact bst_lo (by omega)
theorem bst_hi {gr gt : Nat} {E : Nat → Nat} : ∀ {n : Nat}, bst gr gt E (16 * gr + 16 + n) = bst gr gt E (16 * gr + 16)
  | 0 => rfl
  | n + 1 => by
    have hm : r_met gr gt (16 * gr + 16 + n) = false := by unfold r_met; simp only [decide_eq_false_iff_not]; omega
    show (if E (16 * gr + 16 + n) ≠ 0 ∧ r_met gr gt (16 * gr + 16 + n) = true ∧ _ then _ else bst gr gt E (16 * gr + 16 + n)) = _
    rw [if_neg (fun a => by rw [hm] at a; exact absurd a.2.1 (by decide))]
    exact bst_hi
theorem goal_c {F : Nat} {gr gt : Nat} (hgr : gr < 10) (hgt : gt < 16) {E : Nat → Nat} (hE : ∀ s, s < 160 → E s ≤ 16000) : ∀ (m t : Nat), t ≤ 16 → 16 - t < m →
    m_X2_fewestAtGoal_b4 F (nI gr) (nI gt) (fun j => e1 (E j)) m (e1 (bst gr gt E (16 * gr + t))) (nI t) = some (e1 (bst gr gt E 160)) := by
  intro m
  induction m with
  | zero => intro k _ h; omega
  | succ m ih =>
    intro t ht hm
    unfold m_X2_fewestAtGoal_b4 m_X2_fewestAtGoal_b45 m_X2_fewestAtGoal_b46
    by_cases q : t = 16
    · subst q
      rw [if_pos (by decide)]
      have := bst_hi (gr := gr) (gt := gt) (E := E) (n := 160 - (16 * gr + 16))
      rw [← this]; congr 3; omega
    · have hb := bst_le (gr := gr) (gt := gt) hE (n := 16 * gr + t) (by omega)
      have hEk := hE (16 * gr + t) (by omega)
      have es : bst gr gt E (16 * gr + (t + 1)) = if E (16 * gr + t) ≠ 0 ∧ r_met gr gt (16 * gr + t) = true ∧ (bst gr gt E (16 * gr + t) = 0 ∨ E (16 * gr + t) < bst gr gt E (16 * gr + t)) then E (16 * gr + t) else bst gr gt E (16 * gr + t) := rfl
      have ihk := ih (t + 1) (by omega) (by omega)
      have hm2 := met_c (s := 16 * gr + t) hgr hgt (by omega)
      rw [show (16 * gr + t) / 16 = gr by omega, show (16 * gr + t) % 16 = t by omega] at hm2
      rw [if_neg (by rw [l_16]; exact nI_ge (by omega) (by decide)), stand_c, if_neg (nI_in (by omega) (by decide)), nI_clamp (by omega), hm2, nI_1]
      have n10 : ¬ (1 : Int32) = 0 := by decide
      by_cases c1 : E (16 * gr + t) = 0
      · rw [if_pos ((e1_m (by omega)).mpr c1), if_pos rfl, ← ihk, es, if_neg (fun h => h.1 c1)]
      · rw [if_neg (mt (e1_m (by omega)).mp c1)]
        cases c2 : r_met gr gt (16 * gr + t)
        · rw [b01_f rfl, if_pos rfl, if_pos rfl, ← ihk, es, if_neg (fun h => by rw [c2] at h; exact absurd h.2.1 (by decide))]
        · rw [b01_t rfl, if_neg n10, if_neg n10]
          by_cases c3 : bst gr gt E (16 * gr + t) = 0
          · rw [if_pos ((e1_m (by omega)).mpr c3), ← ihk, es, if_pos ⟨c1, c2, .inl c3⟩]
          · rw [if_neg (mt (e1_m (by omega)).mp c3)]
            by_cases c4 : E (16 * gr + t) < bst gr gt E (16 * gr + t)
            · rw [if_neg (mt (e1_le c3 c1 (by omega) (by omega)).mp (by omega)), ← ihk, es, if_pos ⟨c1, c2, .inr c4⟩]
            · rw [if_pos ((e1_le c3 c1 (by omega) (by omega)).mpr (by omega)), ← ihk, es, if_neg (fun h => by omega)]
/-- one road of the class, with all things -/
theorem go4 {F : Nat} {rn : Nat} {fr to ne gi ti od br : Nat → Nat} (hf : ∀ j, fr j < 10) (hne : ∀ j, ne j < 16) (hbr : ∀ j, br j ≤ 1) (hb : ebd to gi ti) (ht : ∀ j, j < rn → 1 ≤ ti j) {A : Nat → Nat} {r : Nat} (hr : r < rn) (h8 : od r = 8) : ∀ (m t : Nat) (D : Nat → Nat) (c : Nat), ps rn fr to ne gi ti od br A D c (fun r' s' => r' = r ∧ s' % 16 < t) → t ≤ 16 → 16 - t < m →
    ∃ D' c', m_X2_goSurely_b4 F (fun j => nI (fr j)) (fun j => nI (to j)) (fun j => nI (ne j)) (fun j => nI (gi j)) (fun j => nI (ti j)) (fun j => nI (br j)) r m (fun j => e1 (D j)) (nI c) (nI t) = some (nI c', fun j => e1 (D' j)) ∧ ps rn fr to ne gi ti od br A D' c' (fun r' s' => r' = r) := by
  intro m
  induction m with
  | zero => intro t D c _ _ h; omega
  | succ m ih =>
    intro t D c hp ht2 hm
    unfold m_X2_goSurely_b4 m_X2_goSurely_b93
    by_cases q : t = 16
    · subst q
      have hc := hp.2.2.2.1
      refine ⟨D, c, ?_, ps_w hp (fun r' s' h _ _ _ => ⟨h, by omega⟩)⟩
      rw [if_pos (by decide), if_neg]
      intro h
      rcases (by omega : c = 0 ∨ c = 1) with rfl | rfl
      · exact h (.inl rfl)
      · exact h (.inr rfl)
    · have hbr' := hb r
      have hfr := hf r
      have hor := or16 (show t < 16 by omega) hbr'.2.1
      have hs : 16 * fr r + t < 160 := by omega
      have ed1 : (16 * fr r + t) / 16 = fr r := by omega
      have em1 : (16 * fr r + t) % 16 = t := by omega
      have etg : m_X2_standAt (nI (to r)) (nI t ||| nI (gi r)) = nI (tg to gi r (16 * fr r + t)) := by
        rw [fa_or, stand_c]; unfold tg; rw [em1]
      have htl := tg_lt (s := 16 * fr r + t) hbr'.1 hbr'.2.1
      have hbk := bd_lt hp.2.1 hs
      have hbt := bd_lt hp.2.1 htl
      have hop' := open_c (r := r) (s := 16 * fr r + t) hf hne hbr hs
      rw [ed1, em1] at hop'
      rw [if_neg (by rw [l_16]; exact nI_ge (by omega) (by decide)), etg, stand_c, if_neg (nI_in hs (by decide)), nI_clamp (n := 16 * fr r + t) (by omega), hop']
      simp only [if_neg (nI_in (c := tg to gi r (16 * fr r + t)) (N := 160) htl (by decide))]
      rw [nI_clamp (n := tg to gi r (16 * fr r + t)) (by omega), nI_1]
      have skip : (ed rn fr ne od br r (16 * fr r + t) → D (16 * fr r + t) ≠ 0 → False) → ∃ D' c', m_X2_goSurely_b4 F (fun j => nI (fr j)) (fun j => nI (to j)) (fun j => nI (ne j)) (fun j => nI (gi j)) (fun j => nI (ti j)) (fun j => nI (br j)) r m (fun j => e1 (D j)) (nI c) (nI (t + 1)) = some (nI c', fun j => e1 (D' j)) ∧ ps rn fr to ne gi ti od br A D' c' (fun r' s' => r' = r) := by
        intro hno
        refine ih (t + 1) D c (ps_w hp ?_) (by omega) (by omega)
        rintro r' s' ⟨h1, h1'⟩ h2 h3 h4
        refine ⟨h1, ?_⟩
        by_cases w : s' % 16 = t
        · have ho := h3.2.2
          simp only [r_open, decide_eq_true_eq] at ho
          have es : s' = 16 * fr r + t := by rw [← h1]; omega
          rw [h1, es] at h3
          rw [es] at h4
          exact (hno h3 (hp.2.2.1 _ h4).1).elim
        · omega
      by_cases q0 : D (16 * fr r + t) = 0
      · rw [if_pos ((e1_m (by omega)).mpr q0)]
        exact skip (fun _ h => h q0)
      · rw [if_neg (mt (e1_m (by omega)).mp q0)]
        cases hop : r_open fr ne br r (16 * fr r + t)
        · rw [b01_f rfl, if_pos rfl]
          exact skip (fun h _ => by rw [h.2.2] at hop; exact absurd hop (by decide))
        · have hed : ed rn fr ne od br r (16 * fr r + t) := ⟨hr, h8, hop⟩
          rw [b01_t rfl, if_neg (show ¬ (1 : Int32) = 0 by decide), e1_add q0]
          have wk2 : ∀ (D2 : Nat → Nat) (c2 : Nat), ps rn fr to ne gi ti od br A D2 c2 (fun r' s' => (r' = r ∧ s' % 16 < t) ∨ (r' = r ∧ s' = 16 * fr r + t)) → ps rn fr to ne gi ti od br A D2 c2 (fun r' s' => r' = r ∧ s' % 16 < t + 1) := by
            intro D2 c2 h
            refine ps_w h ?_
            rintro r' s' ⟨h1, h1'⟩ h2 h3 _
            by_cases w : s' % 16 = t
            · right
              have ho := h3.2.2
              simp only [r_open, decide_eq_true_eq] at ho
              exact ⟨h1, by rw [← h1]; omega⟩
            · left; exact ⟨h1, by omega⟩
          have upd1 : (D (tg to gi r (16 * fr r + t)) = 0 ∨ D (16 * fr r + t) + ti r < D (tg to gi r (16 * fr r + t))) → ∃ D' c', m_X2_goSurely_b4 F (fun j => nI (fr j)) (fun j => nI (to j)) (fun j => nI (ne j)) (fun j => nI (gi j)) (fun j => nI (ti j)) (fun j => nI (br j)) r m (upd (fun j => e1 (D j)) (tg to gi r (16 * fr r + t)) (e1 (D (16 * fr r + t) + ti r))) 1 (nI (t + 1)) = some (nI c', fun j => e1 (D' j)) ∧ ps rn fr to ne gi ti od br A D' c' (fun r' s' => r' = r) := by
            intro hx
            have := ps_y hb ht hp hs hed q0 hx
            obtain ⟨D', c', g1, g2⟩ := ih (t + 1) _ 1 (wk2 _ _ this) (by omega) (by omega)
            refine ⟨D', c', ?_, g2⟩
            rw [e1_upd]
            exact g1
          by_cases q1 : D (tg to gi r (16 * fr r + t)) = 0
          · rw [if_pos ((e1_m (by omega)).mpr q1)]
            exact upd1 (.inl q1)
          · rw [if_neg (mt (e1_m (by omega)).mp q1)]
            by_cases ql : D (16 * fr r + t) + ti r < D (tg to gi r (16 * fr r + t))
            · rw [if_neg (mt (e1_le q1 (by omega) (by omega) (by omega)).mp (by omega))]
              exact upd1 (.inr ql)
            · rw [if_pos ((e1_le q1 (by omega) (by omega) (by omega)).mpr (by omega))]
              exact ih (t + 1) D c (wk2 _ _ (ps_n hp (fun _ => ⟨q1, by omega⟩))) (by omega) (by omega)
theorem few34 {F : Nat} (hF : 10000000 ≤ F) {rn : Nat} {fr to ne gi ti od br : Nat → Nat} {gr gt : Nat} (hn : rn ≤ 40) (hf : ∀ j, fr j < 10) (hne : ∀ j, ne j < 16) (hbr : ∀ j, br j ≤ 1) (hod : ∀ j, od j ≤ 8) (hb : ebd to gi ti) (ht : ∀ j, j < rn → 1 ≤ ti j) {A : Nat → Nat} (k19 : (Nat → Int32) → Int32 → Int32 → Option (Int32 × (Nat → Int32))) (n : Nat) : ∀ (m r : Nat) (D : Nat → Nat) (c : Nat), ps rn fr to ne gi ti od br A D c (fun r' s' => r' < r) → r ≤ rn → rn - r < m →
    ∃ D' c', m_X2_fewestSureTicks_b34 F (nI rn) (nI gr) (nI gt) (fun j => nI (fr j)) (fun j => nI (to j)) (fun j => nI (ne j)) (fun j => nI (gi j)) (fun j => nI (ti j)) (fun j => nI (od j)) (fun j => nI (br j)) k19 m (fun j => e1 (D j)) (nI c) (nI n) (nI r) = k19 (fun j => e1 (D' j)) (nI c') (nI (n + 1)) ∧ ps rn fr to ne gi ti od br A D' c' (fun r' s' => r' < rn) := by
  intro m
  induction m with
  | zero => intro r D c _ _ h; omega
  | succ m ih =>
    intro r D c hp hr hm
    unfold m_X2_fewestSureTicks_b34
    by_cases q : r = rn
    · subst q
      exact ⟨D, c, by rw [if_pos (nI_le (by omega) (by omega)), nI_1], hp⟩
    · rw [if_neg (nI_ge (by omega) (by omega)), if_neg (nI_in (by omega) (by decide)), if_neg (nI_in (by omega) (by decide)), nI_clamp (by omega), sure_c (hod r), nI_1]
      by_cases q8 : od r = 8
      · rw [b01_t (by simp [q8]), if_neg (show ¬ (1 : Int32) = 0 by decide)]
        obtain ⟨D1, c1, g1, g2⟩ := go4 (F := F) hf hne hbr hb ht (r := r) (by omega) q8 F 0 D 0 (ps_w (ps_0 hp.1 hp.2.1) (by intro r' s' h; omega)) (by omega) (by omega)
        have g1' : m_X2_goSurely F (fun j => nI (fr j)) (fun j => nI (to j)) (fun j => nI (ne j)) (fun j => nI (gi j)) (fun j => nI (ti j)) (fun j => nI (br j)) r (fun j => e1 (D j)) = some (nI c1, fun j => e1 (D1 j)) := g1
        rw [g1', Option.bind_some]
        have hc1 := g2.2.2.2.1
        have hpt := ps_t hp g2
        rcases (by omega : c1 = 0 ∨ c1 = 1) with rfl | rfl
        · dsimp only
          rw [if_pos (show nI 0 = 0 from rfl)]
          rw [if_pos rfl] at hpt
          refine ih (r + 1) D1 c (ps_w hpt ?_) (by omega) (by omega)
          intro r' s' h _ _ _
          omega
        · dsimp only
          rw [if_neg (show ¬ nI 1 = 0 by decide)]
          rw [if_neg (by omega)] at hpt
          refine ih (r + 1) D1 1 (ps_w hpt ?_) (by omega) (by omega)
          intro r' s' h _ _ _
          omega
      · rw [b01_f (by simp [q8]), if_pos rfl]
        refine ih (r + 1) D c (ps_w hp ?_) (by omega) (by omega)
        intro r' s' h _ h3 _
        by_cases w : r' = r
        · rw [w] at h3; exact absurd h3.2.1 q8
        · omega
theorem few19 {F : Nat} (hF : 10000000 ≤ F) {rn : Nat} {fr to ne gi ti od br : Nat → Nat} {gr gt : Nat} (hn : rn ≤ 40) (hf : ∀ j, fr j < 10) (hne : ∀ j, ne j < 16) (hbr : ∀ j, br j ≤ 1) (hod : ∀ j, od j ≤ 8) (hb : ebd to gi ti) (ht : ∀ j, j < rn → 1 ≤ ti j) {E : Nat → Nat} (hE : wv rn fr to ne gi ti od br E) (kE : cl rn fr to ne gi ti od br E) : ∀ (m n : Nat) (A : Nat → Nat) (c : Nat), wv rn fr to ne gi ti od br A → bd A → c ≤ 1 → (c = 0 → cl rn fr to ne gi ti od br A) → (n + 1 ≤ agr A E ∨ agr A E = 160) → n ≤ 160 → 160 - n < m →
    ∃ D, m_X2_fewestSureTicks_b19 F (nI rn) (nI gr) (nI gt) (fun j => nI (fr j)) (fun j => nI (to j)) (fun j => nI (ne j)) (fun j => nI (gi j)) (fun j => nI (ti j)) (fun j => nI (od j)) (fun j => nI (br j)) m (fun j => e1 (A j)) (nI c) (nI n) = m_X2_fewestSureTicks_b81 F (nI rn) (nI gr) (nI gt) (fun j => nI (fr j)) (fun j => nI (to j)) (fun j => nI (ne j)) (fun j => nI (gi j)) (fun j => nI (ti j)) (fun j => nI (od j)) (fun j => nI (br j)) (fun j => e1 (D j)) ∧ bd D ∧ ∀ s, s < 160 → D s = E s := by
  have hb' : ∀ j, to j < 10 ∧ gi j < 16 := fun j => ⟨(hb j).1, (hb j).2.1⟩
  intro m
  induction m with
  | zero => intro n A c _ _ _ _ _ _ h; omega
  | succ m ih =>
    intro n A c h1 h2 h3 h4 h5 h6 hm
    unfold m_X2_fewestSureTicks_b19
    by_cases q : n = 160
    · subst q
      refine ⟨A, by rw [if_pos (by decide)], h2, ?_⟩
      have hle : agr A E ≤ 160 := fb_ct_le _ _
      have : agr A E = 160 := by omega
      unfold agr at this
      rw [fb_ct_all] at this
      intro s hs
      have := this s hs
      simp only [decide_eq_true_eq] at this
      exact this
    · rw [if_neg (by rw [l_160]; exact nI_ge (by omega) (by decide))]
      rcases (by omega : c = 0 ∨ c = 1) with rfl | rfl
      · rw [if_pos (show nI 0 = 0 from rfl)]
        exact ⟨A, rfl, h2, cl_eq hb' h1 (h4 rfl) hE kE⟩
      · rw [if_neg (show ¬ nI 1 = 0 by decide)]
        obtain ⟨D, c', g1, g2⟩ := few34 (F := F) hF (gr := gr) (gt := gt) hn hf hne hbr hod hb ht (m_X2_fewestSureTicks_b19 F (nI rn) (nI gr) (nI gt) (fun j => nI (fr j)) (fun j => nI (to j)) (fun j => nI (ne j)) (fun j => nI (gi j)) (fun j => nI (ti j)) (fun j => nI (od j)) (fun j => nI (br j)) m) n F 0 A 0 (ps_w (ps_0 h1 h2) (by intro r' s' h; omega)) (by omega) (by omega)
        have hgr := agr_grow hb' ht h1 g2 (fun r s _ h _ => h.1) hE kE
        have hle : agr A E ≤ 160 := fb_ct_le _ _
        have hle2 : agr D E ≤ 160 := fb_ct_le _ _
        obtain ⟨D2, f1, f2, f3⟩ := ih (n + 1) D c' g2.1 g2.2.1 g2.2.2.2.1 (fun h => by subst h; exact ps_cl g2 (fun r s _ h _ => h.1)) (by omega) (by omega) (by omega)
        exact ⟨D2, g1.trans f1, f2, f3⟩
theorem b_sure {F : Nat} (hF : 10000000 ≤ F) {rn gr gt pr : Nat} {fr to ne gi ti od fa ft br : Nat → Nat} {rfa rft : Nat → Int32} (hw : i_w rn fr to ne gi ti od fa ft br rfa rft) (hgr : gr < 10) (hgt : gt < 16) (fe fD : Nat → Nat) :
    ∃ (r : Int32) (fe' fD' : Nat → Nat), m_X7_sure F (nI rn) (nI gr) (nI gt) (fun j => nI (fr j)) (fun j => nI (to j)) (fun j => nI (ne j)) (fun j => nI (gi j)) (fun j => nI (ti j)) (fun j => nI (od j)) (fun j => nI (br j)) (fun j => e1 (fe j)) = some (r, fun j => e1 (fe' j)) ∧ m_X8_sure F (nI rn) (nI gr) (nI gt) (fun j => nI (fr j)) (fun j => nI (to j)) (fun j => nI (ne j)) (fun j => nI (gi j)) (fun j => nI (ti j)) (fun j => nI (od j)) (fun j => nI (br j)) (fun j => e1 (fD j)) = some (r, fun j => e1 (fD' j)) := by
  obtain ⟨hn, h2, h3, h4⟩ := hw
  have hf : ∀ j, fr j < 10 := fun j => (h2 j).1
  have hne : ∀ j, ne j < 16 := fun j => (h2 j).2.2.1
  have hbr : ∀ j, br j ≤ 1 := fun j => (h2 j).2.2.2.2.2.2.2.2
  have hod : ∀ j, od j ≤ 8 := fun j => (h2 j).2.2.2.2.2.1
  have hb : ebd to gi ti := fun j => ⟨(h2 j).2.1, (h2 j).2.2.2.1, (h2 j).2.2.2.2.1⟩
  have ht : ∀ j, j < rn → 1 ≤ ti j := fun j hj => (h3 j hj).1
  -- where both begin
  have start : ∀ D : Nat → Nat, (∀ j, j < 160 → D j = if j = 0 then 1 else 0) → wv rn fr to ne gi ti od br D ∧ bd D := by
    intro D hD
    have h0 : D 0 = 1 := by rw [hD 0 (by omega)]; rfl
    have hnz : 1 ≤ nz D := by
      have : 0 < nz D := fb_ct_pos.mpr ⟨0, by omega, by simp [h0]⟩
      omega
    refine ⟨⟨h0, fun s hs hne => ?_⟩, fun s hs => ?_⟩
    · by_cases q : s = 0
      · subst q; exact ⟨0, rfl, h0⟩
      · rw [hD s hs, if_neg q] at hne; exact absurd rfl hne
    · rw [hD s hs]; split <;> omega
  obtain ⟨D0, a1, a2⟩ := sure7 (F := F) (fun j => nI (fr j)) (fun j => nI (to j)) (fun j => nI (ne j)) (fun j => nI (gi j)) (fun j => nI (ti j)) (fun j => nI (od j)) (fun j => nI (br j)) (nI rn) (nI gr) (nI gt) F 0 fD (by omega) (by omega) (fun j hj => by omega)
  obtain ⟨b1, b2⟩ := start D0 a2
  obtain ⟨E, c1, c2, c3, c4⟩ := sure37 (F := F) hF (gr := gr) (gt := gt) hn hf hne hbr hod hb ht F D0 b1 b2 (by have := ms_le b2; omega)
  have hE : ∀ s, s < 160 → E s ≤ 16000 := fun s hs => bd_lt c3 hs
  have d1 := sure206 (F := F) (rn := rn) (fr := fr) (to := to) (ne := ne) (gi := gi) (ti := ti) (od := od) (br := br) hgr hgt hE F 0 (by omega) (by omega)
  -- the class
  have e0 : (fun j => if j < 160 then (-1 : Int32) else e1 (fe j)) = fun j => e1 (if j < 160 then 0 else fe j) := by
    funext j; split <;> rfl
  obtain ⟨s1, s2⟩ := start (nu (fun j => if j < 160 then 0 else fe j) 0 1) (by
    intro j hj
    by_cases q : j = 0
    · rw [q, nu_s]; rfl
    · rw [nu_n _ _ q, if_pos hj, if_neg q])
  have hag : 1 ≤ agr (nu (fun j => if j < 160 then 0 else fe j) 0 1) E := by
    have : 0 < agr (nu (fun j => if j < 160 then 0 else fe j) 0 1) E := fb_ct_pos.mpr ⟨0, by omega, by simp only [decide_eq_true_eq]; rw [nu_s, c2.1]⟩
    omega
  obtain ⟨D, f1, f2, f3⟩ := few19 (F := F) hF (gr := gr) (gt := gt) hn hf hne hbr hod hb ht c2 c4 F 0 _ 1 s1 s2 (by omega) (fun h => by omega) (.inl hag) (by omega) (by omega)
  have hD : ∀ s, s < 160 → D s ≤ 16000 := fun s hs => bd_lt f2 hs
  have g1 := goal_c (F := F) hgr hgt hD F 0 (by omega) (by omega)
  rw [Nat.add_zero, bst_lo (Nat.le_refl _)] at g1
  refine ⟨e1 (bst gr gt E 160), D, E, ?_, ?_⟩
  · unfold m_X7_sure m_X2_fewestSureTicks
    rw [fill_I _ _ (by decide) (by omega), Option.bind_some, e0]
    have e2 : (0 : Int32).toNatClampNeg = 0 := rfl
    have e3 : upd (fun j => e1 (if j < 160 then 0 else fe j)) 0 0 = fun j => e1 (nu (fun j => if j < 160 then 0 else fe j) 0 1 j) := e1_upd _ 0 1
    rw [e2, e3]
    have f1' := f1
    unfold m_X2_fewestSureTicks_b81 m_X2_fewestAtGoal at f1'
    have g1' : m_X2_fewestAtGoal_b4 F (nI gr) (nI gt) (fun j => e1 (D j)) F (-1) 0 = some (e1 (bst gr gt D 160)) := g1
    rw [g1', Option.bind_some, bst_cong f3 (by omega)] at f1'
    have f1'' : m_X2_fewestSureTicks_b19 F (nI rn) (nI gr) (nI gt) (fun j => nI (fr j)) (fun j => nI (to j)) (fun j => nI (ne j)) (fun j => nI (gi j)) (fun j => nI (ti j)) (fun j => nI (od j)) (fun j => nI (br j)) F (fun j => e1 (nu (fun j => if j < 160 then 0 else fe j) 0 1 j)) 1 0 = some (e1 (bst gr gt E 160), fun j => e1 (D j)) := f1'
    rw [f1'', Option.bind_some]
  · unfold m_X8_sure
    exact (a1.trans c1).trans d1
