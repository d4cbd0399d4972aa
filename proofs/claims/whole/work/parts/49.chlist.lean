/-! the class's list of stands and steps -/
def lst (sc : Nat) (sd : Nat → Nat) (s : Nat) : Prop := ∃ i, i < sc ∧ sd i = s
def ext (sc : Nat) (sd : Nat → Nat) (sc' : Nat) (sd' : Nat → Nat) : Prop := sc ≤ sc' ∧ ∀ i, i < sc → sd' i = sd i
theorem ext_r {sc : Nat} {sd : Nat → Nat} : ext sc sd sc sd := ⟨Nat.le_refl _, fun _ _ => rfl⟩
theorem ext_t {a b c : Nat} {x y z : Nat → Nat} (h : ext a x b y) (k : ext b y c z) : ext a x c z := ⟨Nat.le_trans h.1 k.1, fun i hi => (k.2 i (Nat.lt_of_lt_of_le hi h.1)).trans (h.2 i hi)⟩
theorem lst_e {a b : Nat} {x y : Nat → Nat} (h : ext a x b y) {s : Nat} (k : lst a x s) : lst b y s := by
  obtain ⟨i, hi, e⟩ := k
  exact ⟨i, Nat.lt_of_lt_of_le hi h.1, (h.2 i hi).trans e⟩
theorem addStand_c {sc : Nat} {sd : Nat → Nat} {il : Nat → Int32} (hl : i_l sc sd il) {s : Nat} (hs : s < 160) :
    ∃ sc' sd' il', m_X2_addStand (nI s) (nI sc) (fun j => nI (sd j)) il = some (nI sc', (fun j => nI (sd' j)), il') ∧ i_l sc' sd' il' ∧ ext sc sd sc' sd' ∧ lst sc' sd' s := by
  have hl' := hl
  obtain ⟨h1, h2, h3, h4, h5⟩ := hl'
  unfold m_X2_addStand
  rw [if_neg (nI_in hs (by decide)), if_neg (nI_in hs (by decide)), nI_clamp (by omega)]
  by_cases q : il s = 0
  · have hnl : ∀ i, i < sc → sd i ≠ s := fun i hi e => ((h5 s hs).mpr ⟨i, hi, e⟩) q
    have hsc : sc + 1 ≤ 160 := by
      apply fb_holes 160 (sc + 1) (fun i => if i < sc then sd i else s)
      · intro i hi
        split
        · rename_i c; exact h2 i c
        · exact hs
      · intro i j hij hj
        rw [if_pos (by omega)]
        split
        · rename_i c; exact h3 i j hij c
        · exact hnl i (by omega)
    refine ⟨sc + 1, nu sd sc s, upd il s 1, ?_, ⟨hsc, ?_, ?_, ?_, ?_⟩, ⟨by omega, fun i hi => nu_n _ _ (by omega)⟩, ⟨sc, by omega, nu_s _ _ _⟩⟩
    · rw [if_pos q, if_neg (by rw [l_160]; exact nI_ge (by omega) (by decide)), if_neg (nI_in (by omega) (by decide)), nI_clamp (by omega), n_upd, nar1, nI_1]
    · intro i hi
      unfold nu
      split
      · exact hs
      · exact h2 i (by omega)
    · intro i j hij hj
      rw [nu_n _ _ (show i ≠ sc by omega)]
      by_cases c : j = sc
      · rw [c, nu_s]; exact hnl i (by omega)
      · rw [nu_n _ _ c]; exact h3 i j hij (by omega)
    · intro t ht
      by_cases c : t = s
      · right; rw [c, pk_us]
      · rw [pk_un c]; exact h4 t ht
    · intro t ht
      by_cases c : t = s
      · rw [c, pk_us]
        exact ⟨fun _ => ⟨sc, by omega, nu_s _ _ _⟩, fun _ => by decide⟩
      · rw [pk_un c, h5 t ht]
        constructor
        · rintro ⟨i, hi, e⟩; exact ⟨i, by omega, by rw [nu_n _ _ (by omega)]; exact e⟩
        · rintro ⟨i, hi, e⟩
          by_cases d : i = sc
          · rw [d, nu_s] at e; exact absurd e.symm c
          · rw [nu_n _ _ d] at e; exact ⟨i, by omega, e⟩
  · rw [if_neg q]
    exact ⟨sc, sd, il, rfl, hl, ext_r, (h5 s hs).mp q⟩
/-- stands and steps, when the stands below i are worked off, and of stand i the roads below r -/
def i_s (rn gr gt : Nat) (fr to ne gi od fa br : Nat → Nat) (i r sc pc : Nat) (sd sr sT : Nat → Nat) (il : Nat → Int32) : Prop :=
  i_l sc sd il ∧ pc ≤ 640 ∧
  (∀ q, q < pc → sr q < rn ∧ sT q < 16 ∧ r_open fr ne br (sr q) (16 * fr (sr q) + sT q) = true ∧ r_met gr gt (16 * fr (sr q) + sT q) = false ∧ (∃ i', (i' < i ∨ (i' = i ∧ sr q < r)) ∧ i' < sc ∧ sd i' = 16 * fr (sr q) + sT q) ∧ lst sc sd (16 * to (sr q) + (sT q ||| gi (sr q))) ∧ (od (sr q) ≠ 8 → lst sc sd (16 * fa (sr q) + sT q))) ∧
  (∀ q q', q < q' → q' < pc → 16 * sr q + sT q ≠ 16 * sr q' + sT q') ∧
  (∀ i', i' < i → i' < sc → r_met gr gt (sd i') = false → ∀ r', r' < rn → r_open fr ne br r' (sd i') = true → ∃ q, q < pc ∧ sr q = r' ∧ sT q = sd i' % 16) ∧
  (i < sc → r_met gr gt (sd i) = false → ∀ r', r' < r → r' < rn → r_open fr ne br r' (sd i) = true → ∃ q, q < pc ∧ sr q = r' ∧ sT q = sd i % 16)
theorem i_s_ext {rn gr gt : Nat} {fr to ne gi od fa br : Nat → Nat} {i r sc pc sc' : Nat} {sd sr sT sd' : Nat → Nat} {il il' : Nat → Int32} (hi : i < sc) (h : i_s rn gr gt fr to ne gi od fa br i r sc pc sd sr sT il) (he : ext sc sd sc' sd') (hl : i_l sc' sd' il') : i_s rn gr gt fr to ne gi od fa br i r sc' pc sd' sr sT il' := by
  obtain ⟨h1, h2, h3, h4, h5, h6⟩ := h
  refine ⟨hl, h2, fun q hq => ?_, h4, fun i' hi' hs' hm r' hr' ho => ?_, fun hs' hm r' hr' hr2 ho => ?_⟩
  · obtain ⟨a1, a2, a3, a4, ⟨i', a5, a6, a7⟩, a8, a9⟩ := h3 q hq
    exact ⟨a1, a2, a3, a4, ⟨i', a5, Nat.lt_of_lt_of_le a6 he.1, (he.2 i' a6).trans a7⟩, lst_e he a8, fun h => lst_e he (a9 h)⟩
  · have e := he.2 i' (by omega)
    rw [e] at hm ho ⊢
    exact h5 i' hi' (by omega) hm r' hr' ho
  · have e := he.2 i hi
    rw [e] at hm ho ⊢
    exact h6 hi hm r' hr' hr2 ho
theorem open_c {fr ne br : Nat → Nat} (h1 : ∀ j, fr j < 10) (h2 : ∀ j, ne j < 16) (h3 : ∀ j, br j ≤ 1) {r s : Nat} (hs : s < 160) : m_X1_isOpenFor (nI (fr r)) (nI (ne r)) (nI (br r)) (nI (s / 16)) (nI (s % 16)) = b01 (r_open fr ne br r s) := by
  unfold m_X1_isOpenFor r_open b01
  have a1 := h1 r
  have a2 := h2 r
  have a3 := h3 r
  have a4 : (s % 16) &&& ne r < 2 ^ 4 := Nat.and_lt_two_pow _ (by omega)
  rw [fa_and, l_0]
  simp (disch := omega) only [nI_eq, decide_eq_true_eq]
  by_cases a : br r = 0
  · by_cases b : fr r = s / 16
    · by_cases c : (s % 16) &&& ne r = ne r
      · rw [if_pos a, if_pos b, if_pos c, if_pos ⟨a, b, c⟩]
      · rw [if_pos a, if_pos b, if_neg c, if_neg (fun h => c h.2.2)]
    · rw [if_pos a, if_neg b, if_neg (fun h => b h.2.1)]
  · rw [if_neg a, if_neg (fun h => a h.1)]
theorem met_c {gr gt s : Nat} (hg : gr < 10) (hgt : gt < 16) (hs : s < 160) : m_X2_isMet (nI gr) (nI gt) (nI (s / 16)) (nI (s % 16)) = b01 (r_met gr gt s) := met_r hg hgt hs
theorem stand_c (a b : Nat) : m_X2_standAt (nI a) (nI b) = nI (16 * a + b) := by
  unfold m_X2_standAt; rw [l_16, pk_mul, nI_add]; congr 1; omega
theorem sure_c {o : Nat} (ho : o ≤ 8) : m_X1_isSure (nI o) = b01 (decide (o = 8)) := by
  unfold m_X1_isSure b01
  rw [l_8]
  simp (disch := omega) only [nI_eq, decide_eq_true_eq]
theorem steps_l {F : Nat} {rn gr gt : Nat} {fr to ne gi od fa br : Nat → Nat} (hn : rn ≤ 40) (hgr : gr < 10) (hgt : gt < 16) (hb : ∀ j, fr j < 10 ∧ to j < 10 ∧ ne j < 16 ∧ gi j < 16 ∧ od j ≤ 8 ∧ fa j < 10 ∧ br j ≤ 1) {i s : Nat} (hs : s < 160) : ∀ (m r sc pc : Nat) (sd sr sT : Nat → Nat) (il : Nat → Int32), i_s rn gr gt fr to ne gi od fa br i r sc pc sd sr sT il → i < sc → sd i = s → r ≤ rn → rn - r < m →
    ∃ sc' pc' sd' sr' sT' il', m_X2_listSteps_b2 F (nI rn) (nI gr) (nI gt) (fun j => nI (fr j)) (fun j => nI (to j)) (fun j => nI (ne j)) (fun j => nI (gi j)) (fun j => nI (od j)) (fun j => nI (fa j)) (fun j => nI (br j)) (nI (s / 16)) (nI (s % 16)) m (nI sc) (nI pc) (fun j => nI (sd j)) il (fun j => nI (sr j)) (fun j => nI (sT j)) (nI r) = some (nI sc', nI pc', (fun j => nI (sd' j)), il', (fun j => nI (sr' j)), (fun j => nI (sT' j))) ∧ i_s rn gr gt fr to ne gi od fa br i rn sc' pc' sd' sr' sT' il' ∧ ext sc sd sc' sd' := by
  intro m
  induction m with
  | zero => intro r sc pc sd sr sT il _ _ _ _ h; omega
  | succ m ih =>
    intro r sc pc sd sr sT il hi hisc hsd hr hm
    unfold m_X2_listSteps_b2
    by_cases e : r = rn
    · subst e
      refine ⟨sc, pc, sd, sr, sT, il, ?_, hi, ext_r⟩
      rw [if_pos (nI_le (by omega) (by omega))]
    · rw [if_neg (nI_ge (by omega) (by omega)), met_c hgr hgt hs]
      cases hmet : r_met gr gt s
      · have n10 : ¬ (1 : Int32) = 0 := by decide
        rw [b01_f rfl, if_pos rfl, if_neg (nI_in (by omega) (by decide)), nI_clamp (by omega), open_c (fun j => (hb j).1) (fun j => (hb j).2.2.1) (fun j => (hb j).2.2.2.2.2.2) hs, nI_1]
        have hi' := hi
        obtain ⟨h1, h2, h3, h4, h5, h6⟩ := hi'
        cases hop : r_open fr ne br r s
        · rw [b01_f rfl, if_pos rfl]
          refine ih (r + 1) sc pc sd sr sT il ⟨h1, h2, ?_, h4, h5, ?_⟩ hisc hsd (by omega) (by omega)
          · intro q hq
            obtain ⟨a1, a2, a3, a4, ⟨i', a5, a6⟩, a8⟩ := h3 q hq
            exact ⟨a1, a2, a3, a4, ⟨i', by omega, a6⟩, a8⟩
          · intro c1 c2 r' hr' hr2 ho
            by_cases c : r' = r
            · rw [c, hsd, hop] at ho; exact absurd ho Bool.false_ne_true
            · exact h6 c1 c2 r' (by omega) hr2 ho
        · rw [b01_t rfl, if_neg n10]
          have ho2 := hop
          simp only [r_open, decide_eq_true_eq] at ho2
          obtain ⟨o1, o2, o3⟩ := ho2
          have hst : 16 * fr r + s % 16 = s := by omega
          have hnew : ∀ q, q < pc → 16 * sr q + sT q ≠ 16 * r + s % 16 := by
            intro q hq hh
            obtain ⟨a1, a2, a3, a4, ⟨i', a5, a6, a7⟩, a8⟩ := h3 q hq
            have e1 : sr q = r := by omega
            have e2 : sT q = s % 16 := by omega
            rw [e1, e2, hst] at a7
            rcases a5 with a5 | ⟨a5, a5'⟩
            · exact h1.2.2.1 i' i a5 hisc (a7.trans hsd.symm)
            · omega
          have hpc : pc + 1 ≤ 640 := by
            apply fb_holes 640 (pc + 1) (fun q => if q < pc then 16 * sr q + sT q else 16 * r + s % 16)
            · intro q hq
              split
              · rename_i c
                have := h3 q c
                omega
              · omega
            · intro q q' hqq hq'
              rw [if_pos (by omega)]
              split
              · rename_i c; exact h4 q q' hqq c
              · exact hnew q (by omega)
          have hbr := hb r
          have hor := or16 (show s % 16 < 16 by omega) hbr.2.2.2.1
          rw [if_pos (by rw [l_640]; exact nI_lt (by omega) (by decide)), if_neg (nI_in (by omega) (by decide)), if_neg (nI_in (by omega) (by decide)), nI_clamp (by omega), fa_or, stand_c, stand_c, sure_c hbr.2.2.2.2.1, nI_1, n_upd, n_upd]
          obtain ⟨sc1, sd1, il1, g1, g2, g3, g4⟩ := addStand_c h1 (s := 16 * to r + (s % 16 ||| gi r)) (by omega)
          rw [g1, Option.bind_some]
          dsimp only
          have fin : ∀ (sc2 : Nat) (sd2 : Nat → Nat) (il2 : Nat → Int32), i_l sc2 sd2 il2 → ext sc sd sc2 sd2 → lst sc2 sd2 (16 * to r + (s % 16 ||| gi r)) → (od r ≠ 8 → lst sc2 sd2 (16 * fa r + s % 16)) → i_s rn gr gt fr to ne gi od fa br i (r + 1) sc2 (pc + 1) sd2 (nu sr pc r) (nu sT pc (s % 16)) il2 := by
            intro sc2 sd2 il2 j1 j2 j3 j4
            obtain ⟨k1, k2, k3, k4, k5, k6⟩ := i_s_ext hisc hi j2 j1
            refine ⟨j1, hpc, ?_, ?_, ?_, ?_⟩
            · intro q hq
              by_cases c : q = pc
              · rw [c, nu_s, nu_s, hst]
                exact ⟨by omega, by omega, hop, hmet, ⟨i, .inr ⟨rfl, by omega⟩, Nat.lt_of_lt_of_le hisc j2.1, (j2.2 i hisc).trans hsd⟩, j3, j4⟩
              · rw [nu_n _ _ c, nu_n _ _ c]
                obtain ⟨a1, a2, a3, a4, ⟨i', a5, a6⟩, a8⟩ := k3 q (by omega)
                exact ⟨a1, a2, a3, a4, ⟨i', by omega, a6⟩, a8⟩
            · intro q q' hqq hq'
              rw [nu_n _ _ (show q ≠ pc by omega), nu_n _ _ (show q ≠ pc by omega)]
              by_cases c : q' = pc
              · rw [c, nu_s, nu_s]; exact hnew q (by omega)
              · rw [nu_n _ _ c, nu_n _ _ c]; exact k4 q q' hqq (by omega)
            · intro i' hi' hs' hm' r' hr' hor'
              obtain ⟨q, b1, b2, b3⟩ := k5 i' hi' hs' hm' r' hr' hor'
              exact ⟨q, by omega, by rw [nu_n _ _ (by omega)]; exact b2, by rw [nu_n _ _ (by omega)]; exact b3⟩
            · intro c1 c2 r' hr' hr2 hor'
              by_cases c : r' = r
              · refine ⟨pc, by omega, ?_, ?_⟩
                · rw [nu_s, c]
                · rw [nu_s, j2.2 i hisc, hsd]
              · obtain ⟨q, b1, b2, b3⟩ := k6 c1 c2 r' (by omega) hr2 hor'
                exact ⟨q, by omega, by rw [nu_n _ _ (by omega)]; exact b2, by rw [nu_n _ _ (by omega)]; exact b3⟩
          by_cases q8 : od r = 8
          · rw [b01_t (by simp [q8]), if_neg n10]
            obtain ⟨a, b, c, d, f, g, t1, t2, t3⟩ := ih (r + 1) sc1 (pc + 1) sd1 (nu sr pc r) (nu sT pc (s % 16)) il1 (fin _ _ _ g2 g3 g4 (fun h => absurd q8 h)) (Nat.lt_of_lt_of_le hisc g3.1) ((g3.2 i hisc).trans hsd) (by omega) (by omega)
            exact ⟨a, b, c, d, f, g, t1, t2, ext_t g3 t3⟩
          · rw [b01_f (by simp [q8]), if_pos rfl]
            obtain ⟨sc2, sd2, il2, f1, f2, f3, f4⟩ := addStand_c g2 (s := 16 * fa r + s % 16) (by omega)
            rw [f1, Option.bind_some]
            dsimp only
            obtain ⟨a, b, c, d, f, g, t1, t2, t3⟩ := ih (r + 1) sc2 (pc + 1) sd2 (nu sr pc r) (nu sT pc (s % 16)) il2 (fin _ _ _ f2 (ext_t g3 f3) (lst_e f3 g4) (fun _ => f4)) (Nat.lt_of_lt_of_le hisc (ext_t g3 f3).1) (((ext_t g3 f3).2 i hisc).trans hsd) (by omega) (by omega)
            exact ⟨a, b, c, d, f, g, t1, t2, ext_t (ext_t g3 f3) t3⟩
      · rw [b01_t rfl, if_neg (show ¬ (1 : Int32) = 0 by decide)]
        obtain ⟨h1, h2, h3, h4, h5, h6⟩ := hi
        refine ⟨sc, pc, sd, sr, sT, il, rfl, ⟨h1, h2, ?_, h4, h5, ?_⟩, ext_r⟩
        · intro q hq
          obtain ⟨a1, a2, a3, a4, ⟨i', a5, a6⟩, a8⟩ := h3 q hq
          exact ⟨a1, a2, a3, a4, ⟨i', by omega, a6⟩, a8⟩
        · intro c1 c2
          rw [hsd, hmet] at c2; exact absurd c2 (by decide)
theorem i_s_next {rn gr gt : Nat} {fr to ne gi od fa br : Nat → Nat} {i sc pc : Nat} {sd sr sT : Nat → Nat} {il : Nat → Int32} (hi : i < sc) (h : i_s rn gr gt fr to ne gi od fa br i rn sc pc sd sr sT il) : i_s rn gr gt fr to ne gi od fa br (i + 1) 0 sc pc sd sr sT il := by
  obtain ⟨h1, h2, h3, h4, h5, h6⟩ := h
  refine ⟨h1, h2, ?_, h4, ?_, fun _ _ r' hr' => by omega⟩
  · intro q hq
    obtain ⟨a1, a2, a3, a4, ⟨i', a5, a6⟩, a8⟩ := h3 q hq
    exact ⟨a1, a2, a3, a4, ⟨i', by omega, a6⟩, a8⟩
  · intro i' hi' hs' hm r' hr' ho
    by_cases c : i' = i
    · subst c; exact h6 hi hm r' hr' hr' ho
    · exact h5 i' (by omega) hs' hm r' hr' ho
theorem list_l {F : Nat} (hF : 10000000 ≤ F) {rn gr gt : Nat} {fr to ne gi od fa br : Nat → Nat} {pr : Nat} (hn : rn ≤ 40) (hgr : gr < 10) (hgt : gt < 16) (hb : ∀ j, fr j < 10 ∧ to j < 10 ∧ ne j < 16 ∧ gi j < 16 ∧ od j ≤ 8 ∧ fa j < 10 ∧ br j ≤ 1) (x1 kn : Int32) : ∀ (m i sc pc : Nat) (sd sr sT : Nat → Nat) (il : Nat → Int32), i_s rn gr gt fr to ne gi od fa br i 0 sc pc sd sr sT il → i ≤ sc → 160 - i < m →
    ∃ sc' pc' sd' sr' sT' il', m_X2_listFrom_b43 F (nI rn) (nI gr) (nI gt) (nI pr) (fun j => nI (fr j)) (fun j => nI (to j)) (fun j => nI (ne j)) (fun j => nI (gi j)) (fun j => nI (od j)) (fun j => nI (fa j)) (fun j => nI (br j)) x1 m kn (nI sc) (nI pc) (fun j => nI (sd j)) il (fun j => nI (sr j)) (fun j => nI (sT j)) (nI i) = some (kn, nI sc', nI pc', (fun j => nI (sd' j)), il', (fun j => nI (sr' j)), (fun j => nI (sT' j))) ∧ i_s rn gr gt fr to ne gi od fa br sc' 0 sc' pc' sd' sr' sT' il' ∧ ext sc sd sc' sd' := by
  intro m
  induction m with
  | zero => intro i sc pc sd sr sT il _ _ h; omega
  | succ m ih =>
    intro i sc pc sd sr sT il hi hisc hm
    have h160 := hi.1.1
    unfold m_X2_listFrom_b43
    by_cases e : i = sc
    · subst e
      exact ⟨i, pc, sd, sr, sT, il, by rw [if_pos (nI_le (by omega) (by omega))], hi, ext_r⟩
    · have hs := hi.1.2.1 i (by omega)
      obtain ⟨a, b, c, d, f, g, t1, t2, t3⟩ := steps_l (F := F) hn hgr hgt hb (i := i) hs F 0 sc pc sd sr sT il hi (by omega) rfl (by omega) (by omega)
      obtain ⟨a', b', c', d', f', g', u1, u2, u3⟩ := ih (i + 1) a b c d f g (i_s_next (Nat.lt_of_lt_of_le (by omega) t3.1) t2) (by have := t3.1; omega) (by omega)
      refine ⟨a', b', c', d', f', g', ?_, u2, ext_t t3 u3⟩
      unfold m_X2_listSteps
      rw [if_neg (nI_ge (by omega) (by omega)), if_neg (by rw [l_160]; exact nI_ge (by omega) (by decide)), if_neg (nI_in (by omega) (by decide)), if_neg (nI_in (by omega) (by decide)), nI_clamp (by omega), rem16 hs, div16 hs]
      rw [show (0 : Int32) = nI 0 from rfl, t1, Option.bind_some]
      dsimp only
      rw [nI_1]
      exact u1
