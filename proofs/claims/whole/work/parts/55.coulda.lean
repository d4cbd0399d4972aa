/-! could: the splits done, and one tick of a set of cells -/
def gok (sc sa sb : Nat → Nat) (c t s : Nat) : Bool := decide (sc s = c ∧ sa s ≤ t ∧ t ≤ sb s)
def gs (sc sa sb : Nat → Nat) (c t : Nat) : Nat → Nat → Nat
  | 0, d => d
  | s + 1, d => if gs sc sa sb c t s d = s ∧ gok sc sa sb c t s = true then s + 1 else gs sc sa sb c t s d
theorem gs_hi {sc sa sb : Nat → Nat} {c t d : Nat} : ∀ {s : Nat}, s ≤ d → gs sc sa sb c t s d = d
  | 0, _ => rfl
  | s + 1, h => by
    have := gs_hi (sc := sc) (sa := sa) (sb := sb) (c := c) (t := t) (d := d) (s := s) (by omega)
    unfold gs
    rw [this, if_neg (fun e => by omega)]
theorem gs_ge {sc sa sb : Nat → Nat} {c t d : Nat} : ∀ {s : Nat}, d ≤ gs sc sa sb c t s d
  | 0 => Nat.le_refl _
  | s + 1 => by
    have := gs_ge (sc := sc) (sa := sa) (sb := sb) (c := c) (t := t) (d := d) (s := s)
    unfold gs
    split <;> omega
theorem gs_ub {sc sa sb : Nat → Nat} {c t d m : Nat} (hd : d ≤ m) : ∀ {s : Nat}, s ≤ m → gs sc sa sb c t s d ≤ m
  | 0, _ => hd
  | s + 1, h => by
    have := gs_ub (sc := sc) (sa := sa) (sb := sb) (c := c) (t := t) hd (s := s) (by omega)
    unfold gs
    split <;> omega
theorem gs_no {sc sa sb : Nat → Nat} {c t d : Nat} (h : gok sc sa sb c t d = false) : ∀ {s : Nat}, gs sc sa sb c t s d = d
  | 0 => rfl
  | s + 1 => by
    have := gs_no h (s := s)
    unfold gs
    rw [this, if_neg (fun e => by rw [e.1] at h; rw [h] at e; exact absurd e.2 (by decide))]
theorem gs_up {sc sa sb : Nat → Nat} {c t d s : Nat} : gs sc sa sb c t s d ≤ gs sc sa sb c t (s + 1) d := by
  show _ ≤ (if gs sc sa sb c t s d = s ∧ gok sc sa sb c t s = true then s + 1 else gs sc sa sb c t s d)
  split <;> omega
theorem gs_ups {sc sa sb : Nat → Nat} {c t d s : Nat} : ∀ {k : Nat}, gs sc sa sb c t s d ≤ gs sc sa sb c t (s + k) d
  | 0 => Nat.le_refl _
  | k + 1 => Nat.le_trans (gs_ups (k := k)) gs_up
theorem gs_yes {sc sa sb : Nat → Nat} {c t d : Nat} (h : gok sc sa sb c t d = true) : ∀ {k : Nat}, gs sc sa sb c t (d + 1 + k) d = gs sc sa sb c t (d + 1 + k) (d + 1)
  | 0 => by
    rw [Nat.add_zero, gs_hi (Nat.le_refl _)]
    show (if gs sc sa sb c t d d = d ∧ gok sc sa sb c t d = true then d + 1 else gs sc sa sb c t d d) = _
    rw [if_pos ⟨gs_hi (Nat.le_refl _), h⟩]
  | k + 1 => by
    have := gs_yes h (k := k)
    show (if gs sc sa sb c t (d + 1 + k) d = d + 1 + k ∧ _ then _ else gs sc sa sb c t (d + 1 + k) d) = (if gs sc sa sb c t (d + 1 + k) (d + 1) = d + 1 + k ∧ _ then _ else gs sc sa sb c t (d + 1 + k) (d + 1))
    simp only [this]
/-- what has been done by more than before could be done -/
theorem gs_more {sc sa sb : Nat → Nat} {c t d s : Nat} (h : gs sc sa sb c t s d ≠ d) : d < s ∧ gok sc sa sb c t d = true := by
  constructor
  · false_or_by_contra
    exact h (gs_hi (by omega))
  · cases q : gok sc sa sb c t d
    · exact absurd (gs_no q) h
    · rfl
theorem so_r {F : Nat} {sn c t : Nat} {sc sa sb : Nat → Nat} (hs : sn ≤ 5) (h1 : ∀ j, sc j < 64) (h2 : ∀ j, sa j ≤ 200) (h3 : ∀ j, sb j ≤ 200) (hc : c < 64) (ht : t ≤ 201) (x1 : Int32) : ∀ (m d : Nat), d ≤ sn → sn - d < m →
    m_X8_so_b3 F (nI sn) (fun j => nI (sc j)) (fun j => nI (sa j)) (fun j => nI (sb j)) x1 (nI c) (nI t) m (nI d) = some (nI (gs sc sa sb c t sn d)) := by
  intro m
  induction m with
  | zero => intro d _ h; omega
  | succ m ih =>
    intro d hd hm
    unfold m_X8_so_b3
    by_cases e : d = sn
    · rw [if_pos (nI_le (by omega) (by omega)), gs_hi (by omega)]
    · have a1 := h1 d
      have a2 := h2 d
      have a3 := h3 d
      have hin := nI_in (c := d) (N := 5) (by omega) (by decide)
      rw [if_neg (nI_ge (by omega) (by omega)), if_neg hin, if_neg hin, if_neg hin, nI_clamp (by omega), nI_1]
      simp (disch := omega) only [nI_eq, nI_ltI]
      by_cases c1 : sc d = c
      · rw [if_pos c1]
        by_cases c2 : t < sa d
        · rw [if_pos c2, gs_no (by unfold gok; simp only [decide_eq_false_iff_not]; omega)]
        · rw [if_neg c2]
          by_cases c3 : sb d < t
          · rw [if_pos c3, gs_no (by unfold gok; simp only [decide_eq_false_iff_not]; omega)]
          · have hk : gok sc sa sb c t d = true := by unfold gok; simp only [decide_eq_true_eq]; omega
            rw [if_neg c3, ih (d + 1) (by omega) (by omega)]
            have := gs_yes hk (k := sn - (d + 1))
            rw [show d + 1 + (sn - (d + 1)) = sn by omega] at this
            rw [this]
      · rw [if_neg c1, gs_no (by unfold gok; simp only [decide_eq_false_iff_not]; omega)]
theorem lg0 (x : Int64) : lg_cmp x 0 = 0 ↔ x = 0 := by
  unfold lg_cmp
  by_cases h : x = 0
  · rw [h]; exact ⟨fun _ => rfl, fun _ => by decide⟩
  · by_cases q : x > 0
    · rw [if_pos q]; exact ⟨fun e => absurd e (by decide), fun e => absurd e h⟩
    · rw [if_neg q, if_neg h]; exact ⟨fun e => absurd e (by decide), fun e => absurd e h⟩
def mv (c c' : Nat) : Prop := c = 8 + c' ∨ (8 ≤ c' ∧ c = c' - 8) ∨ (1 ≤ c' ∧ c = c' - 1 ∧ c % 8 ≠ 7) ∨ (c = 1 + c' ∧ c % 8 ≠ 0)
theorem mv_iff {w h rl : Nat} {ki ro : Nat → Nat} (hg : g_ok w h rl ki ro) {c c' k : Nat} (hc : g_b w h c) : (∃ p, p < 5 ∧ c' = g_to w h ki c k p) ↔ (c' = c ∨ (mv c c' ∧ g_b w h c' ∧ g_lets (ki c') k = true)) := by
  have hg' := hg
  obtain ⟨⟨w1, w2⟩, ⟨h1, h2⟩, r1, k1, r2⟩ := hg'
  have hc' := hc
  obtain ⟨a1, a2⟩ := hc'
  constructor
  · rintro ⟨p, hp, e⟩
    have hb := g_to_b (k := k) (p := p) hg hc
    rw [← e] at hb
    unfold g_to at e
    split at e
    · rename_i q
      simp only [g_on, Bool.and_eq_true, decide_eq_true_eq] at q
      obtain ⟨⟨c1, c2, c3, c4⟩, c5⟩ := q
      rw [← e] at c5
      unfold g_cd at e
      by_cases p0 : p = 0
      · left; rw [e, if_neg (by omega), if_neg (by omega), if_neg (by omega), if_neg (by omega)]
      · right
        refine ⟨?_, hb, c5⟩
        unfold mv
        rcases (by omega : p = 1 ∨ p = 2 ∨ p = 3 ∨ p = 4) with rfl | rfl | rfl | rfl
        · have := c1 rfl; rw [if_pos rfl] at e; omega
        · have := c2 rfl; rw [if_neg (by omega), if_pos rfl] at e; omega
        · have := c3 rfl; rw [if_neg (by omega), if_neg (by omega), if_pos rfl] at e; omega
        · have := c4 rfl; rw [if_neg (by omega), if_neg (by omega), if_neg (by omega), if_pos rfl] at e; omega
    · exact .inl e
  · rintro (e | ⟨e, hb, hl⟩)
    · refine ⟨0, by omega, ?_⟩
      have e0 : g_cd c 0 = c := rfl
      unfold g_to
      rw [e0, e]
      split <;> rfl
    · obtain ⟨b1, b2⟩ := hb
      have key : ∀ p, p < 5 → g_cd c p = c' → g_on w h c p = true → c' = g_to w h ki c k p := by
        intro p _ e1 e2
        unfold g_to
        rw [e1, e2, hl]; rfl
      rcases e with e | ⟨e, e'⟩ | ⟨e, e', e''⟩ | ⟨e, e'⟩
      · exact ⟨1, by omega, key 1 (by omega) (by show c - 8 = c'; omega) (by simp only [g_on, decide_eq_true_eq]; omega)⟩
      · exact ⟨3, by omega, key 3 (by omega) (by show c + 8 = c'; omega) (by simp only [g_on, decide_eq_true_eq]; omega)⟩
      · exact ⟨2, by omega, key 2 (by omega) (by show c + 1 = c'; omega) (by simp only [g_on, decide_eq_true_eq]; omega)⟩
      · exact ⟨4, by omega, key 4 (by omega) (by show c - 1 = c'; omega) (by simp only [g_on, decide_eq_true_eq]; omega)⟩
theorem moved_c {opn : Nat → Int64} (fm : Int64) {k : Nat} (hk : k < 8) : ∃ v, m_X0_allMoved opn fm (nI k) = some v ∧ ∀ c', c' < 64 → (bL v c' ↔ (bL (opn k) c' ∧ ∃ c, c < 64 ∧ bL fm c ∧ mv c c')) := by
  unfold m_X0_allMoved
  rw [if_neg (nI_pos (by omega)), if_pos (by rw [l_8]; exact nI_lt hk (by decide)), if_neg (nI_in hk (by decide)), nI_clamp (by omega)]
  refine ⟨_, rfl, fun c' hc' => ?_⟩
  rw [bL_and, bL_or, bL_or, bL_or, bL_shr8, bL_shl8 _ _ hc', bL_shl1 _ _ hc', bL_shr1, bL_and, bL_and]
  have hL : ∀ c, c < 64 → (bL (9187201950435737471 : Int64) c ↔ c % 8 ≠ 7) := bL_notlast
  have hF : ∀ c, c < 64 → (bL (-72340172838076674 : Int64) c ↔ c % 8 ≠ 0) := bL_notfirst
  constructor
  · rintro ⟨h1, h2⟩
    refine ⟨h2, ?_⟩
    rcases h1 with (h1 | ⟨h1, h1'⟩) | (⟨h1, h1', h1''⟩ | ⟨h1, h1'⟩)
    · exact ⟨8 + c', (by false_or_by_contra; exact bL_big (by omega) h1), h1, .inl rfl⟩
    · exact ⟨c' - 8, by omega, h1', .inr (.inl ⟨h1, rfl⟩)⟩
    · exact ⟨c' - 1, by omega, h1', .inr (.inr (.inl ⟨h1, rfl, (hL _ (by omega)).mp h1''⟩))⟩
    · have : 1 + c' < 64 := by false_or_by_contra; exact bL_big (by omega) h1
      exact ⟨1 + c', this, h1, .inr (.inr (.inr ⟨rfl, (hF _ this).mp h1'⟩))⟩
  · rintro ⟨h2, c, hc, h1, e | ⟨e, e'⟩ | ⟨e, e', e''⟩ | ⟨e, e'⟩⟩
    · subst e; exact ⟨.inl (.inl h1), h2⟩
    · subst e'; exact ⟨.inl (.inr ⟨e, h1⟩), h2⟩
    · subst e'; exact ⟨.inr (.inl ⟨e, h1, (hL _ hc).mpr e''⟩), h2⟩
    · subst e; exact ⟨.inr (.inr ⟨h1, (hF _ hc).mpr e'⟩), h2⟩
theorem after_set {w h rl : Nat} {ki ro : Nat → Nat} (hg : g_ok w h rl ki ro) {opn kyc : Nat → Int64} {gc : Int64} (hi : i_g w h ki opn kyc gc) {fm : Int64} (hfm : ∀ c, c < 64 → bL fm c → g_b w h c) {k t : Nat} (hk : k < 8) (ht : t + 1 < 2 ^ 31) :
    ∃ T, m_X0_allAfter (nI rl) opn (fun j => nI (ro j)) fm (nI k) (nI t) = some T ∧ ∀ c', c' < 64 → (bL T c' ↔ ∃ c p, c < 64 ∧ p < 5 ∧ bL fm c ∧ c' = g_to w h ki c k p ∧ g_ct rl ro c c' t = false) := by
  have hr := hg.2.2.1
  have hopn : ∀ c, c < 64 → (bL (opn k) c ↔ (g_b w h c ∧ g_lets (ki c) k = true)) := hi.1 k hk
  unfold m_X0_allAfter
  by_cases h0 : rl = 0
  · obtain ⟨v, v1, v2⟩ := moved_c (opn := opn) fm hk
    refine ⟨fm ||| v, ?_, fun c' hc' => ?_⟩
    · rw [if_pos (show nI rl = 0 by rw [h0]; rfl), v1, Option.bind_some]
    · have hct : ∀ c, g_ct rl ro c c' t = false := by
        intro c; unfold g_ct; simp only [decide_eq_false_iff_not]; exact fun e => e.1 h0
      rw [bL_or, v2 c' hc', hopn c' hc']
      constructor
      · rintro (q | ⟨q1, c, hc, q2, q3⟩)
        · obtain ⟨p, hp, e⟩ := (mv_iff (k := k) hg (hfm c' hc' q)).mpr (.inl rfl)
          exact ⟨c', p, hc', hp, q, e, hct _⟩
        · obtain ⟨p, hp, e⟩ := (mv_iff (k := k) hg (hfm c hc q2)).mpr (.inr ⟨q3, q1⟩)
          exact ⟨c, p, hc, hp, q2, e, hct _⟩
      · rintro ⟨c, p, hc, hp, q, e, -⟩
        rcases (mv_iff (k := k) hg (hfm c hc q)).mp ⟨p, hp, e⟩ with e' | e'
        · left; rw [e']; exact q
        · exact .inr ⟨e'.2, c, hc, q, e'.1⟩
  · have f1 := hg.2.2.2.2 (t % rl)
    have f2 := hg.2.2.2.2 ((t + 1) % rl)
    rw [if_neg (nI_ne0 (by omega) (by omega)), nI_1, g_foe_c hr (by omega), g_foe_c hr (by omega), if_neg h0, if_neg h0, Option.bind_some, Option.bind_some]
    obtain ⟨v, v1, v2⟩ := moved_c (opn := opn) (fm &&& (((1 : Int64) <<< ((nI (ro ((t + 1) % rl))).toInt64 &&& 63)) ^^^ (-1))) hk
    obtain ⟨u, u1, u2⟩ := moved_c (opn := opn) (fm &&& ((1 : Int64) <<< ((nI (ro ((t + 1) % rl))).toInt64 &&& 63))) hk
    rw [v1, u1, Option.bind_some, Option.bind_some]
    refine ⟨_, rfl, fun c' hc' => ?_⟩
    rw [bL_and, bL_or, bL_or, bL_and, bL_not _ hc', bL_not _ hc', bL_one f1, bL_one f2, v2 c' hc', u2 c' hc', hopn c' hc']
    have hct : ∀ c, g_ct rl ro c c' t = false ↔ ¬ (c' = ro ((t + 1) % rl) ∨ (c' = ro (t % rl) ∧ c = ro ((t + 1) % rl))) := by
      intro c; unfold g_ct; simp only [decide_eq_false_iff_not]
      exact ⟨fun e q => e ⟨h0, q⟩, fun e q => e q.2⟩
    constructor
    · rintro ⟨(q | ⟨q1, c, hc, q2, q3⟩) | ⟨⟨q1, c, hc, q2, q3⟩, q4⟩, qn⟩
      · obtain ⟨p, hp, e⟩ := (mv_iff (k := k) hg (hfm c' hc' q)).mpr (.inl rfl)
        refine ⟨c', p, hc', hp, q, e, (hct _).mpr ?_⟩
        rintro (z | z)
        · exact qn z
        · exact qn z.2
      · rw [bL_and, bL_not _ hc, bL_one f2] at q2
        obtain ⟨p, hp, e⟩ := (mv_iff (k := k) hg (hfm c hc q2.1)).mpr (.inr ⟨q3, q1⟩)
        refine ⟨c, p, hc, hp, q2.1, e, (hct _).mpr ?_⟩
        rintro (z | z)
        · exact qn z
        · exact q2.2 z.2
      · rw [bL_and, bL_one f2] at q2
        obtain ⟨p, hp, e⟩ := (mv_iff (k := k) hg (hfm c hc q2.1)).mpr (.inr ⟨q3, q1⟩)
        refine ⟨c, p, hc, hp, q2.1, e, (hct _).mpr ?_⟩
        rintro (z | z)
        · exact qn z
        · exact q4 z.1
    · rintro ⟨c, p, hc, hp, q, e, hcc⟩
      have hcc := (hct c).mp hcc
      refine ⟨?_, fun z => hcc (.inl z)⟩
      rcases (mv_iff (k := k) hg (hfm c hc q)).mp ⟨p, hp, e⟩ with e' | e'
      · left; left; rw [e']; exact q
      · by_cases z : c = ro ((t + 1) % rl)
        · right
          refine ⟨⟨e'.2, c, hc, ?_, e'.1⟩, fun y => hcc (.inr ⟨y, z⟩)⟩
          rw [bL_and, bL_one f2]; exact ⟨q, z⟩
        · left; right
          refine ⟨e'.2, c, hc, ?_, e'.1⟩
          rw [bL_and, bL_not _ hc, bL_one f2]; exact ⟨q, z⟩
/-- the runners arrive: with the key of the cell, if there is one -/
theorem arrive_c {F : Nat} {w h : Nat} {ki : Nat → Nat} {opn kyc : Nat → Int64} {gc : Int64} (hi : i_g w h ki opn kyc gc) (hki : ∀ j, ki j ≤ 8) (hF : 10000000 ≤ F) {d k : Nat} (hd : d < 5) (hk : k < 8) (T : Int64) (A : Nat → Int64) :
    ∃ A', m_X6_arrive F kyc T (nI d) (nI k) A = some A' ∧ ∀ x c, c < 64 → (bL (A' x) c ↔ (bL (A x) c ∨ (bL T c ∧ x = 8 * d + g_ky (ki c) k))) := by
  obtain ⟨-, hky, -⟩ := hi
  obtain ⟨G, hG⟩ : ∃ G, F = G + 4 := ⟨F - 4, by omega⟩
  have k0 := hky 0 (by omega)
  have k1 := hky 1 (by omega)
  have k2 := hky 2 (by omega)
  have hor : ∀ k, k < 8 → ∀ j, j < 3 → (nI k ||| ((1 : Int32) <<< (nI j &&& 31))) = nI (g_ky (j + 2) k) := by decide +kernel
  have hlt : ∀ j, j < 3 → g_ky (j + 2) k < 8 := fun j hj => g_ky_lt (j + 2) (by omega) k hk
  have ix : ∀ y, y < 8 → nI d * (8 : Int32) + nI y = nI (8 * d + y) := by
    intro y _; rw [l_8, pk_mul, nI_add]; congr 1; omega
  have l0 := hlt 0 (by omega)
  have l1 := hlt 1 (by omega)
  have l2 := hlt 2 (by omega)
  have step : ∀ (j n : Nat) (B : Nat → Int64) (v : Int64), j < 3 → m_X6_arrive_b6 F kyc T (nI d) (nI k) (n + 1) B v (nI j) = m_X6_arrive_b6 F kyc T (nI d) (nI k) n (vp_updL B (8 * d + g_ky (j + 2) k) (B (8 * d + g_ky (j + 2) k) ||| (T &&& kyc j))) (v &&& ((T &&& kyc j) ^^^ (-1))) (nI (j + 1)) := by
    intro j n B v hj
    have := hlt j hj
    rw [m_X6_arrive_b6]
    rw [if_neg (by rw [l_3]; exact nI_ge (by omega) (by decide)), if_neg (nI_in hj (by decide)), hor k hk j hj, ix _ this, if_neg (nI_in (by omega) (by decide)), if_neg (nI_in (by omega) (by decide)), nI_clamp (n := j) (by omega), nI_clamp (n := 8 * d + g_ky (j + 2) k) (by omega), nI_1]
  have fin : ∀ (n : Nat) (B : Nat → Int64) (v : Int64), m_X6_arrive_b6 F kyc T (nI d) (nI k) (n + 1) B v (nI 3) = some (vp_updL B (8 * d + k) (B (8 * d + k) ||| v)) := by
    intro n B v
    rw [m_X6_arrive_b6]
    unfold m_X6_arrive_b63
    rw [if_pos (by decide), ix k hk, if_neg (nI_in (by omega) (by decide)), if_neg (nI_in (by omega) (by decide)), nI_clamp (by omega)]
  have upb : ∀ (B : Nat → Int64) (y : Nat) (v : Int64) (x c : Nat), bL (vp_updL B y (B y ||| v) x) c ↔ (bL (B x) c ∨ (x = y ∧ bL v c)) := by
    intro B y v x c
    by_cases q : x = y
    · subst q
      rw [pk_uLs, bL_or]
      exact ⟨fun h => h.elim .inl (fun h => .inr ⟨rfl, h⟩), fun h => h.elim .inl (fun h => .inr h.2)⟩
    · rw [pk_uLn q]
      exact ⟨.inl, fun h => h.elim id (fun h => absurd h.1 q)⟩
  unfold m_X6_arrive
  have e := step 0 (G + 3) A T (by omega)
  rw [step 1 (G + 2) _ _ (by omega), step 2 (G + 1) _ _ (by omega), fin G] at e
  rw [show (0 : Int32) = nI 0 from rfl]
  have hG' : G + 3 + 1 = F := by omega
  rw [hG'] at e
  refine ⟨_, e, fun x c hc => ?_⟩
  rw [upb, upb, upb, upb, bL_and, bL_and, bL_and, bL_and, bL_and, bL_and, bL_not _ hc, bL_not _ hc, bL_not _ hc, bL_and, bL_and, bL_and, k0 c hc, k1 c hc, k2 c hc]
  have hkc := hki c
  have g0 : ki c ≠ 2 → ki c ≠ 3 → ki c ≠ 4 → g_ky (ki c) k = k := by
    intro a b d; unfold g_ky; rw [if_neg (by omega)]
  by_cases q2 : ki c = 2
  · rw [q2]
    constructor
    · rintro ((((z | z) | z) | z) | z)
      · exact .inl z
      · exact .inr ⟨z.2.1, z.1⟩
      · omega
      · omega
      · exact absurd z.2.1.1.2 (fun y => y ⟨z.2.1.1.1, by omega⟩)
    · rintro (z | z)
      · exact .inl (.inl (.inl (.inl z)))
      · exact .inl (.inl (.inl (.inr ⟨z.2, z.1, by omega⟩)))
  · by_cases q3 : ki c = 3
    · rw [q3]
      constructor
      · rintro ((((z | z) | z) | z) | z)
        · exact .inl z
        · omega
        · exact .inr ⟨z.2.1, z.1⟩
        · omega
        · exact absurd z.2.1.2 (fun y => y ⟨z.2.1.1.1, by omega⟩)
      · rintro (z | z)
        · exact .inl (.inl (.inl (.inl z)))
        · exact .inl (.inl (.inr ⟨z.2, z.1, by omega⟩))
    · by_cases q4 : ki c = 4
      · rw [q4]
        constructor
        · rintro ((((z | z) | z) | z) | z)
          · exact .inl z
          · omega
          · omega
          · exact .inr ⟨z.2.1, z.1⟩
          · exact absurd z.2.2 (fun y => y ⟨z.2.1.1.1, by omega⟩)
        · rintro (z | z)
          · exact .inl (.inl (.inl (.inl z)))
          · exact .inl (.inr ⟨z.2, z.1, by omega⟩)
      · rw [g0 q2 q3 q4]
        constructor
        · rintro ((((z | z) | z) | z) | z)
          · exact .inl z
          · omega
          · omega
          · omega
          · exact .inr ⟨z.2.1.1.1, z.1⟩
        · rintro (z | z)
          · exact .inl (.inl (.inl (.inl z)))
          · exact .inr ⟨z.2, ⟨⟨z.1, fun y => q2 (by omega)⟩, fun y => q3 (by omega)⟩, fun y => q4 (by omega)⟩
