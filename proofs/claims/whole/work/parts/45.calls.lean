/-! the easy calls, of class and reference -/
def i_r (w h a k t ov : Nat) : Prop := g_b w h a ∧ k < 8 ∧ t ≤ 500 ∧ ov < 3
theorem b_board {F : Nat} (hF : 10000000 ≤ F) {w h rl st : Nat} {ki : Nat → Nat} {opn kyc : Nat → Int64} {gc : Int64} (x1 x2 : Int32) (sp ov t cn sn at_ ks tk o2 : Int32) (ik : Nat → Int32) :
    (m_X7_board F x1 x2 gc (nI w) (nI h) (nI rl) (nI st) (fun j => nI (ki j)) opn kyc sp ov t ik cn sn = some (0, gc, nI w, nI h, nI rl, nI st, (fun j => nI (ki j)), opn, kyc, sp, ov, t, ik, cn, sn) ∧
      m_X8_board F x1 x2 (nI w) (nI h) (nI rl) (nI st) at_ ks tk o2 cn sn (fun j => nI (ki j)) ik = some (0, nI w, nI h, nI rl, nI st, at_, ks, tk, o2, cn, sn, (fun j => nI (ki j)), ik)) ∨
    ∃ w' h' ki' opn' kyc', (2 ≤ w' ∧ w' ≤ 8) ∧ (2 ≤ h' ∧ h' ≤ 8) ∧ (∀ j, ki' j = if j < 64 then 0 else ki j) ∧ i_g w' h' ki' opn' kyc' 0 ∧
      m_X7_board F x1 x2 gc (nI w) (nI h) (nI rl) (nI st) (fun j => nI (ki j)) opn kyc sp ov t ik cn sn = some (1, 0, nI w', nI h', nI 0, nI 0, (fun j => nI (ki' j)), opn', kyc', nI 0, nI 0, nI 0, z4 ik, nI 0, nI 0) ∧
      m_X8_board F x1 x2 (nI w) (nI h) (nI rl) (nI st) at_ ks tk o2 cn sn (fun j => nI (ki j)) ik = some (1, nI w', nI h', nI 0, nI 0, nI 0, nI 0, nI 0, nI 0, nI 0, nI 0, (fun j => nI (ki' j)), z4 ik) := by
  have hb41 : ∀ (a b : Int32) (cw ch c1 c2 c3 c4 c5 c6 c7 c8 : Int32) (m k : Nat) (f : Nat → Nat), k ≤ 64 → 64 - k < m → m_X8_board_b41 F a b m cw ch c1 c2 c3 c4 c5 c6 c7 c8 (fun j => nI (f j)) ik (nI k) = some (1, cw, ch, nI 0, nI 0, nI 0, nI 0, nI 0, nI 0, nI 0, nI 0, (fun j => nI (if k ≤ j ∧ j < 64 then 0 else f j)), z4 ik) := by
    intro a b cw ch c1 c2 c3 c4 c5 c6 c7 c8 m
    induction m with
    | zero => intro k f _ h; omega
    | succ m ih =>
      intro k f hk hm
      unfold m_X8_board_b41 m_X8_board_b60
      by_cases e : k = 64
      · simp (disch := omega) only [change_r hF, l_0, l_1, l_2, l_3, l_4, l_5, l_6, l_7, l_8, l_9, l_15, l_16, l_31, l_39, l_40, l_48, l_63, l_64, l_100, l_159, l_160, l_200, l_300, l_400, l_499, l_500, l_512, l_640, l_2000, l_3072, l_3100, l_48160, l_1073741824, nI_add, pk_mul, n_sub, n_div, nI_ltI, nI_leI, nI_eq, nI_clamp, n_m1, n_m1a, n_eqm, n_meq, n_ltm, n_mlt, n_lem, n_mle, n_mlt0, n_mm, if_pos, if_neg, if_true, if_false]
        rfl
      · simp (disch := omega) only [change_r hF, l_0, l_1, l_2, l_3, l_4, l_5, l_6, l_7, l_8, l_9, l_15, l_16, l_31, l_39, l_40, l_48, l_63, l_64, l_100, l_159, l_160, l_200, l_300, l_400, l_499, l_500, l_512, l_640, l_2000, l_3072, l_3100, l_48160, l_1073741824, nI_add, pk_mul, n_sub, n_div, nI_ltI, nI_leI, nI_eq, nI_clamp, n_m1, n_m1a, n_eqm, n_meq, n_ltm, n_mlt, n_lem, n_mle, n_mlt0, n_mm, if_pos, if_neg, if_true, if_false, n_upd]
        rw [ih (k + 1) _ (by omega) (by omega)]
        congr 13; funext j
        by_cases q : j = k
        · subst q; rw [if_neg (by omega), nu_s, if_pos (by omega)]
        · rw [nu_n _ _ q]
          by_cases d : k + 1 ≤ j ∧ j < 64
          · rw [if_pos d, if_pos (by omega)]
          · rw [if_neg d, if_neg (by omega)]
  rcases size_any x1 with ⟨h1, h2⟩ | ⟨w', hw1, hw2, rfl, hw3⟩
  · left
    constructor
    · unfold m_X7_board; rw [if_pos h1]
    · unfold m_X8_board
      rcases h2 with h2 | h2
      · rw [if_pos h2]
      · by_cases q : x1 < 2
        · rw [if_pos q]
        · rw [if_neg q, if_pos h2]
  · have n1 : ¬ nI w' < 2 := by rw [l_2]; exact nI_nlt (by omega) (by omega)
    have n2 : ¬ 8 < nI w' := by rw [l_8]; exact nI_nlt (by omega) (by omega)
    rcases size_any x2 with ⟨h1, h2⟩ | ⟨h', hh1, hh2, rfl, hh3⟩
    · left
      constructor
      · unfold m_X7_board; rw [hw3, if_neg (show ¬ (1 : Int32) = 0 by decide), if_pos h1]
      · unfold m_X8_board
        rw [if_neg n1, if_neg n2]
        rcases h2 with h2 | h2
        · rw [if_pos h2]
        · by_cases q : x2 < 2
          · rw [if_pos q]
          · rw [if_neg q, if_neg (by rw [fa_lt] at h2; rw [fa_le]; omega)]
    · right
      obtain ⟨opn', kyc', e1, e2⟩ := lay_c (F := F) hw2 hh2 hF gc (nI w) (nI h) (nI rl) (nI st) ki opn kyc
      refine ⟨w', h', (fun j => if j < 64 then 0 else ki j), opn', kyc', ⟨hw1, hw2⟩, ⟨hh1, hh2⟩, fun j => rfl, e2, ?_, ?_⟩
      · unfold m_X7_board
        rw [hw3, if_neg (show ¬ (1 : Int32) = 0 by decide), hh3, if_neg (show ¬ (1 : Int32) = 0 by decide), e1, Option.bind_some]
        unfold m_X6_clear m_X3_clear
        rw [Option.bind_some, Option.bind_some, change_c hF, Option.bind_some]
        rfl
      · have n3 : ¬ nI h' < 2 := by rw [l_2]; exact nI_nlt (by omega) (by omega)
        have n4 : nI h' ≤ 8 := by rw [l_8]; exact nI_le (by omega) (by omega)
        unfold m_X8_board
        rw [if_neg n1, if_neg n2, if_neg n3, if_pos n4]
        refine (hb41 _ _ _ _ _ _ _ _ _ _ _ _ F 0 ki (by omega) (by omega)).trans ?_
        simp only [Nat.zero_le, true_and]
theorem b_cell {F : Nat} (hF : 10000000 ≤ F) {w h : Nat} (hw : w ≤ 8) (hh : h ≤ 8) {st : Nat} {ki : Nat → Nat} {opn kyc : Nat → Int64} {gc : Int64} (hi : i_g w h ki opn kyc gc) (x1 x2 x3 : Int32) (sp ov t at_ ks tk o2 : Int32) (ik : Nat → Int32) :
    (m_X7_cell F (nI w) (nI h) (nI st) x1 x2 x3 gc (fun j => nI (ki j)) opn kyc sp ov t ik = some (0, gc, (fun j => nI (ki j)), opn, kyc, sp, ov, t, ik) ∧
      m_X8_cell F (nI w) (nI h) (nI st) x1 x2 x3 at_ ks tk o2 (fun j => nI (ki j)) ik = some (0, at_, ks, tk, o2, (fun j => nI (ki j)), ik)) ∨
    ∃ c kd gc' opn' kyc', g_b w h c ∧ c < 64 ∧ kd ≤ 8 ∧ i_g w h (nu ki c kd) opn' kyc' gc' ∧
      m_X7_cell F (nI w) (nI h) (nI st) x1 x2 x3 gc (fun j => nI (ki j)) opn kyc sp ov t ik = some (1, gc', (fun j => nI (nu ki c kd j)), opn', kyc', nI st, nI 0, nI 0, z4 ik) ∧
      m_X8_cell F (nI w) (nI h) (nI st) x1 x2 x3 at_ ks tk o2 (fun j => nI (ki j)) ik = some (1, nI st, nI 0, nI 0, nI 0, (fun j => nI (nu ki c kd j)), z4 ik) := by
  unfold m_X7_cell m_X8_cell
  rw [g_has_r]
  rcases has_any hw hh x1 x2 with h0 | ⟨c, hb, hc, h1, h2, h3⟩
  · left; rw [if_pos h0, if_pos h0]; exact ⟨rfl, rfl⟩
  · rw [h1, if_neg (show ¬ (1 : Int32) = 0 by decide), if_neg (show ¬ (1 : Int32) = 0 by decide)]
    unfold m_X0_isKind
    by_cases q0 : x3 < 0
    · left; rw [if_pos q0, if_pos rfl, if_pos q0]; exact ⟨rfl, rfl⟩
    · by_cases q8 : 8 < x3
      · left; rw [if_neg q0, if_pos q8, if_pos rfl, if_neg q0, if_neg (by rw [fa_lt] at q8; rw [fa_le]; omega)]; exact ⟨rfl, rfl⟩
      · right
        obtain ⟨kd, hkd, rfl⟩ := nI_of q0
        have hk8 : kd ≤ 8 := by rw [l_8, nI_ltI (by omega) (by omega)] at q8; omega
        obtain ⟨gc', opn', kyc', e1, e2⟩ := setk_c hF hc hb hk8 hi
        refine ⟨c, kd, gc', opn', kyc', hb, hc, hk8, e2, ?_, ?_⟩
        · rw [if_neg q0, if_neg q8, if_neg (show ¬ (1 : Int32) = 0 by decide), h2, e1, Option.bind_some, change_c hF, Option.bind_some]
          rfl
        · rw [if_neg q0, if_pos (by rw [l_8]; exact nI_le (by omega) (by omega)), h3, if_neg (nI_in hc (by decide)), nI_clamp (by omega), change_r hF, Option.bind_some, n_upd]
          rfl
theorem b_foe {F : Nat} (hF : 10000000 ≤ F) {w h : Nat} (hw : w ≤ 8) (hh : h ≤ 8) {rl st : Nat} (hr : rl ≤ 6) {ro : Nat → Nat} (x1 x2 : Int32) (sp ov t at_ ks tk o2 : Int32) (ik : Nat → Int32) :
    (m_X7_foe F (nI w) (nI h) (nI st) x1 x2 (nI rl) (fun j => nI (ro j)) sp ov t ik = some (0, nI rl, (fun j => nI (ro j)), sp, ov, t, ik) ∧
      m_X8_foe F (nI w) (nI h) (nI st) x1 x2 (nI rl) at_ ks tk o2 (fun j => nI (ro j)) ik = some (0, nI rl, at_, ks, tk, o2, (fun j => nI (ro j)), ik)) ∨
    ∃ c, c < 64 ∧ rl + 1 ≤ 6 ∧
      m_X7_foe F (nI w) (nI h) (nI st) x1 x2 (nI rl) (fun j => nI (ro j)) sp ov t ik = some (1, nI (rl + 1), (fun j => nI (nu ro rl c j)), nI st, nI 0, nI 0, z4 ik) ∧
      m_X8_foe F (nI w) (nI h) (nI st) x1 x2 (nI rl) at_ ks tk o2 (fun j => nI (ro j)) ik = some (1, nI (rl + 1), nI st, nI 0, nI 0, nI 0, (fun j => nI (nu ro rl c j)), z4 ik) := by
  unfold m_X7_foe m_X8_foe
  rw [g_has_r]
  rcases has_any hw hh x1 x2 with h0 | ⟨c, hb, hc, h1, h2, h3⟩
  · left; rw [if_pos h0, if_pos h0]; exact ⟨rfl, rfl⟩
  · rw [h1, if_neg (show ¬ (1 : Int32) = 0 by decide), if_neg (show ¬ (1 : Int32) = 0 by decide), h2, h3]
    unfold m_X0_lengthenRound
    by_cases q : rl = 6
    · left; subst q
      constructor <;> rfl
    · right
      refine ⟨c, hc, by omega, ?_, ?_⟩
      · rw [if_pos (by rw [l_6]; exact nI_lt (by omega) (by decide)), if_neg (nI_in (by omega) (by decide)), nI_clamp (by omega), n_upd, nI_1, Option.bind_some]
        dsimp only
        rw [if_neg (show ¬ (1 : Int32) = 0 by decide), change_c hF, Option.bind_some]
        rfl
      · rw [if_neg (by rw [l_6, nI_eq (by omega) (by omega)]; exact q), if_neg (nI_in (by omega) (by decide)), nI_clamp (by omega), n_upd, nI_1, change_r hF, Option.bind_some]
        rfl
theorem b_start {F : Nat} (hF : 10000000 ≤ F) {w h : Nat} (hw : w ≤ 8) (hh : h ≤ 8) {st : Nat} (x1 x2 : Int32) (sp ov t at_ ks tk o2 : Int32) (ik : Nat → Int32) :
    (m_X7_start F (nI w) (nI h) x1 x2 (nI st) sp ov t ik = some (0, nI st, sp, ov, t, ik) ∧
      m_X8_start F (nI w) (nI h) x1 x2 (nI st) at_ ks tk o2 ik = some (0, nI st, at_, ks, tk, o2, ik)) ∨
    ∃ c, g_b w h c ∧ c < 64 ∧
      m_X7_start F (nI w) (nI h) x1 x2 (nI st) sp ov t ik = some (1, nI c, nI c, nI 0, nI 0, z4 ik) ∧
      m_X8_start F (nI w) (nI h) x1 x2 (nI st) at_ ks tk o2 ik = some (1, nI c, nI c, nI 0, nI 0, nI 0, z4 ik) := by
  unfold m_X7_start m_X8_start
  rw [g_has_r]
  rcases has_any hw hh x1 x2 with h0 | ⟨c, hb, hc, h1, h2, h3⟩
  · left; rw [if_pos h0, if_pos h0]; exact ⟨rfl, rfl⟩
  · right
    refine ⟨c, hb, hc, ?_, ?_⟩
    · rw [h1, if_neg (show ¬ (1 : Int32) = 0 by decide), h2, change_c hF, Option.bind_some]; rfl
    · rw [h1, if_neg (show ¬ (1 : Int32) = 0 by decide), h3, change_r hF, Option.bind_some]; rfl
theorem b_begin {st : Nat} (sp ov t at_ ks tk o2 : Int32) :
    m_X7_begin (nI st) sp ov t = some (nI st, nI 0, nI 0) ∧ m_X8_begin (nI st) at_ ks tk o2 = some (nI st, nI 0, nI 0, nI 0) := ⟨rfl, rfl⟩
theorem press_any (x : Int32) : (m_X7_isPress x = 0 ∧ (x < 0 ∨ 4 < x)) ∨ ∃ p, p < 5 ∧ x = nI p := by
  rcases pk_ix x (n := 5) (by decide) with h | h | ⟨j, hj, rfl⟩
  · left; unfold m_X7_isPress; rw [if_pos h]; exact ⟨rfl, .inl h⟩
  · left; unfold m_X7_isPress
    refine ⟨?_, .inr ?_⟩
    · by_cases q : x < 0
      · rw [if_pos q]
      · rw [if_neg q]; exact if_pos h
    · rw [fa_le] at h; rw [fa_lt]
      have e : (nI 5).toInt = 5 := rfl
      have e2 : (4 : Int32).toInt = 4 := rfl
      omega
  · right; exact ⟨j, hj, rfl⟩
theorem ov_lt {w h rl : Nat} {ki ro : Nat → Nat} {a k t p : Nat} : g_ov w h rl ki ro a k t p < 3 := by
  unfold g_ov; split; omega; split <;> omega
theorem kk_lt {w h rl : Nat} {ki ro : Nat → Nat} (hg : g_ok w h rl ki ro) {a k t p : Nat} (hk : k < 8) : g_kk w h rl ki ro a k t p < 8 := by
  unfold g_kk
  split
  · exact hk
  · exact g_ky_lt _ (by have := hg.2.2.2.1 (g_to w h ki a k p); omega) _ hk
theorem outc {o k b : Nat} (ho : o < 3) (hk : k < 8) (hb : b < 64) : m_X0_outcomeOf (nI (512 * o + 64 * k + b)) = nI o := by
  unfold m_X0_outcomeOf
  rw [l_512, pk_div (by omega) (by decide) (by decide)]; congr 1; omega
theorem spotc {o k b : Nat} (ho : o < 3) (hk : k < 8) (hb : b < 64) : m_X0_spotOf (nI (512 * o + 64 * k + b)) = nI (64 * k + b) := by
  unfold m_X0_spotOf
  rw [l_512, pk_rem (by omega) (by decide) (by decide)]; congr 1; omega
theorem add_c {n : Nat} (hn : n < 2 ^ 31) {t : Nat} (ht : t ≤ n) (x : Int32) (f : Nat → Int32) : m_X3_add n x (nI t) f = if t < n then some (1, nI (t + 1), upd f t x) else some (0, nI t, f) := by
  unfold m_X3_add
  have e : Int32.ofNat n = nI n := rfl
  rw [e]
  by_cases q : t < n
  · rw [if_pos (nI_lt q hn), if_pos q, if_neg (nI_in q hn), nI_clamp (by omega), nI_1]
  · rw [if_neg (nI_nlt (by omega) (by omega)), if_neg q]
theorem b_press {w h rl : Nat} {ki ro ps : Nat → Nat} (hg : g_ok w h rl ki ro) {a k t ov : Nat} (hr : i_r w h a k t ov) (hps : ∀ j, ps j < 5) (x1 c1 c2 c3 : Int32) :
    ∃ (r : Int32) (a' k' t' ov' : Nat) (ps' : Nat → Nat) (d1 d2 d3 : Int32), i_r w h a' k' t' ov' ∧ (∀ j, ps' j < 5) ∧
      m_X7_press (nI w) (nI h) (nI rl) (fun j => nI (ki j)) (fun j => nI (ro j)) x1 (nI (64 * k + a)) (nI ov) (nI t) (fun j => nI (ps j)) = some (r, nI (64 * k' + a'), nI ov', nI t', fun j => nI (ps' j)) ∧
      m_X8_press (nI w) (nI h) (nI rl) (fun j => nI (ki j)) (fun j => nI (ro j)) x1 (nI a) (nI k) (nI t) (nI ov) c1 c2 c3 (fun j => nI (ps j)) = some (r, nI a', nI k', nI t', nI ov', d1, d2, d3, fun j => nI (ps' j)) := by
  have hr' := hr
  obtain ⟨ha, hk, ht, ho⟩ := hr'
  have hb := g_b_lt hg ha
  rcases press_any x1 with ⟨h1, h2⟩ | ⟨p, hp, rfl⟩
  · refine ⟨-1, a, k, t, ov, ps, c1, c2, c3, hr, hps, ?_, ?_⟩
    · unfold m_X7_press; rw [if_pos h1]
    · unfold m_X8_press
      by_cases q : x1 < 0
      · rw [if_pos q]
      · rw [if_neg q, if_pos (h2.resolve_left q)]
  · have n1 : ¬ nI p < 0 := nI_pos (by omega)
    have n2 : ¬ 4 < nI p := by rw [l_4]; exact nI_nlt (by omega) (by omega)
    unfold m_X7_press m_X8_press
    rw [g_press hp, if_neg (show ¬ (1 : Int32) = 0 by decide), if_neg n1, if_neg n2]
    by_cases q0 : ov = 0
    · subst q0
      have e0 : nI 0 = 0 := rfl
      rw [if_pos e0, if_pos e0, add_c (by decide) ht, n_upd, g_after_c hg ha hk hp (by omega), g_ticks_r hg ha hk hp (by omega)]
      simp only [Option.bind_some]
      by_cases q5 : t = 500
      · subst q5
        exact ⟨-1, a, k, 500, 0, ps, c1, c2, c3, hr, hps, rfl, rfl⟩
      · have hb2 := g_b_lt hg (g_to_b (k := k) (p := p) hg ha)
        have hk2 := kk_lt hg (a := a) (t := t) (p := p) hk
        refine ⟨nI (g_ov w h rl ki ro a k t p), g_to w h ki a k p, g_kk w h rl ki ro a k t p, t + 1, g_ov w h rl ki ro a k t p, nu ps t p, nI (g_to w h ki a k p), nI (g_kk w h rl ki ro a k t p), nI (g_ov w h rl ki ro a k t p), ⟨g_to_b hg ha, hk2, by omega, ov_lt⟩, ?_, ?_, ?_⟩
        · intro j; unfold nu; split; exact hp; exact hps j
        · rw [if_pos (by omega), Option.bind_some]
          dsimp only
          rw [if_neg (show ¬ (1 : Int32) = 0 by decide), outc ov_lt hk2 hb2, spotc ov_lt hk2 hb2]
        · rw [if_neg (show ¬ nI t = 500 by rw [l_500, nI_eq (by omega) (by omega)]; exact q5), if_neg (nI_in (by omega) (by decide)), nI_clamp (by omega), n_upd, nI_1]
    · have e : ¬ nI ov = 0 := nI_ne0 (by omega) (by omega)
      rw [if_neg e, if_neg e]
      exact ⟨-1, a, k, t, ov, ps, c1, c2, c3, hr, hps, rfl, rfl⟩
theorem b_state {w h rl : Nat} {ki ro : Nat → Nat} (hg : g_ok w h rl ki ro) {a k t ov : Nat} (hr : i_r w h a k t ov) (x1 : Int32) :
    ∃ r, m_X7_state (nI rl) (fun j => nI (ro j)) (nI (64 * k + a)) (nI ov) (nI t) x1 = some r ∧ m_X8_state (nI rl) (nI a) (nI k) (nI t) (nI ov) (fun j => nI (ro j)) x1 = some r := by
  obtain ⟨ha, hk, ht, ho⟩ := hr
  have hb := g_b_lt hg ha
  unfold m_X7_state m_X8_state
  rw [g_foe_c hg.2.2.1 (by omega), g_foe_r hg.2.2.1 (by omega)]
  have hx : m_X0_cellOf (nI (64 * k + a)) = nI a := by unfold m_X0_cellOf; rw [l_64, pk_rem (by omega) (by decide) (by decide)]; congr 1; omega
  have hy : m_X0_keysOf (nI (64 * k + a)) = nI k := by unfold m_X0_keysOf; rw [l_64, pk_div (by omega) (by decide) (by decide)]; congr 1; omega
  rw [hx, hy]
  have key : ∀ o : Option Int32, (∃ v, o = some v) → ∃ r, (o.bind fun o1 => if x1 = (0 : Int32) then some (m_X0_xOf (nI a)) else if x1 = (1 : Int32) then some (m_X0_yOf (nI a)) else if x1 = (2 : Int32) then some (nI k) else if x1 = (3 : Int32) then some (nI t) else if x1 = (4 : Int32) then some (nI ov) else if x1 = (5 : Int32) then if o1 = (-1 : Int32) then some (-1 : Int32) else some (m_X0_xOf o1) else if x1 = (6 : Int32) then if o1 = (-1 : Int32) then some (-1 : Int32) else some (m_X0_yOf o1) else some (-1 : Int32)) = some r := by
    rintro o ⟨v, rfl⟩
    rw [Option.bind_some]
    repeat' split
    all_goals exact ⟨_, rfl⟩
  obtain ⟨r, hr⟩ := key (if rl = 0 then some (-1) else some (nI (ro (t % rl)))) (by split; exact ⟨_, rfl⟩; exact ⟨_, rfl⟩)
  exact ⟨r, hr, hr⟩
