/-! one tick, over plain numbers -/
def g_lets (kd k : Nat) : Bool := if 5 ≤ kd ∧ kd < 8 then k.testBit (kd - 5) else decide (kd ≠ 1)
def g_ky (kd k : Nat) : Nat := if 2 ≤ kd ∧ kd < 5 then k ||| 2 ^ (kd - 2) else k
def g_cd (a p : Nat) : Nat := if p = 1 then a - 8 else if p = 2 then a + 1 else if p = 3 then a + 8 else if p = 4 then a - 1 else a
def g_on (w h a p : Nat) : Bool := decide ((p = 1 → 8 ≤ a) ∧ (p = 2 → a % 8 + 1 < w) ∧ (p = 3 → a / 8 + 1 < h) ∧ (p = 4 → 1 ≤ a % 8))
def g_to (w h : Nat) (ki : Nat → Nat) (a k p : Nat) : Nat := if g_on w h a p && g_lets (ki (g_cd a p)) k then g_cd a p else a
def g_ct (rl : Nat) (ro : Nat → Nat) (a b t : Nat) : Bool := decide (rl ≠ 0 ∧ (b = ro ((t + 1) % rl) ∨ (b = ro (t % rl) ∧ a = ro ((t + 1) % rl))))
/-- what the tick comes to: 0 goes on, 1 caught, 2 ended -/
def g_ov (w h rl : Nat) (ki ro : Nat → Nat) (a k t p : Nat) : Nat := if g_ct rl ro a (g_to w h ki a k p) t then 1 else if ki (g_to w h ki a k p) = 8 then 2 else 0
def g_kk (w h rl : Nat) (ki ro : Nat → Nat) (a k t p : Nat) : Nat := if g_ct rl ro a (g_to w h ki a k p) t then k else g_ky (ki (g_to w h ki a k p)) k
def g_ok (w h rl : Nat) (ki ro : Nat → Nat) : Prop := (2 ≤ w ∧ w ≤ 8) ∧ (2 ≤ h ∧ h ≤ 8) ∧ rl ≤ 6 ∧ (∀ j, ki j ≤ 8) ∧ ∀ j, ro j < 64
def g_b (w h a : Nat) : Prop := a % 8 < w ∧ a / 8 < h
theorem g_lets_c : ∀ kd, kd < 9 → ∀ k, k < 8 → m_X0_lets (nI kd) (nI k) = if g_lets kd k then 1 else 0 := by decide +kernel
theorem g_key_c : ∀ kd, kd < 9 → ∀ k, k < 8 → (nI k ||| m_X0_keyIn (nI kd)) = nI (g_ky kd k) := by decide +kernel
theorem g_key_r : ∀ kd, kd < 9 → ∀ k, k < 8 → 2 ≤ kd → kd ≤ 4 → (nI k ||| (nI 1 <<< (nI (kd - 2) &&& nI 31))) = nI (g_ky kd k) := by decide +kernel
theorem g_shut_r : ∀ kd, kd < 9 → ∀ k, k < 8 → 5 ≤ kd → kd ≤ 7 → ((nI k >>> (nI (kd - 5) &&& nI 31)) &&& nI 1) = if g_lets kd k then nI 1 else nI 0 := by decide +kernel
theorem g_ky_lt : ∀ kd, kd < 9 → ∀ k, k < 8 → g_ky kd k < 8 := by decide +kernel
theorem g_to_b {w h rl : Nat} {ki ro : Nat → Nat} (hg : g_ok w h rl ki ro) {a k p : Nat} (ha : g_b w h a) : g_b w h (g_to w h ki a k p) := by
  obtain ⟨⟨w1, w2⟩, ⟨h1, h2⟩, r1, k1, r2⟩ := hg
  obtain ⟨a1, a2⟩ := ha
  unfold g_to
  split
  · rename_i hc
    simp only [g_on, Bool.and_eq_true, decide_eq_true_eq] at hc
    obtain ⟨⟨c1, c2, c3, c4⟩, -⟩ := hc
    unfold g_cd g_b
    by_cases p1 : p = 1
    · have := c1 p1; rw [if_pos p1]; omega
    · by_cases p2 : p = 2
      · have := c2 p2; rw [if_neg p1, if_pos p2]; omega
      · by_cases p3 : p = 3
        · have := c3 p3; rw [if_neg p1, if_neg p2, if_pos p3]; omega
        · by_cases p4 : p = 4
          · have := c4 p4; rw [if_neg p1, if_neg p2, if_neg p3, if_pos p4]; omega
          · rw [if_neg p1, if_neg p2, if_neg p3, if_neg p4]; exact ⟨a1, a2⟩
  · exact ⟨a1, a2⟩
theorem g_b_lt {w h rl : Nat} {ki ro : Nat → Nat} (hg : g_ok w h rl ki ro) {a : Nat} (ha : g_b w h a) : a < 64 := by
  obtain ⟨⟨w1, w2⟩, ⟨h1, h2⟩, r1, k1, r2⟩ := hg
  obtain ⟨a1, a2⟩ := ha
  omega
theorem g_foe_c {rl : Nat} {ro : Nat → Nat} (hr : rl ≤ 6) {t : Nat} (ht : t < 2 ^ 31) : m_X0_foeCell (nI rl) (fun j => nI (ro j)) (nI t) = if rl = 0 then some (-1) else some (nI (ro (t % rl))) := by
  unfold m_X0_foeCell
  by_cases h0 : rl = 0
  · subst h0; simp (disch := omega) only [l_0, l_1, l_2, l_3, l_4, l_5, l_6, l_7, l_8, l_9, l_15, l_16, l_31, l_39, l_40, l_48, l_63, l_64, l_100, l_159, l_160, l_200, l_300, l_400, l_499, l_500, l_512, l_640, l_2000, l_3072, l_3100, l_48160, l_1073741824, nI_add, pk_mul, n_sub, n_div, nI_ltI, nI_leI, nI_eq, nI_clamp, n_m1, n_m1a, n_eqm, n_meq, n_ltm, n_mlt, n_lem, n_mle, n_mlt0, n_mm, if_pos, if_neg, if_true, if_false]
  · have hm : t % rl < rl := Nat.mod_lt _ (by omega)
    rw [if_neg (nI_nle (by omega) (by omega)), n_fmod ht (by omega) (by omega), if_neg h0, Option.bind_some, if_neg (nI_in (by omega) (by decide)), nI_clamp (by omega)]
theorem g_foe_r {rl : Nat} {ro : Nat → Nat} (hr : rl ≤ 6) {t : Nat} (ht : t < 2 ^ 31) : m_X8_foeAt (nI rl) (fun j => nI (ro j)) (nI t) = if rl = 0 then some (-1) else some (nI (ro (t % rl))) := by
  unfold m_X8_foeAt
  by_cases h0 : rl = 0
  · subst h0; rfl
  · have hm : t % rl < rl := Nat.mod_lt _ (by omega)
    rw [if_neg (nI_ne0 (by omega) (by omega)), if_neg (nI_ne0 (by omega) (by omega)), pk_rem ht (by omega) (by omega), if_neg h0, if_neg (nI_in (by omega) (by decide)), nI_clamp (by omega)]
theorem g_meets_c {rl : Nat} {ro : Nat → Nat} (hr : rl ≤ 6) (hro : ∀ j, ro j < 64) {a b t : Nat} (ha : a < 64) (hb : b < 64) (ht : t + 1 < 2 ^ 31) : m_X0_meetsFoe (nI rl) (fun j => nI (ro j)) (nI a) (nI b) (nI t) = some (if g_ct rl ro a b t then 1 else 0) := by
  unfold m_X0_meetsFoe g_ct
  by_cases h0 : rl = 0
  · subst h0; rfl
  · have h1 := hro (t % rl)
    have h2 := hro ((t + 1) % rl)
    rw [if_neg (nI_ne0 (by omega) (by omega)), nI_1, g_foe_c hr (by omega), g_foe_c hr (by omega), if_neg h0, if_neg h0, Option.bind_some, Option.bind_some]
    simp (disch := omega) only [nI_eq]
    by_cases c1 : b = ro ((t + 1) % rl)
    · simp [c1, h0]
    · by_cases c2 : b = ro (t % rl)
      · by_cases c3 : a = ro ((t + 1) % rl)
        · rw [if_neg c1, if_pos c2, if_pos c3, if_pos (by simp only [decide_eq_true_eq]; exact ⟨h0, .inr ⟨c2, c3⟩⟩)]
        · rw [if_neg c1, if_pos c2, if_neg c3, if_neg (by simp only [decide_eq_true_eq]; rintro ⟨-, e | e⟩; exact c1 e; exact c3 e.2)]
      · rw [if_neg c1, if_neg c2, if_neg (by simp only [decide_eq_true_eq]; rintro ⟨-, e | e⟩; exact c1 e; exact c2 e.1)]
theorem g_has_c {w h x y : Nat} (hx : x < 2 ^ 31) (hy : y < 2 ^ 31) (hw : w < 2 ^ 31) (hh : h < 2 ^ 31) : m_X0_has (nI w) (nI h) (nI x) (nI y) = if x < w ∧ y < h then 1 else 0 := by
  unfold m_X0_has
  simp (disch := omega) only [l_0, l_1, l_2, l_3, l_4, l_5, l_6, l_7, l_8, l_9, l_15, l_16, l_31, l_39, l_40, l_48, l_63, l_64, l_100, l_159, l_160, l_200, l_300, l_400, l_499, l_500, l_512, l_640, l_2000, l_3072, l_3100, l_48160, l_1073741824, nI_add, pk_mul, n_sub, n_div, nI_ltI, nI_leI, nI_eq, nI_clamp, n_m1, n_m1a, n_eqm, n_meq, n_ltm, n_mlt, n_lem, n_mle, n_mlt0, n_mm, if_pos, if_neg, if_true, if_false]
  by_cases c : x < w
  · by_cases d : y < h
    · simp (disch := omega) only [if_pos, if_neg, if_true, if_false]
    · simp (disch := omega) only [if_pos, if_neg, if_true, if_false]
  · simp (disch := omega) only [if_pos, if_neg, if_true, if_false]
theorem g_has_r (w h x y : Int32) : m_X8_isCell w h x y = m_X0_has w h x y := rfl
theorem g_has_m {w h : Int32} {y : Int32} : m_X0_has w h (-nI 1) y = 0 := if_pos (by decide)
theorem g_has_n {w h : Int32} {x : Int32} : m_X0_has w h x (-nI 1) = 0 := by
  unfold m_X0_has
  split
  · rfl
  · split
    · rfl
    · exact if_pos (by decide)
/-- where the press points: off the board, or a cell on it -/
theorem g_aim {w h rl : Nat} {ki ro : Nat → Nat} (hg : g_ok w h rl ki ro) {a p : Nat} (ha : g_b w h a) (hp : p < 5) :
    (g_on w h a p = false ∧ m_X0_has (nI w) (nI h) (nI (a % 8) + fr_sX p) (nI (a / 8) + fr_sY p) = 0) ∨
    (g_on w h a p = true ∧ ∃ x y, x < w ∧ y < h ∧ g_cd a p = 8 * y + x ∧ nI (a % 8) + fr_sX p = nI x ∧ nI (a / 8) + fr_sY p = nI y) := by
  obtain ⟨⟨w1, w2⟩, ⟨h1, h2⟩, r1, k1, r2⟩ := hg
  obtain ⟨a1, a2⟩ := ha
  have e0 : ∀ n, nI n + 0 = nI n := fun n => nI_add n 0
  have e1 : ∀ n, nI n + 1 = nI (n + 1) := fun n => nI_add n 1
  rcases (by omega : p = 0 ∨ p = 1 ∨ p = 2 ∨ p = 3 ∨ p = 4) with rfl | rfl | rfl | rfl | rfl
  · right
    refine ⟨by simp [g_on], a % 8, a / 8, a1, a2, ?_, e0 _, e0 _⟩
    show a = _; omega
  · by_cases c : 8 ≤ a
    · right
      refine ⟨by simp [g_on, c], a % 8, a / 8 - 1, a1, by omega, ?_, e0 _, n_m1 (by omega)⟩
      show a - 8 = _; omega
    · left
      refine ⟨by simp [g_on]; omega, ?_⟩
      show m_X0_has (nI w) (nI h) (nI (a % 8) + 0) (nI (a / 8) + -nI 1) = 0
      rw [n_m1a (by omega)]; exact g_has_n
  · by_cases c : a % 8 + 1 < w
    · right
      refine ⟨by simp [g_on, c], a % 8 + 1, a / 8, c, a2, ?_, e1 _, e0 _⟩
      show a + 1 = _; omega
    · left
      refine ⟨by simp [g_on]; omega, ?_⟩
      show m_X0_has (nI w) (nI h) (nI (a % 8) + 1) (nI (a / 8) + 0) = 0
      rw [e1, e0, g_has_c (by omega) (by omega) (by omega) (by omega), if_neg (by omega)]
  · by_cases c : a / 8 + 1 < h
    · right
      refine ⟨by simp [g_on, c], a % 8, a / 8 + 1, a1, c, ?_, e0 _, e1 _⟩
      show a + 8 = _; omega
    · left
      refine ⟨by simp [g_on]; omega, ?_⟩
      show m_X0_has (nI w) (nI h) (nI (a % 8) + 0) (nI (a / 8) + 1) = 0
      rw [e1, e0, g_has_c (by omega) (by omega) (by omega) (by omega), if_neg (by omega)]
  · by_cases c : 1 ≤ a % 8
    · right
      refine ⟨by simp [g_on, c], a % 8 - 1, a / 8, by omega, a2, ?_, n_m1 (by omega), e0 _⟩
      show a - 1 = _; omega
    · left
      refine ⟨by simp [g_on]; omega, ?_⟩
      show m_X0_has (nI w) (nI h) (nI (a % 8) + -nI 1) (nI (a / 8) + 0) = 0
      rw [n_m1a (by omega)]; exact g_has_m
theorem g_press {p : Nat} (hp : p < 5) : m_X7_isPress (nI p) = 1 := by
  unfold m_X7_isPress
  simp (disch := omega) only [l_0, l_1, l_2, l_3, l_4, l_5, l_6, l_7, l_8, l_9, l_15, l_16, l_31, l_39, l_40, l_48, l_63, l_64, l_100, l_159, l_160, l_200, l_300, l_400, l_499, l_500, l_512, l_640, l_2000, l_3072, l_3100, l_48160, l_1073741824, nI_add, pk_mul, n_sub, n_div, nI_ltI, nI_leI, nI_eq, nI_clamp, n_m1, n_m1a, n_eqm, n_meq, n_ltm, n_mlt, n_lem, n_mle, n_mlt0, n_mm, if_pos, if_neg, if_true, if_false]
theorem g_target_c {w h rl : Nat} {ki ro : Nat → Nat} (hg : g_ok w h rl ki ro) {a k p : Nat} (ha : g_b w h a) (hk : k < 8) (hp : p < 5) :
    m_X0_target (nI w) (nI h) (fun j => nI (ki j)) (nI a) (nI k) (nI p) = some (nI (g_to w h ki a k p)) := by
  have hb := g_b_lt hg ha
  have hk8 := hg.2.2.2.1
  have hx : m_X0_xOf (nI a) = nI (a % 8) := by unfold m_X0_xOf; rw [l_8, pk_rem (by omega) (by decide) (by decide)]
  have hy : m_X0_yOf (nI a) = nI (a / 8) := by unfold m_X0_yOf; rw [l_8, pk_div (by omega) (by decide) (by decide)]
  unfold m_X0_target
  rw [g_press hp, if_neg (by decide), if_neg (nI_in hp (by decide)), if_neg (nI_in hp (by decide)), hx, hy, nI_clamp (by omega)]
  rcases g_aim hg ha hp with ⟨h1, h2⟩ | ⟨h1, x, y, hxw, hyh, hc, ex, ey⟩
  · rw [if_pos h2]; unfold g_to; rw [h1]; rfl
  · obtain ⟨⟨w1, w2⟩, ⟨q1, q2⟩, r1, k1, r2⟩ := hg
    have hca : m_X0_cellAt (nI x) (nI y) = nI (g_cd a p) := by unfold m_X0_cellAt; rw [l_8, pk_mul, nI_add, hc]; congr 1; omega
    rw [ex, ey, g_has_c (by omega) (by omega) (by omega) (by omega), if_pos (show x < w ∧ y < h from ⟨hxw, hyh⟩), if_neg (show ¬ (1 : Int32) = 0 by decide), hca, if_neg (nI_in (by omega) (by decide)), nI_clamp (by omega), g_lets_c _ (by have := k1 (g_cd a p); omega) _ hk]
    unfold g_to
    rw [h1, Bool.true_and]
    cases g_lets (ki (g_cd a p)) k <;> rfl
theorem g_after_c {w h rl : Nat} {ki ro : Nat → Nat} (hg : g_ok w h rl ki ro) {a k t p : Nat} (ha : g_b w h a) (hk : k < 8) (hp : p < 5) (ht : t + 1 < 2 ^ 31) :
    m_X0_after (nI w) (nI h) (nI rl) (fun j => nI (ki j)) (fun j => nI (ro j)) (nI (64 * k + a)) (nI t) (nI p) = some (nI (512 * g_ov w h rl ki ro a k t p + 64 * g_kk w h rl ki ro a k t p + g_to w h ki a k p)) := by
  have hb := g_b_lt hg ha
  have hb2 := g_b_lt hg (g_to_b (k := k) (p := p) hg ha)
  have hkt : ki (g_to w h ki a k p) < 9 := by have := hg.2.2.2.1 (g_to w h ki a k p); omega
  have hx : m_X0_cellOf (nI (64 * k + a)) = nI a := by unfold m_X0_cellOf; rw [l_64, pk_rem (by omega) (by decide) (by decide)]; congr 1; omega
  have hy : m_X0_keysOf (nI (64 * k + a)) = nI k := by unfold m_X0_keysOf; rw [l_64, pk_div (by omega) (by decide) (by decide)]; congr 1; omega
  unfold m_X0_after
  rw [hx, hy, g_target_c hg ha hk hp, Option.bind_some, g_meets_c hg.2.2.1 hg.2.2.2.2 hb hb2 ht, Option.bind_some, if_neg (nI_in hb2 (by decide)), if_neg (nI_in hb2 (by decide)), nI_clamp (by omega), g_key_c _ hkt _ hk]
  unfold g_ov g_kk m_X0_after_b77
  cases hc : g_ct rl ro a (g_to w h ki a k p) t
  · simp only [if_neg Bool.false_ne_true, ↓reduceIte]
    by_cases c8 : ki (g_to w h ki a k p) = 8
    · rw [if_pos (by rw [c8]; rfl), if_pos c8, c8]
      have e : g_ky 8 k = k := rfl
      rw [e, l_512, l_64, l_2, pk_mul, pk_mul, nI_add, nI_add]; congr 2; omega
    · rw [if_neg (by rw [l_8, nI_eq (by omega) (by omega)]; exact c8), if_neg c8, l_512, l_64, l_0, pk_mul, pk_mul, nI_add, nI_add]; congr 2; omega
  · simp only [↓reduceIte]
    rw [if_neg (by decide), l_512, l_64, l_1, pk_mul, pk_mul, nI_add, nI_add]; congr 2; omega
theorem g_ticks_r {w h rl : Nat} {ki ro : Nat → Nat} (hg : g_ok w h rl ki ro) {a k t p : Nat} (ha : g_b w h a) (hk : k < 8) (hp : p < 5) (ht : t + 1 < 2 ^ 31) (c1 c2 c3 : Int32) :
    m_X8_ticks (nI w) (nI h) (nI rl) (fun j => nI (ki j)) (fun j => nI (ro j)) (nI a) (nI k) (nI t) (nI p) c1 c2 c3 = some (nI (g_to w h ki a k p), nI (g_kk w h rl ki ro a k t p), nI (g_ov w h rl ki ro a k t p)) := by
  have hb := g_b_lt hg ha
  have hb2 := g_b_lt hg (g_to_b (k := k) (p := p) hg ha)
  have hkt : ki (g_to w h ki a k p) < 9 := by have := hg.2.2.2.1 (g_to w h ki a k p); omega
  -- the tick's second half
  have h209 : g_ct rl ro a (g_to w h ki a k p) t = false → m_X8_ticks_b209 (nI w) (nI h) (nI rl) (fun j => nI (ki j)) (fun j => nI (ro j)) (nI a) (nI k) (nI t) (nI p) (nI (g_to w h ki a k p)) (nI k) 0 = some (nI (g_to w h ki a k p), nI (g_kk w h rl ki ro a k t p), nI (g_ov w h rl ki ro a k t p)) := by
    intro hc
    unfold m_X8_ticks_b209 m_X8_ticks_b250 g_ov g_kk
    rw [if_neg (nI_in hb2 (by decide)), nI_clamp (by omega), hc]
    simp only [if_neg Bool.false_ne_true, ↓reduceIte]
    by_cases k2 : ki (g_to w h ki a k p) < 2
    · have e : g_ky (ki (g_to w h ki a k p)) k = k := by unfold g_ky; rw [if_neg (by omega)]
      simp (disch := omega) only [l_0, l_1, l_2, l_3, l_4, l_5, l_6, l_7, l_8, l_9, l_15, l_16, l_31, l_39, l_40, l_48, l_63, l_64, l_100, l_159, l_160, l_200, l_300, l_400, l_499, l_500, l_512, l_640, l_2000, l_3072, l_3100, l_48160, l_1073741824, nI_add, pk_mul, n_sub, n_div, nI_ltI, nI_leI, nI_eq, nI_clamp, n_m1, n_m1a, n_eqm, n_meq, n_ltm, n_mlt, n_lem, n_mle, n_mlt0, n_mm, if_pos, if_neg, if_true, if_false, e]
    · by_cases k4 : 4 < ki (g_to w h ki a k p)
      · have e : g_ky (ki (g_to w h ki a k p)) k = k := by unfold g_ky; rw [if_neg (by omega)]
        simp (disch := omega) only [l_0, l_1, l_2, l_3, l_4, l_5, l_6, l_7, l_8, l_9, l_15, l_16, l_31, l_39, l_40, l_48, l_63, l_64, l_100, l_159, l_160, l_200, l_300, l_400, l_499, l_500, l_512, l_640, l_2000, l_3072, l_3100, l_48160, l_1073741824, nI_add, pk_mul, n_sub, n_div, nI_ltI, nI_leI, nI_eq, nI_clamp, n_m1, n_m1a, n_eqm, n_meq, n_ltm, n_mlt, n_lem, n_mle, n_mlt0, n_mm, if_pos, if_neg, if_true, if_false, e]
        split <;> rfl
      · have e := g_key_r _ hkt k hk (by omega) (by omega)
        simp (disch := omega) only [l_0, l_1, l_2, l_3, l_4, l_5, l_6, l_7, l_8, l_9, l_15, l_16, l_31, l_39, l_40, l_48, l_63, l_64, l_100, l_159, l_160, l_200, l_300, l_400, l_499, l_500, l_512, l_640, l_2000, l_3072, l_3100, l_48160, l_1073741824, nI_add, pk_mul, n_sub, n_div, nI_ltI, nI_leI, nI_eq, nI_clamp, n_m1, n_m1a, n_eqm, n_meq, n_ltm, n_mlt, n_lem, n_mle, n_mlt0, n_mm, if_pos, if_neg, if_true, if_false]
        rw [e]
  have h141 : m_X8_ticks_b141 (nI w) (nI h) (nI rl) (fun j => nI (ki j)) (fun j => nI (ro j)) (nI a) (nI k) (nI t) (nI p) (nI (g_to w h ki a k p)) c2 c3 = some (nI (g_to w h ki a k p), nI (g_kk w h rl ki ro a k t p), nI (g_ov w h rl ki ro a k t p)) := by
    unfold m_X8_ticks_b141
    rw [nI_1, g_foe_r hg.2.2.1 (by omega), g_foe_r hg.2.2.1 (by omega)]
    by_cases h0 : rl = 0
    · rw [if_pos h0, if_pos h0, Option.bind_some, Option.bind_some, if_pos rfl]
      exact h209 (by unfold g_ct; simp [h0])
    · have hr1 := hg.2.2.2.2 (t % rl)
      have hr2 := hg.2.2.2.2 ((t + 1) % rl)
      rw [if_neg h0, if_neg h0, Option.bind_some, Option.bind_some]
      simp (disch := omega) only [l_1, nI_eq, n_eqm, if_false]
      have hct : ∀ {b : Bool}, (decide (rl ≠ 0 ∧ (g_to w h ki a k p = ro ((t + 1) % rl) ∨ (g_to w h ki a k p = ro (t % rl) ∧ a = ro ((t + 1) % rl)))) = b) → g_ct rl ro a (g_to w h ki a k p) t = b := fun e => e
      by_cases q1 : ro ((t + 1) % rl) = g_to w h ki a k p
      · rw [if_pos q1]
        have e := hct (b := true) (by simp only [decide_eq_true_eq]; exact ⟨h0, .inl q1.symm⟩)
        unfold g_kk g_ov; rw [e]; rfl
      · rw [if_neg q1]
        by_cases q2 : ro ((t + 1) % rl) = a
        · rw [if_pos q2]
          by_cases q3 : ro (t % rl) = g_to w h ki a k p
          · rw [if_pos q3]
            by_cases q4 : ro (t % rl) = a
            · exact absurd (q2.trans (q4.symm.trans q3)) q1
            · rw [if_neg q4]
              have e := hct (b := true) (by simp only [decide_eq_true_eq]; exact ⟨h0, .inr ⟨q3.symm, q2.symm⟩⟩)
              unfold g_kk g_ov; rw [e]; rfl
          · rw [if_neg q3]
            exact h209 (hct (by simp only [decide_eq_false_iff_not]; rintro ⟨-, e | e⟩; exact q1 e.symm; exact q3 e.1.symm))
        · rw [if_neg q2]
          exact h209 (hct (by simp only [decide_eq_false_iff_not]; rintro ⟨-, e | e⟩; exact q1 e.symm; exact q2 e.2.symm))
  have h53 : m_X8_ticks_b53 (nI w) (nI h) (nI rl) (fun j => nI (ki j)) (fun j => nI (ro j)) (nI a) (nI k) (nI t) (nI p) c1 c2 c3 (nI (a % 8) + fr_sX p) (fr_sY p) (nI (a / 8)) = some (nI (g_to w h ki a k p), nI (g_kk w h rl ki ro a k t p), nI (g_ov w h rl ki ro a k t p)) := by
    unfold m_X8_ticks_b53
    rw [g_has_r]
    rcases g_aim hg ha hp with ⟨h1, h2⟩ | ⟨h1, x, y, hxw, hyh, hc, ex, ey⟩
    · rw [if_pos h2]
      have e : g_to w h ki a k p = a := by unfold g_to; rw [h1]; rfl
      rw [← h141, e]
    · obtain ⟨⟨w1, w2⟩, ⟨q1, q2⟩, r1, k1, r2⟩ := hg
      have hca : (8 : Int32) * nI y + nI x = nI (g_cd a p) := by rw [l_8, pk_mul, nI_add, hc]
      rw [ex, ey, g_has_c (by omega) (by omega) (by omega) (by omega), if_pos (show x < w ∧ y < h from ⟨hxw, hyh⟩), if_neg (show ¬ (1 : Int32) = 0 by decide), hca, if_neg (nI_in (by omega) (by decide)), nI_clamp (by omega)]
      have hkd := k1 (g_cd a p)
      have hyes : g_lets (ki (g_cd a p)) k = true → m_X8_ticks_b121 (nI w) (nI h) (nI rl) (fun j => nI (ki j)) (fun j => nI (ro j)) (nI a) (nI k) (nI t) (nI p) (nI a) c2 c3 (nI x) (nI y) = some (nI (g_to w h ki a k p), nI (g_kk w h rl ki ro a k t p), nI (g_ov w h rl ki ro a k t p)) := by
        intro hl
        have e : g_to w h ki a k p = g_cd a p := by unfold g_to; rw [h1, hl]; rfl
        rw [← h141, e]
        unfold m_X8_ticks_b121 m_X8_ticks_b122
        rw [if_pos rfl, hca]
      have hno : g_lets (ki (g_cd a p)) k = false → m_X8_ticks_b117 (nI w) (nI h) (nI rl) (fun j => nI (ki j)) (fun j => nI (ro j)) (nI a) (nI k) (nI t) (nI p) (nI a) c2 c3 (nI x) (nI y) = some (nI (g_to w h ki a k p), nI (g_kk w h rl ki ro a k t p), nI (g_ov w h rl ki ro a k t p)) := by
        intro hl
        have e : g_to w h ki a k p = a := by unfold g_to; rw [h1, hl]; rfl
        rw [← h141, e]
        unfold m_X8_ticks_b117 m_X8_ticks_b122
        rw [if_neg (by decide)]
      simp (disch := omega) only [l_0, l_1, l_2, l_3, l_4, l_5, l_6, l_7, l_8, l_9, l_15, l_16, l_31, l_39, l_40, l_48, l_63, l_64, l_100, l_159, l_160, l_200, l_300, l_400, l_499, l_500, l_512, l_640, l_2000, l_3072, l_3100, l_48160, l_1073741824, nI_add, pk_mul, n_sub, n_div, nI_ltI, nI_leI, nI_eq, nI_clamp, n_m1, n_m1a, n_eqm, n_meq, n_ltm, n_mlt, n_lem, n_mle, n_mlt0, n_mm]
      by_cases d1 : ki (g_cd a p) = 1
      · rw [if_pos d1]; exact hno (by rw [d1]; rfl)
      · rw [if_neg d1]
        by_cases d2 : ki (g_cd a p) < 5
        · rw [if_pos d2]; exact hyes (by unfold g_lets; rw [if_neg (by omega)]; simp [d1])
        · rw [if_neg d2]
          by_cases d3 : 7 < ki (g_cd a p)
          · rw [if_pos d3]; exact hyes (by unfold g_lets; rw [if_neg (by omega)]; simp [d1])
          · rw [if_neg d3, g_shut_r _ (by omega) _ hk (by omega) (by omega)]
            cases hl : g_lets (ki (g_cd a p)) k
            · rw [if_pos (by rfl)]; exact hno hl
            · rw [if_neg (by decide)]; exact hyes hl
  unfold m_X8_ticks m_X8_ticks_b25
  rw [l_8, pk_rem (by omega) (by decide) (by decide), pk_div (by omega) (by decide) (by decide)]
  rcases (by omega : p = 0 ∨ p = 1 ∨ p = 2 ∨ p = 3 ∨ p = 4) with rfl | rfl | rfl | rfl | rfl
  · rw [if_neg (show ¬ nI 0 = 2 by decide), if_neg (show ¬ nI 0 = 4 by decide), if_neg (show ¬ nI 0 = 3 by decide), if_neg (show ¬ nI 0 = 1 by decide)]; exact h53
  · rw [if_neg (show ¬ nI 1 = 2 by decide), if_neg (show ¬ nI 1 = 4 by decide), if_neg (show ¬ nI 1 = 3 by decide), if_pos (show nI 1 = 1 by decide)]; exact h53
  · rw [if_pos (show nI 2 = 2 by decide), if_neg (show ¬ nI 2 = 3 by decide), if_neg (show ¬ nI 2 = 1 by decide)]; exact h53
  · rw [if_neg (show ¬ nI 3 = 2 by decide), if_neg (show ¬ nI 3 = 4 by decide), if_pos (show nI 3 = 3 by decide)]; exact h53
  · rw [if_neg (show ¬ nI 4 = 2 by decide), if_pos (show nI 4 = 4 by decide), if_neg (show ¬ nI 4 = 3 by decide), if_neg (show ¬ nI 4 = 1 by decide)]; exact h53
